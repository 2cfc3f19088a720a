/-! the reference: flow -/
theorem gv_yy {K : Int} {G : gm_T} {e : Nat} (hI : gv_I K G) (he : e < 2) (hs : 1 ≤ G.1 0 e) : G.1 32 e = G.1 3 e ∧ G.1 33 e = G.1 6 e ∧ G.1 34 e = G.1 18 e ∧ G.1 35 e = G.1 20 e := by
  obtain ⟨b1, b2, b3, b4, b5, b6⟩ := hI.2.2.2.2.1 _ he
  unfold gv_p at b2
  unfold gv_c at b3
  have r1 := b2.1 (by omega)
  have r3 := b3.2.2.2.2.2.2.2.2.2.2.2.2.2.2.2.1 (by omega)
  exact ⟨r1.2.2.1, r1.2.2.2, r3.2.1, r3.2.2⟩
theorem yl_room {P : Int64 → Prop} {f_now : Int32} {f_sent : Int32} {a_seq : (Nat → Int32)} {a_flags : (Nat → Int32)} {a_acked : (Nat → Int32)} {a_window : (Nat → Int32)} {a_many : (Nat → Int32)} {a_data : (Nat → Int32)} {a_rows : (Nat → Int32)} {a_state : (Nat → Int32)} {a_error : (Nat → Int32)} {a_iss : (Nat → Int32)} {a_una : (Nat → Int64)} {a_nxt : (Nat → Int64)} {a_max : (Nat → Int64)} {a_last : (Nat → Int64)} {a_closed : (Nat → Int32)} {a_written : (Nat → Int32)} {a_irs : (Nat → Int32)} {a_unread : (Nat → Int32)} {a_bytes : (Nat → Int32)} {a_held : (Nat → Int32)} {a_rcv : (Nat → Int64)} {a_finAt : (Nat → Int64)} {a_marked : (Nat → Int32)} {a_wnd : (Nat → Int32)} {a_peak : (Nat → Int32)} {a_half : (Nat → Int32)} {a_rto : (Nat → Int32)} {a_same : (Nat → Int32)} {a_tries : (Nat → Int32)} {a_smooth : (Nat → Int32)} {a_spread : (Nat → Int32)} {a_byNumber : (Nat → Int32)} {a_byAck : (Nat → Int32)} {a_sampled : (Nat → Int32)} {a_told : (Nat → Int32)} {a_retry : (Nat → Int32)} {a_ackAt : (Nat → Int32)} {a_waitAt : (Nat → Int32)} {a_timedAt : (Nat → Int32)} {a_timed : (Nat → Int64)} {p : Int32} {wn pk n v : Int} (hp : vp_in p 2) (hw : a_wnd p.toNatClampNeg = zi_n wn) (hk : a_peak p.toNatClampNeg = zi_n pk) (hn : a_nxt p.toNatClampNeg = zl_n n) (hu : a_una p.toNatClampNeg = zl_n v) (w0 : 0 ≤ wn) (w1 : wn ≤ 24) (k0 : 0 ≤ pk) (k1 : pk ≤ 64) (h : P (zl_n (min wn pk - (n - v)))) : wpY_room P (f_now, f_sent, a_seq, a_flags, a_acked, a_window, a_many, a_data, a_rows, a_state, a_error, a_iss, a_una, a_nxt, a_max, a_last, a_closed, a_written, a_irs, a_unread, a_bytes, a_held, a_rcv, a_finAt, a_marked, a_wnd, a_peak, a_half, a_rto, a_same, a_tries, a_smooth, a_spread, a_byNumber, a_byAck, a_sampled, a_told, a_retry, a_ackAt, a_waitAt, a_timedAt, a_timed) p := by
  unfold wpY_room
  have k30 : ∀ z : Int32, z = zi_n (min wn pk) → wY_room_30 P p z f_now f_sent a_seq a_flags a_acked a_window a_many a_data a_rows a_state a_error a_iss a_una a_nxt a_max a_last a_closed a_written a_irs a_unread a_bytes a_held a_rcv a_finAt a_marked a_wnd a_peak a_half a_rto a_same a_tries a_smooth a_spread a_byNumber a_byAck a_sampled a_told a_retry a_ackAt a_waitAt a_timedAt a_timed := by
    intro z hz
    unfold wY_room_30
    refine ⟨hp, hp, ?_⟩
    rw [hz, hn, hu, zi_l (by omega) (by omega), zl_sub, zl_sub]; exact h
  refine ⟨hp, hp, ?_⟩
  by_cases w : pk ≤ wn
  · exact br_t (by rw [hw, hk, zi_le (by omega) (by omega) (by omega) (by omega)]; exact w) ⟨hp, k30 _ (by rw [hk]; congr 1; omega)⟩
  · exact br_f (by rw [hw, hk, zi_le (by omega) (by omega) (by omega) (by omega)]; exact w) ⟨hp, k30 _ (by rw [hw]; congr 1; omega)⟩
theorem yf_250 {q K : Int} {G : gm_T} {f_now : Int32} {f_sent : Int32} {a_seq : (Nat → Int32)} {a_flags : (Nat → Int32)} {a_acked : (Nat → Int32)} {a_window : (Nat → Int32)} {a_many : (Nat → Int32)} {a_data : (Nat → Int32)} {a_rows : (Nat → Int32)} {a_state : (Nat → Int32)} {a_error : (Nat → Int32)} {a_iss : (Nat → Int32)} {a_una : (Nat → Int64)} {a_nxt : (Nat → Int64)} {a_max : (Nat → Int64)} {a_last : (Nat → Int64)} {a_closed : (Nat → Int32)} {a_written : (Nat → Int32)} {a_irs : (Nat → Int32)} {a_unread : (Nat → Int32)} {a_bytes : (Nat → Int32)} {a_held : (Nat → Int32)} {a_rcv : (Nat → Int64)} {a_finAt : (Nat → Int64)} {a_marked : (Nat → Int32)} {a_wnd : (Nat → Int32)} {a_peak : (Nat → Int32)} {a_half : (Nat → Int32)} {a_rto : (Nat → Int32)} {a_same : (Nat → Int32)} {a_tries : (Nat → Int32)} {a_smooth : (Nat → Int32)} {a_spread : (Nat → Int32)} {a_byNumber : (Nat → Int32)} {a_byAck : (Nat → Int32)} {a_sampled : (Nat → Int32)} {a_told : (Nat → Int32)} {a_retry : (Nat → Int32)} {a_ackAt : (Nat → Int32)} {a_waitAt : (Nat → Int32)} {a_timedAt : (Nat → Int32)} {a_timed : (Nat → Int64)} {p : Int32} {P : SY → Prop} (hv : vy_S q G (f_now, f_sent, a_seq, a_flags, a_acked, a_window, a_many, a_data, a_rows, a_state, a_error, a_iss, a_una, a_nxt, a_max, a_last, a_closed, a_written, a_irs, a_unread, a_bytes, a_held, a_rcv, a_finAt, a_marked, a_wnd, a_peak, a_half, a_rto, a_same, a_tries, a_smooth, a_spread, a_byNumber, a_byAck, a_sampled, a_told, a_retry, a_ackAt, a_waitAt, a_timedAt, a_timed)) (hI : gv_I K G) (hp : vp_in p 2) (h4 : 4 ≤ G.1 0 p.toNatClampNeg) (hP : ∀ u', vy_S q (gp_rest G p.toNatClampNeg) u' → P u') : wY_flow_250 P p f_now f_sent a_seq a_flags a_acked a_window a_many a_data a_rows a_state a_error a_iss a_una a_nxt a_max a_last a_closed a_written a_irs a_unread a_bytes a_held a_rcv a_finAt a_marked a_wnd a_peak a_half a_rto a_same a_tries a_smooth a_spread a_byNumber a_byAck a_sampled a_told a_retry a_ackAt a_waitAt a_timedAt a_timed := by
  have hv0 := hv
  obtain ⟨h_now, h_sent, h_seq, h_flags, h_acked, h_window, h_many, h_data, h_rows, h_state, h_error, h_iss, h_una, h_nxt, h_max, h_last, h_closed, h_written, h_irs, h_unread, h_bytes, h_held, h_rcv, h_finAt, h_marked, h_wnd, h_peak, h_half, h_rto, h_same, h_tries, h_smooth, h_spread, h_byNumber, h_byAck, h_sampled, h_told, h_retry, h_ackAt, h_waitAt, h_timedAt, h_timed⟩ := hv0
  have he := pe_lt hp
  have n0 := hI.2.2.1
  have n1 := hI.2.2.2.1
  have n2 := hI.2.1
  obtain ⟨y1, y2, y3, y4⟩ := gv_yy hI he (by omega)
  obtain ⟨b1, b2, b3, b4, b5, b6⟩ := hI.2.2.2.2.1 _ he
  unfold gv_p at b2
  unfold gv_c at b3
  unfold gv_d at b4
  have hu := b2.2.2.2.2.1 h4
  have hl := b2.1 (by omega)
  have hk := b2.2.2.2.2.2
  have huna : a_una p.toNatClampNeg = zl_n (G.1 3 p.toNatClampNeg) := by rw [← y1]; exact h_una _ he
  have hlast : a_last p.toNatClampNeg = zl_n (G.1 6 p.toNatClampNeg) := by rw [← y2]; exact h_last _ he
  have hno : ¬ (G.1 12 p.toNatClampNeg = 0 ∧ G.1 4 p.toNatClampNeg = G.1 3 p.toNatClampNeg ∧ (G.1 4 p.toNatClampNeg < G.1 6 p.toNatClampNeg ∨ (G.1 29 p.toNatClampNeg = 1 ∧ G.1 4 p.toNatClampNeg = G.1 6 p.toNatClampNeg)) ∧ G.1 21 p.toNatClampNeg < 0) → P (f_now, f_sent, a_seq, a_flags, a_acked, a_window, a_many, a_data, a_rows, a_state, a_error, a_iss, a_una, a_nxt, a_max, a_last, a_closed, a_written, a_irs, a_unread, a_bytes, a_held, a_rcv, a_finAt, a_marked, a_wnd, a_peak, a_half, a_rto, a_same, a_tries, a_smooth, a_spread, a_byNumber, a_byAck, a_sampled, a_told, a_retry, a_ackAt, a_waitAt, a_timedAt, a_timed) := by
    intro z
    refine hP _ ?_
    have : gp_rest G p.toNatClampNeg = G := by
      unfold gp_rest
      rw [gs_id (if_neg z)]
    rw [this]; exact hv
  have k296 : ∀ z : Int32, (¬ z = 0 ↔ (G.1 4 p.toNatClampNeg < G.1 6 p.toNatClampNeg ∨ (G.1 29 p.toNatClampNeg = 1 ∧ G.1 4 p.toNatClampNeg = G.1 6 p.toNatClampNeg))) → wY_flow_296 P p z f_now f_sent a_seq a_flags a_acked a_window a_many a_data a_rows a_state a_error a_iss a_una a_nxt a_max a_last a_closed a_written a_irs a_unread a_bytes a_held a_rcv a_finAt a_marked a_wnd a_peak a_half a_rto a_same a_tries a_smooth a_spread a_byNumber a_byAck a_sampled a_told a_retry a_ackAt a_waitAt a_timedAt a_timed := by
    intro z hz
    unfold wY_flow_296
    refine ⟨hp, ?_⟩
    by_cases w : G.1 12 p.toNatClampNeg = 0
    · refine br_t (by rw [h_wnd _ he, w]; rfl) ⟨hp, hp, ?_⟩
      by_cases w2 : G.1 4 p.toNatClampNeg = G.1 3 p.toNatClampNeg
      · refine br_t (by rw [h_nxt _ he, huna, w2]) ?_
        by_cases w3 : z = 0
        · exact br_t w3 (hno (fun t => hz.mpr t.2.2.1 w3))
        · refine br_f w3 ⟨hp, ?_⟩
          by_cases w4 : G.1 21 p.toNatClampNeg < 0
          · refine br_f (by rw [h_retry _ he, zk_0, zi_le (by omega) (by omega) (by omega) (by omega)]; omega) ⟨hp, hp, nm_e (hP _ ?_)⟩
            refine (vy_mk h_now h_sent h_seq h_flags h_acked h_window h_many h_data h_rows h_state h_error h_iss h_una h_nxt h_max h_last h_closed h_written h_irs h_unread h_bytes h_held h_rcv h_finAt h_marked h_wnd h_peak h_half h_rto h_same h_tries h_smooth h_spread h_byNumber h_byAck h_sampled h_told (vu_e h_retry ?_ (fun e' y => gs_e y)) h_ackAt h_waitAt h_timedAt h_timed)
            show _ = zi_n (gs_c _ _ _ _ _ _)
            rw [gs_s, if_pos ⟨w, w2, hz.mp w3, w4⟩, h_now, h_rto _ he, zi_add]
          · exact br_t (by rw [h_retry _ he, zk_0, zi_le (by omega) (by omega) (by omega) (by omega)]; omega) (hno (fun t => w4 t.2.2.2))
      · exact br_f (by rw [h_nxt _ he, huna, zl_eq (by omega) (by omega) (by omega) (by omega)]; exact w2) (hno (fun t => w2 t.2.1))
    · exact br_f (by rw [h_wnd _ he, zk_0, zi_eq (by omega) (by omega) (by omega) (by omega)]; exact w) (hno (fun t => w t.1))
  unfold wY_flow_250
  refine ⟨hp, hp, ?_⟩
  by_cases w : G.1 4 p.toNatClampNeg < G.1 6 p.toNatClampNeg
  · refine br_t (by rw [h_nxt _ he, hlast, zl_lt (by omega) (by omega) (by omega) (by omega)]; exact w) ?_
    exact k296 1 ⟨fun _ => Or.inl w, fun _ => by decide⟩
  · refine br_f (by rw [h_nxt _ he, hlast, zl_lt (by omega) (by omega) (by omega) (by omega)]; exact w) ⟨hp, ?_⟩
    by_cases w2 : G.1 29 p.toNatClampNeg = 0
    · refine br_t (by rw [h_closed _ he, w2]; rfl) ?_
      exact k296 0 ⟨fun t => absurd rfl t, fun t => by omega⟩
    · refine br_f (by rw [h_closed _ he, zk_0, zi_eq (by omega) (by omega) (by omega) (by omega)]; exact w2) ⟨hp, hp, ?_⟩
      by_cases w3 : G.1 4 p.toNatClampNeg = G.1 6 p.toNatClampNeg
      · refine br_t (by rw [h_nxt _ he, hlast, w3]) ?_
        exact k296 1 ⟨fun _ => Or.inr ⟨by omega, w3⟩, fun _ => by decide⟩
      · refine br_f (by rw [h_nxt _ he, hlast, zl_eq (by omega) (by omega) (by omega) (by omega)]; exact w3) ?_
        exact k296 0 ⟨fun t => absurd rfl t, fun t => by omega⟩
theorem vy_N {q : Int} {G1 : gm_T} {f_now : Int32} {f_sent : Int32} {a_seq : (Nat → Int32)} {a_flags : (Nat → Int32)} {a_acked : (Nat → Int32)} {a_window : (Nat → Int32)} {a_many : (Nat → Int32)} {a_data : (Nat → Int32)} {a_rows : (Nat → Int32)} {a_state : (Nat → Int32)} {a_error : (Nat → Int32)} {a_iss : (Nat → Int32)} {a_una : (Nat → Int64)} {a_nxt : (Nat → Int64)} {a_max : (Nat → Int64)} {a_last : (Nat → Int64)} {a_closed : (Nat → Int32)} {a_written : (Nat → Int32)} {a_irs : (Nat → Int32)} {a_unread : (Nat → Int32)} {a_bytes : (Nat → Int32)} {a_held : (Nat → Int32)} {a_rcv : (Nat → Int64)} {a_finAt : (Nat → Int64)} {a_marked : (Nat → Int32)} {a_wnd : (Nat → Int32)} {a_peak : (Nat → Int32)} {a_half : (Nat → Int32)} {a_rto : (Nat → Int32)} {a_same : (Nat → Int32)} {a_tries : (Nat → Int32)} {a_smooth : (Nat → Int32)} {a_spread : (Nat → Int32)} {a_byNumber : (Nat → Int32)} {a_byAck : (Nat → Int32)} {a_sampled : (Nat → Int32)} {a_told : (Nat → Int32)} {a_retry : (Nat → Int32)} {a_ackAt : (Nat → Int32)} {a_waitAt : (Nat → Int32)} {a_timedAt : (Nat → Int32)} {a_timed : (Nat → Int64)} {e : Nat} {y : Int64} {z : Int} (hv : vy_S q G1 (f_now, f_sent, a_seq, a_flags, a_acked, a_window, a_many, a_data, a_rows, a_state, a_error, a_iss, a_una, a_nxt, a_max, a_last, a_closed, a_written, a_irs, a_unread, a_bytes, a_held, a_rcv, a_finAt, a_marked, a_wnd, a_peak, a_half, a_rto, a_same, a_tries, a_smooth, a_spread, a_byNumber, a_byAck, a_sampled, a_told, a_retry, a_ackAt, a_waitAt, a_timedAt, a_timed)) (hy : y = zl_n z) : vy_S q (gp_put G1 4 e z) (f_now, f_sent, a_seq, a_flags, a_acked, a_window, a_many, a_data, a_rows, a_state, a_error, a_iss, a_una, vp_updL a_nxt e y, a_max, a_last, a_closed, a_written, a_irs, a_unread, a_bytes, a_held, a_rcv, a_finAt, a_marked, a_wnd, a_peak, a_half, a_rto, a_same, a_tries, a_smooth, a_spread, a_byNumber, a_byAck, a_sampled, a_told, a_retry, a_ackAt, a_waitAt, a_timedAt, a_timed) := by
  obtain ⟨h_now, h_sent, h_seq, h_flags, h_acked, h_window, h_many, h_data, h_rows, h_state, h_error, h_iss, h_una, h_nxt, h_max, h_last, h_closed, h_written, h_irs, h_unread, h_bytes, h_held, h_rcv, h_finAt, h_marked, h_wnd, h_peak, h_half, h_rto, h_same, h_tries, h_smooth, h_spread, h_byNumber, h_byAck, h_sampled, h_told, h_retry, h_ackAt, h_waitAt, h_timedAt, h_timed⟩ := hv
  exact (vy_mk h_now h_sent h_seq h_flags h_acked h_window h_many h_data h_rows h_state h_error h_iss h_una (vu_l h_nxt (by rw [pu_s]; exact hy) (fun e' q => pu_o q _)) h_max h_last h_closed h_written h_irs h_unread h_bytes h_held h_rcv h_finAt h_marked h_wnd h_peak h_half h_rto h_same h_tries h_smooth h_spread h_byNumber h_byAck h_sampled h_told h_retry h_ackAt h_waitAt h_timedAt h_timed)
theorem yf_exit {q K : Int} {G : gm_T} {f_now : Int32} {f_sent : Int32} {a_seq : (Nat → Int32)} {a_flags : (Nat → Int32)} {a_acked : (Nat → Int32)} {a_window : (Nat → Int32)} {a_many : (Nat → Int32)} {a_data : (Nat → Int32)} {a_rows : (Nat → Int32)} {a_state : (Nat → Int32)} {a_error : (Nat → Int32)} {a_iss : (Nat → Int32)} {a_una : (Nat → Int64)} {a_nxt : (Nat → Int64)} {a_max : (Nat → Int64)} {a_last : (Nat → Int64)} {a_closed : (Nat → Int32)} {a_written : (Nat → Int32)} {a_irs : (Nat → Int32)} {a_unread : (Nat → Int32)} {a_bytes : (Nat → Int32)} {a_held : (Nat → Int32)} {a_rcv : (Nat → Int64)} {a_finAt : (Nat → Int64)} {a_marked : (Nat → Int32)} {a_wnd : (Nat → Int32)} {a_peak : (Nat → Int32)} {a_half : (Nat → Int32)} {a_rto : (Nat → Int32)} {a_same : (Nat → Int32)} {a_tries : (Nat → Int32)} {a_smooth : (Nat → Int32)} {a_spread : (Nat → Int32)} {a_byNumber : (Nat → Int32)} {a_byAck : (Nat → Int32)} {a_sampled : (Nat → Int32)} {a_told : (Nat → Int32)} {a_retry : (Nat → Int32)} {a_ackAt : (Nat → Int32)} {a_waitAt : (Nat → Int32)} {a_timedAt : (Nat → Int32)} {a_timed : (Nat → Int64)} {p : Int32} {P : SY → Prop} {f : Nat} (hv : vy_S q G (f_now, f_sent, a_seq, a_flags, a_acked, a_window, a_many, a_data, a_rows, a_state, a_error, a_iss, a_una, a_nxt, a_max, a_last, a_closed, a_written, a_irs, a_unread, a_bytes, a_held, a_rcv, a_finAt, a_marked, a_wnd, a_peak, a_half, a_rto, a_same, a_tries, a_smooth, a_spread, a_byNumber, a_byAck, a_sampled, a_told, a_retry, a_ackAt, a_waitAt, a_timedAt, a_timed)) (hI : gv_I K G) (hp : vp_in p 2) (h4 : 4 ≤ G.1 0 p.toNatClampNeg) (hP : ∀ u', vy_S q (gp_rest (gp_fin G p.toNatClampNeg) p.toNatClampNeg) u' → P u') : wY_flow_47 P p (f + 1) 0 f_now f_sent a_seq a_flags a_acked a_window a_many a_data a_rows a_state a_error a_iss a_una a_nxt a_max a_last a_closed a_written a_irs a_unread a_bytes a_held a_rcv a_finAt a_marked a_wnd a_peak a_half a_rto a_same a_tries a_smooth a_spread a_byNumber a_byAck a_sampled a_told a_retry a_ackAt a_waitAt a_timedAt a_timed := by
  have hv0 := hv
  obtain ⟨h_now, h_sent, h_seq, h_flags, h_acked, h_window, h_many, h_data, h_rows, h_state, h_error, h_iss, h_una, h_nxt, h_max, h_last, h_closed, h_written, h_irs, h_unread, h_bytes, h_held, h_rcv, h_finAt, h_marked, h_wnd, h_peak, h_half, h_rto, h_same, h_tries, h_smooth, h_spread, h_byNumber, h_byAck, h_sampled, h_told, h_retry, h_ackAt, h_waitAt, h_timedAt, h_timed⟩ := hv0
  have he := pe_lt hp
  have n2 := hI.2.1
  obtain ⟨y1, y2, y3, y4⟩ := gv_yy hI he (by omega)
  obtain ⟨b1, b2, b3, b4, b5, b6⟩ := hI.2.2.2.2.1 _ he
  unfold gv_p at b2
  unfold gv_c at b3
  have hu := b2.2.2.2.2.1 h4
  have hl := b2.1 (by omega)
  have hk := b2.2.2.2.2.2
  have huna : a_una p.toNatClampNeg = zl_n (G.1 3 p.toNatClampNeg) := by rw [← y1]; exact h_una _ he
  have hlast : a_last p.toNatClampNeg = zl_n (G.1 6 p.toNatClampNeg) := by rw [← y2]; exact h_last _ he
  have hno : ¬ (G.1 29 p.toNatClampNeg = 1 ∧ G.1 4 p.toNatClampNeg = G.1 6 p.toNatClampNeg ∧ 0 < min (G.1 12 p.toNatClampNeg) (G.1 16 p.toNatClampNeg) - (G.1 4 p.toNatClampNeg - G.1 3 p.toNatClampNeg)) → wY_flow_250 P p f_now f_sent a_seq a_flags a_acked a_window a_many a_data a_rows a_state a_error a_iss a_una a_nxt a_max a_last a_closed a_written a_irs a_unread a_bytes a_held a_rcv a_finAt a_marked a_wnd a_peak a_half a_rto a_same a_tries a_smooth a_spread a_byNumber a_byAck a_sampled a_told a_retry a_ackAt a_waitAt a_timedAt a_timed := by
    intro z
    have : gp_fin G p.toNatClampNeg = G := if_neg z
    rw [this] at hP
    exact yf_250 hv hI hp h4 hP
  refine br_t rfl ⟨hp, ?_⟩
  by_cases w : G.1 29 p.toNatClampNeg = 0
  · exact br_t (by rw [h_closed _ he, w]; rfl) (hno (fun t => by omega))
  · refine br_f (by rw [h_closed _ he, zk_0, zi_eq (by omega) (by omega) (by omega) (by omega)]; exact w) ⟨hp, hp, ?_⟩
    by_cases w2 : G.1 4 p.toNatClampNeg = G.1 6 p.toNatClampNeg
    · refine br_t (by rw [h_nxt _ he, hlast, w2]) (yl_room hp (h_wnd _ he) (h_peak _ he) (h_nxt _ he) huna (by omega) (by omega) (by omega) (by omega) ?_)
      by_cases w3 : min (G.1 12 p.toNatClampNeg) (G.1 16 p.toNatClampNeg) - (G.1 4 p.toNatClampNeg - G.1 3 p.toNatClampNeg) ≤ 0
      · exact br_t (by rw [zk_l0, zl_le (by omega) (by omega) (by omega) (by omega)]; exact w3) (hno (fun t => by omega))
      · have hc : G.1 29 p.toNatClampNeg = 1 ∧ G.1 4 p.toNatClampNeg = G.1 6 p.toNatClampNeg ∧ 0 < min (G.1 12 p.toNatClampNeg) (G.1 16 p.toNatClampNeg) - (G.1 4 p.toNatClampNeg - G.1 3 p.toNatClampNeg) := ⟨by omega, w2, by omega⟩
        have hfin : gp_fin G p.toNatClampNeg = gp_put (gp_send G p.toNatClampNeg (G.1 4 p.toNatClampNeg) 4 0) 4 p.toNatClampNeg (G.1 4 p.toNatClampNeg + 1) := if_pos hc
        have hIf := iv_fin hI he h4
        rw [hfin] at hP hIf
        refine br_f (by rw [zk_l0, zl_le (by omega) (by omega) (by omega) (by omega)]; exact w3) ⟨hp, yl_send hv hp (h_nxt _ he) zk_4 zk_0 (gv_ii hI he) (sk_of hI he (by omega) (Or.inr (Or.inr rfl)) (by omega) (by omega) (by omega) (by omega) (by omega)) fun u1 hv1 => ?_⟩
        have hN1 : (gp_send G p.toNatClampNeg (G.1 4 p.toNatClampNeg) 4 0).1 4 p.toNatClampNeg = G.1 4 p.toNatClampNeg := sd_f (by decide) (by decide) (by decide) (by decide) (by decide) (by decide)
        have hS1 : (gp_send G p.toNatClampNeg (G.1 4 p.toNatClampNeg) 4 0).1 0 p.toNatClampNeg = G.1 0 p.toNatClampNeg := sd_f (by decide) (by decide) (by decide) (by decide) (by decide) (by decide)
        obtain ⟨f_now, f_sent, a_seq, a_flags, a_acked, a_window, a_many, a_data, a_rows, a_state, a_error, a_iss, a_una, a_nxt, a_max, a_last, a_closed, a_written, a_irs, a_unread, a_bytes, a_held, a_rcv, a_finAt, a_marked, a_wnd, a_peak, a_half, a_rto, a_same, a_tries, a_smooth, a_spread, a_byNumber, a_byAck, a_sampled, a_told, a_retry, a_ackAt, a_waitAt, a_timedAt, a_timed⟩ := u1
        have hv2 := hv1
        clear h_nxt
        obtain ⟨h_now, h_sent, h_seq, h_flags, h_acked, h_window, h_many, h_data, h_rows, h_state, h_error, h_iss, h_una, h_nxt, h_max, h_last, h_closed, h_written, h_irs, h_unread, h_bytes, h_held, h_rcv, h_finAt, h_marked, h_wnd, h_peak, h_half, h_rto, h_same, h_tries, h_smooth, h_spread, h_byNumber, h_byAck, h_sampled, h_told, h_retry, h_ackAt, h_waitAt, h_timedAt, h_timed⟩ := hv2
        refine ⟨hp, hp, nm_e ?_⟩
        exact yf_250 (vy_N hv1 (by rw [h_nxt _ he, hN1, zk_l1, zl_add])) hIf hp (by rw [pu_f (by decide), hS1]; exact h4) hP
    · exact br_f (by rw [h_nxt _ he, hlast, zl_eq (by omega) (by omega) (by omega) (by omega)]; exact w2) (hno (fun t => w2 t.2.1))
theorem yf_47 {q K : Int} {p : Int32} {P : SY → Prop} (hp : vp_in p 2) : ∀ (k f : Nat) (G : gm_T) (f_now : Int32) (f_sent : Int32) (a_seq : (Nat → Int32)) (a_flags : (Nat → Int32)) (a_acked : (Nat → Int32)) (a_window : (Nat → Int32)) (a_many : (Nat → Int32)) (a_data : (Nat → Int32)) (a_rows : (Nat → Int32)) (a_state : (Nat → Int32)) (a_error : (Nat → Int32)) (a_iss : (Nat → Int32)) (a_una : (Nat → Int64)) (a_nxt : (Nat → Int64)) (a_max : (Nat → Int64)) (a_last : (Nat → Int64)) (a_closed : (Nat → Int32)) (a_written : (Nat → Int32)) (a_irs : (Nat → Int32)) (a_unread : (Nat → Int32)) (a_bytes : (Nat → Int32)) (a_held : (Nat → Int32)) (a_rcv : (Nat → Int64)) (a_finAt : (Nat → Int64)) (a_marked : (Nat → Int32)) (a_wnd : (Nat → Int32)) (a_peak : (Nat → Int32)) (a_half : (Nat → Int32)) (a_rto : (Nat → Int32)) (a_same : (Nat → Int32)) (a_tries : (Nat → Int32)) (a_smooth : (Nat → Int32)) (a_spread : (Nat → Int32)) (a_byNumber : (Nat → Int32)) (a_byAck : (Nat → Int32)) (a_sampled : (Nat → Int32)) (a_told : (Nat → Int32)) (a_retry : (Nat → Int32)) (a_ackAt : (Nat → Int32)) (a_waitAt : (Nat → Int32)) (a_timedAt : (Nat → Int32)) (a_timed : (Nat → Int64)), k + 2 < f → vy_S q G (f_now, f_sent, a_seq, a_flags, a_acked, a_window, a_many, a_data, a_rows, a_state, a_error, a_iss, a_una, a_nxt, a_max, a_last, a_closed, a_written, a_irs, a_unread, a_bytes, a_held, a_rcv, a_finAt, a_marked, a_wnd, a_peak, a_half, a_rto, a_same, a_tries, a_smooth, a_spread, a_byNumber, a_byAck, a_sampled, a_told, a_retry, a_ackAt, a_waitAt, a_timedAt, a_timed) → gv_I K G → 4 ≤ G.1 0 p.toNatClampNeg → G.1 4 p.toNatClampNeg < G.1 6 p.toNatClampNeg → G.1 6 p.toNatClampNeg - G.1 4 p.toNatClampNeg < k → (∀ u', vy_S q (gp_rest (gp_fin (gp_loop k G p.toNatClampNeg) p.toNatClampNeg) p.toNatClampNeg) u' → P u') → wY_flow_47 P p f 1 f_now f_sent a_seq a_flags a_acked a_window a_many a_data a_rows a_state a_error a_iss a_una a_nxt a_max a_last a_closed a_written a_irs a_unread a_bytes a_held a_rcv a_finAt a_marked a_wnd a_peak a_half a_rto a_same a_tries a_smooth a_spread a_byNumber a_byAck a_sampled a_told a_retry a_ackAt a_waitAt a_timedAt a_timed := by
  have he := pe_lt hp
  intro k
  induction k with
  | zero => intro f G f_now f_sent a_seq a_flags a_acked a_window a_many a_data a_rows a_state a_error a_iss a_una a_nxt a_max a_last a_closed a_written a_irs a_unread a_bytes a_held a_rcv a_finAt a_marked a_wnd a_peak a_half a_rto a_same a_tries a_smooth a_spread a_byNumber a_byAck a_sampled a_told a_retry a_ackAt a_waitAt a_timedAt a_timed hf hv hI h4 hlt hk hP; omega
  | succ k ih =>
    intro f G f_now f_sent a_seq a_flags a_acked a_window a_many a_data a_rows a_state a_error a_iss a_una a_nxt a_max a_last a_closed a_written a_irs a_unread a_bytes a_held a_rcv a_finAt a_marked a_wnd a_peak a_half a_rto a_same a_tries a_smooth a_spread a_byNumber a_byAck a_sampled a_told a_retry a_ackAt a_waitAt a_timedAt a_timed hf hv hI h4 hlt hk hP
    obtain ⟨f, rfl⟩ : ∃ g, f = g + 2 := ⟨f - 2, by omega⟩
    have hv0 := hv
    obtain ⟨h_now, h_sent, h_seq, h_flags, h_acked, h_window, h_many, h_data, h_rows, h_state, h_error, h_iss, h_una, h_nxt, h_max, h_last, h_closed, h_written, h_irs, h_unread, h_bytes, h_held, h_rcv, h_finAt, h_marked, h_wnd, h_peak, h_half, h_rto, h_same, h_tries, h_smooth, h_spread, h_byNumber, h_byAck, h_sampled, h_told, h_retry, h_ackAt, h_waitAt, h_timedAt, h_timed⟩ := hv0
    have n2 := hI.2.1
    obtain ⟨y1, y2, y3, y4⟩ := gv_yy hI he (by omega)
    obtain ⟨b1, b2, b3, b4, b5, b6⟩ := hI.2.2.2.2.1 _ he
    unfold gv_p at b2
    unfold gv_c at b3
    have hu := b2.2.2.2.2.1 h4
    have hl := b2.1 (by omega)
    have hkk := b2.2.2.2.2.2
    have huna : a_una p.toNatClampNeg = zl_n (G.1 3 p.toNatClampNeg) := by rw [← y1]; exact h_una _ he
    have hlast : a_last p.toNatClampNeg = zl_n (G.1 6 p.toNatClampNeg) := by rw [← y2]; exact h_last _ he
    have hnn : gp_nn G p.toNatClampNeg = min (min (G.1 6 p.toNatClampNeg - G.1 4 p.toNatClampNeg) (min (G.1 12 p.toNatClampNeg) (G.1 16 p.toNatClampNeg) - (G.1 4 p.toNatClampNeg - G.1 3 p.toNatClampNeg))) 8 := rfl
    have hnb : -200 ≤ gp_nn G p.toNatClampNeg ∧ gp_nn G p.toNatClampNeg ≤ 8 ∧ gp_nn G p.toNatClampNeg ≤ G.1 6 p.toNatClampNeg - G.1 4 p.toNatClampNeg := by omega
    have k136 : ∀ z : Int32, ((gp_nn G p.toNatClampNeg = 8 ∨ (0 < gp_nn G p.toNatClampNeg ∧ G.1 4 p.toNatClampNeg = G.1 3 p.toNatClampNeg)) ∧ z = 1) ∨ (¬ (gp_nn G p.toNatClampNeg = 8 ∨ (0 < gp_nn G p.toNatClampNeg ∧ G.1 4 p.toNatClampNeg = G.1 3 p.toNatClampNeg)) ∧ z = 0) → wY_flow_136 P (wY_flow_47 P p (f + 1)) p (zl_n (gp_nn G p.toNatClampNeg)) z f_now f_sent a_seq a_flags a_acked a_window a_many a_data a_rows a_state a_error a_iss a_una a_nxt a_max a_last a_closed a_written a_irs a_unread a_bytes a_held a_rcv a_finAt a_marked a_wnd a_peak a_half a_rto a_same a_tries a_smooth a_spread a_byNumber a_byAck a_sampled a_told a_retry a_ackAt a_waitAt a_timedAt a_timed := by
      intro z hz
      unfold wY_flow_136
      rcases hz with ⟨hc, hz⟩ | ⟨hc, hz⟩
      · have hlo : gp_loop (k + 1) G p.toNatClampNeg = gp_loop k (gp_step G p.toNatClampNeg) p.toNatClampNeg := by
          show (if _ then _ else _) = _
          exact if_pos hc
        rw [hlo] at hP
        refine br_f (by rw [hz]; decide) ⟨hp, yl_send hv hp (h_nxt _ he) zk_0 (by rw [zl_i]) (gv_ii hI he) (sk_of hI he (by omega) (Or.inl rfl) (by omega) (by omega) (by omega) (by omega) (fun _ => ⟨h4, by omega, by omega⟩)) fun u1 hv1 => ?_⟩
        have hIs := iv_step hI he h4 (by omega)
        obtain ⟨f_now, f_sent, a_seq, a_flags, a_acked, a_window, a_many, a_data, a_rows, a_state, a_error, a_iss, a_una, a_nxt, a_max, a_last, a_closed, a_written, a_irs, a_unread, a_bytes, a_held, a_rcv, a_finAt, a_marked, a_wnd, a_peak, a_half, a_rto, a_same, a_tries, a_smooth, a_spread, a_byNumber, a_byAck, a_sampled, a_told, a_retry, a_ackAt, a_waitAt, a_timedAt, a_timed⟩ := u1
        have hv2 := hv1
        clear h_nxt h_last
        obtain ⟨h_now, h_sent, h_seq, h_flags, h_acked, h_window, h_many, h_data, h_rows, h_state, h_error, h_iss, h_una, h_nxt, h_max, h_last, h_closed, h_written, h_irs, h_unread, h_bytes, h_held, h_rcv, h_finAt, h_marked, h_wnd, h_peak, h_half, h_rto, h_same, h_tries, h_smooth, h_spread, h_byNumber, h_byAck, h_sampled, h_told, h_retry, h_ackAt, h_waitAt, h_timedAt, h_timed⟩ := hv2
        have sf : ∀ f, f ≠ 30 → f ≠ 22 → f ≠ 25 → f ≠ 24 → f ≠ 5 → f ≠ 21 → (gp_send G p.toNatClampNeg (G.1 4 p.toNatClampNeg) 0 (gp_nn G p.toNatClampNeg)).1 f p.toNatClampNeg = G.1 f p.toNatClampNeg := fun f h1 h2 h3 h4 h5 h6 => sd_f h1 h2 h3 h4 h5 h6
        have hN1 := sf 4 (by decide) (by decide) (by decide) (by decide) (by decide) (by decide)
        have hL1 := sf 33 (by decide) (by decide) (by decide) (by decide) (by decide) (by decide)
        have eN : a_nxt p.toNatClampNeg + zl_n (gp_nn G p.toNatClampNeg) = zl_n (G.1 4 p.toNatClampNeg + gp_nn G p.toNatClampNeg) := by rw [h_nxt _ he, hN1, zl_add]
        have hvs : vy_S q (gp_step G p.toNatClampNeg) (f_now, f_sent, a_seq, a_flags, a_acked, a_window, a_many, a_data, a_rows, a_state, a_error, a_iss, a_una, vp_updL a_nxt p.toNatClampNeg (zl_n (G.1 4 p.toNatClampNeg + gp_nn G p.toNatClampNeg)), a_max, a_last, a_closed, a_written, a_irs, a_unread, a_bytes, a_held, a_rcv, a_finAt, a_marked, a_wnd, a_peak, a_half, a_rto, a_same, a_tries, a_smooth, a_spread, a_byNumber, a_byAck, a_sampled, a_told, a_retry, a_ackAt, a_waitAt, a_timedAt, a_timed) := vy_N hv1 rfl
        have h4s : 4 ≤ (gp_step G p.toNatClampNeg).1 0 p.toNatClampNeg := by rw [st_f (by decide) (by decide) (by decide) (by decide) (by decide) (by decide) (by decide)]; exact h4
        have hLs : (gp_step G p.toNatClampNeg).1 6 p.toNatClampNeg = G.1 6 p.toNatClampNeg := st_f (by decide) (by decide) (by decide) (by decide) (by decide) (by decide) (by decide)
        refine ⟨hp, hp, nm_r (e' := vp_updL a_nxt p.toNatClampNeg (zl_n (G.1 4 p.toNatClampNeg + gp_nn G p.toNatClampNeg))) (by rw [eN]) ⟨hp, hp, ?_⟩⟩
        rw [zv_s, h_last _ he, hL1, y2]
        by_cases w : G.1 6 p.toNatClampNeg ≤ G.1 4 p.toNatClampNeg + gp_nn G p.toNatClampNeg
        · refine br_t (by rw [zl_le (by omega) (by omega) (by omega) (by omega)]; exact w) ?_
          have hst : gp_loop k (gp_step G p.toNatClampNeg) p.toNatClampNeg = gp_step G p.toNatClampNeg := by
            have hn0 : gp_nn (gp_step G p.toNatClampNeg) p.toNatClampNeg ≤ 0 := by
              show min (min ((gp_step G p.toNatClampNeg).1 6 p.toNatClampNeg - (gp_step G p.toNatClampNeg).1 4 p.toNatClampNeg) _) _ ≤ 0
              rw [hLs, st_N]; omega
            cases k with
            | zero => rfl
            | succ k =>
              show (if _ then _ else _) = _
              exact if_neg (by omega)
          rw [hst] at hP
          exact yf_exit hvs hIs hp h4s hP
        · refine br_f (by rw [zl_le (by omega) (by omega) (by omega) (by omega)]; exact w) ?_
          exact ih (f + 1) (gp_step G p.toNatClampNeg) f_now f_sent a_seq a_flags a_acked a_window a_many a_data a_rows a_state a_error a_iss a_una (vp_updL a_nxt p.toNatClampNeg (zl_n (G.1 4 p.toNatClampNeg + gp_nn G p.toNatClampNeg))) a_max a_last a_closed a_written a_irs a_unread a_bytes a_held a_rcv a_finAt a_marked a_wnd a_peak a_half a_rto a_same a_tries a_smooth a_spread a_byNumber a_byAck a_sampled a_told a_retry a_ackAt a_waitAt a_timedAt a_timed (by omega) hvs hIs h4s (by rw [hLs, st_N]; omega) (by rw [hLs, st_N]; omega) hP
      · have hlo : gp_loop (k + 1) G p.toNatClampNeg = G := by
          show (if _ then _ else _) = _
          exact if_neg hc
        rw [hlo] at hP
        refine br_t hz ?_
        rw [hz]
        exact yf_exit hv hI hp h4 hP
    have k99 : wY_flow_99 P (wY_flow_47 P p (f + 1)) p (zl_n (gp_nn G p.toNatClampNeg)) f_now f_sent a_seq a_flags a_acked a_window a_many a_data a_rows a_state a_error a_iss a_una a_nxt a_max a_last a_closed a_written a_irs a_unread a_bytes a_held a_rcv a_finAt a_marked a_wnd a_peak a_half a_rto a_same a_tries a_smooth a_spread a_byNumber a_byAck a_sampled a_told a_retry a_ackAt a_waitAt a_timedAt a_timed := by
      unfold wY_flow_99
      by_cases w : gp_nn G p.toNatClampNeg = 8
      · exact br_t (by rw [w]; rfl) (k136 1 (Or.inl ⟨Or.inl w, rfl⟩))
      · refine br_f (by rw [zk_l8, zl_eq (by omega) (by omega) (by omega) (by omega)]; exact w) ?_
        by_cases w2 : gp_nn G p.toNatClampNeg ≤ 0
        · exact br_t (by rw [zk_l0, zl_le (by omega) (by omega) (by omega) (by omega)]; exact w2) (k136 0 (Or.inr ⟨by omega, rfl⟩))
        · refine br_f (by rw [zk_l0, zl_le (by omega) (by omega) (by omega) (by omega)]; exact w2) ⟨hp, hp, ?_⟩
          by_cases w3 : G.1 4 p.toNatClampNeg = G.1 3 p.toNatClampNeg
          · exact br_t (by rw [h_nxt _ he, huna, w3]) (k136 1 (Or.inl ⟨Or.inr ⟨by omega, w3⟩, rfl⟩))
          · exact br_f (by rw [h_nxt _ he, huna, zl_eq (by omega) (by omega) (by omega) (by omega)]; exact w3) (k136 0 (Or.inr ⟨by omega, rfl⟩))
    have k87 : ∀ t : Int, t = min (G.1 6 p.toNatClampNeg - G.1 4 p.toNatClampNeg) 8 → wY_flow_87 P (wY_flow_47 P p (f + 1)) p (zl_n t) (zl_n (min (G.1 12 p.toNatClampNeg) (G.1 16 p.toNatClampNeg) - (G.1 4 p.toNatClampNeg - G.1 3 p.toNatClampNeg))) f_now f_sent a_seq a_flags a_acked a_window a_many a_data a_rows a_state a_error a_iss a_una a_nxt a_max a_last a_closed a_written a_irs a_unread a_bytes a_held a_rcv a_finAt a_marked a_wnd a_peak a_half a_rto a_same a_tries a_smooth a_spread a_byNumber a_byAck a_sampled a_told a_retry a_ackAt a_waitAt a_timedAt a_timed := by
      intro t ht
      unfold wY_flow_87
      by_cases w : t ≤ min (G.1 12 p.toNatClampNeg) (G.1 16 p.toNatClampNeg) - (G.1 4 p.toNatClampNeg - G.1 3 p.toNatClampNeg)
      · refine br_t (by rw [zl_le (by omega) (by omega) (by omega) (by omega)]; exact w) ?_
        rw [show t = gp_nn G p.toNatClampNeg from by omega]; exact k99
      · refine br_f (by rw [zl_le (by omega) (by omega) (by omega) (by omega)]; exact w) ?_
        rw [show min (G.1 12 p.toNatClampNeg) (G.1 16 p.toNatClampNeg) - (G.1 4 p.toNatClampNeg - G.1 3 p.toNatClampNeg) = gp_nn G p.toNatClampNeg from by omega]; exact k99
    refine br_f (by decide) ⟨hp, hp, nm_r (e' := zl_n (G.1 6 p.toNatClampNeg - G.1 4 p.toNatClampNeg)) (by rw [hlast, h_nxt _ he, zl_sub]) (yl_room hp (h_wnd _ he) (h_peak _ he) (h_nxt _ he) huna (by omega) (by omega) (by omega) (by omega) ?_)⟩
    by_cases w : G.1 6 p.toNatClampNeg - G.1 4 p.toNatClampNeg ≤ 8
    · exact br_t (by rw [zk_l8, zl_le (by omega) (by omega) (by omega) (by omega)]; exact w) (k87 _ (by omega))
    · exact br_f (by rw [zk_l8, zl_le (by omega) (by omega) (by omega) (by omega)]; exact w) (k87 8 (by omega))
theorem yl_flow {q K : Int} {G : gm_T} {u : SY} {p : Int32} {P : SY → Prop} (hv : vy_S q G u) (hI : gv_I K G) (hp : vp_in p 2) (hP : ∀ u', vy_S q (gp_flow G p.toNatClampNeg) u' → P u') : wpY_flow P u p := by
  obtain ⟨f_now, f_sent, a_seq, a_flags, a_acked, a_window, a_many, a_data, a_rows, a_state, a_error, a_iss, a_una, a_nxt, a_max, a_last, a_closed, a_written, a_irs, a_unread, a_bytes, a_held, a_rcv, a_finAt, a_marked, a_wnd, a_peak, a_half, a_rto, a_same, a_tries, a_smooth, a_spread, a_byNumber, a_byAck, a_sampled, a_told, a_retry, a_ackAt, a_waitAt, a_timedAt, a_timed⟩ := u
  have hv0 := hv
  obtain ⟨h_now, h_sent, h_seq, h_flags, h_acked, h_window, h_many, h_data, h_rows, h_state, h_error, h_iss, h_una, h_nxt, h_max, h_last, h_closed, h_written, h_irs, h_unread, h_bytes, h_held, h_rcv, h_finAt, h_marked, h_wnd, h_peak, h_half, h_rto, h_same, h_tries, h_smooth, h_spread, h_byNumber, h_byAck, h_sampled, h_told, h_retry, h_ackAt, h_waitAt, h_timedAt, h_timed⟩ := hv0
  have he := pe_lt hp
  have n2 := hI.2.1
  obtain ⟨b1, b2, b3, b4, b5, b6⟩ := hI.2.2.2.2.1 _ he
  unfold gv_a at b1
  unfold gv_p at b2
  have hno : ¬ (G.1 0 p.toNatClampNeg = 4 ∨ G.1 0 p.toNatClampNeg = 5 ∨ G.1 0 p.toNatClampNeg = 7 ∨ G.1 0 p.toNatClampNeg = 8 ∨ G.1 0 p.toNatClampNeg = 9) → P (f_now, f_sent, a_seq, a_flags, a_acked, a_window, a_many, a_data, a_rows, a_state, a_error, a_iss, a_una, a_nxt, a_max, a_last, a_closed, a_written, a_irs, a_unread, a_bytes, a_held, a_rcv, a_finAt, a_marked, a_wnd, a_peak, a_half, a_rto, a_same, a_tries, a_smooth, a_spread, a_byNumber, a_byAck, a_sampled, a_told, a_retry, a_ackAt, a_waitAt, a_timedAt, a_timed) := by
    intro z
    have hfl : gp_flow G p.toNatClampNeg = G := if_neg z
    rw [hfl] at hP
    exact hP _ hv
  unfold wpY_flow
  refine ⟨hp, nm_r (h_state _ he) ?_⟩
  by_cases w : G.1 0 p.toNatClampNeg < 4
  · exact br_t (by rw [zk_4, zi_lt (by omega) (by omega) (by omega) (by omega)]; exact w) (hno (by omega))
  · refine br_f (by rw [zk_4, zi_lt (by omega) (by omega) (by omega) (by omega)]; exact w) ?_
    by_cases w2 : G.1 0 p.toNatClampNeg = 6
    · exact br_t (by rw [w2]; rfl) (hno (by omega))
    · refine br_f (by rw [zk_6, zi_eq (by omega) (by omega) (by omega) (by omega)]; exact w2) ?_
      by_cases w3 : G.1 0 p.toNatClampNeg ≤ 9
      · have hfl : gp_flow G p.toNatClampNeg = gp_rest (gp_fin (gp_loop 33 G p.toNatClampNeg) p.toNatClampNeg) p.toNatClampNeg := if_pos (by omega)
        rw [hfl] at hP
        have hu := b2.2.2.2.2.1 (by omega)
        have hl := b2.1 (by omega)
        have hkk := b2.2.2.2.2.2
        obtain ⟨y1, y2, y3, y4⟩ := gv_yy hI he (by omega)
        have hlast : a_last p.toNatClampNeg = zl_n (G.1 6 p.toNatClampNeg) := by rw [← y2]; exact h_last _ he
        refine br_t (by rw [zk_9, zi_le (by omega) (by omega) (by omega) (by omega)]; exact w3) ⟨hp, hp, ?_⟩
        by_cases w4 : G.1 6 p.toNatClampNeg ≤ G.1 4 p.toNatClampNeg
        · refine br_t (by rw [hlast, h_nxt _ he, zl_le (by omega) (by omega) (by omega) (by omega)]; exact w4) ⟨1, ?_⟩
          have hst : gp_loop 33 G p.toNatClampNeg = G := by
            have hn0 : gp_nn G p.toNatClampNeg ≤ 0 := by unfold gp_nn; omega
            show (if _ then _ else _) = _
            exact if_neg (by omega)
          rw [hst] at hP
          exact yf_exit (f := 0) hv hI hp (by omega) hP
        · refine br_f (by rw [hlast, h_nxt _ he, zl_le (by omega) (by omega) (by omega) (by omega)]; exact w4) ⟨36, ?_⟩
          exact yf_47 hp 33 36 G f_now f_sent a_seq a_flags a_acked a_window a_many a_data a_rows a_state a_error a_iss a_una a_nxt a_max a_last a_closed a_written a_irs a_unread a_bytes a_held a_rcv a_finAt a_marked a_wnd a_peak a_half a_rto a_same a_tries a_smooth a_spread a_byNumber a_byAck a_sampled a_told a_retry a_ackAt a_waitAt a_timedAt a_timed (by omega) hv hI (by omega) (by omega) (by omega) hP
      · exact br_f (by rw [zk_9, zi_le (by omega) (by omega) (by omega) (by omega)]; exact w3) (hno (by omega))
