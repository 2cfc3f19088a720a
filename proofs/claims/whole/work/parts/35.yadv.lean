/-! the reference: acknowledgements -/
theorem ya_231 {q : Int} {G : gm_T} {f_now : Int32} {f_sent : Int32} {a_seq : (Nat → Int32)} {a_flags : (Nat → Int32)} {a_acked : (Nat → Int32)} {a_window : (Nat → Int32)} {a_many : (Nat → Int32)} {a_data : (Nat → Int32)} {a_rows : (Nat → Int32)} {a_state : (Nat → Int32)} {a_error : (Nat → Int32)} {a_iss : (Nat → Int32)} {a_una : (Nat → Int64)} {a_nxt : (Nat → Int64)} {a_max : (Nat → Int64)} {a_last : (Nat → Int64)} {a_closed : (Nat → Int32)} {a_written : (Nat → Int32)} {a_irs : (Nat → Int32)} {a_unread : (Nat → Int32)} {a_bytes : (Nat → Int32)} {a_held : (Nat → Int32)} {a_rcv : (Nat → Int64)} {a_finAt : (Nat → Int64)} {a_marked : (Nat → Int32)} {a_wnd : (Nat → Int32)} {a_peak : (Nat → Int32)} {a_half : (Nat → Int32)} {a_rto : (Nat → Int32)} {a_same : (Nat → Int32)} {a_tries : (Nat → Int32)} {a_smooth : (Nat → Int32)} {a_spread : (Nat → Int32)} {a_byNumber : (Nat → Int32)} {a_byAck : (Nat → Int32)} {a_sampled : (Nat → Int32)} {a_told : (Nat → Int32)} {a_retry : (Nat → Int32)} {a_ackAt : (Nat → Int32)} {a_waitAt : (Nat → Int32)} {a_timedAt : (Nat → Int32)} {a_timed : (Nat → Int64)} {p : Int32} {P : SY → Prop} (hv : vy_S q G (f_now, f_sent, a_seq, a_flags, a_acked, a_window, a_many, a_data, a_rows, a_state, a_error, a_iss, a_una, a_nxt, a_max, a_last, a_closed, a_written, a_irs, a_unread, a_bytes, a_held, a_rcv, a_finAt, a_marked, a_wnd, a_peak, a_half, a_rto, a_same, a_tries, a_smooth, a_spread, a_byNumber, a_byAck, a_sampled, a_told, a_retry, a_ackAt, a_waitAt, a_timedAt, a_timed)) (hp : vp_in p 2) (hcl : G.1 29 p.toNatClampNeg = 0 ∨ G.1 29 p.toNatClampNeg = 1) (hs0 : 0 ≤ G.1 0 p.toNatClampNeg) (hs1 : G.1 0 p.toNatClampNeg ≤ 10) (hyu : G.1 32 p.toNatClampNeg = G.1 3 p.toNatClampNeg) (hyl : G.1 33 p.toNatClampNeg = G.1 6 p.toNatClampNeg) (u0 : 0 ≤ G.1 3 p.toNatClampNeg) (u1 : G.1 3 p.toNatClampNeg ≤ 1000000) (l0 : -10 ≤ G.1 6 p.toNatClampNeg) (l1 : G.1 6 p.toNatClampNeg ≤ 2000000) (hP : ∀ u', vy_S q (gp_finack G p.toNatClampNeg) u' → P u') : vp_in p 2 ∧ ((((a_closed p.toNatClampNeg) = 0 → (P (f_now, f_sent, a_seq, a_flags, a_acked, a_window, a_many, a_data, a_rows, a_state, a_error, a_iss, a_una, a_nxt, a_max, a_last, a_closed, a_written, a_irs, a_unread, a_bytes, a_held, a_rcv, a_finAt, a_marked, a_wnd, a_peak, a_half, a_rto, a_same, a_tries, a_smooth, a_spread, a_byNumber, a_byAck, a_sampled, a_told, a_retry, a_ackAt, a_waitAt, a_timedAt, a_timed))) ∧ (¬ (a_closed p.toNatClampNeg) = 0 → (vp_in p 2 ∧ (vp_in p 2 ∧ ((((a_last p.toNatClampNeg) < (a_una p.toNatClampNeg) → (vp_in p 2 ∧ ((((a_state p.toNatClampNeg) = 5 → (vp_in p 2 ∧ ∀ a_state_135 : Nat → Int32, a_state_135 = upd a_state p.toNatClampNeg 6 → (P (f_now, f_sent, a_seq, a_flags, a_acked, a_window, a_many, a_data, a_rows, a_state_135, a_error, a_iss, a_una, a_nxt, a_max, a_last, a_closed, a_written, a_irs, a_unread, a_bytes, a_held, a_rcv, a_finAt, a_marked, a_wnd, a_peak, a_half, a_rto, a_same, a_tries, a_smooth, a_spread, a_byNumber, a_byAck, a_sampled, a_told, a_retry, a_ackAt, a_waitAt, a_timedAt, a_timed)))) ∧ (¬ (a_state p.toNatClampNeg) = 5 → (vp_in p 2 ∧ ((((a_state p.toNatClampNeg) = 8 → (wpY_linger (fun u => match u with | (f_now, f_sent, a_seq, a_flags, a_acked, a_window, a_many, a_data, a_rows, a_state, a_error, a_iss, a_una, a_nxt, a_max, a_last, a_closed, a_written, a_irs, a_unread, a_bytes, a_held, a_rcv, a_finAt, a_marked, a_wnd, a_peak, a_half, a_rto, a_same, a_tries, a_smooth, a_spread, a_byNumber, a_byAck, a_sampled, a_told, a_retry, a_ackAt, a_waitAt, a_timedAt, a_timed) => (P (f_now, f_sent, a_seq, a_flags, a_acked, a_window, a_many, a_data, a_rows, a_state, a_error, a_iss, a_una, a_nxt, a_max, a_last, a_closed, a_written, a_irs, a_unread, a_bytes, a_held, a_rcv, a_finAt, a_marked, a_wnd, a_peak, a_half, a_rto, a_same, a_tries, a_smooth, a_spread, a_byNumber, a_byAck, a_sampled, a_told, a_retry, a_ackAt, a_waitAt, a_timedAt, a_timed))) (f_now, f_sent, a_seq, a_flags, a_acked, a_window, a_many, a_data, a_rows, a_state, a_error, a_iss, a_una, a_nxt, a_max, a_last, a_closed, a_written, a_irs, a_unread, a_bytes, a_held, a_rcv, a_finAt, a_marked, a_wnd, a_peak, a_half, a_rto, a_same, a_tries, a_smooth, a_spread, a_byNumber, a_byAck, a_sampled, a_told, a_retry, a_ackAt, a_waitAt, a_timedAt, a_timed) p)) ∧ (¬ (a_state p.toNatClampNeg) = 8 → (vp_in p 2 ∧ ((((a_state p.toNatClampNeg) = 9 → (vp_in p 2 ∧ (wpY_over (fun u => match u with | (f_now, f_sent, a_seq, a_flags, a_acked, a_window, a_many, a_data, a_rows, a_state, a_error, a_iss, a_una, a_nxt, a_max, a_last, a_closed, a_written, a_irs, a_unread, a_bytes, a_held, a_rcv, a_finAt, a_marked, a_wnd, a_peak, a_half, a_rto, a_same, a_tries, a_smooth, a_spread, a_byNumber, a_byAck, a_sampled, a_told, a_retry, a_ackAt, a_waitAt, a_timedAt, a_timed) => (P (f_now, f_sent, a_seq, a_flags, a_acked, a_window, a_many, a_data, a_rows, a_state, a_error, a_iss, a_una, a_nxt, a_max, a_last, a_closed, a_written, a_irs, a_unread, a_bytes, a_held, a_rcv, a_finAt, a_marked, a_wnd, a_peak, a_half, a_rto, a_same, a_tries, a_smooth, a_spread, a_byNumber, a_byAck, a_sampled, a_told, a_retry, a_ackAt, a_waitAt, a_timedAt, a_timed))) (f_now, f_sent, a_seq, a_flags, a_acked, a_window, a_many, a_data, a_rows, a_state, a_error, a_iss, a_una, a_nxt, a_max, a_last, a_closed, a_written, a_irs, a_unread, a_bytes, a_held, a_rcv, a_finAt, a_marked, a_wnd, a_peak, a_half, a_rto, a_same, a_tries, a_smooth, a_spread, a_byNumber, a_byAck, a_sampled, a_told, a_retry, a_ackAt, a_waitAt, a_timedAt, a_timed) p (a_error p.toNatClampNeg)))) ∧ (¬ (a_state p.toNatClampNeg) = 9 → (P (f_now, f_sent, a_seq, a_flags, a_acked, a_window, a_many, a_data, a_rows, a_state, a_error, a_iss, a_una, a_nxt, a_max, a_last, a_closed, a_written, a_irs, a_unread, a_bytes, a_held, a_rcv, a_finAt, a_marked, a_wnd, a_peak, a_half, a_rto, a_same, a_tries, a_smooth, a_spread, a_byNumber, a_byAck, a_sampled, a_told, a_retry, a_ackAt, a_waitAt, a_timedAt, a_timed))))))))))))))) ∧ (¬ (a_last p.toNatClampNeg) < (a_una p.toNatClampNeg) → (P (f_now, f_sent, a_seq, a_flags, a_acked, a_window, a_many, a_data, a_rows, a_state, a_error, a_iss, a_una, a_nxt, a_max, a_last, a_closed, a_written, a_irs, a_unread, a_bytes, a_held, a_rcv, a_finAt, a_marked, a_wnd, a_peak, a_half, a_rto, a_same, a_tries, a_smooth, a_spread, a_byNumber, a_byAck, a_sampled, a_told, a_retry, a_ackAt, a_waitAt, a_timedAt, a_timed)))))))))) := by
  have hv0 := hv
  obtain ⟨h_now, h_sent, h_seq, h_flags, h_acked, h_window, h_many, h_data, h_rows, h_state, h_error, h_iss, h_una, h_nxt, h_max, h_last, h_closed, h_written, h_irs, h_unread, h_bytes, h_held, h_rcv, h_finAt, h_marked, h_wnd, h_peak, h_half, h_rto, h_same, h_tries, h_smooth, h_spread, h_byNumber, h_byAck, h_sampled, h_told, h_retry, h_ackAt, h_waitAt, h_timedAt, h_timed⟩ := hv0
  have he := pe_lt hp
  have e1 : a_last p.toNatClampNeg < a_una p.toNatClampNeg ↔ G.1 6 p.toNatClampNeg < G.1 3 p.toNatClampNeg := by
    rw [h_last _ he, h_una _ he, hyu, hyl, zl_lt (by omega) (by omega) (by omega) (by omega)]
  have hno : ¬ (G.1 29 p.toNatClampNeg = 1 ∧ G.1 6 p.toNatClampNeg < G.1 3 p.toNatClampNeg) → P (f_now, f_sent, a_seq, a_flags, a_acked, a_window, a_many, a_data, a_rows, a_state, a_error, a_iss, a_una, a_nxt, a_max, a_last, a_closed, a_written, a_irs, a_unread, a_bytes, a_held, a_rcv, a_finAt, a_marked, a_wnd, a_peak, a_half, a_rto, a_same, a_tries, a_smooth, a_spread, a_byNumber, a_byAck, a_sampled, a_told, a_retry, a_ackAt, a_waitAt, a_timedAt, a_timed) := by
    intro z
    have : gp_finack G p.toNatClampNeg = G := if_neg z
    rw [this] at hP
    exact hP _ hv
  refine ⟨hp, ?_⟩
  by_cases w : G.1 29 p.toNatClampNeg = 0
  · exact br_t (by rw [h_closed _ he, w]; rfl) (hno (by omega))
  · refine br_f (by rw [h_closed _ he, zk_0, zi_eq (by omega) (by omega) (by omega) (by omega)]; exact w) ⟨hp, hp, ?_⟩
    by_cases w2 : G.1 6 p.toNatClampNeg < G.1 3 p.toNatClampNeg
    · have hfa : gp_finack G p.toNatClampNeg = (if G.1 0 p.toNatClampNeg = 5 then gp_put G 0 p.toNatClampNeg 6 else if G.1 0 p.toNatClampNeg = 8 then gp_wait G p.toNatClampNeg else if G.1 0 p.toNatClampNeg = 9 then gp_over G p.toNatClampNeg (G.1 1 p.toNatClampNeg) else G) := if_pos ⟨by omega, w2⟩
      rw [hfa] at hP
      refine br_t (e1.mpr w2) ⟨hp, ?_⟩
      by_cases s5 : G.1 0 p.toNatClampNeg = 5
      · rw [if_pos s5] at hP
        exact br_t (by rw [h_state _ he, s5]; rfl) ⟨hp, nm_e (hP _ (vy_put hv rfl))⟩
      · rw [if_neg s5] at hP
        refine br_f (by rw [h_state _ he, zk_5, zi_eq (by omega) (by omega) (by omega) (by omega)]; exact s5) ⟨hp, ?_⟩
        by_cases s8 : G.1 0 p.toNatClampNeg = 8
        · rw [if_pos s8] at hP
          refine br_t (by rw [h_state _ he, s8]; rfl) (yl_linger hv hp fun u1 hv1 => ?_)
          have := hP u1 hv1
          obtain ⟨f_now, f_sent, a_seq, a_flags, a_acked, a_window, a_many, a_data, a_rows, a_state, a_error, a_iss, a_una, a_nxt, a_max, a_last, a_closed, a_written, a_irs, a_unread, a_bytes, a_held, a_rcv, a_finAt, a_marked, a_wnd, a_peak, a_half, a_rto, a_same, a_tries, a_smooth, a_spread, a_byNumber, a_byAck, a_sampled, a_told, a_retry, a_ackAt, a_waitAt, a_timedAt, a_timed⟩ := u1
          exact this
        · rw [if_neg s8] at hP
          refine br_f (by rw [h_state _ he, zk_8, zi_eq (by omega) (by omega) (by omega) (by omega)]; exact s8) ⟨hp, ?_⟩
          by_cases s9 : G.1 0 p.toNatClampNeg = 9
          · rw [if_pos s9] at hP
            refine br_t (by rw [h_state _ he, s9]; rfl) ⟨hp, yl_over hv hp (h_error _ he) fun u1 hv1 => ?_⟩
            have := hP u1 hv1
            obtain ⟨f_now, f_sent, a_seq, a_flags, a_acked, a_window, a_many, a_data, a_rows, a_state, a_error, a_iss, a_una, a_nxt, a_max, a_last, a_closed, a_written, a_irs, a_unread, a_bytes, a_held, a_rcv, a_finAt, a_marked, a_wnd, a_peak, a_half, a_rto, a_same, a_tries, a_smooth, a_spread, a_byNumber, a_byAck, a_sampled, a_told, a_retry, a_ackAt, a_waitAt, a_timedAt, a_timed⟩ := u1
            exact this
          · rw [if_neg s9] at hP
            exact br_f (by rw [h_state _ he, zk_9, zi_eq (by omega) (by omega) (by omega) (by omega)]; exact s9) (hP _ hv)
    · exact br_f (fun z => w2 (e1.mp z)) (hno (fun z => w2 z.2))
theorem ya_106 {q : Int} {G : gm_T} {f_now : Int32} {f_sent : Int32} {a_seq : (Nat → Int32)} {a_flags : (Nat → Int32)} {a_acked : (Nat → Int32)} {a_window : (Nat → Int32)} {a_many : (Nat → Int32)} {a_data : (Nat → Int32)} {a_rows : (Nat → Int32)} {a_state : (Nat → Int32)} {a_error : (Nat → Int32)} {a_iss : (Nat → Int32)} {a_una : (Nat → Int64)} {a_nxt : (Nat → Int64)} {a_max : (Nat → Int64)} {a_last : (Nat → Int64)} {a_closed : (Nat → Int32)} {a_written : (Nat → Int32)} {a_irs : (Nat → Int32)} {a_unread : (Nat → Int32)} {a_bytes : (Nat → Int32)} {a_held : (Nat → Int32)} {a_rcv : (Nat → Int64)} {a_finAt : (Nat → Int64)} {a_marked : (Nat → Int32)} {a_wnd : (Nat → Int32)} {a_peak : (Nat → Int32)} {a_half : (Nat → Int32)} {a_rto : (Nat → Int32)} {a_same : (Nat → Int32)} {a_tries : (Nat → Int32)} {a_smooth : (Nat → Int32)} {a_spread : (Nat → Int32)} {a_byNumber : (Nat → Int32)} {a_byAck : (Nat → Int32)} {a_sampled : (Nat → Int32)} {a_told : (Nat → Int32)} {a_retry : (Nat → Int32)} {a_ackAt : (Nat → Int32)} {a_waitAt : (Nat → Int32)} {a_timedAt : (Nat → Int32)} {a_timed : (Nat → Int64)} {p : Int32} {P : SY → Prop} (hv : vy_S q G (f_now, f_sent, a_seq, a_flags, a_acked, a_window, a_many, a_data, a_rows, a_state, a_error, a_iss, a_una, a_nxt, a_max, a_last, a_closed, a_written, a_irs, a_unread, a_bytes, a_held, a_rcv, a_finAt, a_marked, a_wnd, a_peak, a_half, a_rto, a_same, a_tries, a_smooth, a_spread, a_byNumber, a_byAck, a_sampled, a_told, a_retry, a_ackAt, a_waitAt, a_timedAt, a_timed)) (hp : vp_in p 2) (hcl : G.1 29 p.toNatClampNeg = 0 ∨ G.1 29 p.toNatClampNeg = 1) (hs0 : 0 ≤ G.1 0 p.toNatClampNeg) (hs1 : G.1 0 p.toNatClampNeg ≤ 10) (hyu : G.1 32 p.toNatClampNeg = G.1 3 p.toNatClampNeg) (hyl : G.1 33 p.toNatClampNeg = G.1 6 p.toNatClampNeg) (hys : G.1 34 p.toNatClampNeg = G.1 18 p.toNatClampNeg) (u0 : 0 ≤ G.1 3 p.toNatClampNeg) (u1 : G.1 3 p.toNatClampNeg ≤ 1000000) (l0 : -10 ≤ G.1 6 p.toNatClampNeg) (l1 : G.1 6 p.toNatClampNeg ≤ 2000000) (m0 : -10 ≤ G.1 5 p.toNatClampNeg) (m1 : G.1 5 p.toNatClampNeg ≤ 1000000) (h0 : 8 ≤ G.1 16 p.toNatClampNeg) (h1 : G.1 16 p.toNatClampNeg ≤ 64) (h2 : 8 ≤ G.1 17 p.toNatClampNeg) (h3 : G.1 17 p.toNatClampNeg ≤ 64) (h4 : 0 ≤ G.1 18 p.toNatClampNeg) (h5 : G.1 18 p.toNatClampNeg ≤ 100000) (hP : ∀ u', vy_S q (gp_finack (gp_adv3 G p.toNatClampNeg) p.toNatClampNeg) u' → P u') : wY_advance_106 P p f_now f_sent a_seq a_flags a_acked a_window a_many a_data a_rows a_state a_error a_iss a_una a_nxt a_max a_last a_closed a_written a_irs a_unread a_bytes a_held a_rcv a_finAt a_marked a_wnd a_peak a_half a_rto a_same a_tries a_smooth a_spread a_byNumber a_byAck a_sampled a_told a_retry a_ackAt a_waitAt a_timedAt a_timed := by
  have hv0 := hv
  obtain ⟨h_now, h_sent, h_seq, h_flags, h_acked, h_window, h_many, h_data, h_rows, h_state, h_error, h_iss, h_una, h_nxt, h_max, h_last, h_closed, h_written, h_irs, h_unread, h_bytes, h_held, h_rcv, h_finAt, h_marked, h_wnd, h_peak, h_half, h_rto, h_same, h_tries, h_smooth, h_spread, h_byNumber, h_byAck, h_sampled, h_told, h_retry, h_ackAt, h_waitAt, h_timedAt, h_timed⟩ := hv0
  have he := pe_lt hp
  have hd : 0 ≤ 64 / G.1 16 p.toNatClampNeg ∧ 64 / G.1 16 p.toNatClampNeg ≤ 64 := ⟨Int.ediv_nonneg (by omega) (by omega), Int.ediv_le_self _ (by omega)⟩
  have huna : a_una p.toNatClampNeg = zl_n (G.1 3 p.toNatClampNeg) := by rw [← hyu]; exact h_una _ he
  have hsame : a_same p.toNatClampNeg = zi_n (G.1 18 p.toNatClampNeg) := by rw [← hys]; exact h_same _ he
  have k188 : ∀ (PX : Nat → Int32), PX = upd a_peak p.toNatClampNeg (zi_n (if 3 ≤ G.1 18 p.toNatClampNeg then G.1 17 p.toNatClampNeg else min 64 (G.1 16 p.toNatClampNeg + (if G.1 16 p.toNatClampNeg < G.1 17 p.toNatClampNeg then 8 else 64 / G.1 16 p.toNatClampNeg)))) → wY_advance_188 P p f_now f_sent a_seq a_flags a_acked a_window a_many a_data a_rows a_state a_error a_iss a_una a_nxt a_max a_last a_closed a_written a_irs a_unread a_bytes a_held a_rcv a_finAt a_marked a_wnd (PX) a_half a_rto a_same a_tries a_smooth a_spread a_byNumber a_byAck a_sampled a_told a_retry a_ackAt a_waitAt a_timedAt a_timed := by
    intro PX hPX
    subst hPX
    have v3 : ∀ f, f = 29 ∨ f = 0 ∨ f = 32 ∨ f = 3 ∨ f = 33 ∨ f = 6 → (gp_adv3 G p.toNatClampNeg).1 f p.toNatClampNeg = G.1 f p.toNatClampNeg := by
      intro f hf
      rcases hf with rfl | rfl | rfl | rfl | rfl | rfl <;> simp +decide only [gp_adv3, gs_f]
    have fin : ∀ x : Int32, x = zi_n (if G.1 3 p.toNatClampNeg = G.1 5 p.toNatClampNeg then -1 else gm_N G + G.1 19 p.toNatClampNeg) → wY_advance_231 P p x p f_now f_sent a_seq a_flags a_acked a_window a_many a_data a_rows a_state a_error a_iss a_una a_nxt a_max a_last a_closed a_written a_irs a_unread a_bytes a_held a_rcv a_finAt a_marked a_wnd (upd a_peak p.toNatClampNeg (zi_n (if 3 ≤ G.1 18 p.toNatClampNeg then G.1 17 p.toNatClampNeg else min 64 (G.1 16 p.toNatClampNeg + (if G.1 16 p.toNatClampNeg < G.1 17 p.toNatClampNeg then 8 else 64 / G.1 16 p.toNatClampNeg))))) a_half a_rto (upd a_same p.toNatClampNeg 0) a_tries a_smooth a_spread a_byNumber a_byAck a_sampled a_told a_retry a_ackAt a_waitAt a_timedAt a_timed := by
      intro x hx
      unfold wY_advance_231
      refine ⟨hp, nm_e ?_⟩
      refine ya_231 (G := gp_adv3 G p.toNatClampNeg) ?_ hp (by rw [v3 _ (by omega)]; exact hcl) (by rw [v3 _ (by omega)]; exact hs0) (by rw [v3 _ (by omega)]; exact hs1) (by rw [v3 _ (by omega), v3 _ (by omega)]; exact hyu) (by rw [v3 _ (by omega), v3 _ (by omega)]; exact hyl) (by rw [v3 _ (by omega)]; exact u0) (by rw [v3 _ (by omega)]; exact u1) (by rw [v3 _ (by omega)]; exact l0) (by rw [v3 _ (by omega)]; exact l1) hP
      generalize p.toNatClampNeg = e at *
      have o : ∀ e' f, e' ≠ e → (gp_adv3 G e).1 f e' = G.1 f e' := fun e' f y => by simp only [gp_adv3, gs_e y]
      refine (vy_mk h_now h_sent h_seq h_flags h_acked h_window h_many h_data h_rows h_state h_error h_iss h_una h_nxt h_max h_last h_closed h_written h_irs h_unread h_bytes h_held h_rcv h_finAt h_marked h_wnd (vu_e h_peak ?a1 (fun e' y => o _ _ y)) h_half h_rto (vu_e h_same ?a2 (fun e' y => o _ _ y)) h_tries h_smooth h_spread h_byNumber h_byAck h_sampled h_told (vu_e h_retry ?a3 (fun e' y => o _ _ y)) h_ackAt h_waitAt h_timedAt h_timed)
      case a1 => simp +decide only [gp_adv3, gs_s, gs_f]
      case a2 => simp +decide only [gp_adv3, gs_s, gs_f] <;> rfl
      case a3 => simp +decide only [gp_adv3, gs_s, gs_f]; exact hx
    unfold wY_advance_188
    refine ⟨hp, nm_e ⟨hp, hp, ?_⟩⟩
    by_cases w : G.1 3 p.toNatClampNeg = G.1 5 p.toNatClampNeg
    · exact br_t (by rw [huna, h_max _ he, w]) (fin _ (by rw [if_pos w]; rfl))
    · exact br_f (by rw [huna, h_max _ he, zl_eq (by omega) (by omega) (by omega) (by omega)]; exact w) ⟨hp, fin _ (by rw [if_neg w, h_now, h_rto _ he, zi_add])⟩
  have k169 : ∀ (t : Int), 0 ≤ t → t ≤ 200 → min 64 t = (if 3 ≤ G.1 18 p.toNatClampNeg then G.1 17 p.toNatClampNeg else min 64 (G.1 16 p.toNatClampNeg + (if G.1 16 p.toNatClampNeg < G.1 17 p.toNatClampNeg then 8 else 64 / G.1 16 p.toNatClampNeg))) → wY_advance_169 P p f_now f_sent a_seq a_flags a_acked a_window a_many a_data a_rows a_state a_error a_iss a_una a_nxt a_max a_last a_closed a_written a_irs a_unread a_bytes a_held a_rcv a_finAt a_marked a_wnd (upd a_peak p.toNatClampNeg (zi_n t)) a_half a_rto a_same a_tries a_smooth a_spread a_byNumber a_byAck a_sampled a_told a_retry a_ackAt a_waitAt a_timedAt a_timed := by
    intro t t0 t1 ht
    unfold wY_advance_169
    rw [← ht] at k188
    refine ⟨hp, ?_⟩
    rw [zu_s]
    by_cases w : t ≤ 64
    · refine br_t (by rw [zk_64, zi_le (by omega) (by omega) (by omega) (by omega)]; exact w) (k188 _ (by congr 2; omega))
    · refine br_f (by rw [zk_64, zi_le (by omega) (by omega) (by omega) (by omega)]; exact w) ⟨hp, nm_e (k188 _ ?_)⟩
      funext j
      unfold upd
      split
      · rw [zk_64]; congr 1; omega
      · rfl
  unfold wY_advance_106
  refine ⟨hp, ?_⟩
  by_cases w : G.1 18 p.toNatClampNeg < 3
  · have k167 : ∀ (z : Int32) (s : Int), z = zi_n s → 0 ≤ s → s ≤ 64 → s = (if G.1 16 p.toNatClampNeg < G.1 17 p.toNatClampNeg then 8 else 64 / G.1 16 p.toNatClampNeg) → wY_advance_167 P p z (a_peak p.toNatClampNeg) p f_now f_sent a_seq a_flags a_acked a_window a_many a_data a_rows a_state a_error a_iss a_una a_nxt a_max a_last a_closed a_written a_irs a_unread a_bytes a_held a_rcv a_finAt a_marked a_wnd a_peak a_half a_rto a_same a_tries a_smooth a_spread a_byNumber a_byAck a_sampled a_told a_retry a_ackAt a_waitAt a_timedAt a_timed := by
      intro z s hz s0 s1 hs
      unfold wY_advance_167
      refine ⟨hp, nm_r (e' := upd a_peak p.toNatClampNeg (zi_n (G.1 16 p.toNatClampNeg + s))) (by rw [h_peak _ he, hz, zi_add]) (k169 _ (by omega) (by omega) ?_)⟩
      rw [if_neg (by omega), ← hs]
    refine br_t (by rw [hsame, zk_3, zi_lt (by omega) (by omega) (by omega) (by omega)]; exact w) ⟨hp, hp, hp, ?_⟩
    by_cases w2 : G.1 17 p.toNatClampNeg ≤ G.1 16 p.toNatClampNeg
    · exact br_t (by rw [h_half _ he, h_peak _ he, zi_le (by omega) (by omega) (by omega) (by omega)]; exact w2) ⟨hp, by rw [h_peak _ he, zk_0, zi_eq (by omega) (by omega) (by omega) (by omega)]; omega, k167 _ (64 / G.1 16 p.toNatClampNeg) (by rw [h_peak _ he, zk_64, zi_div (by omega) (by omega) (by omega) (by omega)]) hd.1 hd.2 (by rw [if_neg (by omega)])⟩
    · exact br_f (by rw [h_half _ he, h_peak _ he, zi_le (by omega) (by omega) (by omega) (by omega)]; exact w2) (k167 8 8 zk_8 (by omega) (by omega) (by rw [if_pos (by omega)]))
  · refine br_f (by rw [hsame, zk_3, zi_lt (by omega) (by omega) (by omega) (by omega)]; exact w) ⟨hp, hp, nm_r (e' := upd a_peak p.toNatClampNeg (zi_n (G.1 17 p.toNatClampNeg))) (by rw [h_half _ he]) (k169 _ (by omega) (by omega) ?_)⟩
    rw [if_pos (by omega)]; omega
theorem yl_advance {q : Int} {G : gm_T} {u : SY} {p x : Int32} {P : SY → Prop} {a : Int} (hv : vy_S q G u) (hp : vp_in p 2) (ok : aq_ok G p.toNatClampNeg a) (hcl : G.1 29 p.toNatClampNeg = 0 ∨ G.1 29 p.toNatClampNeg = 1) (hs0 : 0 ≤ G.1 0 p.toNatClampNeg) (hs1 : G.1 0 p.toNatClampNeg ≤ 10) (hx : x = zi_n a) (hP : ∀ u', vy_S q (gp_adv G p.toNatClampNeg a) u' → P u') : wpY_advance P u p x := by
  obtain ⟨f_now, f_sent, a_seq, a_flags, a_acked, a_window, a_many, a_data, a_rows, a_state, a_error, a_iss, a_una, a_nxt, a_max, a_last, a_closed, a_written, a_irs, a_unread, a_bytes, a_held, a_rcv, a_finAt, a_marked, a_wnd, a_peak, a_half, a_rto, a_same, a_tries, a_smooth, a_spread, a_byNumber, a_byAck, a_sampled, a_told, a_retry, a_ackAt, a_waitAt, a_timedAt, a_timed⟩ := u
  have hv0 := hv
  obtain ⟨h_now, h_sent, h_seq, h_flags, h_acked, h_window, h_many, h_data, h_rows, h_state, h_error, h_iss, h_una, h_nxt, h_max, h_last, h_closed, h_written, h_irs, h_unread, h_bytes, h_held, h_rcv, h_finAt, h_marked, h_wnd, h_peak, h_half, h_rto, h_same, h_tries, h_smooth, h_spread, h_byNumber, h_byAck, h_sampled, h_told, h_retry, h_ackAt, h_waitAt, h_timedAt, h_timed⟩ := hv0
  have he := pe_lt hp
  obtain ⟨k1, k2, k3, k4, k5, k6, k7, k8, k9, l1, l2, l3, l4, l5, l6, l7, l8, l9, m1, m2, m3, m4⟩ := ok
  have v1 : ∀ f, f = 24 ∨ f = 16 ∨ f = 17 ∨ f = 18 ∨ f = 34 ∨ f = 5 ∨ f = 6 ∨ f = 33 ∨ f = 29 ∨ f = 0 ∨ f = 25 ∨ f = 26 ∨ f = 27 ∨ f = 28 → (gp_adv1 G p.toNatClampNeg a).1 f p.toNatClampNeg = G.1 f p.toNatClampNeg := by
    intro f hf
    rcases hf with rfl | rfl | rfl | rfl | rfl | rfl | rfl | rfl | rfl | rfl | rfl | rfl | rfl | rfl <;> simp +decide only [gp_adv1, gs_f]
  have vU : (gp_adv1 G p.toNatClampNeg a).1 3 p.toNatClampNeg = G.1 3 p.toNatClampNeg + a := by simp +decide only [gp_adv1, gs_s, gs_f]
  have vYU : (gp_adv1 G p.toNatClampNeg a).1 32 p.toNatClampNeg = G.1 3 p.toNatClampNeg + a := by simp +decide only [gp_adv1, gs_s, gs_f]
  have vN : (gp_adv1 G p.toNatClampNeg a).1 4 p.toNatClampNeg = max (G.1 4 p.toNatClampNeg) (G.1 3 p.toNatClampNeg + a) := by simp +decide only [gp_adv1, gs_s, gs_f]
  have oN : ∀ e' f, e' ≠ p.toNatClampNeg → (gp_adv1 G p.toNatClampNeg a).1 f e' = G.1 f e' := fun e' f y => by simp only [gp_adv1, gs_e y]
  have key : ∀ (NX : Nat → Int64) (WX : Nat → Int32), WX = upd a_wnd p.toNatClampNeg (zi_n (max (G.1 12 p.toNatClampNeg - a) 0)) → (∀ e', e' < 2 → NX e' = zl_n ((gp_adv1 G p.toNatClampNeg a).1 4 e')) → vy_S q (gp_adv1 G p.toNatClampNeg a) (f_now, f_sent, a_seq, a_flags, a_acked, a_window, a_many, a_data, a_rows, a_state, a_error, a_iss, vp_updL a_una p.toNatClampNeg (zl_n (G.1 3 p.toNatClampNeg + a)), NX, a_max, a_last, a_closed, a_written, a_irs, a_unread, a_bytes, a_held, a_rcv, a_finAt, a_marked, WX, a_peak, a_half, a_rto, a_same, upd a_tries p.toNatClampNeg 0, a_smooth, a_spread, a_byNumber, a_byAck, a_sampled, a_told, a_retry, a_ackAt, a_waitAt, a_timedAt, a_timed) := by
    intro NX WX hW hN
    subst hW
    generalize p.toNatClampNeg = e at *
    refine (vy_mk h_now h_sent h_seq h_flags h_acked h_window h_many h_data h_rows h_state h_error h_iss (vu_l h_una ?a1 (fun e' y => oN _ _ y)) (hN) h_max h_last h_closed h_written h_irs h_unread h_bytes h_held h_rcv h_finAt h_marked (vu_e h_wnd ?a2 (fun e' y => oN _ _ y)) h_peak h_half h_rto h_same (vu_e h_tries ?a3 (fun e' y => oN _ _ y)) h_smooth h_spread h_byNumber h_byAck h_sampled h_told h_retry h_ackAt h_waitAt h_timedAt h_timed)
    case a1 => rw [vYU]
    case a2 => simp +decide only [gp_adv1, gs_s, gs_f]
    case a3 => simp +decide only [gp_adv1, gs_s, gs_f] <;> rfl
  have k67 : ∀ (NX : Nat → Int64) (WX : Nat → Int32), WX = upd a_wnd p.toNatClampNeg (zi_n (max (G.1 12 p.toNatClampNeg - a) 0)) → (∀ e', e' < 2 → NX e' = zl_n ((gp_adv1 G p.toNatClampNeg a).1 4 e')) → wY_advance_67 P p f_now f_sent a_seq a_flags a_acked a_window a_many a_data a_rows a_state a_error a_iss (vp_updL a_una p.toNatClampNeg (zl_n (G.1 3 p.toNatClampNeg + a))) (NX) a_max a_last a_closed a_written a_irs a_unread a_bytes a_held a_rcv a_finAt a_marked (WX) a_peak a_half a_rto a_same a_tries a_smooth a_spread a_byNumber a_byAck a_sampled a_told a_retry a_ackAt a_waitAt a_timedAt a_timed := by
    intro NX WX hW hN
    have hv1 := key NX WX hW hN
    unfold wY_advance_67
    refine ⟨hp, nm_e ⟨hp, ?_⟩⟩
    rw [h_timed _ he, zv_s]
    have hnom : gp_adv2 (gp_adv1 G p.toNatClampNeg a) p.toNatClampNeg = gp_adv1 G p.toNatClampNeg a → wY_advance_106 P p f_now f_sent a_seq a_flags a_acked a_window a_many a_data a_rows a_state a_error a_iss (vp_updL a_una p.toNatClampNeg (zl_n (G.1 3 p.toNatClampNeg + a))) (NX) a_max a_last a_closed a_written a_irs a_unread a_bytes a_held a_rcv a_finAt a_marked (WX) a_peak a_half a_rto a_same (upd a_tries p.toNatClampNeg 0) a_smooth a_spread a_byNumber a_byAck a_sampled a_told a_retry a_ackAt a_waitAt a_timedAt a_timed := by
      intro e2
      have hG : gp_adv G p.toNatClampNeg a = gp_finack (gp_adv3 (gp_adv1 G p.toNatClampNeg a) p.toNatClampNeg) p.toNatClampNeg := by unfold gp_adv; rw [e2]
      rw [hG] at hP
      exact ya_106 hv1 hp (by rw [v1 _ (by omega)]; exact hcl) (by rw [v1 _ (by omega)]; exact hs0) (by rw [v1 _ (by omega)]; exact hs1) (by rw [vYU, vU]) (by rw [v1 _ (by omega), v1 _ (by omega)]; exact m3) (by rw [v1 _ (by omega), v1 _ (by omega)]; exact m4) (by rw [vU]; omega) (by rw [vU]; omega) (by rw [v1 _ (by omega)]; omega) (by rw [v1 _ (by omega)]; omega) (by rw [v1 _ (by omega)]; omega) (by rw [v1 _ (by omega)]; omega) (by rw [v1 _ (by omega)]; exact l5) (by rw [v1 _ (by omega)]; exact l6) (by rw [v1 _ (by omega)]; exact l7) (by rw [v1 _ (by omega)]; exact l8) (by rw [v1 _ (by omega)]; exact l9) (by rw [v1 _ (by omega)]; exact m1) hP
    by_cases w : G.1 24 p.toNatClampNeg < 0
    · exact br_t (by rw [zk_l0, zl_lt (by omega) (by omega) (by omega) (by omega)]; exact w) (hnom (if_neg (fun y => by have := v1 24 (by omega); omega)))
    · obtain ⟨t1, t2, t3⟩ := l4 (by omega)
      refine br_f (by rw [zk_l0, zl_lt (by omega) (by omega) (by omega) (by omega)]; exact w) ⟨hp, hp, ?_⟩
      by_cases w2 : G.1 3 p.toNatClampNeg + a ≤ G.1 24 p.toNatClampNeg
      · exact br_t (by rw [zl_le (by omega) (by omega) (by omega) (by omega)]; exact w2) (hnom (if_neg (fun y => by have := v1 24 (by omega); rw [vU] at y; omega)))
      · refine br_f (by rw [zl_le (by omega) (by omega) (by omega) (by omega)]; exact w2) ?_
        have e2 : gp_adv2 (gp_adv1 G p.toNatClampNeg a) p.toNatClampNeg = gp_meas (gp_adv1 G p.toNatClampNeg a) p.toNatClampNeg := if_pos ⟨by rw [v1 _ (by omega)]; omega, by rw [v1 _ (by omega), vU]; omega⟩
        have hG : gp_adv G p.toNatClampNeg a = gp_finack (gp_adv3 (gp_meas (gp_adv1 G p.toNatClampNeg a) p.toNatClampNeg) p.toNatClampNeg) p.toNatClampNeg := by unfold gp_adv; rw [e2]
        rw [hG] at hP
        have mo : mq_ok (gp_adv1 G p.toNatClampNeg a) p.toNatClampNeg := by
          unfold mq_ok
          rw [v1 24 (by omega), v1 25 (by omega), v1 26 (by omega), v1 27 (by omega), v1 28 (by omega)]
          exact t3
        have mv : ∀ f, f = 16 ∨ f = 17 ∨ f = 18 ∨ f = 34 ∨ f = 5 ∨ f = 6 ∨ f = 33 ∨ f = 29 ∨ f = 0 → (gp_meas (gp_adv1 G p.toNatClampNeg a) p.toNatClampNeg).1 f p.toNatClampNeg = G.1 f p.toNatClampNeg := by
          intro f hf
          rcases hf with rfl | rfl | rfl | rfl | rfl | rfl | rfl | rfl | rfl <;> simp +decide only [gp_meas, gp_adv1, gs_f]
        have mU : (gp_meas (gp_adv1 G p.toNatClampNeg a) p.toNatClampNeg).1 3 p.toNatClampNeg = G.1 3 p.toNatClampNeg + a := by simp +decide only [gp_meas, gp_adv1, gs_s, gs_f]
        have mYU : (gp_meas (gp_adv1 G p.toNatClampNeg a) p.toNatClampNeg).1 32 p.toNatClampNeg = G.1 3 p.toNatClampNeg + a := by simp +decide only [gp_meas, gp_adv1, gs_s, gs_f]
        refine yl_measure hv1 hp mo fun u2 hv2 => ?_
        obtain ⟨f_now, f_sent, a_seq, a_flags, a_acked, a_window, a_many, a_data, a_rows, a_state, a_error, a_iss, a_una, a_nxt, a_max, a_last, a_closed, a_written, a_irs, a_unread, a_bytes, a_held, a_rcv, a_finAt, a_marked, a_wnd, a_peak, a_half, a_rto, a_same, a_tries, a_smooth, a_spread, a_byNumber, a_byAck, a_sampled, a_told, a_retry, a_ackAt, a_waitAt, a_timedAt, a_timed⟩ := u2
        exact ya_106 hv2 hp (by rw [mv _ (by omega)]; exact hcl) (by rw [mv _ (by omega)]; exact hs0) (by rw [mv _ (by omega)]; exact hs1) (by rw [mYU, mU]) (by rw [mv _ (by omega), mv _ (by omega)]; exact m3) (by rw [mv _ (by omega), mv _ (by omega)]; exact m4) (by rw [mU]; omega) (by rw [mU]; omega) (by rw [mv _ (by omega)]; omega) (by rw [mv _ (by omega)]; omega) (by rw [mv _ (by omega)]; omega) (by rw [mv _ (by omega)]; omega) (by rw [mv _ (by omega)]; exact l5) (by rw [mv _ (by omega)]; exact l6) (by rw [mv _ (by omega)]; exact l7) (by rw [mv _ (by omega)]; exact l8) (by rw [mv _ (by omega)]; exact l9) (by rw [mv _ (by omega)]; exact m1) hP
  have k38 : ∀ z : Int32, z = zi_n (max (G.1 12 p.toNatClampNeg - a) 0) → wY_advance_38 P p z p f_now f_sent a_seq a_flags a_acked a_window a_many a_data a_rows a_state a_error a_iss (vp_updL a_una p.toNatClampNeg (zl_n (G.1 3 p.toNatClampNeg + a))) a_nxt a_max a_last a_closed a_written a_irs a_unread a_bytes a_held a_rcv a_finAt a_marked a_wnd a_peak a_half a_rto a_same a_tries a_smooth a_spread a_byNumber a_byAck a_sampled a_told a_retry a_ackAt a_waitAt a_timedAt a_timed := by
    intro z hz
    unfold wY_advance_38
    refine ⟨hp, nm_e ⟨hp, hp, ?_⟩⟩
    rw [zv_s, h_nxt _ he]
    by_cases w : G.1 3 p.toNatClampNeg + a ≤ G.1 4 p.toNatClampNeg
    · refine br_t (by rw [zl_le (by omega) (by omega) (by omega) (by omega)]; exact w) (k67 a_nxt _ (by rw [hz]) (fun e' he' => ?_))
      by_cases y : e' = p.toNatClampNeg
      · rw [y, vN, h_nxt _ he]; congr 1; omega
      · rw [oN e' _ y]; exact h_nxt e' he'
    · refine br_f (by rw [zl_le (by omega) (by omega) (by omega) (by omega)]; exact w) ⟨hp, hp, nm_e (k67 _ _ (by rw [hz]) (fun e' he' => ?_))⟩
      by_cases y : e' = p.toNatClampNeg
      · rw [y, vN, zv_s]; congr 1; omega
      · rw [oN e' _ y, zv_n y]; exact h_nxt e' he'
  unfold wpY_advance
  refine ⟨hp, hp, nm_r (e' := vp_updL a_una p.toNatClampNeg (zl_n (G.1 3 p.toNatClampNeg + a))) (by rw [h_una _ he, hx, zi_l (by omega) (by omega), zl_add, m2]) ⟨hp, ?_⟩⟩
  by_cases w : a ≤ G.1 12 p.toNatClampNeg
  · exact br_t (by rw [h_wnd _ he, hx, zi_le (by omega) (by omega) (by omega) (by omega)]; exact w) ⟨hp, k38 _ (by rw [h_wnd _ he, hx, zi_sub]; congr 1; omega)⟩
  · exact br_f (by rw [h_wnd _ he, hx, zi_le (by omega) (by omega) (by omega) (by omega)]; exact w) (k38 0 (by rw [zk_0]; congr 1; omega))
theorem yl_again {q K : Int} {G : gm_T} {u : SY} {p : Int32} {P : SY → Prop} (hv : vy_S q G u) (hI : gv_I K G) (hK : K + 1 ≤ 5000) (hp : vp_in p 2) (h4 : 4 ≤ G.1 0 p.toNatClampNeg) (hum : G.1 3 p.toNatClampNeg ≠ G.1 5 p.toNatClampNeg) (hP : ∀ u', vy_S q (gp_again G p.toNatClampNeg) u' → P u') : wpY_again P u p := by
  obtain ⟨f_now, f_sent, a_seq, a_flags, a_acked, a_window, a_many, a_data, a_rows, a_state, a_error, a_iss, a_una, a_nxt, a_max, a_last, a_closed, a_written, a_irs, a_unread, a_bytes, a_held, a_rcv, a_finAt, a_marked, a_wnd, a_peak, a_half, a_rto, a_same, a_tries, a_smooth, a_spread, a_byNumber, a_byAck, a_sampled, a_told, a_retry, a_ackAt, a_waitAt, a_timedAt, a_timed⟩ := u
  have hv0 := hv
  obtain ⟨h_now, h_sent, h_seq, h_flags, h_acked, h_window, h_many, h_data, h_rows, h_state, h_error, h_iss, h_una, h_nxt, h_max, h_last, h_closed, h_written, h_irs, h_unread, h_bytes, h_held, h_rcv, h_finAt, h_marked, h_wnd, h_peak, h_half, h_rto, h_same, h_tries, h_smooth, h_spread, h_byNumber, h_byAck, h_sampled, h_told, h_retry, h_ackAt, h_waitAt, h_timedAt, h_timed⟩ := hv0
  have he := pe_lt hp
  have n2 := hI.2.1
  obtain ⟨y1, y2, y3, y4⟩ := gv_yy hI he (by omega)
  obtain ⟨b1, b2, b3, b4, b5, b6⟩ := hI.2.2.2.2.1 _ he
  unfold gv_p at b2
  unfold gv_c at b3
  have hu := (b2.2.2.2.2.1 h4)
  have hl := b2.1 (by omega)
  have hk := b2.2.2.2.2.2
  have huna : a_una p.toNatClampNeg = zl_n (G.1 3 p.toNatClampNeg) := by rw [← y1]; exact h_una _ he
  unfold wpY_again
  refine ⟨hp, hp, nm_r (e' := upd a_same p.toNatClampNeg (zi_n (G.1 18 p.toNatClampNeg + 1))) (by rw [h_same _ he, y3, zk_1, zi_add]) ⟨hp, ?_⟩⟩
  by_cases w3 : G.1 18 p.toNatClampNeg + 1 = 3
  · have hag : gp_again G p.toNatClampNeg = gp_put (gp_piece (gp_again1 G p.toNatClampNeg) p.toNatClampNeg) 16 p.toNatClampNeg (gp_hv G p.toNatClampNeg + 24) := if_pos w3
    rw [hag] at hP
    refine br_t (by rw [zu_s, w3]; rfl) (yl_halved hp (h_max _ he) huna (by omega) (by omega) ⟨hp, nm_e ⟨hp, nm_e ?_⟩⟩)
    have hv1 : vy_S q (gp_again1 G p.toNatClampNeg) (f_now, f_sent, a_seq, a_flags, a_acked, a_window, a_many, a_data, a_rows, a_state, a_error, a_iss, a_una, a_nxt, a_max, a_last, a_closed, a_written, a_irs, a_unread, a_bytes, a_held, a_rcv, a_finAt, a_marked, a_wnd, a_peak, upd a_half p.toNatClampNeg (zi_n (max 8 ((G.1 5 p.toNatClampNeg - G.1 3 p.toNatClampNeg) / 2))), a_rto, upd a_same p.toNatClampNeg (zi_n (G.1 18 p.toNatClampNeg + 1)), a_tries, a_smooth, a_spread, a_byNumber, a_byAck, a_sampled, a_told, a_retry, a_ackAt, a_waitAt, a_timedAt, vp_updL a_timed p.toNatClampNeg (-1)) := by
      generalize p.toNatClampNeg = e at *
      have o : ∀ e' f, e' ≠ e → (gp_again1 G e).1 f e' = G.1 f e' := fun e' f y => by simp only [gp_again1, gs_e y]
      refine (vy_mk h_now h_sent h_seq h_flags h_acked h_window h_many h_data h_rows h_state h_error h_iss h_una h_nxt h_max h_last h_closed h_written h_irs h_unread h_bytes h_held h_rcv h_finAt h_marked h_wnd h_peak (vu_e h_half ?a2 (fun e' y => o _ _ y)) h_rto (vu_e h_same ?a1 (fun e' y => o _ _ y)) h_tries h_smooth h_spread h_byNumber h_byAck h_sampled h_told h_retry h_ackAt h_waitAt h_timedAt (vu_l h_timed ?a3 (fun e' y => o _ _ y)))
      case a1 => simp +decide only [gp_again1, gs_s, gs_f]
      case a2 => simp +decide only [gp_again1, gs_s, gs_f] <;> rfl
      case a3 => simp +decide only [gp_again1, gs_s, gs_f] <;> rfl
    have hI1 := iv_again1 hI he hK h4 hum
    have s1 : (gp_again1 G p.toNatClampNeg).1 0 p.toNatClampNeg = G.1 0 p.toNatClampNeg := by simp +decide only [gp_again1, gs_f]
    have s2 : (gp_again1 G p.toNatClampNeg).1 3 p.toNatClampNeg = G.1 3 p.toNatClampNeg := by simp +decide only [gp_again1, gs_f]
    have s3 : (gp_again1 G p.toNatClampNeg).1 5 p.toNatClampNeg = G.1 5 p.toNatClampNeg := by simp +decide only [gp_again1, gs_f]
    have s4 : (gp_piece (gp_again1 G p.toNatClampNeg) p.toNatClampNeg).1 17 p.toNatClampNeg = gp_hv G p.toNatClampNeg := by
      rw [pc_f (by decide) (by decide) (by decide) (by decide) (by decide) (by decide)]
      simp +decide only [gp_again1, gs_s, gs_f]
    refine yl_piece hv1 hI1 hp (by rw [s1]; exact h4) (by rw [s2, s3]; omega) fun u2 hv2 => ?_
    generalize gp_piece (gp_again1 G p.toNatClampNeg) p.toNatClampNeg = G2 at *
    obtain ⟨f_now, f_sent, a_seq, a_flags, a_acked, a_window, a_many, a_data, a_rows, a_state, a_error, a_iss, a_una, a_nxt, a_max, a_last, a_closed, a_written, a_irs, a_unread, a_bytes, a_held, a_rcv, a_finAt, a_marked, a_wnd, a_peak, a_half, a_rto, a_same, a_tries, a_smooth, a_spread, a_byNumber, a_byAck, a_sampled, a_told, a_retry, a_ackAt, a_waitAt, a_timedAt, a_timed⟩ := u2
    obtain ⟨h_now, h_sent, h_seq, h_flags, h_acked, h_window, h_many, h_data, h_rows, h_state, h_error, h_iss, h_una, h_nxt, h_max, h_last, h_closed, h_written, h_irs, h_unread, h_bytes, h_held, h_rcv, h_finAt, h_marked, h_wnd, h_peak, h_half, h_rto, h_same, h_tries, h_smooth, h_spread, h_byNumber, h_byAck, h_sampled, h_told, h_retry, h_ackAt, h_waitAt, h_timedAt, h_timed⟩ := hv2
    refine ⟨hp, hp, nm_e (hP _ ?_)⟩
    exact (vy_mk h_now h_sent h_seq h_flags h_acked h_window h_many h_data h_rows h_state h_error h_iss h_una h_nxt h_max h_last h_closed h_written h_irs h_unread h_bytes h_held h_rcv h_finAt h_marked h_wnd (vu_e h_peak (by rw [pu_s, h_half _ he, s4, zk_24, zi_add]) (fun e' q => pu_o q _)) h_half h_rto h_same h_tries h_smooth h_spread h_byNumber h_byAck h_sampled h_told h_retry h_ackAt h_waitAt h_timedAt h_timed)
  · have hag : gp_again G p.toNatClampNeg = (gs_c (gs_c (gs_c G.1 18 p.toNatClampNeg (G.1 18 p.toNatClampNeg + 1)) 34 p.toNatClampNeg (G.1 18 p.toNatClampNeg + 1)) 16 p.toNatClampNeg (if 3 < G.1 18 p.toNatClampNeg + 1 then min 64 (G.1 16 p.toNatClampNeg + 8) else G.1 16 p.toNatClampNeg), G.2) := if_neg w3
    rw [hag] at hP
    refine br_f (by rw [zu_s, zk_3, zi_eq (by omega) (by omega) (by omega) (by omega)]; exact w3) ⟨hp, ?_⟩
    have fin : ∀ PX : Nat → Int32, (∀ e', e' < 2 → PX e' = zi_n (gs_c G.1 16 p.toNatClampNeg (if 3 < G.1 18 p.toNatClampNeg + 1 then min 64 (G.1 16 p.toNatClampNeg + 8) else G.1 16 p.toNatClampNeg) 16 e')) → P (f_now, f_sent, a_seq, a_flags, a_acked, a_window, a_many, a_data, a_rows, a_state, a_error, a_iss, a_una, a_nxt, a_max, a_last, a_closed, a_written, a_irs, a_unread, a_bytes, a_held, a_rcv, a_finAt, a_marked, a_wnd, PX, a_half, a_rto, upd a_same p.toNatClampNeg (zi_n (G.1 18 p.toNatClampNeg + 1)), a_tries, a_smooth, a_spread, a_byNumber, a_byAck, a_sampled, a_told, a_retry, a_ackAt, a_waitAt, a_timedAt, a_timed) := by
      intro PX hPX
      refine hP _ ?_
      refine (vy_mk h_now h_sent h_seq h_flags h_acked h_window h_many h_data h_rows h_state h_error h_iss h_una h_nxt h_max h_last h_closed h_written h_irs h_unread h_bytes h_held h_rcv h_finAt h_marked h_wnd (hPX) h_half h_rto (vu_e h_same ?a1 (fun e' y => ?a2)) h_tries h_smooth h_spread h_byNumber h_byAck h_sampled h_told h_retry h_ackAt h_waitAt h_timedAt h_timed)
      case a1 => simp +decide only [gs_s, gs_f]
      case a2 => simp only [gs_e y]
    by_cases w4 : G.1 18 p.toNatClampNeg + 1 ≤ 3
    · refine br_t (by rw [zu_s, zk_3, zi_le (by omega) (by omega) (by omega) (by omega)]; exact w4) (fin _ (fun e' he' => ?_))
      rw [gs_id (if_neg (by omega))]; exact h_peak e' he'
    · refine br_f (by rw [zu_s, zk_3, zi_le (by omega) (by omega) (by omega) (by omega)]; exact w4) ⟨hp, ?_⟩
      by_cases w5 : G.1 16 p.toNatClampNeg ≤ 56
      · refine br_t (by rw [h_peak _ he, show (56 : Int32) = zi_n 56 from rfl, zi_le (by omega) (by omega) (by omega) (by omega)]; exact w5) ⟨hp, hp, nm_e (fin _ ?_)⟩
        exact vu_e h_peak (by rw [gs_s, if_pos (by omega), h_peak _ he, zk_8, zi_add]; congr 1; omega) (fun e' y => gs_e y)
      · refine br_f (by rw [h_peak _ he, show (56 : Int32) = zi_n 56 from rfl, zi_le (by omega) (by omega) (by omega) (by omega)]; exact w5) ⟨hp, nm_e (fin _ ?_)⟩
        exact vu_e h_peak (by rw [gs_s, if_pos (by omega), zk_64]; congr 1; omega) (fun e' y => gs_e y)
