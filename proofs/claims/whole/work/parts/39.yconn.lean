/-! the reference: a segment arrives at an end that is connected -/
theorem yl_acceptable {P : Int32 → Prop} {f_now : Int32} {f_sent : Int32} {a_seq : (Nat → Int32)} {a_flags : (Nat → Int32)} {a_acked : (Nat → Int32)} {a_window : (Nat → Int32)} {a_many : (Nat → Int32)} {a_data : (Nat → Int32)} {a_rows : (Nat → Int32)} {a_state : (Nat → Int32)} {a_error : (Nat → Int32)} {a_iss : (Nat → Int32)} {a_una : (Nat → Int64)} {a_nxt : (Nat → Int64)} {a_max : (Nat → Int64)} {a_last : (Nat → Int64)} {a_closed : (Nat → Int32)} {a_written : (Nat → Int32)} {a_irs : (Nat → Int32)} {a_unread : (Nat → Int32)} {a_bytes : (Nat → Int32)} {a_held : (Nat → Int32)} {a_rcv : (Nat → Int64)} {a_finAt : (Nat → Int64)} {a_marked : (Nat → Int32)} {a_wnd : (Nat → Int32)} {a_peak : (Nat → Int32)} {a_half : (Nat → Int32)} {a_rto : (Nat → Int32)} {a_same : (Nat → Int32)} {a_tries : (Nat → Int32)} {a_smooth : (Nat → Int32)} {a_spread : (Nat → Int32)} {a_byNumber : (Nat → Int32)} {a_byAck : (Nat → Int32)} {a_sampled : (Nat → Int32)} {a_told : (Nat → Int32)} {a_retry : (Nat → Int32)} {a_ackAt : (Nat → Int32)} {a_waitAt : (Nat → Int32)} {a_timedAt : (Nat → Int32)} {a_timed : (Nat → Int64)} {p x1 x2 : Int32} {ur o len : Int} (hp : vp_in p 2) (hr : a_unread p.toNatClampNeg = zi_n ur) (h0 : 0 ≤ ur) (h1 : ur ≤ 24) (hx1 : x1 = zi_n o) (hx2 : x2 = zi_n len) (ho0 : -32768 ≤ o) (ho1 : o < 32768) (hl0 : 0 ≤ len) (hl1 : len ≤ 20) (ht : gp_ok (24 - ur) o len → P 1) (hf : ¬ gp_ok (24 - ur) o len → P 0) : wpY_acceptable P (f_now, f_sent, a_seq, a_flags, a_acked, a_window, a_many, a_data, a_rows, a_state, a_error, a_iss, a_una, a_nxt, a_max, a_last, a_closed, a_written, a_irs, a_unread, a_bytes, a_held, a_rcv, a_finAt, a_marked, a_wnd, a_peak, a_half, a_rto, a_same, a_tries, a_smooth, a_spread, a_byNumber, a_byAck, a_sampled, a_told, a_retry, a_ackAt, a_waitAt, a_timedAt, a_timed) p x1 x2 := by
  unfold wpY_acceptable
  refine yl_own hp hr ?_
  subst hx1 hx2
  have k44 : ¬ (0 ≤ o ∧ o < 24 - ur) → ¬ len = 0 → wY_acceptable_44 P (zi_n (24 - ur)) (zi_n (o + len - 1)) f_now f_sent a_seq a_flags a_acked a_window a_many a_data a_rows a_state a_error a_iss a_una a_nxt a_max a_last a_closed a_written a_irs a_unread a_bytes a_held a_rcv a_finAt a_marked a_wnd a_peak a_half a_rto a_same a_tries a_smooth a_spread a_byNumber a_byAck a_sampled a_told a_retry a_ackAt a_waitAt a_timedAt a_timed := by
    intro w1 w2
    unfold wY_acceptable_44
    by_cases w : o + len - 1 < 0
    · exact br_t (by rw [zk_0, zi_lt (by omega) (by omega) (by omega) (by omega)]; exact w) (hf (by unfold gp_ok; omega))
    · refine br_f (by rw [zk_0, zi_lt (by omega) (by omega) (by omega) (by omega)]; exact w) ?_
      by_cases w3 : 24 - ur ≤ o + len - 1
      · exact br_t (by rw [zi_le (by omega) (by omega) (by omega) (by omega)]; exact w3) (hf (by unfold gp_ok; omega))
      · exact br_f (by rw [zi_le (by omega) (by omega) (by omega) (by omega)]; exact w3) (ht (by unfold gp_ok; omega))
  by_cases w : len = 0
  · refine br_t (by rw [w]; rfl) ?_
    by_cases w2 : o < 0
    · exact br_t (by rw [zk_0, zi_lt (by omega) (by omega) (by omega) (by omega)]; exact w2) (hf (by unfold gp_ok; omega))
    · refine br_f (by rw [zk_0, zi_lt (by omega) (by omega) (by omega) (by omega)]; exact w2) ?_
      by_cases w3 : 24 - ur < o
      · exact br_t (by rw [zi_lt (by omega) (by omega) (by omega) (by omega)]; exact w3) (hf (by unfold gp_ok; omega))
      · exact br_f (by rw [zi_lt (by omega) (by omega) (by omega) (by omega)]; exact w3) (ht (by unfold gp_ok; omega))
  · refine br_f (by rw [zk_0, zi_eq (by omega) (by omega) (by omega) (by omega)]; exact w) (nm_r (e' := zi_n (o + len - 1)) (by rw [zi_add, zk_1, zi_sub]) ?_)
    by_cases w2 : o < 0
    · exact br_t (by rw [zk_0, zi_lt (by omega) (by omega) (by omega) (by omega)]; exact w2) (k44 (by omega) w)
    · refine br_f (by rw [zk_0, zi_lt (by omega) (by omega) (by omega) (by omega)]; exact w2) ?_
      by_cases w3 : o < 24 - ur
      · exact br_t (by rw [zi_lt (by omega) (by omega) (by omega) (by omega)]; exact w3) (ht (by unfold gp_ok; omega))
      · exact br_f (by rw [zi_lt (by omega) (by omega) (by omega) (by omega)]; exact w3) (k44 (by omega) w)
theorem yn_157 {q K : Int} {G : gm_T} {f_now : Int32} {f_sent : Int32} {a_seq : (Nat → Int32)} {a_flags : (Nat → Int32)} {a_acked : (Nat → Int32)} {a_window : (Nat → Int32)} {a_many : (Nat → Int32)} {a_data : (Nat → Int32)} {a_rows : (Nat → Int32)} {a_state : (Nat → Int32)} {a_error : (Nat → Int32)} {a_iss : (Nat → Int32)} {a_una : (Nat → Int64)} {a_nxt : (Nat → Int64)} {a_max : (Nat → Int64)} {a_last : (Nat → Int64)} {a_closed : (Nat → Int32)} {a_written : (Nat → Int32)} {a_irs : (Nat → Int32)} {a_unread : (Nat → Int32)} {a_bytes : (Nat → Int32)} {a_held : (Nat → Int32)} {a_rcv : (Nat → Int64)} {a_finAt : (Nat → Int64)} {a_marked : (Nat → Int32)} {a_wnd : (Nat → Int32)} {a_peak : (Nat → Int32)} {a_half : (Nat → Int32)} {a_rto : (Nat → Int32)} {a_same : (Nat → Int32)} {a_tries : (Nat → Int32)} {a_smooth : (Nat → Int32)} {a_spread : (Nat → Int32)} {a_byNumber : (Nat → Int32)} {a_byAck : (Nat → Int32)} {a_sampled : (Nat → Int32)} {a_told : (Nat → Int32)} {a_retry : (Nat → Int32)} {a_ackAt : (Nat → Int32)} {a_waitAt : (Nat → Int32)} {a_timedAt : (Nat → Int32)} {a_timed : (Nat → Int64)} {p x : Int32} {P : Int32 → SY → Prop} {k : Nat} {a : Int} (hv : vy_S q G (f_now, f_sent, a_seq, a_flags, a_acked, a_window, a_many, a_data, a_rows, a_state, a_error, a_iss, a_una, a_nxt, a_max, a_last, a_closed, a_written, a_irs, a_unread, a_bytes, a_held, a_rcv, a_finAt, a_marked, a_wnd, a_peak, a_half, a_rto, a_same, a_tries, a_smooth, a_spread, a_byNumber, a_byAck, a_sampled, a_told, a_retry, a_ackAt, a_waitAt, a_timedAt, a_timed)) (hI : gv_I K G) (hp : vp_in p 2) (hk : k < 32) (hx : x = zi_n (k : Int)) (ha0 : -32768 ≤ a) (ha1 : a < 32768) (hP : ∀ u', vy_S q (if 0 ≤ a then gp_win G p.toNatClampNeg k else G) u' → P 1 u') : wY_answered_157 P p x (zi_n a) f_now f_sent a_seq a_flags a_acked a_window a_many a_data a_rows a_state a_error a_iss a_una a_nxt a_max a_last a_closed a_written a_irs a_unread a_bytes a_held a_rcv a_finAt a_marked a_wnd a_peak a_half a_rto a_same a_tries a_smooth a_spread a_byNumber a_byAck a_sampled a_told a_retry a_ackAt a_waitAt a_timedAt a_timed := by
  have hv0 := hv
  obtain ⟨h_now, h_sent, h_seq, h_flags, h_acked, h_window, h_many, h_data, h_rows, h_state, h_error, h_iss, h_una, h_nxt, h_max, h_last, h_closed, h_written, h_irs, h_unread, h_bytes, h_held, h_rcv, h_finAt, h_marked, h_wnd, h_peak, h_half, h_rto, h_same, h_tries, h_smooth, h_spread, h_byNumber, h_byAck, h_sampled, h_told, h_retry, h_ackAt, h_waitAt, h_timedAt, h_timed⟩ := hv0
  have he := pe_lt hp
  obtain ⟨b1, b2, b3, b4, b5, b6⟩ := hI.2.2.2.2.1 _ he
  unfold gv_c at b3
  have hin : vp_in x 32 := by rw [hx]; exact yk_in hk
  have hxk : x.toNatClampNeg = k := by rw [hx]; exact sl_c (by omega)
  have r1 := zs_r (gm_L G 0 k - G.1 14 p.toNatClampNeg)
  have r2 := zs_r (gm_L G 2 k - G.1 15 p.toNatClampNeg)
  unfold wY_answered_157
  by_cases wa : 0 ≤ a
  · rw [if_pos wa] at hP
    have k218 : (G.1 13 p.toNatClampNeg = 0 ∨ 0 < zi_s (gm_L G 0 k - G.1 14 p.toNatClampNeg) ∨ (zi_s (gm_L G 0 k - G.1 14 p.toNatClampNeg) = 0 ∧ 0 ≤ zi_s (gm_L G 2 k - G.1 15 p.toNatClampNeg))) → wY_answered_218 P p x f_now f_sent a_seq a_flags a_acked a_window a_many a_data a_rows a_state a_error a_iss a_una a_nxt a_max a_last a_closed a_written a_irs a_unread a_bytes a_held a_rcv a_finAt a_marked a_wnd a_peak a_half a_rto a_same a_tries a_smooth a_spread a_byNumber a_byAck a_sampled a_told a_retry a_ackAt a_waitAt a_timedAt a_timed := by
      intro w
      have hw : gp_win G p.toNatClampNeg k = (gs_c (gs_c (gs_c (gs_c G.1 13 p.toNatClampNeg 1) 14 p.toNatClampNeg (gm_L G 0 k)) 15 p.toNatClampNeg (gm_L G 2 k)) 12 p.toNatClampNeg (gm_L G 3 k), G.2) := if_pos w
      rw [hw] at hP
      unfold wY_answered_218
      refine ⟨hp, nm_e ⟨hin, hp, nm_e ⟨hin, hp, nm_e ⟨hin, hp, nm_e (hP _ ?_)⟩⟩⟩⟩
      rw [hxk]
      generalize p.toNatClampNeg = e at *
      have o : ∀ e' f, e' ≠ e → gs_c (gs_c (gs_c (gs_c G.1 13 e 1) 14 e (gm_L G 0 k)) 15 e (gm_L G 2 k)) 12 e (gm_L G 3 k) f e' = G.1 f e' := fun e' f q => by simp only [gs_e q]
      refine (vy_mk h_now h_sent h_seq h_flags h_acked h_window h_many h_data h_rows h_state h_error h_iss h_una h_nxt h_max h_last h_closed h_written h_irs h_unread h_bytes h_held h_rcv h_finAt h_marked (vu_e h_wnd ?a1 (fun e' q => o e' 12 q)) h_peak h_half h_rto h_same h_tries h_smooth h_spread (vu_e h_byNumber ?a2 (fun e' q => o e' 14 q)) (vu_e h_byAck ?a3 (fun e' q => o e' 15 q)) h_sampled (vu_e h_told ?a4 (fun e' q => o e' 13 q)) h_retry h_ackAt h_waitAt h_timedAt h_timed)
      case a1 => simp +decide only [gs_s, gs_f]; exact h_window k hk
      case a2 => simp +decide only [gs_s, gs_f]; exact h_seq k hk
      case a3 => simp +decide only [gs_s, gs_f]; exact h_acked k hk
      case a4 => simp +decide only [gs_s, gs_f] <;> rfl
    have hno : ¬ (G.1 13 p.toNatClampNeg = 0 ∨ 0 < zi_s (gm_L G 0 k - G.1 14 p.toNatClampNeg) ∨ (zi_s (gm_L G 0 k - G.1 14 p.toNatClampNeg) = 0 ∧ 0 ≤ zi_s (gm_L G 2 k - G.1 15 p.toNatClampNeg))) → P 1 (f_now, f_sent, a_seq, a_flags, a_acked, a_window, a_many, a_data, a_rows, a_state, a_error, a_iss, a_una, a_nxt, a_max, a_last, a_closed, a_written, a_irs, a_unread, a_bytes, a_held, a_rcv, a_finAt, a_marked, a_wnd, a_peak, a_half, a_rto, a_same, a_tries, a_smooth, a_spread, a_byNumber, a_byAck, a_sampled, a_told, a_retry, a_ackAt, a_waitAt, a_timedAt, a_timed) := by
      intro w
      have hw : gp_win G p.toNatClampNeg k = G := if_neg w
      rw [hw] at hP
      exact hP _ hv
    refine br_t (by rw [zk_0, zi_le (by omega) (by omega) (by omega) (by omega)]; exact wa) ⟨hin, hp, ?_⟩
    rw [hxk]
    refine yl_offset (h_seq k hk) (h_byNumber _ he) ⟨hp, ?_⟩
    by_cases w : G.1 13 p.toNatClampNeg = 0
    · exact br_t (by rw [h_told _ he, w]; rfl) (k218 (Or.inl w))
    · refine br_f (by rw [h_told _ he, zk_0, zi_eq (by omega) (by omega) (by omega) (by omega)]; exact w) ?_
      by_cases w2 : 0 < zi_s (gm_L G 0 k - G.1 14 p.toNatClampNeg)
      · exact br_t (by rw [zk_0, zi_lt (by omega) (by omega) (by omega) (by omega)]; exact w2) (k218 (Or.inr (Or.inl w2)))
      · refine br_f (by rw [zk_0, zi_lt (by omega) (by omega) (by omega) (by omega)]; exact w2) ?_
        by_cases w3 : zi_s (gm_L G 0 k - G.1 14 p.toNatClampNeg) = 0
        · refine br_t (by rw [w3]; rfl) ⟨hin, hp, yl_offset (h_acked k hk) (h_byAck _ he) ?_⟩
          by_cases w4 : zi_s (gm_L G 2 k - G.1 15 p.toNatClampNeg) < 0
          · exact br_t (by rw [zk_0, zi_lt (by omega) (by omega) (by omega) (by omega)]; exact w4) (hno (by omega))
          · exact br_f (by rw [zk_0, zi_lt (by omega) (by omega) (by omega) (by omega)]; exact w4) (k218 (Or.inr (Or.inr ⟨w3, by omega⟩)))
        · exact br_f (by rw [zk_0, zi_eq (by omega) (by omega) (by omega) (by omega)]; exact w3) (hno (by omega))
  · rw [if_neg wa] at hP
    exact br_f (by rw [zk_0, zi_le (by omega) (by omega) (by omega) (by omega)]; exact wa) (hP _ hv)
theorem yl_answered {q K : Int} {G : gm_T} {u : SY} {p x y : Int32} {P : Int32 → SY → Prop} {k : Nat} (hv : vy_S q G u) (hI : gv_I K G) (hK : K + 1 ≤ 5000) (hp : vp_in p 2) (hk : k < 32) (hx : x = zi_n (k : Int)) (hy : y = zi_n (gp_slen G k)) (hrow : k < 16 * p.toNatClampNeg ∨ 16 * p.toNatClampNeg + 16 ≤ k) (h3 : 3 ≤ G.1 0 p.toNatClampNeg)
    (hA : G.1 0 p.toNatClampNeg = 3 ∧ gp_a G p.toNatClampNeg k ≠ 1 → ∀ u', vy_S q (gp_rst G p.toNatClampNeg (gm_L G 2 k) 8 0) u' → P 0 u')
    (hB : ¬ (G.1 0 p.toNatClampNeg = 3 ∧ gp_a G p.toNatClampNeg k ≠ 1) → G.1 5 p.toNatClampNeg - G.1 3 p.toNatClampNeg < gp_a G p.toNatClampNeg k → ∀ u', vy_S q (gp_ack (gp_est G p.toNatClampNeg) p.toNatClampNeg) u' → P 0 u')
    (hC : ¬ (G.1 0 p.toNatClampNeg = 3 ∧ gp_a G p.toNatClampNeg k ≠ 1) → ¬ G.1 5 p.toNatClampNeg - G.1 3 p.toNatClampNeg < gp_a G p.toNatClampNeg k → (gp_newack (gp_est G p.toNatClampNeg) p.toNatClampNeg k (gp_a G p.toNatClampNeg k)).1 0 p.toNatClampNeg = 0 → ∀ u', vy_S q (gp_newack (gp_est G p.toNatClampNeg) p.toNatClampNeg k (gp_a G p.toNatClampNeg k)) u' → P 0 u')
    (hD : ¬ (G.1 0 p.toNatClampNeg = 3 ∧ gp_a G p.toNatClampNeg k ≠ 1) → ¬ G.1 5 p.toNatClampNeg - G.1 3 p.toNatClampNeg < gp_a G p.toNatClampNeg k → ¬ (gp_newack (gp_est G p.toNatClampNeg) p.toNatClampNeg k (gp_a G p.toNatClampNeg k)).1 0 p.toNatClampNeg = 0 → gv_I (K + 1) (gp_newack (gp_est G p.toNatClampNeg) p.toNatClampNeg k (gp_a G p.toNatClampNeg k)) → ∀ u', vy_S q (if 0 ≤ gp_a G p.toNatClampNeg k then gp_win (gp_newack (gp_est G p.toNatClampNeg) p.toNatClampNeg k (gp_a G p.toNatClampNeg k)) p.toNatClampNeg k else gp_newack (gp_est G p.toNatClampNeg) p.toNatClampNeg k (gp_a G p.toNatClampNeg k)) u' → P 1 u') : wpY_answered P u p x y := by
  obtain ⟨f_now, f_sent, a_seq, a_flags, a_acked, a_window, a_many, a_data, a_rows, a_state, a_error, a_iss, a_una, a_nxt, a_max, a_last, a_closed, a_written, a_irs, a_unread, a_bytes, a_held, a_rcv, a_finAt, a_marked, a_wnd, a_peak, a_half, a_rto, a_same, a_tries, a_smooth, a_spread, a_byNumber, a_byAck, a_sampled, a_told, a_retry, a_ackAt, a_waitAt, a_timedAt, a_timed⟩ := u
  have hv0 := hv
  obtain ⟨h_now, h_sent, h_seq, h_flags, h_acked, h_window, h_many, h_data, h_rows, h_state, h_error, h_iss, h_una, h_nxt, h_max, h_last, h_closed, h_written, h_irs, h_unread, h_bytes, h_held, h_rcv, h_finAt, h_marked, h_wnd, h_peak, h_half, h_rto, h_same, h_tries, h_smooth, h_spread, h_byNumber, h_byAck, h_sampled, h_told, h_retry, h_ackAt, h_waitAt, h_timedAt, h_timed⟩ := hv0
  have he := pe_lt hp
  have l1 := hI.2.2.2.2.2.1.1 k hk
  have hin : vp_in x 32 := by rw [hx]; exact yk_in hk
  have hxk : x.toNatClampNeg = k := by rw [hx]; exact sl_c (by omega)
  obtain ⟨y1, y2, y3, y4⟩ := gv_yy hI he (by omega)
  obtain ⟨b1, b2, b3, b4, b5, b6⟩ := hI.2.2.2.2.1 _ he
  have n2 := hI.2.1
  unfold gv_a at b1
  unfold gv_c at b3
  have hlen : 0 ≤ gp_slen G k ∧ gp_slen G k ≤ 10 := by unfold gp_slen gp_len; omega
  have ra : -32768 ≤ gp_a G p.toNatClampNeg k ∧ gp_a G p.toNatClampNeg k < 32768 := zs_r (gm_L G 2 k - (G.1 2 p.toNatClampNeg + G.1 3 p.toNatClampNeg) % 65536)
  have hpos : 0 ≤ G.1 3 p.toNatClampNeg ∧ G.1 3 p.toNatClampNeg ≤ G.1 5 p.toNatClampNeg ∧ G.1 5 p.toNatClampNeg ≤ 10000 ∧ (G.1 0 p.toNatClampNeg = 3 → G.1 5 p.toNatClampNeg - G.1 3 p.toNatClampNeg = 1) ∧ (G.1 29 p.toNatClampNeg = 0 ∨ G.1 29 p.toNatClampNeg = 1) := by
    unfold gv_p at b2
    have t := b2.1 (by omega)
    have cl := b2.2.2.2.2.2.2.2.1
    by_cases w : 4 ≤ G.1 0 p.toNatClampNeg
    · have := b2.2.2.2.2.1 w; omega
    · have := b2.2.2.2.1 (by omega); omega
  have ga : zi_s (gm_L G 2 k - (G.1 2 p.toNatClampNeg + G.1 3 p.toNatClampNeg) % 65536) = gp_a G p.toNatClampNeg k := rfl
  generalize hga : gp_a G p.toNatClampNeg k = a at *
  -- from the checked end on
  have k62 : ¬ (G.1 0 p.toNatClampNeg = 3 ∧ a ≠ 1) → ∀ u1, vy_S q (gp_est G p.toNatClampNeg) u1 → (match u1 with | (f_now, f_sent, a_seq, a_flags, a_acked, a_window, a_many, a_data, a_rows, a_state, a_error, a_iss, a_una, a_nxt, a_max, a_last, a_closed, a_written, a_irs, a_unread, a_bytes, a_held, a_rcv, a_finAt, a_marked, a_wnd, a_peak, a_half, a_rto, a_same, a_tries, a_smooth, a_spread, a_byNumber, a_byAck, a_sampled, a_told, a_retry, a_ackAt, a_waitAt, a_timedAt, a_timed) => wY_answered_62 P p x (zi_n (gp_slen G k)) (zi_n a) f_now f_sent a_seq a_flags a_acked a_window a_many a_data a_rows a_state a_error a_iss a_una a_nxt a_max a_last a_closed a_written a_irs a_unread a_bytes a_held a_rcv a_finAt a_marked a_wnd a_peak a_half a_rto a_same a_tries a_smooth a_spread a_byNumber a_byAck a_sampled a_told a_retry a_ackAt a_waitAt a_timedAt a_timed) := by
    intro hn3 u1 hv1
    have hest : 4 ≤ (gp_est G p.toNatClampNeg).1 0 p.toNatClampNeg := by
      unfold gp_est
      split
      · rw [pu_s]; decide
      · omega
    have vest : ∀ f, f ≠ 0 → (gp_est G p.toNatClampNeg).1 f p.toNatClampNeg = G.1 f p.toNatClampNeg := fun f hf => by
      unfold gp_est
      split
      · exact pu_f hf
      · rfl
    have sest : (gp_est G p.toNatClampNeg).1 0 p.toNatClampNeg ≤ 10 := by
      unfold gp_est
      split
      · rw [pu_s]; decide
      · omega
    have Lest : gm_L (gp_est G p.toNatClampNeg) = gm_L G := by unfold gp_est; split <;> rfl
    obtain ⟨f_now, f_sent, a_seq, a_flags, a_acked, a_window, a_many, a_data, a_rows, a_state, a_error, a_iss, a_una, a_nxt, a_max, a_last, a_closed, a_written, a_irs, a_unread, a_bytes, a_held, a_rcv, a_finAt, a_marked, a_wnd, a_peak, a_half, a_rto, a_same, a_tries, a_smooth, a_spread, a_byNumber, a_byAck, a_sampled, a_told, a_retry, a_ackAt, a_waitAt, a_timedAt, a_timed⟩ := u1
    show wY_answered_62 P p x _ _ f_now f_sent a_seq a_flags a_acked a_window a_many a_data a_rows a_state a_error a_iss a_una a_nxt a_max a_last a_closed a_written a_irs a_unread a_bytes a_held a_rcv a_finAt a_marked a_wnd a_peak a_half a_rto a_same a_tries a_smooth a_spread a_byNumber a_byAck a_sampled a_told a_retry a_ackAt a_waitAt a_timedAt a_timed
    have hv2 := hv1
    clear h_max h_una h_window h_wnd h_state
    obtain ⟨h_now, h_sent, h_seq, h_flags, h_acked, h_window, h_many, h_data, h_rows, h_state, h_error, h_iss, h_una, h_nxt, h_max, h_last, h_closed, h_written, h_irs, h_unread, h_bytes, h_held, h_rcv, h_finAt, h_marked, h_wnd, h_peak, h_half, h_rto, h_same, h_tries, h_smooth, h_spread, h_byNumber, h_byAck, h_sampled, h_told, h_retry, h_ackAt, h_waitAt, h_timedAt, h_timed⟩ := hv2
    have hmax : a_max p.toNatClampNeg = zl_n (G.1 5 p.toNatClampNeg) := by rw [h_max _ he, vest _ (by decide)]
    have huna : a_una p.toNatClampNeg = zl_n (G.1 3 p.toNatClampNeg) := by rw [h_una _ he, vest _ (by decide), y1]
    unfold wY_answered_62
    refine ⟨hp, hp, ?_⟩
    rw [hmax, huna, zl_sub, zi_l (by omega) (by omega)]
    by_cases wM : G.1 5 p.toNatClampNeg - G.1 3 p.toNatClampNeg < a
    · have e1 : gp_est G p.toNatClampNeg = G := if_neg (fun h => by omega)
      refine br_f (by rw [zl_le (by omega) (by omega) (by omega) (by omega)]; omega) ?_
      rw [e1] at hv1 hB
      refine yl_ack hv1 hI hp (by omega) fun u3 hv3 => ?_
      have := hB hn3 wM u3 hv3
      obtain ⟨f_now, f_sent, a_seq, a_flags, a_acked, a_window, a_many, a_data, a_rows, a_state, a_error, a_iss, a_una, a_nxt, a_max, a_last, a_closed, a_written, a_irs, a_unread, a_bytes, a_held, a_rcv, a_finAt, a_marked, a_wnd, a_peak, a_half, a_rto, a_same, a_tries, a_smooth, a_spread, a_byNumber, a_byAck, a_sampled, a_told, a_retry, a_ackAt, a_waitAt, a_timedAt, a_timed⟩ := u3
      exact this
    · refine br_t (by rw [zl_le (by omega) (by omega) (by omega) (by omega)]; omega) ?_
      have hIn : gv_I (K + 1) (gp_newack (gp_est G p.toNatClampNeg) p.toNatClampNeg k a) := by
        unfold gp_newack
        split
        · exact gv_mono (by omega) (by omega) (iv_adv hI he h3 (by omega) (by omega) (fun h => by omega))
        · have e1 : gp_est G p.toNatClampNeg = G := if_neg (fun h => by omega)
          rw [e1] at hest ⊢
          split
          · exact iv_same hI he (by omega) hest
          · exact gv_mono (by omega) (by omega) hI
      have hnst := nk_ST (k := k) (a := a) hest
      have hC' := hC hn3 wM
      have hD' := fun z => hD hn3 wM z hIn
      have k157 : ¬ (gp_newack (gp_est G p.toNatClampNeg) p.toNatClampNeg k a).1 0 p.toNatClampNeg = 0 → ∀ u2, vy_S q (gp_newack (gp_est G p.toNatClampNeg) p.toNatClampNeg k a) u2 → (match u2 with | (f_now, f_sent, a_seq, a_flags, a_acked, a_window, a_many, a_data, a_rows, a_state, a_error, a_iss, a_una, a_nxt, a_max, a_last, a_closed, a_written, a_irs, a_unread, a_bytes, a_held, a_rcv, a_finAt, a_marked, a_wnd, a_peak, a_half, a_rto, a_same, a_tries, a_smooth, a_spread, a_byNumber, a_byAck, a_sampled, a_told, a_retry, a_ackAt, a_waitAt, a_timedAt, a_timed) => wY_answered_157 P p x (zi_n a) f_now f_sent a_seq a_flags a_acked a_window a_many a_data a_rows a_state a_error a_iss a_una a_nxt a_max a_last a_closed a_written a_irs a_unread a_bytes a_held a_rcv a_finAt a_marked a_wnd a_peak a_half a_rto a_same a_tries a_smooth a_spread a_byNumber a_byAck a_sampled a_told a_retry a_ackAt a_waitAt a_timedAt a_timed) := by
        intro hz u2 hv2
        obtain ⟨f_now, f_sent, a_seq, a_flags, a_acked, a_window, a_many, a_data, a_rows, a_state, a_error, a_iss, a_una, a_nxt, a_max, a_last, a_closed, a_written, a_irs, a_unread, a_bytes, a_held, a_rcv, a_finAt, a_marked, a_wnd, a_peak, a_half, a_rto, a_same, a_tries, a_smooth, a_spread, a_byNumber, a_byAck, a_sampled, a_told, a_retry, a_ackAt, a_waitAt, a_timedAt, a_timed⟩ := u2
        exact yn_157 hv2 hIn hp hk hx ra.1 ra.2 (hD' hz)
      by_cases w : a ≤ 0
      · have e1 : gp_est G p.toNatClampNeg = G := if_neg (fun h => by omega)
        refine br_t (by rw [zk_0, zi_le (by omega) (by omega) (by omega) (by omega)]; exact w) ?_
        rw [e1] at hv1 hest k157 hnst
        have nz : gp_newack G p.toNatClampNeg k a = G → ¬ (gp_newack G p.toNatClampNeg k a).1 0 p.toNatClampNeg = 0 := fun z => by rw [z]; omega
        by_cases w2 : a = 0
        · refine br_t (by rw [w2]; rfl) ?_
          by_cases w3 : gp_slen G k = 0
          · have en : gp_newack G p.toNatClampNeg k a = gp_same G p.toNatClampNeg k := by
              unfold gp_newack; rw [if_neg (by omega), if_pos ⟨w2, w3⟩]
            refine br_t (by rw [w3]; rfl) ⟨hin, hp, ?_⟩
            rw [hxk]
            have hwin : a_window k = zi_n (gm_L G 3 k) := by rw [h_window k hk, Lest]
            have hwnd : a_wnd p.toNatClampNeg = zi_n (G.1 12 p.toNatClampNeg) := by rw [h_wnd _ he, vest _ (by decide)]
            by_cases w5 : gm_L G 3 k = G.1 12 p.toNatClampNeg
            · refine br_t (by rw [hwin, hwnd, w5]) ⟨hp, hp, ?_⟩
              by_cases w6 : G.1 3 p.toNatClampNeg = G.1 5 p.toNatClampNeg
              · have e2 : gp_same G p.toNatClampNeg k = G := if_neg (fun z => z.2 w6)
                refine br_t (by rw [w6]) (k157 (nz (by rw [en, e2])) (f_now, f_sent, a_seq, a_flags, a_acked, a_window, a_many, a_data, a_rows, a_state, a_error, a_iss, a_una, a_nxt, a_max, a_last, a_closed, a_written, a_irs, a_unread, a_bytes, a_held, a_rcv, a_finAt, a_marked, a_wnd, a_peak, a_half, a_rto, a_same, a_tries, a_smooth, a_spread, a_byNumber, a_byAck, a_sampled, a_told, a_retry, a_ackAt, a_waitAt, a_timedAt, a_timed) ?_)
                rw [en, e2]; exact hv1
              · have e2 : gp_same G p.toNatClampNeg k = gp_again G p.toNatClampNeg := if_pos ⟨w5, w6⟩
                have hst : ¬ (gp_newack G p.toNatClampNeg k a).1 0 p.toNatClampNeg = 0 := by
                  rw [en, e2]
                  unfold gp_again
                  split
                  · rw [pu_f (by decide), pc_f (by decide) (by decide) (by decide) (by decide) (by decide) (by decide)]
                    simp +decide only [gp_again1, gs_f]; omega
                  · simp +decide only [gs_f]; omega
                refine br_f (by rw [zl_eq (by omega) (by omega) (by omega) (by omega)]; exact w6) (yl_again hv1 hI hK hp (by omega) w6 fun u3 hv3 => ?_)
                exact k157 hst u3 (by rw [en, e2]; exact hv3)
            · have e2 : gp_same G p.toNatClampNeg k = G := if_neg (fun z => w5 z.1)
              refine br_f (by rw [hwin, hwnd, zi_eq (by omega) (by omega) (by omega) (by omega)]; exact w5) (k157 (nz (by rw [en, e2])) (f_now, f_sent, a_seq, a_flags, a_acked, a_window, a_many, a_data, a_rows, a_state, a_error, a_iss, a_una, a_nxt, a_max, a_last, a_closed, a_written, a_irs, a_unread, a_bytes, a_held, a_rcv, a_finAt, a_marked, a_wnd, a_peak, a_half, a_rto, a_same, a_tries, a_smooth, a_spread, a_byNumber, a_byAck, a_sampled, a_told, a_retry, a_ackAt, a_waitAt, a_timedAt, a_timed) ?_)
              rw [en, e2]; exact hv1
          · have en : gp_newack G p.toNatClampNeg k a = G := by
              unfold gp_newack; rw [if_neg (by omega), if_neg (fun z => w3 z.2)]
            refine br_f (by rw [zk_0, zi_eq (by omega) (by omega) (by omega) (by omega)]; exact w3) (k157 (nz en) (f_now, f_sent, a_seq, a_flags, a_acked, a_window, a_many, a_data, a_rows, a_state, a_error, a_iss, a_una, a_nxt, a_max, a_last, a_closed, a_written, a_irs, a_unread, a_bytes, a_held, a_rcv, a_finAt, a_marked, a_wnd, a_peak, a_half, a_rto, a_same, a_tries, a_smooth, a_spread, a_byNumber, a_byAck, a_sampled, a_told, a_retry, a_ackAt, a_waitAt, a_timedAt, a_timed) ?_)
            rw [en]; exact hv1
        · have en : gp_newack G p.toNatClampNeg k a = G := by
            unfold gp_newack; rw [if_neg (by omega), if_neg (fun z => w2 z.1)]
          refine br_f (by rw [zk_0, zi_eq (by omega) (by omega) (by omega) (by omega)]; exact w2) (k157 (nz en) (f_now, f_sent, a_seq, a_flags, a_acked, a_window, a_many, a_data, a_rows, a_state, a_error, a_iss, a_una, a_nxt, a_max, a_last, a_closed, a_written, a_irs, a_unread, a_bytes, a_held, a_rcv, a_finAt, a_marked, a_wnd, a_peak, a_half, a_rto, a_same, a_tries, a_smooth, a_spread, a_byNumber, a_byAck, a_sampled, a_told, a_retry, a_ackAt, a_waitAt, a_timedAt, a_timed) ?_)
          rw [en]; exact hv1
      · have en : gp_newack (gp_est G p.toNatClampNeg) p.toNatClampNeg k a = gp_adv (gp_est G p.toNatClampNeg) p.toNatClampNeg a := if_pos (by omega)
        refine br_f (by rw [zk_0, zi_le (by omega) (by omega) (by omega) (by omega)]; exact w) (yl_advance hv1 hp (aq_of hI he h3 (by omega) (by omega)) (by rw [vest _ (by decide)]; exact hpos.2.2.2.2) (by omega) sest rfl fun u3 hv3 => ?_)
        rw [← en] at hv3
        obtain ⟨f_now, f_sent, a_seq, a_flags, a_acked, a_window, a_many, a_data, a_rows, a_state, a_error, a_iss, a_una, a_nxt, a_max, a_last, a_closed, a_written, a_irs, a_unread, a_bytes, a_held, a_rcv, a_finAt, a_marked, a_wnd, a_peak, a_half, a_rto, a_same, a_tries, a_smooth, a_spread, a_byNumber, a_byAck, a_sampled, a_told, a_retry, a_ackAt, a_waitAt, a_timedAt, a_timed⟩ := u3
        have hv5 := hv3
        clear h_state
        obtain ⟨h_now, h_sent, h_seq, h_flags, h_acked, h_window, h_many, h_data, h_rows, h_state, h_error, h_iss, h_una, h_nxt, h_max, h_last, h_closed, h_written, h_irs, h_unread, h_bytes, h_held, h_rcv, h_finAt, h_marked, h_wnd, h_peak, h_half, h_rto, h_same, h_tries, h_smooth, h_spread, h_byNumber, h_byAck, h_sampled, h_told, h_retry, h_ackAt, h_waitAt, h_timedAt, h_timed⟩ := hv5
        obtain ⟨d1, d2, d3, d4, d5, d6⟩ := hIn.2.2.2.2.1 _ he
        unfold gv_a at d1
        refine ⟨hp, ?_⟩
        by_cases w5 : (gp_newack (gp_est G p.toNatClampNeg) p.toNatClampNeg k a).1 0 p.toNatClampNeg = 0
        · exact br_t (by rw [h_state _ he, w5]; rfl) (hC' w5 _ hv3)
        · exact br_f (by rw [h_state _ he, zk_0, zi_eq (by omega) (by omega) (by omega) (by omega)]; exact w5) (k157 w5 (f_now, f_sent, a_seq, a_flags, a_acked, a_window, a_many, a_data, a_rows, a_state, a_error, a_iss, a_una, a_nxt, a_max, a_last, a_closed, a_written, a_irs, a_unread, a_bytes, a_held, a_rcv, a_finAt, a_marked, a_wnd, a_peak, a_half, a_rto, a_same, a_tries, a_smooth, a_spread, a_byNumber, a_byAck, a_sampled, a_told, a_retry, a_ackAt, a_waitAt, a_timedAt, a_timed) hv3)
  unfold wpY_answered
  refine ⟨hp, yl_number (a := G.1 3 p.toNatClampNeg) hp (h_iss _ he) (by omega) (by omega) (by rw [h_una _ he, y1]) ⟨hin, ?_⟩⟩
  rw [hxk]
  refine yl_offset (h_acked k hk) rfl ⟨hp, ?_⟩
  rw [ga]
  subst hy
  by_cases w : G.1 0 p.toNatClampNeg = 3
  · refine br_t (by rw [h_state _ he, w]; rfl) ?_
    by_cases w2 : a = 1
    · have e1 : gp_est G p.toNatClampNeg = gp_put G 0 p.toNatClampNeg 4 := if_pos w
      refine br_t (by rw [w2]; rfl) ⟨hp, nm_e (k62 (fun z => z.2 w2) (f_now, f_sent, a_seq, a_flags, a_acked, a_window, a_many, a_data, a_rows, upd a_state p.toNatClampNeg 4, a_error, a_iss, a_una, a_nxt, a_max, a_last, a_closed, a_written, a_irs, a_unread, a_bytes, a_held, a_rcv, a_finAt, a_marked, a_wnd, a_peak, a_half, a_rto, a_same, a_tries, a_smooth, a_spread, a_byNumber, a_byAck, a_sampled, a_told, a_retry, a_ackAt, a_waitAt, a_timedAt, a_timed) ?_)⟩
      rw [e1]; exact vy_put hv rfl
    · refine br_f (by rw [zk_1, zi_eq (by omega) (by omega) (by omega) (by omega)]; exact w2) ⟨hin, yl_refuse hv hp (by omega) (by omega) (h_acked k hk) fun u3 hv3 => ?_⟩
      have := hA ⟨w, w2⟩ u3 hv3
      obtain ⟨f_now, f_sent, a_seq, a_flags, a_acked, a_window, a_many, a_data, a_rows, a_state, a_error, a_iss, a_una, a_nxt, a_max, a_last, a_closed, a_written, a_irs, a_unread, a_bytes, a_held, a_rcv, a_finAt, a_marked, a_wnd, a_peak, a_half, a_rto, a_same, a_tries, a_smooth, a_spread, a_byNumber, a_byAck, a_sampled, a_told, a_retry, a_ackAt, a_waitAt, a_timedAt, a_timed⟩ := u3
      exact this
  · have e1 : gp_est G p.toNatClampNeg = G := if_neg w
    exact br_f (by rw [h_state _ he, zk_3, zi_eq (by omega) (by omega) (by omega) (by omega)]; exact w) (k62 (fun z => w z.1) (f_now, f_sent, a_seq, a_flags, a_acked, a_window, a_many, a_data, a_rows, a_state, a_error, a_iss, a_una, a_nxt, a_max, a_last, a_closed, a_written, a_irs, a_unread, a_bytes, a_held, a_rcv, a_finAt, a_marked, a_wnd, a_peak, a_half, a_rto, a_same, a_tries, a_smooth, a_spread, a_byNumber, a_byAck, a_sampled, a_told, a_retry, a_ackAt, a_waitAt, a_timedAt, a_timed) (by rw [e1]; exact hv))
