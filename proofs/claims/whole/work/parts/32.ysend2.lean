/-! the reference: send -/
theorem ys_257 {q : Int} {G : gm_T} {f_now : Int32} {f_sent : Int32} {a_seq : (Nat → Int32)} {a_flags : (Nat → Int32)} {a_acked : (Nat → Int32)} {a_window : (Nat → Int32)} {a_many : (Nat → Int32)} {a_data : (Nat → Int32)} {a_rows : (Nat → Int32)} {a_state : (Nat → Int32)} {a_error : (Nat → Int32)} {a_iss : (Nat → Int32)} {a_una : (Nat → Int64)} {a_nxt : (Nat → Int64)} {a_max : (Nat → Int64)} {a_last : (Nat → Int64)} {a_closed : (Nat → Int32)} {a_written : (Nat → Int32)} {a_irs : (Nat → Int32)} {a_unread : (Nat → Int32)} {a_bytes : (Nat → Int32)} {a_held : (Nat → Int32)} {a_rcv : (Nat → Int64)} {a_finAt : (Nat → Int64)} {a_marked : (Nat → Int32)} {a_wnd : (Nat → Int32)} {a_peak : (Nat → Int32)} {a_half : (Nat → Int32)} {a_rto : (Nat → Int32)} {a_same : (Nat → Int32)} {a_tries : (Nat → Int32)} {a_smooth : (Nat → Int32)} {a_spread : (Nat → Int32)} {a_byNumber : (Nat → Int32)} {a_byAck : (Nat → Int32)} {a_sampled : (Nat → Int32)} {a_told : (Nat → Int32)} {a_retry : (Nat → Int32)} {a_ackAt : (Nat → Int32)} {a_waitAt : (Nat → Int32)} {a_timedAt : (Nat → Int32)} {a_timed : (Nat → Int64)} {p : Int32} {P : SY → Prop} {len : Int} (hv : vy_S q G (f_now, f_sent, a_seq, a_flags, a_acked, a_window, a_many, a_data, a_rows, a_state, a_error, a_iss, a_una, a_nxt, a_max, a_last, a_closed, a_written, a_irs, a_unread, a_bytes, a_held, a_rcv, a_finAt, a_marked, a_wnd, a_peak, a_half, a_rto, a_same, a_tries, a_smooth, a_spread, a_byNumber, a_byAck, a_sampled, a_told, a_retry, a_ackAt, a_waitAt, a_timedAt, a_timed)) (hp : vp_in p 2) (hl : len ≠ 0) (h0 : -1 ≤ G.1 21 p.toNatClampNeg) (h1 : G.1 21 p.toNatClampNeg < 2147483648) (hP : ∀ u', vy_S q (gt_4 G p.toNatClampNeg len) u' → P u') : wY_send_257 P p f_now f_sent a_seq a_flags a_acked a_window a_many a_data a_rows a_state a_error a_iss a_una a_nxt a_max a_last a_closed a_written a_irs a_unread a_bytes a_held a_rcv a_finAt a_marked a_wnd a_peak a_half a_rto a_same a_tries a_smooth a_spread a_byNumber a_byAck a_sampled a_told a_retry a_ackAt a_waitAt a_timedAt a_timed := by
  have hv0 := hv
  obtain ⟨h_now, h_sent, h_seq, h_flags, h_acked, h_window, h_many, h_data, h_rows, h_state, h_error, h_iss, h_una, h_nxt, h_max, h_last, h_closed, h_written, h_irs, h_unread, h_bytes, h_held, h_rcv, h_finAt, h_marked, h_wnd, h_peak, h_half, h_rto, h_same, h_tries, h_smooth, h_spread, h_byNumber, h_byAck, h_sampled, h_told, h_retry, h_ackAt, h_waitAt, h_timedAt, h_timed⟩ := hv0
  have he := pe_lt hp
  unfold wY_send_257
  refine ⟨hp, ?_⟩
  by_cases w : G.1 21 p.toNatClampNeg < 0
  · refine br_f (by rw [h_retry _ he, zk_0, zi_le (by omega) (by omega) (by omega) (by omega)]; omega) ⟨hp, hp, nm_e (hP _ ?_)⟩
    refine (vy_mk h_now h_sent h_seq h_flags h_acked h_window h_many h_data h_rows h_state h_error h_iss h_una h_nxt h_max h_last h_closed h_written h_irs h_unread h_bytes h_held h_rcv h_finAt h_marked h_wnd h_peak h_half h_rto h_same h_tries h_smooth h_spread h_byNumber h_byAck h_sampled h_told (vu_e h_retry ?_ (fun e' y => gs_e y)) h_ackAt h_waitAt h_timedAt h_timed)
    show _ = zi_n (gs_c _ _ _ _ _ _)
    rw [gs_s, if_pos ⟨hl, w⟩, h_now, h_rto _ he, zi_add]
  · refine br_t (by rw [h_retry _ he, zk_0, zi_le (by omega) (by omega) (by omega) (by omega)]; omega) (hP _ ?_)
    have : gt_4 G p.toNatClampNeg len = G := by
      unfold gt_4
      rw [gs_id (if_neg (fun z => w z.2))]
    rw [this]; exact hv
theorem ys_231 {q : Int} {G : gm_T} {f_now : Int32} {f_sent : Int32} {a_seq : (Nat → Int32)} {a_flags : (Nat → Int32)} {a_acked : (Nat → Int32)} {a_window : (Nat → Int32)} {a_many : (Nat → Int32)} {a_data : (Nat → Int32)} {a_rows : (Nat → Int32)} {a_state : (Nat → Int32)} {a_error : (Nat → Int32)} {a_iss : (Nat → Int32)} {a_una : (Nat → Int64)} {a_nxt : (Nat → Int64)} {a_max : (Nat → Int64)} {a_last : (Nat → Int64)} {a_closed : (Nat → Int32)} {a_written : (Nat → Int32)} {a_irs : (Nat → Int32)} {a_unread : (Nat → Int32)} {a_bytes : (Nat → Int32)} {a_held : (Nat → Int32)} {a_rcv : (Nat → Int64)} {a_finAt : (Nat → Int64)} {a_marked : (Nat → Int32)} {a_wnd : (Nat → Int32)} {a_peak : (Nat → Int32)} {a_half : (Nat → Int32)} {a_rto : (Nat → Int32)} {a_same : (Nat → Int32)} {a_tries : (Nat → Int32)} {a_smooth : (Nat → Int32)} {a_spread : (Nat → Int32)} {a_byNumber : (Nat → Int32)} {a_byAck : (Nat → Int32)} {a_sampled : (Nat → Int32)} {a_told : (Nat → Int32)} {a_retry : (Nat → Int32)} {a_ackAt : (Nat → Int32)} {a_waitAt : (Nat → Int32)} {a_timedAt : (Nat → Int32)} {a_timed : (Nat → Int64)} {p x12 : Int32} {x2 : Int64} {P : SY → Prop} {fr len : Int} (hv : vy_S q G (f_now, f_sent, a_seq, a_flags, a_acked, a_window, a_many, a_data, a_rows, a_state, a_error, a_iss, a_una, a_nxt, a_max, a_last, a_closed, a_written, a_irs, a_unread, a_bytes, a_held, a_rcv, a_finAt, a_marked, a_wnd, a_peak, a_half, a_rto, a_same, a_tries, a_smooth, a_spread, a_byNumber, a_byAck, a_sampled, a_told, a_retry, a_ackAt, a_waitAt, a_timedAt, a_timed)) (hp : vp_in p 2) (hx2 : x2 = zl_n fr) (hx12 : x12 = zi_n len) (hl : len ≠ 0) (hl0 : 0 ≤ len) (hl1 : len ≤ 10) (hm0 : -100 ≤ fr - G.1 5 p.toNatClampNeg) (hm1 : fr - G.1 5 p.toNatClampNeg ≤ 100) (hM0 : 0 ≤ G.1 5 p.toNatClampNeg) (hM1 : G.1 5 p.toNatClampNeg ≤ 1000000) (h0 : -1 ≤ G.1 21 p.toNatClampNeg) (h1 : G.1 21 p.toNatClampNeg < 2147483648) (hP : ∀ u', vy_S q (gt_4 (gt_3 G p.toNatClampNeg fr len) p.toNatClampNeg len) u' → P u') : wY_send_231 P p x2 x12 f_now f_sent a_seq a_flags a_acked a_window a_many a_data a_rows a_state a_error a_iss a_una a_nxt a_max a_last a_closed a_written a_irs a_unread a_bytes a_held a_rcv a_finAt a_marked a_wnd a_peak a_half a_rto a_same a_tries a_smooth a_spread a_byNumber a_byAck a_sampled a_told a_retry a_ackAt a_waitAt a_timedAt a_timed := by
  have hv0 := hv
  obtain ⟨h_now, h_sent, h_seq, h_flags, h_acked, h_window, h_many, h_data, h_rows, h_state, h_error, h_iss, h_una, h_nxt, h_max, h_last, h_closed, h_written, h_irs, h_unread, h_bytes, h_held, h_rcv, h_finAt, h_marked, h_wnd, h_peak, h_half, h_rto, h_same, h_tries, h_smooth, h_spread, h_byNumber, h_byAck, h_sampled, h_told, h_retry, h_ackAt, h_waitAt, h_timedAt, h_timed⟩ := hv0
  have he := pe_lt hp
  have e1 : x2 + x12.toInt64 = zl_n (fr + len) := by rw [hx2, hx12, zi_l (by omega) (by omega), zl_add]
  unfold wY_send_231
  refine ⟨hp, ?_⟩
  by_cases w : G.1 5 p.toNatClampNeg < fr + len
  · refine br_f (by rw [e1, h_max _ he, zl_le (by omega) (by omega) (by omega) (by omega)]; omega) ⟨hp, nm_e ?_⟩
    refine ys_257 (G := gt_3 G p.toNatClampNeg fr len) ?_ hp hl h0 h1 hP
    refine (vy_mk h_now h_sent h_seq h_flags h_acked h_window h_many h_data h_rows h_state h_error h_iss h_una h_nxt (vu_l h_max ?_ (fun e' y => gs_e y)) h_last h_closed h_written h_irs h_unread h_bytes h_held h_rcv h_finAt h_marked h_wnd h_peak h_half h_rto h_same h_tries h_smooth h_spread h_byNumber h_byAck h_sampled h_told h_retry h_ackAt h_waitAt h_timedAt h_timed)
    show _ = zl_n (gs_c _ _ _ _ _ _)
    rw [gs_s, if_pos ⟨hl, w⟩, e1]
  · refine br_t (by rw [e1, h_max _ he, zl_le (by omega) (by omega) (by omega) (by omega)]; omega) ?_
    have : gt_3 G p.toNatClampNeg fr len = G := by
      unfold gt_3
      rw [gs_id (if_neg (fun z => w z.2))]
    rw [this] at hP
    exact ys_257 hv hp hl h0 h1 hP
theorem ys_170 {q : Int} {G : gm_T} {f_now : Int32} {f_sent : Int32} {a_seq : (Nat → Int32)} {a_flags : (Nat → Int32)} {a_acked : (Nat → Int32)} {a_window : (Nat → Int32)} {a_many : (Nat → Int32)} {a_data : (Nat → Int32)} {a_rows : (Nat → Int32)} {a_state : (Nat → Int32)} {a_error : (Nat → Int32)} {a_iss : (Nat → Int32)} {a_una : (Nat → Int64)} {a_nxt : (Nat → Int64)} {a_max : (Nat → Int64)} {a_last : (Nat → Int64)} {a_closed : (Nat → Int32)} {a_written : (Nat → Int32)} {a_irs : (Nat → Int32)} {a_unread : (Nat → Int32)} {a_bytes : (Nat → Int32)} {a_held : (Nat → Int32)} {a_rcv : (Nat → Int64)} {a_finAt : (Nat → Int64)} {a_marked : (Nat → Int32)} {a_wnd : (Nat → Int32)} {a_peak : (Nat → Int32)} {a_half : (Nat → Int32)} {a_rto : (Nat → Int32)} {a_same : (Nat → Int32)} {a_tries : (Nat → Int32)} {a_smooth : (Nat → Int32)} {a_spread : (Nat → Int32)} {a_byNumber : (Nat → Int32)} {a_byAck : (Nat → Int32)} {a_sampled : (Nat → Int32)} {a_told : (Nat → Int32)} {a_retry : (Nat → Int32)} {a_ackAt : (Nat → Int32)} {a_waitAt : (Nat → Int32)} {a_timedAt : (Nat → Int32)} {a_timed : (Nat → Int64)} {p x4 x5 : Int32} {x2 : Int64} {P : SY → Prop} {fr fl n : Int} (hv : vy_S q G (f_now, f_sent, a_seq, a_flags, a_acked, a_window, a_many, a_data, a_rows, a_state, a_error, a_iss, a_una, a_nxt, a_max, a_last, a_closed, a_written, a_irs, a_unread, a_bytes, a_held, a_rcv, a_finAt, a_marked, a_wnd, a_peak, a_half, a_rto, a_same, a_tries, a_smooth, a_spread, a_byNumber, a_byAck, a_sampled, a_told, a_retry, a_ackAt, a_waitAt, a_timedAt, a_timed)) (hp : vp_in p 2) (hx2 : x2 = zl_n fr) (hx4 : x4 = zi_n fl) (hx5 : x5 = zi_n n) (hf : fl = 0 ∨ fl = 1 ∨ fl = 4) (hn0 : 0 ≤ n) (hn8 : n ≤ 8) (hm0 : -100 ≤ fr - G.1 5 p.toNatClampNeg) (hm1 : fr - G.1 5 p.toNatClampNeg ≤ 100) (hM0 : 0 ≤ G.1 5 p.toNatClampNeg) (hM1 : G.1 5 p.toNatClampNeg ≤ 1000000) (ht0 : -1 ≤ G.1 24 p.toNatClampNeg) (ht1 : G.1 24 p.toNatClampNeg ≤ 1000000) (h0 : -1 ≤ G.1 21 p.toNatClampNeg) (h1 : G.1 21 p.toNatClampNeg < 2147483648) (hP : ∀ u', vy_S q (gt_4 (gt_3 (gt_2 G p.toNatClampNeg fr (gp_len fl n)) p.toNatClampNeg fr (gp_len fl n)) p.toNatClampNeg (gp_len fl n)) u' → P u') : wY_send_170 P p x2 x4 x5 f_now f_sent a_seq a_flags a_acked a_window a_many a_data a_rows a_state a_error a_iss a_una a_nxt a_max a_last a_closed a_written a_irs a_unread a_bytes a_held a_rcv a_finAt a_marked a_wnd a_peak a_half a_rto a_same a_tries a_smooth a_spread a_byNumber a_byAck a_sampled a_told a_retry a_ackAt a_waitAt a_timedAt a_timed := by
  have hv0 := hv
  obtain ⟨h_now, h_sent, h_seq, h_flags, h_acked, h_window, h_many, h_data, h_rows, h_state, h_error, h_iss, h_una, h_nxt, h_max, h_last, h_closed, h_written, h_irs, h_unread, h_bytes, h_held, h_rcv, h_finAt, h_marked, h_wnd, h_peak, h_half, h_rto, h_same, h_tries, h_smooth, h_spread, h_byNumber, h_byAck, h_sampled, h_told, h_retry, h_ackAt, h_waitAt, h_timedAt, h_timed⟩ := hv0
  have he := pe_lt hp
  have hlen : 0 ≤ gp_len fl n ∧ gp_len fl n ≤ 10 := by unfold gp_len; omega
  unfold wY_send_170
  refine ⟨by decide, nm_r (e' := zi_n (gp_len fl n)) (by rw [hx4, hx5, zf_1 (by omega) (by omega), zf_d (by omega) (by omega), zi_add, zi_add]; rfl) ?_⟩
  generalize gp_len fl n = len at *
  by_cases w : len = 0
  · refine br_t (by rw [w]; rfl) (hP _ ?_)
    have e2 : gt_2 G p.toNatClampNeg fr len = G := by
      unfold gt_2
      rw [gs_id (c := G.1) (if_neg (fun z => z.1 w)), gs_id (if_neg (fun z => z.1 w))]
    have e3 : gt_3 G p.toNatClampNeg fr len = G := by
      unfold gt_3
      rw [gs_id (if_neg (fun z => z.1 w))]
    have e4 : gt_4 G p.toNatClampNeg len = G := by
      unfold gt_4
      rw [gs_id (if_neg (fun z => z.1 w))]
    rw [e2, e3, e4]; exact hv
  · refine br_f (by rw [zk_0, zi_eq (by omega) (by omega) (by omega) (by omega)]; exact w) ⟨hp, ?_⟩
    have hv2 : ¬ (len ≠ 0 ∧ fr = G.1 5 p.toNatClampNeg ∧ G.1 24 p.toNatClampNeg < 0) → gt_2 G p.toNatClampNeg fr len = G := by
      intro z
      unfold gt_2
      rw [gs_id (c := G.1) (if_neg z), gs_id (if_neg z)]
    by_cases w2 : fr = G.1 5 p.toNatClampNeg
    · refine br_t (by rw [hx2, h_max _ he, w2]) ⟨hp, ?_⟩
      by_cases w3 : G.1 24 p.toNatClampNeg < 0
      · have z' : len ≠ 0 ∧ fr = G.1 5 p.toNatClampNeg ∧ G.1 24 p.toNatClampNeg < 0 := ⟨w, w2, w3⟩
        refine br_f (by rw [h_timed _ he, zk_l0, zl_le (by omega) (by omega) (by omega) (by omega)]; omega) ⟨hp, nm_e ⟨hp, nm_e ?_⟩⟩
        refine ys_231 (G := gt_2 G p.toNatClampNeg fr len) ?_ hp hx2 rfl w hlen.1 hlen.2 hm0 hm1 hM0 hM1 h0 h1 hP
        refine (vy_mk h_now h_sent h_seq h_flags h_acked h_window h_many h_data h_rows h_state h_error h_iss h_una h_nxt h_max h_last h_closed h_written h_irs h_unread h_bytes h_held h_rcv h_finAt h_marked h_wnd h_peak h_half h_rto h_same h_tries h_smooth h_spread h_byNumber h_byAck h_sampled h_told h_retry h_ackAt h_waitAt (vu_e h_timedAt ?a3 (fun e' y => ?a4)) (vu_l h_timed ?a1 (fun e' y => ?a2)))
        case a1 => simp +decide only [gt_2, gs_s, gs_f]; rw [if_pos z']; exact hx2
        case a2 => simp only [gt_2, gs_e y]
        case a3 => simp +decide only [gt_2, gs_s, gs_f]; rw [if_pos z']; exact h_now
        case a4 => simp only [gt_2, gs_e y]
      · refine br_t (by rw [h_timed _ he, zk_l0, zl_le (by omega) (by omega) (by omega) (by omega)]; omega) ?_
        rw [hv2 (fun z => w3 z.2.2)] at hP
        exact ys_231 hv hp hx2 rfl w hlen.1 hlen.2 hm0 hm1 hM0 hM1 h0 h1 hP
    · refine br_f (by rw [hx2, h_max _ he, zl_eq (by omega) (by omega) (by omega) (by omega)]; exact w2) ?_
      rw [hv2 (fun z => w2 z.2.1)] at hP
      exact ys_231 hv hp hx2 rfl w hlen.1 hlen.2 hm0 hm1 hM0 hM1 h0 h1 hP
theorem ys_107 {P : SY → Prop} {f_now : Int32} {f_sent : Int32} {a_seq : (Nat → Int32)} {a_flags : (Nat → Int32)} {a_acked : (Nat → Int32)} {a_window : (Nat → Int32)} {a_many : (Nat → Int32)} {a_data : (Nat → Int32)} {a_rows : (Nat → Int32)} {a_state : (Nat → Int32)} {a_error : (Nat → Int32)} {a_iss : (Nat → Int32)} {a_una : (Nat → Int64)} {a_nxt : (Nat → Int64)} {a_max : (Nat → Int64)} {a_last : (Nat → Int64)} {a_closed : (Nat → Int32)} {a_written : (Nat → Int32)} {a_irs : (Nat → Int32)} {a_unread : (Nat → Int32)} {a_bytes : (Nat → Int32)} {a_held : (Nat → Int32)} {a_rcv : (Nat → Int64)} {a_finAt : (Nat → Int64)} {a_marked : (Nat → Int32)} {a_wnd : (Nat → Int32)} {a_peak : (Nat → Int32)} {a_half : (Nat → Int32)} {a_rto : (Nat → Int32)} {a_same : (Nat → Int32)} {a_tries : (Nat → Int32)} {a_smooth : (Nat → Int32)} {a_spread : (Nat → Int32)} {a_byNumber : (Nat → Int32)} {a_byAck : (Nat → Int32)} {a_sampled : (Nat → Int32)} {a_told : (Nat → Int32)} {a_retry : (Nat → Int32)} {a_ackAt : (Nat → Int32)} {a_waitAt : (Nat → Int32)} {a_timedAt : (Nat → Int32)} {a_timed : (Nat → Int64)} {p x4 x5 x6 x11 : Int32} {x2 : Int64} {e k : Nat} {fr n : Int} {g : Int → Int} (hp : vp_in p 2) (hpe : p.toNatClampNeg = e) (hk : k < 32) (hx2 : x2 = zl_n fr) (hx5 : x5 = zi_n n) (hx11 : x11 = zi_n (k : Int)) (hn0 : 0 ≤ n) (hn8 : n ≤ 8) (hkb : ∀ i : Int, 0 ≤ i → i < n → a_written (64 * e + ((fr + i) % 64).toNat) = zi_n (g i)) (hX : ∀ DA : Nat → Int32, (∀ j, DA j = if 8 * (k : Int) ≤ j ∧ (j : Int) < 8 * (k : Int) + n then zi_n (g ((j : Int) - 8 * (k : Int))) else a_data j) → wY_send_158 P p x2 x4 x5 x6 f_now f_sent a_seq a_flags a_acked a_window a_many (DA) a_rows a_state a_error a_iss a_una a_nxt a_max a_last a_closed a_written a_irs a_unread a_bytes a_held a_rcv a_finAt a_marked a_wnd a_peak a_half a_rto a_same a_tries a_smooth a_spread a_byNumber a_byAck a_sampled a_told a_retry a_ackAt a_waitAt a_timedAt a_timed) :
    ∀ (f i : Nat) (DA : Nat → Int32), (i : Int) ≤ n → n - i < f → (∀ j, DA j = if 8 * (k : Int) ≤ j ∧ (j : Int) < 8 * (k : Int) + i then zi_n (g ((j : Int) - 8 * (k : Int))) else a_data j) → wY_send_107 P p x2 x4 x5 x6 1 x11 f_now f_sent f (nI i) a_seq a_flags a_acked a_window a_many (DA) a_rows a_state a_error a_iss a_una a_nxt a_max a_last a_closed a_written a_irs a_unread a_bytes a_held a_rcv a_finAt a_marked a_wnd a_peak a_half a_rto a_same a_tries a_smooth a_spread a_byNumber a_byAck a_sampled a_told a_retry a_ackAt a_waitAt a_timedAt a_timed := by
  have hz := pe_z hp
  have he := pe_lt hp
  intro f
  induction f with
  | zero => intro i DA h1 h2; omega
  | succ f ih =>
    intro i DA h1 h2 h3
    by_cases w : (i : Int) = n
    · rw [w] at h3
      exact br_t (by rw [hx5, zi_nI, w]; exact Int32.le_refl _) (hX DA h3)
    · have i1 : (64 * p + ((x2 + (nI i).toInt64) &&& 63).toInt32) = zi_n (64 * (e : Int) + (fr + i) % 64) := by
        rw [hpe] at hz
        rw [hz, hx2, zi_nI, zi_l (by omega) (by omega), zl_add, zl_a6, zl_i, zk_64, zi_mul, zi_add]
      have i2 : (64 * p + ((x2 + (nI i).toInt64) &&& 63).toInt32).toNatClampNeg = 64 * e + ((fr + i) % 64).toNat := by
        rw [i1, zi_cl (by omega) (by omega)]; omega
      have i3 : (8 * x11 + nI i) = zi_n (8 * (k : Int) + i) := by rw [hx11, zi_nI, zk_8, zi_mul, zi_add]
      have i4 : (8 * x11 + nI i).toNatClampNeg = 8 * k + i := by rw [i3, zi_cl (by omega) (by omega)]; omega
      refine br_f (by rw [hx5, zi_nI, zi_le (by omega) (by omega) (by omega) (by omega)]; omega) (br_f (by decide) ⟨?_, ?_, nm_e (nm_r (nI_1 i) (ih (i + 1) _ (by omega) (by omega) ?_))⟩)
      · rw [i1]; exact zi_in (by omega) (by omega) (by omega)
      · rw [i3]; exact zi_in (by omega) (by omega) (by omega)
      · intro j
        rw [i4, i2, hkb i (by omega) (by omega)]
        by_cases w2 : j = 8 * k + i
        · rw [w2, zu_s, if_pos (by omega)]
          congr 2; omega
        · rw [zu_n w2, h3 j]
          by_cases w3 : 8 * (k : Int) ≤ j ∧ (j : Int) < 8 * (k : Int) + i
          · rw [if_pos w3, if_pos (by omega)]
          · rw [if_neg w3, if_neg (by omega)]
theorem yl_send {q : Int} {G : gm_T} {u : SY} {p x2 x3 : Int32} {x1 : Int64} {P : SY → Prop} {fr fl n : Int} (hv : vy_S q G u) (hp : vp_in p 2) (hx1 : x1 = zl_n fr) (hx2 : x2 = zi_n fl) (hx3 : x3 = zi_n n) (hi : (0 ≤ G.1 2 p.toNatClampNeg ∧ G.1 2 p.toNatClampNeg ≤ 65535) ∧ (0 ≤ G.1 7 p.toNatClampNeg ∧ G.1 7 p.toNatClampNeg ≤ 65535)) (ok : sq_ok G p.toNatClampNeg fr fl n) (hP : ∀ u', vy_S q (gp_send G p.toNatClampNeg fr fl n) u' → P u') : wpY_send P u p x1 x2 x3 := by
  obtain ⟨f_now, f_sent, a_seq, a_flags, a_acked, a_window, a_many, a_data, a_rows, a_state, a_error, a_iss, a_una, a_nxt, a_max, a_last, a_closed, a_written, a_irs, a_unread, a_bytes, a_held, a_rcv, a_finAt, a_marked, a_wnd, a_peak, a_half, a_rto, a_same, a_tries, a_smooth, a_spread, a_byNumber, a_byAck, a_sampled, a_told, a_retry, a_ackAt, a_waitAt, a_timedAt, a_timed⟩ := u
  have hv0 := hv
  obtain ⟨h_now, h_sent, h_seq, h_flags, h_acked, h_window, h_many, h_data, h_rows, h_state, h_error, h_iss, h_una, h_nxt, h_max, h_last, h_closed, h_written, h_irs, h_unread, h_bytes, h_held, h_rcv, h_finAt, h_marked, h_wnd, h_peak, h_half, h_rto, h_same, h_tries, h_smooth, h_spread, h_byNumber, h_byAck, h_sampled, h_told, h_retry, h_ackAt, h_waitAt, h_timedAt, h_timed⟩ := hv0
  have he := pe_lt hp
  have hz := pe_z hp
  obtain ⟨c1, c2, c3, c4, c5, c6, c7, c8, c9, d1, d2, d3, d4, d5, d6, d7, d8, d9, da⟩ := ok
  -- behind the bytes
  have k158 : ∀ (x6 : Int32) (u1 : SY), ((G.1 0 p.toNatClampNeg = 2 ∧ x6 = 1) ∨ (G.1 0 p.toNatClampNeg ≠ 2 ∧ x6 = 0)) → vy_S q (gp_sp G p.toNatClampNeg fr fl n) u1 → (match u1 with | (f_now, f_sent, a_seq, a_flags, a_acked, a_window, a_many, a_data, a_rows, a_state, a_error, a_iss, a_una, a_nxt, a_max, a_last, a_closed, a_written, a_irs, a_unread, a_bytes, a_held, a_rcv, a_finAt, a_marked, a_wnd, a_peak, a_half, a_rto, a_same, a_tries, a_smooth, a_spread, a_byNumber, a_byAck, a_sampled, a_told, a_retry, a_ackAt, a_waitAt, a_timedAt, a_timed) => wY_send_158 P p x1 x2 x3 x6 f_now f_sent a_seq a_flags a_acked a_window a_many a_data a_rows a_state a_error a_iss a_una a_nxt a_max a_last a_closed a_written a_irs a_unread a_bytes a_held a_rcv a_finAt a_marked a_wnd a_peak a_half a_rto a_same a_tries a_smooth a_spread a_byNumber a_byAck a_sampled a_told a_retry a_ackAt a_waitAt a_timedAt a_timed) := by
    intro x6 u1 hx6 hv1
    obtain ⟨f_now, f_sent, a_seq, a_flags, a_acked, a_window, a_many, a_data, a_rows, a_state, a_error, a_iss, a_una, a_nxt, a_max, a_last, a_closed, a_written, a_irs, a_unread, a_bytes, a_held, a_rcv, a_finAt, a_marked, a_wnd, a_peak, a_half, a_rto, a_same, a_tries, a_smooth, a_spread, a_byNumber, a_byAck, a_sampled, a_told, a_retry, a_ackAt, a_waitAt, a_timedAt, a_timed⟩ := u1
    show wY_send_158 P p x1 x2 x3 x6 f_now f_sent a_seq a_flags a_acked a_window a_many a_data a_rows a_state a_error a_iss a_una a_nxt a_max a_last a_closed a_written a_irs a_unread a_bytes a_held a_rcv a_finAt a_marked a_wnd a_peak a_half a_rto a_same a_tries a_smooth a_spread a_byNumber a_byAck a_sampled a_told a_retry a_ackAt a_waitAt a_timedAt a_timed
    have hG : gp_send G p.toNatClampNeg fr fl n = gt_4 (gt_3 (gt_2 (gt_1 (gp_sp G p.toNatClampNeg fr fl n) p.toNatClampNeg) p.toNatClampNeg fr (gp_len fl n)) p.toNatClampNeg fr (gp_len fl n)) p.toNatClampNeg (gp_len fl n) := rfl
    rw [hG] at hP
    unfold wY_send_158
    have fin : ∀ u2, vy_S q (gt_1 (gp_sp G p.toNatClampNeg fr fl n) p.toNatClampNeg) u2 → (match u2 with | (f_now, f_sent, a_seq, a_flags, a_acked, a_window, a_many, a_data, a_rows, a_state, a_error, a_iss, a_una, a_nxt, a_max, a_last, a_closed, a_written, a_irs, a_unread, a_bytes, a_held, a_rcv, a_finAt, a_marked, a_wnd, a_peak, a_half, a_rto, a_same, a_tries, a_smooth, a_spread, a_byNumber, a_byAck, a_sampled, a_told, a_retry, a_ackAt, a_waitAt, a_timedAt, a_timed) => wY_send_170 P p x1 x2 x3 f_now f_sent a_seq a_flags a_acked a_window a_many a_data a_rows a_state a_error a_iss a_una a_nxt a_max a_last a_closed a_written a_irs a_unread a_bytes a_held a_rcv a_finAt a_marked a_wnd a_peak a_half a_rto a_same a_tries a_smooth a_spread a_byNumber a_byAck a_sampled a_told a_retry a_ackAt a_waitAt a_timedAt a_timed) := by
      intro u2 hv2
      obtain ⟨f_now, f_sent, a_seq, a_flags, a_acked, a_window, a_many, a_data, a_rows, a_state, a_error, a_iss, a_una, a_nxt, a_max, a_last, a_closed, a_written, a_irs, a_unread, a_bytes, a_held, a_rcv, a_finAt, a_marked, a_wnd, a_peak, a_half, a_rto, a_same, a_tries, a_smooth, a_spread, a_byNumber, a_byAck, a_sampled, a_told, a_retry, a_ackAt, a_waitAt, a_timedAt, a_timed⟩ := u2
      exact ys_170 (G := gt_1 (gp_sp G p.toNatClampNeg fr fl n) p.toNatClampNeg) hv2 hp hx1 hx2 hx3 c7 c5 c6 c8 c9 d1 d2 d3 da d5 d6 hP
    rcases hx6 with ⟨h, rfl⟩ | ⟨h, rfl⟩
    · refine br_f (by decide) ?_
      refine fin (f_now, f_sent, a_seq, a_flags, a_acked, a_window, a_many, a_data, a_rows, a_state, a_error, a_iss, a_una, a_nxt, a_max, a_last, a_closed, a_written, a_irs, a_unread, a_bytes, a_held, a_rcv, a_finAt, a_marked, a_wnd, a_peak, a_half, a_rto, a_same, a_tries, a_smooth, a_spread, a_byNumber, a_byAck, a_sampled, a_told, a_retry, a_ackAt, a_waitAt, a_timedAt, a_timed) ?_
      have e1 : gt_1 (gp_sp G p.toNatClampNeg fr fl n) p.toNatClampNeg = gp_sp G p.toNatClampNeg fr fl n := by
        have : gs_c (gp_sp G p.toNatClampNeg fr fl n).1 22 p.toNatClampNeg (-1) = (gp_sp G p.toNatClampNeg fr fl n).1 := gs_id (d8 h).symm
        unfold gt_1
        rw [this]
      rw [e1]; exact hv1
    · refine br_t rfl ⟨hp, nm_e ?_⟩
      refine fin (f_now, f_sent, a_seq, a_flags, a_acked, a_window, a_many, a_data, a_rows, a_state, a_error, a_iss, a_una, a_nxt, a_max, a_last, a_closed, a_written, a_irs, a_unread, a_bytes, a_held, a_rcv, a_finAt, a_marked, a_wnd, a_peak, a_half, a_rto, a_same, a_tries, a_smooth, a_spread, a_byNumber, a_byAck, a_sampled, a_told, a_retry, upd a_ackAt p.toNatClampNeg (-1), a_waitAt, a_timedAt, a_timed) ?_
      clear h_ackAt
      obtain ⟨h_now, h_sent, h_seq, h_flags, h_acked, h_window, h_many, h_data, h_rows, h_state, h_error, h_iss, h_una, h_nxt, h_max, h_last, h_closed, h_written, h_irs, h_unread, h_bytes, h_held, h_rcv, h_finAt, h_marked, h_wnd, h_peak, h_half, h_rto, h_same, h_tries, h_smooth, h_spread, h_byNumber, h_byAck, h_sampled, h_told, h_retry, h_ackAt, h_waitAt, h_timedAt, h_timed⟩ := hv1
      refine (vy_mk h_now h_sent h_seq h_flags h_acked h_window h_many h_data h_rows h_state h_error h_iss h_una h_nxt h_max h_last h_closed h_written h_irs h_unread h_bytes h_held h_rcv h_finAt h_marked h_wnd h_peak h_half h_rto h_same h_tries h_smooth h_spread h_byNumber h_byAck h_sampled h_told h_retry (vu_e h_ackAt ?_ (fun e' y => gs_e y)) h_waitAt h_timedAt h_timed)
      show _ = zi_n (gs_c _ _ _ _ _ _)
      rw [gs_s]; rfl
  have k66 : ∀ (x6 x7 x9 z0 z1 : Int32), ((G.1 0 p.toNatClampNeg = 2 ∧ x6 = 1) ∨ (G.1 0 p.toNatClampNeg ≠ 2 ∧ x6 = 0)) → x7 = zi_n (24 - G.1 9 p.toNatClampNeg) → x9 = zi_n (if G.1 0 p.toNatClampNeg = 2 then 0 else (G.1 7 p.toNatClampNeg + G.1 8 p.toNatClampNeg) % 65536) → z0 = zi_n (if G.1 0 p.toNatClampNeg = 2 then fl else fl + 2) → z1 = zi_n ((G.1 2 p.toNatClampNeg + fr) % 65536) → wY_send_66 P p x1 x2 x3 x6 x7 x9 z0 z1 p f_now f_sent a_seq a_flags a_acked a_window a_many a_data a_rows a_state a_error a_iss a_una a_nxt a_max a_last a_closed a_written a_irs a_unread a_bytes a_held a_rcv a_finAt a_marked a_wnd a_peak a_half a_rto a_same a_tries a_smooth a_spread a_byNumber a_byAck a_sampled a_told a_retry a_ackAt a_waitAt a_timedAt a_timed := by
    intro x6 x7 x9 z0 z1 hx6 hx7 hx9 hz0 hz1
    unfold wY_send_66
    refine yl_post hp (h_rows _ he) c3 c4 (fun hlt => ⟨hp, ?_⟩) (fun h => ⟨hp, ?_⟩)
    · have e2 : (16 * p + upd a_rows p.toNatClampNeg (zi_n (G.1 30 p.toNatClampNeg + 1)) p.toNatClampNeg) - 1 = zi_n ((16 * p.toNatClampNeg + (G.1 30 p.toNatClampNeg).toNat : Nat) : Int) := by
        rw [zu_s]
        generalize p.toNatClampNeg = e at *
        rw [hz, zk_16, zk_1, zi_mul, zi_add, zi_sub]; congr 1; omega
      have hin : vp_in (zi_n ((16 * p.toNatClampNeg + (G.1 30 p.toNatClampNeg).toNat : Nat) : Int)) 32 := zi_in (by omega) (by omega) (by omega)
      have hc : (zi_n ((16 * p.toNatClampNeg + (G.1 30 p.toNatClampNeg).toNat : Nat) : Int)).toNatClampNeg = 16 * p.toNatClampNeg + (G.1 30 p.toNatClampNeg).toNat := by rw [zi_cl (by omega) (by omega)]; omega
      refine nm_r e2 (br_f (by decide) ⟨hin, nm_e ⟨9, ?_⟩⟩)
      rw [hc]
      have hmm : ∀ y : Int32, upd (upd a_many (16 * p.toNatClampNeg + (G.1 30 p.toNatClampNeg).toNat) 0) (16 * p.toNatClampNeg + (G.1 30 p.toNatClampNeg).toNat) y = upd a_many (16 * p.toNatClampNeg + (G.1 30 p.toNatClampNeg).toNat) y := by
        intro y; funext j; unfold upd; split <;> rfl
      rw [hmm]
      refine ys_107 (e := p.toNatClampNeg) (k := 16 * p.toNatClampNeg + (G.1 30 p.toNatClampNeg).toNat) (fr := fr) (n := n) (g := fun i => gm_W G p.toNatClampNeg (fr + i)) hp rfl (by omega) hx1 hx3 rfl c5 c6 (fun i hi0 hin => ?_) (fun DA hDA => ?_) 9 0 a_data (by omega) (by omega) (fun j => by rw [if_neg (by omega)])
      · have := d7 (by omega)
        exact h_written _ he (fr + i) (by omega) (by omega) (by omega)
      · subst hx7 hx9 hz0 hz1 hx3
        exact k158 x6 (f_now, f_sent + 1, upd a_seq (16 * p.toNatClampNeg + (G.1 30 p.toNatClampNeg).toNat) (zi_n ((G.1 2 p.toNatClampNeg + fr) % 65536)), upd a_flags (16 * p.toNatClampNeg + (G.1 30 p.toNatClampNeg).toNat) (zi_n (if G.1 0 p.toNatClampNeg = 2 then fl else fl + 2)), upd a_acked (16 * p.toNatClampNeg + (G.1 30 p.toNatClampNeg).toNat) (zi_n (if G.1 0 p.toNatClampNeg = 2 then 0 else (G.1 7 p.toNatClampNeg + G.1 8 p.toNatClampNeg) % 65536)), upd a_window (16 * p.toNatClampNeg + (G.1 30 p.toNatClampNeg).toNat) (zi_n (24 - G.1 9 p.toNatClampNeg)), upd a_many (16 * p.toNatClampNeg + (G.1 30 p.toNatClampNeg).toNat) (zi_n n), DA, upd a_rows p.toNatClampNeg (zi_n (G.1 30 p.toNatClampNeg + 1)), a_state, a_error, a_iss, a_una, a_nxt, a_max, a_last, a_closed, a_written, a_irs, a_unread, a_bytes, a_held, a_rcv, a_finAt, a_marked, a_wnd, a_peak, a_half, a_rto, a_same, a_tries, a_smooth, a_spread, a_byNumber, a_byAck, a_sampled, a_told, a_retry, a_ackAt, a_waitAt, a_timedAt, a_timed) hx6 (vy_post hv he c3 hlt hDA)
    · refine nm_e (br_t rfl ⟨1, ?_⟩)
      have key := k158 x6 (f_now, f_sent + 1, a_seq, a_flags, a_acked, a_window, a_many, a_data, a_rows, a_state, a_error, a_iss, a_una, a_nxt, a_max, a_last, a_closed, a_written, a_irs, a_unread, a_bytes, a_held, a_rcv, a_finAt, a_marked, a_wnd, a_peak, a_half, a_rto, a_same, a_tries, a_smooth, a_spread, a_byNumber, a_byAck, a_sampled, a_told, a_retry, a_ackAt, a_waitAt, a_timedAt, a_timed) hx6 (vy_lost hv he h)
      by_cases w : x3 ≤ 0
      · exact br_t w key
      · exact br_f w (br_t rfl key)
  have k15 : ∀ z : Int32, ((G.1 0 p.toNatClampNeg = 2 ∧ z = 1) ∨ (G.1 0 p.toNatClampNeg ≠ 2 ∧ z = 0)) → wY_send_15 P p x1 x2 x3 z f_now f_sent a_seq a_flags a_acked a_window a_many a_data a_rows a_state a_error a_iss a_una a_nxt a_max a_last a_closed a_written a_irs a_unread a_bytes a_held a_rcv a_finAt a_marked a_wnd a_peak a_half a_rto a_same a_tries a_smooth a_spread a_byNumber a_byAck a_sampled a_told a_retry a_ackAt a_waitAt a_timedAt a_timed := by
    intro z hz6
    unfold wY_send_15
    refine yl_own hp (h_unread _ he) (yl_number hp (h_iss _ he) hi.1.1 hi.1.2 hx1 ?_)
    rcases hz6 with ⟨h, rfl⟩ | ⟨h, rfl⟩
    · refine br_f (by decide) ?_
      unfold wY_send_46
      exact br_f (by decide) (k66 1 _ _ _ _ (Or.inl ⟨h, rfl⟩) rfl (by rw [if_pos h]; rfl) (by rw [if_pos h]; exact hx2) rfl)
    · refine br_t rfl (yl_due hp (h_irs _ he) hi.2.1 hi.2.2 (h_rcv _ he) ?_)
      unfold wY_send_46
      exact br_t rfl (k66 0 _ _ _ _ (Or.inr ⟨h, rfl⟩) rfl (by rw [if_neg h]) (by rw [if_neg h, hx2]; exact zf_o c7) rfl)
  unfold wpY_send
  by_cases w : G.1 0 p.toNatClampNeg = 2
  · exact ⟨hp, br_t (by rw [h_state _ he, w]; rfl) (k15 1 (Or.inl ⟨w, rfl⟩))⟩
  · exact ⟨hp, br_f (by rw [h_state _ he, zk_2, zi_eq (by omega) (by omega) (by omega) (by omega)]; exact w) (k15 0 (Or.inr ⟨w, rfl⟩))⟩
theorem gv_ii {K : Int} {G : gm_T} {e : Nat} (hI : gv_I K G) (he : e < 2) : (0 ≤ G.1 2 e ∧ G.1 2 e ≤ 65535) ∧ (0 ≤ G.1 7 e ∧ G.1 7 e ≤ 65535) := by
  obtain ⟨b1, b2, b3, b4, b5, b6⟩ := hI.2.2.2.2.1 _ he
  unfold gv_a at b1
  unfold gv_r at b6
  omega
theorem yl_ack {q K : Int} {G : gm_T} {u : SY} {p : Int32} {P : SY → Prop} (hv : vy_S q G u) (hI : gv_I K G) (hp : vp_in p 2) (hs : 2 ≤ G.1 0 p.toNatClampNeg) (hP : ∀ u', vy_S q (gp_ack G p.toNatClampNeg) u' → P u') : wpY_acknowledge P u p := by
  obtain ⟨f_now, f_sent, a_seq, a_flags, a_acked, a_window, a_many, a_data, a_rows, a_state, a_error, a_iss, a_una, a_nxt, a_max, a_last, a_closed, a_written, a_irs, a_unread, a_bytes, a_held, a_rcv, a_finAt, a_marked, a_wnd, a_peak, a_half, a_rto, a_same, a_tries, a_smooth, a_spread, a_byNumber, a_byAck, a_sampled, a_told, a_retry, a_ackAt, a_waitAt, a_timedAt, a_timed⟩ := u
  have hm : a_max p.toNatClampNeg = zl_n (G.1 5 p.toNatClampNeg) := by obtain ⟨h_now, h_sent, h_seq, h_flags, h_acked, h_window, h_many, h_data, h_rows, h_state, h_error, h_iss, h_una, h_nxt, h_max, h_last, h_closed, h_written, h_irs, h_unread, h_bytes, h_held, h_rcv, h_finAt, h_marked, h_wnd, h_peak, h_half, h_rto, h_same, h_tries, h_smooth, h_spread, h_byNumber, h_byAck, h_sampled, h_told, h_retry, h_ackAt, h_waitAt, h_timedAt, h_timed⟩ := hv; exact h_max _ (pe_lt hp)
  have he := pe_lt hp
  obtain ⟨b1, b2, b3, b4, b5, b6⟩ := hI.2.2.2.2.1 _ he
  unfold gv_p at b2
  have hu : G.1 3 p.toNatClampNeg - 1 ≤ G.1 5 p.toNatClampNeg := by
    by_cases w4 : 4 ≤ G.1 0 p.toNatClampNeg
    · have := b2.2.2.2.2.1 w4; omega
    · have := b2.2.2.2.1 (by omega); omega
  unfold wpY_acknowledge
  refine ⟨hp, yl_send hv hp hm zk_0 zk_0 (gv_ii hI he) (sk_of hI he hs (Or.inl rfl) (by omega) (by omega) hu (by omega) (by omega)) fun u1 hv1 => ?_⟩
  have := hP u1 hv1
  obtain ⟨f_now, f_sent, a_seq, a_flags, a_acked, a_window, a_many, a_data, a_rows, a_state, a_error, a_iss, a_una, a_nxt, a_max, a_last, a_closed, a_written, a_irs, a_unread, a_bytes, a_held, a_rcv, a_finAt, a_marked, a_wnd, a_peak, a_half, a_rto, a_same, a_tries, a_smooth, a_spread, a_byNumber, a_byAck, a_sampled, a_told, a_retry, a_ackAt, a_waitAt, a_timedAt, a_timed⟩ := u1
  exact this
