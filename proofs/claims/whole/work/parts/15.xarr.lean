/-! the class: acknowledged FINs, pieces, windows; a segment arrives at an end that is closed, listens or opens -/
theorem vx_put {q : Int} {G : gm_T} {f_now : Int32} {f_sent : Int32} {a_stateOf : (Nat → Int32)} {a_error : (Nat → Int32)} {a_iss : (Nat → Int32)} {a_una : (Nat → Int32)} {a_nxt : (Nat → Int32)} {a_max : (Nat → Int32)} {a_writtenTo : (Nat → Int32)} {a_kept : (Nat → Int32)} {a_keptBytes : (Nat → Int32)} {a_rcv : (Nat → Int32)} {a_unread : (Nat → Int32)} {a_unreadFrom : (Nat → Int32)} {a_cameBytes : (Nat → Int32)} {a_held : (Nat → Int32)} {a_heldFin : (Nat → Int32)} {a_wnd : (Nat → Int32)} {a_wndSeq : (Nat → Int32)} {a_wndAck : (Nat → Int32)} {a_peak : (Nat → Int32)} {a_half : (Nat → Int32)} {a_same : (Nat → Int32)} {a_rto : (Nat → Int32)} {a_tries : (Nat → Int32)} {a_retryAt : (Nat → Int32)} {a_ackAt : (Nat → Int32)} {a_waitTill : (Nat → Int32)} {a_timedAt : (Nat → Int32)} {a_timedSeq : (Nat → Int32)} {a_smoothed : (Nat → Int32)} {a_variance : (Nat → Int32)} {a_rowCount : (Nat → Int32)} {a_slotSeq : (Nat → Int32)} {a_slotFlags : (Nat → Int32)} {a_slotAck : (Nat → Int32)} {a_slotWindow : (Nat → Int32)} {a_slotSize : (Nat → Int32)} {a_slotBytes : (Nat → Int32)} {e : Nat} {s : Int} {y : Int32} (hv : vx_S q G (f_now, f_sent, a_stateOf, a_error, a_iss, a_una, a_nxt, a_max, a_writtenTo, a_kept, a_keptBytes, a_rcv, a_unread, a_unreadFrom, a_cameBytes, a_held, a_heldFin, a_wnd, a_wndSeq, a_wndAck, a_peak, a_half, a_same, a_rto, a_tries, a_retryAt, a_ackAt, a_waitTill, a_timedAt, a_timedSeq, a_smoothed, a_variance, a_rowCount, a_slotSeq, a_slotFlags, a_slotAck, a_slotWindow, a_slotSize, a_slotBytes)) (hy : y = zi_n s) : vx_S q (gp_put G 0 e s) (f_now, f_sent, upd a_stateOf e y, a_error, a_iss, a_una, a_nxt, a_max, a_writtenTo, a_kept, a_keptBytes, a_rcv, a_unread, a_unreadFrom, a_cameBytes, a_held, a_heldFin, a_wnd, a_wndSeq, a_wndAck, a_peak, a_half, a_same, a_rto, a_tries, a_retryAt, a_ackAt, a_waitTill, a_timedAt, a_timedSeq, a_smoothed, a_variance, a_rowCount, a_slotSeq, a_slotFlags, a_slotAck, a_slotWindow, a_slotSize, a_slotBytes) := by
  obtain ⟨h_now, h_sent, h_stateOf, h_error, h_iss, h_una, h_nxt, h_max, h_writtenTo, h_kept, h_keptBytes, h_rcv, h_unread, h_unreadFrom, h_cameBytes, h_held, h_heldFin, h_wnd, h_wndSeq, h_wndAck, h_peak, h_half, h_same, h_rto, h_tries, h_retryAt, h_ackAt, h_waitTill, h_timedAt, h_timedSeq, h_smoothed, h_variance, h_rowCount, h_slotSeq, h_slotFlags, h_slotAck, h_slotWindow, h_slotSize, h_slotBytes⟩ := hv
  exact (vx_mk h_now h_sent (vu_e h_stateOf (by rw [pu_s]; exact hy) (fun e' q => pu_o q _)) h_error h_iss h_una h_nxt h_max h_writtenTo h_kept h_keptBytes h_rcv h_unread h_unreadFrom h_cameBytes h_held h_heldFin h_wnd h_wndSeq h_wndAck h_peak h_half h_same h_rto h_tries h_retryAt h_ackAt h_waitTill h_timedAt h_timedSeq h_smoothed h_variance h_rowCount h_slotSeq h_slotFlags h_slotAck h_slotWindow h_slotSize h_slotBytes)
theorem vx_wait {q : Int} {G : gm_T} {f_now : Int32} {f_sent : Int32} {a_stateOf : (Nat → Int32)} {a_error : (Nat → Int32)} {a_iss : (Nat → Int32)} {a_una : (Nat → Int32)} {a_nxt : (Nat → Int32)} {a_max : (Nat → Int32)} {a_writtenTo : (Nat → Int32)} {a_kept : (Nat → Int32)} {a_keptBytes : (Nat → Int32)} {a_rcv : (Nat → Int32)} {a_unread : (Nat → Int32)} {a_unreadFrom : (Nat → Int32)} {a_cameBytes : (Nat → Int32)} {a_held : (Nat → Int32)} {a_heldFin : (Nat → Int32)} {a_wnd : (Nat → Int32)} {a_wndSeq : (Nat → Int32)} {a_wndAck : (Nat → Int32)} {a_peak : (Nat → Int32)} {a_half : (Nat → Int32)} {a_same : (Nat → Int32)} {a_rto : (Nat → Int32)} {a_tries : (Nat → Int32)} {a_retryAt : (Nat → Int32)} {a_ackAt : (Nat → Int32)} {a_waitTill : (Nat → Int32)} {a_timedAt : (Nat → Int32)} {a_timedSeq : (Nat → Int32)} {a_smoothed : (Nat → Int32)} {a_variance : (Nat → Int32)} {a_rowCount : (Nat → Int32)} {a_slotSeq : (Nat → Int32)} {a_slotFlags : (Nat → Int32)} {a_slotAck : (Nat → Int32)} {a_slotWindow : (Nat → Int32)} {a_slotSize : (Nat → Int32)} {a_slotBytes : (Nat → Int32)} {e : Nat} (hv : vx_S q G (f_now, f_sent, a_stateOf, a_error, a_iss, a_una, a_nxt, a_max, a_writtenTo, a_kept, a_keptBytes, a_rcv, a_unread, a_unreadFrom, a_cameBytes, a_held, a_heldFin, a_wnd, a_wndSeq, a_wndAck, a_peak, a_half, a_same, a_rto, a_tries, a_retryAt, a_ackAt, a_waitTill, a_timedAt, a_timedSeq, a_smoothed, a_variance, a_rowCount, a_slotSeq, a_slotFlags, a_slotAck, a_slotWindow, a_slotSize, a_slotBytes)) : vx_S q (gp_wait G e) (f_now, f_sent, upd a_stateOf e 10, a_error, a_iss, a_una, a_nxt, a_max, a_writtenTo, a_kept, a_keptBytes, a_rcv, a_unread, a_unreadFrom, a_cameBytes, a_held, a_heldFin, a_wnd, a_wndSeq, a_wndAck, a_peak, a_half, a_same, a_rto, a_tries, a_retryAt, a_ackAt, upd a_waitTill e (f_now + 20), a_timedAt, a_timedSeq, a_smoothed, a_variance, a_rowCount, a_slotSeq, a_slotFlags, a_slotAck, a_slotWindow, a_slotSize, a_slotBytes) := by
  obtain ⟨h_now, h_sent, h_stateOf, h_error, h_iss, h_una, h_nxt, h_max, h_writtenTo, h_kept, h_keptBytes, h_rcv, h_unread, h_unreadFrom, h_cameBytes, h_held, h_heldFin, h_wnd, h_wndSeq, h_wndAck, h_peak, h_half, h_same, h_rto, h_tries, h_retryAt, h_ackAt, h_waitTill, h_timedAt, h_timedSeq, h_smoothed, h_variance, h_rowCount, h_slotSeq, h_slotFlags, h_slotAck, h_slotWindow, h_slotSize, h_slotBytes⟩ := hv
  refine (vx_mk h_now h_sent (vu_e h_stateOf ?a1 (fun e' q => ?a2)) h_error h_iss h_una h_nxt h_max h_writtenTo h_kept h_keptBytes h_rcv h_unread h_unreadFrom h_cameBytes h_held h_heldFin h_wnd h_wndSeq h_wndAck h_peak h_half h_same h_rto h_tries h_retryAt h_ackAt (vu_e h_waitTill ?a3 (fun e' q => ?a4)) h_timedAt h_timedSeq h_smoothed h_variance h_rowCount h_slotSeq h_slotFlags h_slotAck h_slotWindow h_slotSize h_slotBytes)
  case a1 => simp +decide only [gp_wait, gs_s, gs_f] <;> rfl
  case a2 => simp only [gp_wait, gs_e q]
  case a3 => simp +decide only [gp_wait, gs_s, gs_f]; rw [h_now, zk_20, zi_add]
  case a4 => simp only [gp_wait, gs_e q]
theorem xl_takeFinAck {q K : Int} {G : gm_T} {u : SX} {p : Int32} {P : SX → Prop} (hv : vx_S q G u) (hI : gv_I K G) (hp : vp_in p 2) (h4 : 4 ≤ G.1 0 p.toNatClampNeg) (hP : ∀ u', vx_S q (gp_finack G p.toNatClampNeg) u' → P u') : wpX_takeFinAck P u p := by
  obtain ⟨f_now, f_sent, a_stateOf, a_error, a_iss, a_una, a_nxt, a_max, a_writtenTo, a_kept, a_keptBytes, a_rcv, a_unread, a_unreadFrom, a_cameBytes, a_held, a_heldFin, a_wnd, a_wndSeq, a_wndAck, a_peak, a_half, a_same, a_rto, a_tries, a_retryAt, a_ackAt, a_waitTill, a_timedAt, a_timedSeq, a_smoothed, a_variance, a_rowCount, a_slotSeq, a_slotFlags, a_slotAck, a_slotWindow, a_slotSize, a_slotBytes⟩ := u
  have hv0 := hv
  obtain ⟨h_now, h_sent, h_stateOf, h_error, h_iss, h_una, h_nxt, h_max, h_writtenTo, h_kept, h_keptBytes, h_rcv, h_unread, h_unreadFrom, h_cameBytes, h_held, h_heldFin, h_wnd, h_wndSeq, h_wndAck, h_peak, h_half, h_same, h_rto, h_tries, h_retryAt, h_ackAt, h_waitTill, h_timedAt, h_timedSeq, h_smoothed, h_variance, h_rowCount, h_slotSeq, h_slotFlags, h_slotAck, h_slotWindow, h_slotSize, h_slotBytes⟩ := hv0
  have he := pe_lt hp
  have n2 := hI.2.1
  obtain ⟨b1, b2, b3, b4, b5, b6⟩ := hI.2.2.2.2.1 _ he
  unfold gv_a at b1
  unfold gv_p at b2
  have hu := (b2.2.2.2.2.1 h4)
  have hcl := b2.2.2.2.2.2.2.2
  have hl1 := b2.1 (by omega)
  have hk := b2.2.2.2.2.2
  unfold wpX_takeFinAck
  refine ⟨hp, xl_hasFin (h_stateOf _ he) (by omega) (by omega) (fun w => ?_) (fun w => ?_)⟩
  · have hc1 : G.1 29 p.toNatClampNeg = 1 := hcl.2.mpr w
    refine br_f (by decide) ⟨hp, hp, xl_behind (h_writtenTo _ he) zk_1 ?_⟩
    by_cases w2 : G.1 6 p.toNatClampNeg < G.1 3 p.toNatClampNeg
    · have hfa : gp_finack G p.toNatClampNeg = (if G.1 0 p.toNatClampNeg = 5 then gp_put G 0 p.toNatClampNeg 6 else if G.1 0 p.toNatClampNeg = 8 then gp_wait G p.toNatClampNeg else if G.1 0 p.toNatClampNeg = 9 then gp_over G p.toNatClampNeg (G.1 1 p.toNatClampNeg) else G) := if_pos ⟨hc1, w2⟩
      rw [hfa] at hP
      refine br_t (by rw [h_una _ he]; congr 1; omega) ⟨hp, ?_⟩
      have hs := h_stateOf _ he
      rcases w with w | w | w | w | w
      · rw [w] at hP
        rw [w] at hs
        refine nm_r (e' := zi_n 5) hs (br_f (by decide) (br_f (by decide) (br_t (by decide) ⟨hp, nm_e (hP _ ?_)⟩)))
        exact vx_put hv rfl
      · rw [w] at hP
        rw [w] at hs
        exact nm_r (e' := zi_n 6) hs (br_f (by decide) (br_f (by decide) (br_f (by decide) (br_t (by decide) (hP _ hv)))))
      · rw [w] at hP
        rw [w] at hs
        exact nm_r (e' := zi_n 8) hs (br_f (by decide) (br_f (by decide) (br_f (by decide) (br_f (by decide) (br_f (by decide) (br_t (by decide) ⟨hp, nm_e ⟨hp, nm_e (hP _ (vx_wait hv))⟩⟩))))))
      · rw [w] at hP
        rw [w] at hs
        exact nm_r (e' := zi_n 9) hs (br_f (by decide) (br_f (by decide) (br_f (by decide) (br_f (by decide) (br_f (by decide) (br_f (by decide) (br_t (by decide) (xl_endAll hv hp hP))))))))
      · rw [w] at hP
        rw [w] at hs
        exact nm_r (e' := zi_n 10) hs (br_f (by decide) (br_t (by decide) (hP _ hv)))
    · have hfa : gp_finack G p.toNatClampNeg = G := if_neg (fun z => w2 z.2)
      rw [hfa] at hP
      exact br_f (by rw [h_una _ he, zi_eq (by omega) (by omega) (by omega) (by omega)]; omega) (hP _ hv)
  · have hfa : gp_finack G p.toNatClampNeg = G := if_neg (fun z => w (hcl.2.mp z.1))
    rw [hfa] at hP
    exact br_t rfl (hP _ hv)
theorem xl_halve {P : SX → Prop} {f_now : Int32} {f_sent : Int32} {a_stateOf : (Nat → Int32)} {a_error : (Nat → Int32)} {a_iss : (Nat → Int32)} {a_una : (Nat → Int32)} {a_nxt : (Nat → Int32)} {a_max : (Nat → Int32)} {a_writtenTo : (Nat → Int32)} {a_kept : (Nat → Int32)} {a_keptBytes : (Nat → Int32)} {a_rcv : (Nat → Int32)} {a_unread : (Nat → Int32)} {a_unreadFrom : (Nat → Int32)} {a_cameBytes : (Nat → Int32)} {a_held : (Nat → Int32)} {a_heldFin : (Nat → Int32)} {a_wnd : (Nat → Int32)} {a_wndSeq : (Nat → Int32)} {a_wndAck : (Nat → Int32)} {a_peak : (Nat → Int32)} {a_half : (Nat → Int32)} {a_same : (Nat → Int32)} {a_rto : (Nat → Int32)} {a_tries : (Nat → Int32)} {a_retryAt : (Nat → Int32)} {a_ackAt : (Nat → Int32)} {a_waitTill : (Nat → Int32)} {a_timedAt : (Nat → Int32)} {a_timedSeq : (Nat → Int32)} {a_smoothed : (Nat → Int32)} {a_variance : (Nat → Int32)} {a_rowCount : (Nat → Int32)} {a_slotSeq : (Nat → Int32)} {a_slotFlags : (Nat → Int32)} {a_slotAck : (Nat → Int32)} {a_slotWindow : (Nat → Int32)} {a_slotSize : (Nat → Int32)} {a_slotBytes : (Nat → Int32)} {p : Int32} {i m v : Int} (hp : vp_in p 2) (hm : a_max p.toNatClampNeg = zi_n ((i + m) % 65536)) (hu : a_una p.toNatClampNeg = zi_n ((i + v) % 65536)) (h0 : 0 ≤ m - v) (h1 : m - v ≤ 100) (hP : P (f_now, f_sent, a_stateOf, a_error, a_iss, a_una, a_nxt, a_max, a_writtenTo, a_kept, a_keptBytes, a_rcv, a_unread, a_unreadFrom, a_cameBytes, a_held, a_heldFin, a_wnd, a_wndSeq, a_wndAck, a_peak, upd a_half p.toNatClampNeg (zi_n (max 8 ((m - v) / 2))), a_same, a_rto, a_tries, a_retryAt, a_ackAt, a_waitTill, a_timedAt, a_timedSeq, a_smoothed, a_variance, a_rowCount, a_slotSeq, a_slotFlags, a_slotAck, a_slotWindow, a_slotSize, a_slotBytes)) : wpX_halve P (f_now, f_sent, a_stateOf, a_error, a_iss, a_una, a_nxt, a_max, a_writtenTo, a_kept, a_keptBytes, a_rcv, a_unread, a_unreadFrom, a_cameBytes, a_held, a_heldFin, a_wnd, a_wndSeq, a_wndAck, a_peak, a_half, a_same, a_rto, a_tries, a_retryAt, a_ackAt, a_waitTill, a_timedAt, a_timedSeq, a_smoothed, a_variance, a_rowCount, a_slotSeq, a_slotFlags, a_slotAck, a_slotWindow, a_slotSize, a_slotBytes) p := by
  unfold wpX_halve
  have e1 : zi_n (m - v) / 2 = zi_n ((m - v) / 2) := by rw [zk_2, zi_div (by omega) (by omega) (by omega) (by omega)]
  refine ⟨hp, hp, xl_off hm hu (by omega) (by omega) ⟨by decide, ?_⟩⟩
  by_cases w : (m - v) / 2 ≤ 8
  · refine br_t (by rw [e1, zk_8, zi_le (by omega) (by omega) (by omega) (by omega)]; exact w) ⟨hp, nm_r (e' := upd a_half p.toNatClampNeg (zi_n (max 8 ((m - v) / 2)))) (by rw [zk_8]; congr 2; omega) hP⟩
  · refine br_f (by rw [e1, zk_8, zi_le (by omega) (by omega) (by omega) (by omega)]; exact w) ⟨by decide, hp, nm_r (e' := upd a_half p.toNatClampNeg (zi_n (max 8 ((m - v) / 2)))) (by rw [e1]; congr 2; omega) hP⟩
theorem xl_piece {q K : Int} {G : gm_T} {u : SX} {p : Int32} {P : SX → Prop} (hv : vx_S q G u) (hI : gv_I K G) (hp : vp_in p 2) (h4 : 4 ≤ G.1 0 p.toNatClampNeg) (hum : G.1 3 p.toNatClampNeg < G.1 5 p.toNatClampNeg) (hP : ∀ u', vx_S q (gp_piece G p.toNatClampNeg) u' → P u') : wpX_sendFirstPiece P u p := by
  obtain ⟨f_now, f_sent, a_stateOf, a_error, a_iss, a_una, a_nxt, a_max, a_writtenTo, a_kept, a_keptBytes, a_rcv, a_unread, a_unreadFrom, a_cameBytes, a_held, a_heldFin, a_wnd, a_wndSeq, a_wndAck, a_peak, a_half, a_same, a_rto, a_tries, a_retryAt, a_ackAt, a_waitTill, a_timedAt, a_timedSeq, a_smoothed, a_variance, a_rowCount, a_slotSeq, a_slotFlags, a_slotAck, a_slotWindow, a_slotSize, a_slotBytes⟩ := u
  have hv0 := hv
  obtain ⟨h_now, h_sent, h_stateOf, h_error, h_iss, h_una, h_nxt, h_max, h_writtenTo, h_kept, h_keptBytes, h_rcv, h_unread, h_unreadFrom, h_cameBytes, h_held, h_heldFin, h_wnd, h_wndSeq, h_wndAck, h_peak, h_half, h_same, h_rto, h_tries, h_retryAt, h_ackAt, h_waitTill, h_timedAt, h_timedSeq, h_smoothed, h_variance, h_rowCount, h_slotSeq, h_slotFlags, h_slotAck, h_slotWindow, h_slotSize, h_slotBytes⟩ := hv0
  have he := pe_lt hp
  have n2 := hI.2.1
  obtain ⟨b1, b2, b3, b4, b5, b6⟩ := hI.2.2.2.2.1 _ he
  unfold gv_p at b2
  have hu := (b2.2.2.2.2.1 h4)
  have hcl := b2.2.2.2.2.2.2.2
  have hk := b2.2.2.2.2.2
  have hpn : gp_pn G p.toNatClampNeg = min (min (G.1 5 p.toNatClampNeg) (G.1 6 p.toNatClampNeg) - G.1 3 p.toNatClampNeg) 8 := rfl
  have k42 : wX_sendFirstPiece_42 P p (zi_n (gp_pn G p.toNatClampNeg)) f_now f_sent a_stateOf a_error a_iss a_una a_nxt a_max a_writtenTo a_kept a_keptBytes a_rcv a_unread a_unreadFrom a_cameBytes a_held a_heldFin a_wnd a_wndSeq a_wndAck a_peak a_half a_same a_rto a_tries a_retryAt a_ackAt a_waitTill a_timedAt a_timedSeq a_smoothed a_variance a_rowCount a_slotSeq a_slotFlags a_slotAck a_slotWindow a_slotSize a_slotBytes := by
    unfold wX_sendFirstPiece_42
    refine ⟨hp, ?_⟩
    by_cases w : gp_pn G p.toNatClampNeg ≤ 0
    · have e0 : gp_pn G p.toNatClampNeg = 0 := by omega
      have hpc : gp_piece G p.toNatClampNeg = gp_send G p.toNatClampNeg (G.1 3 p.toNatClampNeg) 4 0 := if_neg (by omega)
      rw [hpc] at hP
      refine br_t (by rw [zk_0, zi_le (by omega) (by omega) (by omega) (by omega)]; exact w) ?_
      unfold wX_sendFirstPiece_59
      rw [e0]
      exact xl_send hv hp (h_una _ he) zk_4 rfl (sk_of hI he (by omega) (Or.inr (Or.inr rfl)) (by omega) (by omega) (by omega) (by omega) (by omega)) hP
    · have hpc : gp_piece G p.toNatClampNeg = gp_send G p.toNatClampNeg (G.1 3 p.toNatClampNeg) 0 (gp_pn G p.toNatClampNeg) := if_pos (by omega)
      rw [hpc] at hP
      refine br_f (by rw [zk_0, zi_le (by omega) (by omega) (by omega) (by omega)]; exact w) ?_
      unfold wX_sendFirstPiece_59
      exact xl_send hv hp (h_una _ he) zk_0 rfl (sk_of hI he (by omega) (Or.inl rfl) (by omega) (by omega) (by omega) (by omega) (fun _ => ⟨h4, by omega, by omega⟩)) hP
  have k33 : ∀ t : Int, t = min (G.1 5 p.toNatClampNeg) (G.1 6 p.toNatClampNeg) - G.1 3 p.toNatClampNeg → wX_sendFirstPiece_33 P p (zi_n t) f_now f_sent a_stateOf a_error a_iss a_una a_nxt a_max a_writtenTo a_kept a_keptBytes a_rcv a_unread a_unreadFrom a_cameBytes a_held a_heldFin a_wnd a_wndSeq a_wndAck a_peak a_half a_same a_rto a_tries a_retryAt a_ackAt a_waitTill a_timedAt a_timedSeq a_smoothed a_variance a_rowCount a_slotSeq a_slotFlags a_slotAck a_slotWindow a_slotSize a_slotBytes := by
    intro t ht
    unfold wX_sendFirstPiece_33
    by_cases w : t ≤ 8
    · refine br_t (by rw [zk_8, zi_le (by omega) (by omega) (by omega) (by omega)]; exact w) ?_
      rw [show t = gp_pn G p.toNatClampNeg from by omega]; exact k42
    · refine br_f (by rw [zk_8, zi_le (by omega) (by omega) (by omega) (by omega)]; exact w) ?_
      rw [zk_8, show (8 : Int) = gp_pn G p.toNatClampNeg from by omega]; exact k42
  unfold wpX_sendFirstPiece
  refine ⟨hp, hp, xl_off (h_max _ he) (h_una _ he) (by omega) (by omega) ⟨hp, ?_⟩⟩
  by_cases w : G.1 5 p.toNatClampNeg - G.1 3 p.toNatClampNeg ≤ G.1 31 p.toNatClampNeg
  · exact br_t (by rw [h_kept _ he, zi_le (by omega) (by omega) (by omega) (by omega)]; exact w) (k33 _ (by omega))
  · exact br_f (by rw [h_kept _ he, zi_le (by omega) (by omega) (by omega) (by omega)]; exact w) ⟨hp, nm_r (h_kept _ he) (k33 _ (by omega))⟩
theorem xl_again {q K : Int} {G : gm_T} {u : SX} {p x : Int32} {P : SX → Prop} {w : Int} (hv : vx_S q G u) (hI : gv_I K G) (hK : K + 1 ≤ 5000) (hp : vp_in p 2) (h4 : 4 ≤ G.1 0 p.toNatClampNeg) (hx : x = zi_n w) (h0 : 0 ≤ w) (h1 : w ≤ 24) (hP : ∀ u', vx_S q (if w = G.1 12 p.toNatClampNeg ∧ G.1 3 p.toNatClampNeg ≠ G.1 5 p.toNatClampNeg then gp_again G p.toNatClampNeg else G) u' → P u') : wpX_takeSameAck P u p x := by
  obtain ⟨f_now, f_sent, a_stateOf, a_error, a_iss, a_una, a_nxt, a_max, a_writtenTo, a_kept, a_keptBytes, a_rcv, a_unread, a_unreadFrom, a_cameBytes, a_held, a_heldFin, a_wnd, a_wndSeq, a_wndAck, a_peak, a_half, a_same, a_rto, a_tries, a_retryAt, a_ackAt, a_waitTill, a_timedAt, a_timedSeq, a_smoothed, a_variance, a_rowCount, a_slotSeq, a_slotFlags, a_slotAck, a_slotWindow, a_slotSize, a_slotBytes⟩ := u
  have hv0 := hv
  obtain ⟨h_now, h_sent, h_stateOf, h_error, h_iss, h_una, h_nxt, h_max, h_writtenTo, h_kept, h_keptBytes, h_rcv, h_unread, h_unreadFrom, h_cameBytes, h_held, h_heldFin, h_wnd, h_wndSeq, h_wndAck, h_peak, h_half, h_same, h_rto, h_tries, h_retryAt, h_ackAt, h_waitTill, h_timedAt, h_timedSeq, h_smoothed, h_variance, h_rowCount, h_slotSeq, h_slotFlags, h_slotAck, h_slotWindow, h_slotSize, h_slotBytes⟩ := hv0
  have he := pe_lt hp
  have n2 := hI.2.1
  obtain ⟨b1, b2, b3, b4, b5, b6⟩ := hI.2.2.2.2.1 _ he
  unfold gv_p at b2
  unfold gv_c at b3
  have hu := (b2.2.2.2.2.1 h4)
  have hcl := b2.2.2.2.2.2.2.2
  have hk := b2.2.2.2.2.2
  unfold wpX_takeSameAck
  refine ⟨hp, ?_⟩
  by_cases w1 : w = G.1 12 p.toNatClampNeg
  · refine br_t (by rw [hx, h_wnd _ he, w1]) ⟨hp, hp, ?_⟩
    by_cases w2 : G.1 3 p.toNatClampNeg = G.1 5 p.toNatClampNeg
    · rw [if_neg (fun z => z.2 w2)] at hP
      exact br_t (by rw [h_una _ he, h_max _ he, w2]) (hP _ hv)
    · rw [if_pos ⟨w1, w2⟩] at hP
      refine br_f (by rw [h_una _ he, h_max _ he, zi_eq (by omega) (by omega) (by omega) (by omega)]; omega) ⟨hp, hp, nm_r (e' := upd a_same p.toNatClampNeg (zi_n (G.1 18 p.toNatClampNeg + 1))) (by rw [h_same _ he, zk_1, zi_add]) ⟨hp, ?_⟩⟩
      have hv_ : G.1 17 p.toNatClampNeg = G.1 17 p.toNatClampNeg := rfl
      by_cases w3 : G.1 18 p.toNatClampNeg + 1 = 3
      · have hag : gp_again G p.toNatClampNeg = gp_put (gp_piece (gp_again1 G p.toNatClampNeg) p.toNatClampNeg) 16 p.toNatClampNeg (gp_hv G p.toNatClampNeg + 24) := if_pos w3
        rw [hag] at hP
        refine br_t (by rw [zu_s, w3]; rfl) ?_
        refine xl_halve hp (h_max _ he) (h_una _ he) (by omega) (by omega) ⟨hp, nm_e ?_⟩
        have hv1 : vx_S q (gp_again1 G p.toNatClampNeg) (f_now, f_sent, a_stateOf, a_error, a_iss, a_una, a_nxt, a_max, a_writtenTo, a_kept, a_keptBytes, a_rcv, a_unread, a_unreadFrom, a_cameBytes, a_held, a_heldFin, a_wnd, a_wndSeq, a_wndAck, a_peak, upd a_half p.toNatClampNeg (zi_n (max 8 ((G.1 5 p.toNatClampNeg - G.1 3 p.toNatClampNeg) / 2))), upd a_same p.toNatClampNeg (zi_n (G.1 18 p.toNatClampNeg + 1)), a_rto, a_tries, a_retryAt, a_ackAt, a_waitTill, upd a_timedAt p.toNatClampNeg (-1), a_timedSeq, a_smoothed, a_variance, a_rowCount, a_slotSeq, a_slotFlags, a_slotAck, a_slotWindow, a_slotSize, a_slotBytes) := by
          generalize p.toNatClampNeg = e at *
          have o : ∀ e' f, e' ≠ e → (gp_again1 G e).1 f e' = G.1 f e' := fun e' f q => by simp only [gp_again1, gs_e q]
          refine (vx_mk h_now h_sent h_stateOf h_error h_iss h_una h_nxt h_max h_writtenTo h_kept h_keptBytes h_rcv h_unread h_unreadFrom h_cameBytes h_held h_heldFin h_wnd h_wndSeq h_wndAck h_peak (vu_e h_half ?a2 (fun e' q => o _ _ q)) (vu_e h_same ?a1 (fun e' q => o _ _ q)) h_rto h_tries h_retryAt h_ackAt h_waitTill (vu_e h_timedAt ?a3 (fun e' q => by simp only [o _ _ q])) (fun e' he' z => ?a4) h_smoothed h_variance h_rowCount h_slotSeq h_slotFlags h_slotAck h_slotWindow h_slotSize h_slotBytes)
          case a1 => simp +decide only [gp_again1, gs_s, gs_f]
          case a2 => simp +decide only [gp_again1, gs_s, gs_f] <;> rfl
          case a3 => simp +decide only [gp_again1, gs_s, gs_f] <;> rfl
          case a4 =>
            by_cases y : e' = e
            · subst y; simp +decide only [gp_again1, gs_s, gs_f] at z <;> omega
            · simp only [o _ _ y] at z ⊢; exact h_timedSeq e' he' z
        have hI1 := iv_again1 hI he hK h4 w2
        have s1 : (gp_again1 G p.toNatClampNeg).1 0 p.toNatClampNeg = G.1 0 p.toNatClampNeg := by simp +decide only [gp_again1, gs_f]
        have s2 : (gp_again1 G p.toNatClampNeg).1 3 p.toNatClampNeg = G.1 3 p.toNatClampNeg := by simp +decide only [gp_again1, gs_f]
        have s3 : (gp_again1 G p.toNatClampNeg).1 5 p.toNatClampNeg = G.1 5 p.toNatClampNeg := by simp +decide only [gp_again1, gs_f]
        have s4 : (gp_piece (gp_again1 G p.toNatClampNeg) p.toNatClampNeg).1 17 p.toNatClampNeg = gp_hv G p.toNatClampNeg := by
          rw [pc_f (by decide) (by decide) (by decide) (by decide) (by decide) (by decide)]
          simp +decide only [gp_again1, gs_s, gs_f]
        refine xl_piece hv1 hI1 hp (by rw [s1]; exact h4) (by rw [s2, s3]; omega) fun u2 hv2 => ?_
        generalize gp_piece (gp_again1 G p.toNatClampNeg) p.toNatClampNeg = G2 at *
        obtain ⟨f_now, f_sent, a_stateOf, a_error, a_iss, a_una, a_nxt, a_max, a_writtenTo, a_kept, a_keptBytes, a_rcv, a_unread, a_unreadFrom, a_cameBytes, a_held, a_heldFin, a_wnd, a_wndSeq, a_wndAck, a_peak, a_half, a_same, a_rto, a_tries, a_retryAt, a_ackAt, a_waitTill, a_timedAt, a_timedSeq, a_smoothed, a_variance, a_rowCount, a_slotSeq, a_slotFlags, a_slotAck, a_slotWindow, a_slotSize, a_slotBytes⟩ := u2
        obtain ⟨h_now, h_sent, h_stateOf, h_error, h_iss, h_una, h_nxt, h_max, h_writtenTo, h_kept, h_keptBytes, h_rcv, h_unread, h_unreadFrom, h_cameBytes, h_held, h_heldFin, h_wnd, h_wndSeq, h_wndAck, h_peak, h_half, h_same, h_rto, h_tries, h_retryAt, h_ackAt, h_waitTill, h_timedAt, h_timedSeq, h_smoothed, h_variance, h_rowCount, h_slotSeq, h_slotFlags, h_slotAck, h_slotWindow, h_slotSize, h_slotBytes⟩ := hv2
        refine ⟨hp, hp, nm_e (hP _ ?_)⟩
        exact (vx_mk h_now h_sent h_stateOf h_error h_iss h_una h_nxt h_max h_writtenTo h_kept h_keptBytes h_rcv h_unread h_unreadFrom h_cameBytes h_held h_heldFin h_wnd h_wndSeq h_wndAck (vu_e h_peak (by rw [pu_s, h_half _ he, s4, zk_24, zi_add]) (fun e' q => pu_o q _)) h_half h_same h_rto h_tries h_retryAt h_ackAt h_waitTill h_timedAt h_timedSeq h_smoothed h_variance h_rowCount h_slotSeq h_slotFlags h_slotAck h_slotWindow h_slotSize h_slotBytes)
      · have hag : gp_again G p.toNatClampNeg = (gs_c (gs_c (gs_c G.1 18 p.toNatClampNeg (G.1 18 p.toNatClampNeg + 1)) 34 p.toNatClampNeg (G.1 18 p.toNatClampNeg + 1)) 16 p.toNatClampNeg (if 3 < G.1 18 p.toNatClampNeg + 1 then min 64 (G.1 16 p.toNatClampNeg + 8) else G.1 16 p.toNatClampNeg), G.2) := if_neg w3
        rw [hag] at hP
        refine br_f (by rw [zu_s, zk_3, zi_eq (by omega) (by omega) (by omega) (by omega)]; exact w3) ⟨hp, ?_⟩
        have fin : ∀ PX : Nat → Int32, (∀ e', e' < 2 → PX e' = zi_n (gs_c G.1 16 p.toNatClampNeg (if 3 < G.1 18 p.toNatClampNeg + 1 then min 64 (G.1 16 p.toNatClampNeg + 8) else G.1 16 p.toNatClampNeg) 16 e')) → P (f_now, f_sent, a_stateOf, a_error, a_iss, a_una, a_nxt, a_max, a_writtenTo, a_kept, a_keptBytes, a_rcv, a_unread, a_unreadFrom, a_cameBytes, a_held, a_heldFin, a_wnd, a_wndSeq, a_wndAck, PX, a_half, upd a_same p.toNatClampNeg (zi_n (G.1 18 p.toNatClampNeg + 1)), a_rto, a_tries, a_retryAt, a_ackAt, a_waitTill, a_timedAt, a_timedSeq, a_smoothed, a_variance, a_rowCount, a_slotSeq, a_slotFlags, a_slotAck, a_slotWindow, a_slotSize, a_slotBytes) := by
          intro PX hPX
          refine hP _ ?_
          refine (vx_mk h_now h_sent h_stateOf h_error h_iss h_una h_nxt h_max h_writtenTo h_kept h_keptBytes h_rcv h_unread h_unreadFrom h_cameBytes h_held h_heldFin h_wnd h_wndSeq h_wndAck (hPX) h_half (vu_e h_same ?a1 (fun e' q => ?a2)) h_rto h_tries h_retryAt h_ackAt h_waitTill h_timedAt h_timedSeq h_smoothed h_variance h_rowCount h_slotSeq h_slotFlags h_slotAck h_slotWindow h_slotSize h_slotBytes)
          case a1 => simp +decide only [gs_s, gs_f]
          case a2 => simp only [gs_e q]
        by_cases w4 : G.1 18 p.toNatClampNeg + 1 ≤ 3
        · refine br_t (by rw [zu_s, zk_3, zi_le (by omega) (by omega) (by omega) (by omega)]; exact w4) (fin _ (fun e' he' => ?_))
          rw [gs_id (if_neg (by omega))]; exact h_peak e' he'
        · refine br_f (by rw [zu_s, zk_3, zi_le (by omega) (by omega) (by omega) (by omega)]; exact w4) ?_
          refine xl_widenPeak hp (h_peak _ he) zk_8 (by omega) (by omega) (by omega) (by omega) (fin _ ?_)
          exact vu_e h_peak (by rw [gs_s, if_pos (by omega)]) (fun e' q => gs_e q)
  · rw [if_neg (fun z => w1 z.1)] at hP
    exact br_f (by rw [hx, h_wnd _ he, zi_eq (by omega) (by omega) (by omega) (by omega)]; exact w1) (hP _ hv)
theorem zs_r (z : Int) : -32768 ≤ zi_s z ∧ zi_s z < 32768 := by rw [zi_s_e]; omega
/-- the slot of a segment -/
theorem sl_in {k : Nat} (hk : k < 32) : vp_in (zi_n (k : Int)) 33 := zi_in (by omega) (by omega) (by omega)
theorem sl_c {k : Nat} (hk : k < 33) : (zi_n (k : Int)).toNatClampNeg = k := by rw [zi_cl (by omega) (by omega)]; omega
theorem xl_takeWindow {q K : Int} {G : gm_T} {u : SX} {p x : Int32} {P : SX → Prop} {k : Nat} (hv : vx_S q G u) (hI : gv_I K G) (hp : vp_in p 2) (hk : k < 32) (hx : x = zi_n (k : Int)) (hP : ∀ u', vx_S q (gp_win G p.toNatClampNeg k) u' → P u') : wpX_takeWindow P u p x := by
  obtain ⟨f_now, f_sent, a_stateOf, a_error, a_iss, a_una, a_nxt, a_max, a_writtenTo, a_kept, a_keptBytes, a_rcv, a_unread, a_unreadFrom, a_cameBytes, a_held, a_heldFin, a_wnd, a_wndSeq, a_wndAck, a_peak, a_half, a_same, a_rto, a_tries, a_retryAt, a_ackAt, a_waitTill, a_timedAt, a_timedSeq, a_smoothed, a_variance, a_rowCount, a_slotSeq, a_slotFlags, a_slotAck, a_slotWindow, a_slotSize, a_slotBytes⟩ := u
  have hv0 := hv
  obtain ⟨h_now, h_sent, h_stateOf, h_error, h_iss, h_una, h_nxt, h_max, h_writtenTo, h_kept, h_keptBytes, h_rcv, h_unread, h_unreadFrom, h_cameBytes, h_held, h_heldFin, h_wnd, h_wndSeq, h_wndAck, h_peak, h_half, h_same, h_rto, h_tries, h_retryAt, h_ackAt, h_waitTill, h_timedAt, h_timedSeq, h_smoothed, h_variance, h_rowCount, h_slotSeq, h_slotFlags, h_slotAck, h_slotWindow, h_slotSize, h_slotBytes⟩ := hv0
  have he := pe_lt hp
  obtain ⟨b1, b2, b3, b4, b5, b6⟩ := hI.2.2.2.2.1 _ he
  unfold gv_c at b3
  have l1 := hI.2.2.2.2.2.1.1 k hk
  have hin : vp_in x 33 := by rw [hx]; exact sl_in hk
  have hxk : x.toNatClampNeg = k := by rw [hx]; exact sl_c (by omega)
  have r1 := zs_r (gm_L G 0 k - G.1 14 p.toNatClampNeg)
  have r2 := zs_r (gm_L G 2 k - G.1 15 p.toNatClampNeg)
  have k53 : (G.1 13 p.toNatClampNeg = 0 ∨ 0 < zi_s (gm_L G 0 k - G.1 14 p.toNatClampNeg) ∨ (zi_s (gm_L G 0 k - G.1 14 p.toNatClampNeg) = 0 ∧ 0 ≤ zi_s (gm_L G 2 k - G.1 15 p.toNatClampNeg))) → wX_takeWindow_53 P p x f_now f_sent a_stateOf a_error a_iss a_una a_nxt a_max a_writtenTo a_kept a_keptBytes a_rcv a_unread a_unreadFrom a_cameBytes a_held a_heldFin a_wnd a_wndSeq a_wndAck a_peak a_half a_same a_rto a_tries a_retryAt a_ackAt a_waitTill a_timedAt a_timedSeq a_smoothed a_variance a_rowCount a_slotSeq a_slotFlags a_slotAck a_slotWindow a_slotSize a_slotBytes := by
    intro w
    have hw : gp_win G p.toNatClampNeg k = (gs_c (gs_c (gs_c (gs_c G.1 13 p.toNatClampNeg 1) 14 p.toNatClampNeg (gm_L G 0 k)) 15 p.toNatClampNeg (gm_L G 2 k)) 12 p.toNatClampNeg (gm_L G 3 k), G.2) := if_pos w
    rw [hw] at hP
    unfold wX_takeWindow_53
    refine ⟨hin, hp, nm_e ⟨hin, hp, nm_e ⟨hin, hp, nm_e (hP _ ?_)⟩⟩⟩
    rw [hxk]
    generalize p.toNatClampNeg = e at *
    have o : ∀ e' f, e' ≠ e → gs_c (gs_c (gs_c (gs_c G.1 13 e 1) 14 e (gm_L G 0 k)) 15 e (gm_L G 2 k)) 12 e (gm_L G 3 k) f e' = G.1 f e' := fun e' f q => by simp only [gs_e q]
    refine (vx_mk h_now h_sent h_stateOf h_error h_iss h_una h_nxt h_max h_writtenTo h_kept h_keptBytes h_rcv h_unread h_unreadFrom h_cameBytes h_held h_heldFin (vu_e h_wnd ?a1 (fun e' q => o _ _ q)) (vu_e h_wndSeq ?a2 (fun e' q => by simp only [o _ _ q])) (fun e' he' z => ?a3) h_peak h_half h_same h_rto h_tries h_retryAt h_ackAt h_waitTill h_timedAt h_timedSeq h_smoothed h_variance h_rowCount h_slotSeq h_slotFlags h_slotAck h_slotWindow h_slotSize h_slotBytes)
    case a1 => simp +decide only [gs_s, gs_f]; exact h_slotWindow k hk
    case a2 => simp +decide only [gs_s, gs_f, ↓reduceIte]; exact h_slotSeq k hk
    case a3 =>
      by_cases y : e' = e
      · subst y; rw [zu_s]; simp +decide only [gs_s, gs_f]; exact h_slotAck k hk
      · rw [zu_n y]; simp only [o _ _ y] at z ⊢; exact h_wndAck e' he' z
  have hno : ¬ (G.1 13 p.toNatClampNeg = 0 ∨ 0 < zi_s (gm_L G 0 k - G.1 14 p.toNatClampNeg) ∨ (zi_s (gm_L G 0 k - G.1 14 p.toNatClampNeg) = 0 ∧ 0 ≤ zi_s (gm_L G 2 k - G.1 15 p.toNatClampNeg))) → P (f_now, f_sent, a_stateOf, a_error, a_iss, a_una, a_nxt, a_max, a_writtenTo, a_kept, a_keptBytes, a_rcv, a_unread, a_unreadFrom, a_cameBytes, a_held, a_heldFin, a_wnd, a_wndSeq, a_wndAck, a_peak, a_half, a_same, a_rto, a_tries, a_retryAt, a_ackAt, a_waitTill, a_timedAt, a_timedSeq, a_smoothed, a_variance, a_rowCount, a_slotSeq, a_slotFlags, a_slotAck, a_slotWindow, a_slotSize, a_slotBytes) := by
    intro w
    have hw : gp_win G p.toNatClampNeg k = G := if_neg w
    rw [hw] at hP
    exact hP _ hv
  unfold wpX_takeWindow
  refine ⟨hp, ?_⟩
  by_cases w : G.1 13 p.toNatClampNeg = 0
  · exact br_t (by rw [h_wndSeq _ he, if_pos w]; rfl) (k53 (Or.inl w))
  · refine br_f (by rw [h_wndSeq _ he, if_neg w, zk_m1, zi_eq (by omega) (by omega) (by omega) (by omega)]; omega) ⟨hin, hp, xl_offset (a := gm_L G 0 k) (b := G.1 14 p.toNatClampNeg) (by rw [hxk]; exact h_slotSeq k hk) (by rw [h_wndSeq _ he, if_neg w]) ?_⟩
    by_cases w2 : zi_s (gm_L G 0 k - G.1 14 p.toNatClampNeg) < 0
    · exact br_t (by rw [zk_0, zi_lt (by omega) (by omega) (by omega) (by omega)]; exact w2) (hno (by omega))
    · refine br_f (by rw [zk_0, zi_lt (by omega) (by omega) (by omega) (by omega)]; exact w2) ?_
      by_cases w3 : zi_s (gm_L G 0 k - G.1 14 p.toNatClampNeg) = 0
      · refine br_t (by rw [w3]; rfl) ⟨hin, hp, xl_offset (a := gm_L G 2 k) (b := G.1 15 p.toNatClampNeg) (by rw [hxk]; exact h_slotAck k hk) (h_wndAck _ he w) ?_⟩
        by_cases w4 : 0 ≤ zi_s (gm_L G 2 k - G.1 15 p.toNatClampNeg)
        · exact br_t (by rw [zk_0, zi_le (by omega) (by omega) (by omega) (by omega)]; exact w4) (k53 (Or.inr (Or.inr ⟨w3, w4⟩)))
        · exact br_f (by rw [zk_0, zi_le (by omega) (by omega) (by omega) (by omega)]; exact w4) (hno (by omega))
      · exact br_f (by rw [zk_0, zi_eq (by omega) (by omega) (by omega) (by omega)]; exact w3) (k53 (Or.inr (Or.inl (by omega))))
theorem xl_reset {q K : Int} {G : gm_T} {u : SX} {p : Int32} {P : SX → Prop} (hv : vx_S q G u) (hI : gv_I K G) (hp : vp_in p 2) (hs : 1 ≤ G.1 0 p.toNatClampNeg) (hP : ∀ u', vx_S q (gp_reset G p.toNatClampNeg) u' → P u') : wpX_reset P u p := by
  obtain ⟨f_now, f_sent, a_stateOf, a_error, a_iss, a_una, a_nxt, a_max, a_writtenTo, a_kept, a_keptBytes, a_rcv, a_unread, a_unreadFrom, a_cameBytes, a_held, a_heldFin, a_wnd, a_wndSeq, a_wndAck, a_peak, a_half, a_same, a_rto, a_tries, a_retryAt, a_ackAt, a_waitTill, a_timedAt, a_timedSeq, a_smoothed, a_variance, a_rowCount, a_slotSeq, a_slotFlags, a_slotAck, a_slotWindow, a_slotSize, a_slotBytes⟩ := u
  have hv0 := hv
  obtain ⟨h_now, h_sent, h_stateOf, h_error, h_iss, h_una, h_nxt, h_max, h_writtenTo, h_kept, h_keptBytes, h_rcv, h_unread, h_unreadFrom, h_cameBytes, h_held, h_heldFin, h_wnd, h_wndSeq, h_wndAck, h_peak, h_half, h_same, h_rto, h_tries, h_retryAt, h_ackAt, h_waitTill, h_timedAt, h_timedSeq, h_smoothed, h_variance, h_rowCount, h_slotSeq, h_slotFlags, h_slotAck, h_slotWindow, h_slotSize, h_slotBytes⟩ := hv0
  have he := pe_lt hp
  obtain ⟨b1, b2, b3, b4, b5, b6⟩ := hI.2.2.2.2.1 _ he
  unfold gv_a at b1
  have her : G.1 1 p.toNatClampNeg = 0 := b1.2.2.2.2.1 (by omega)
  unfold wpX_reset
  refine ⟨hp, ?_⟩
  by_cases w : 8 ≤ G.1 0 p.toNatClampNeg
  · refine br_t (by rw [h_stateOf _ he, zk_8, zi_le (by omega) (by omega) (by omega) (by omega)]; exact w) ?_
    unfold wX_reset_18
    refine xl_endAll hv hp fun u' hv' => hP u' ?_
    have : gp_reset G p.toNatClampNeg = gp_over G p.toNatClampNeg (G.1 1 p.toNatClampNeg) := by unfold gp_reset; rw [if_pos (by omega), her]
    rw [this]; exact hv'
  · refine br_f (by rw [h_stateOf _ he, zk_8, zi_le (by omega) (by omega) (by omega) (by omega)]; exact w) ⟨hp, nm_e ?_⟩
    unfold wX_reset_18
    have hv1 : vx_S q (gp_put G 1 p.toNatClampNeg 1) (f_now, f_sent, a_stateOf, upd a_error p.toNatClampNeg 1, a_iss, a_una, a_nxt, a_max, a_writtenTo, a_kept, a_keptBytes, a_rcv, a_unread, a_unreadFrom, a_cameBytes, a_held, a_heldFin, a_wnd, a_wndSeq, a_wndAck, a_peak, a_half, a_same, a_rto, a_tries, a_retryAt, a_ackAt, a_waitTill, a_timedAt, a_timedSeq, a_smoothed, a_variance, a_rowCount, a_slotSeq, a_slotFlags, a_slotAck, a_slotWindow, a_slotSize, a_slotBytes) := (vx_mk h_now h_sent h_stateOf (vu_e h_error (by rw [pu_s]; rfl) (fun e' q => pu_o q _)) h_iss h_una h_nxt h_max h_writtenTo h_kept h_keptBytes h_rcv h_unread h_unreadFrom h_cameBytes h_held h_heldFin h_wnd h_wndSeq h_wndAck h_peak h_half h_same h_rto h_tries h_retryAt h_ackAt h_waitTill h_timedAt h_timedSeq h_smoothed h_variance h_rowCount h_slotSeq h_slotFlags h_slotAck h_slotWindow h_slotSize h_slotBytes)
    refine xl_endAll hv1 hp fun u' hv' => hP u' (vx_ext (G := gp_over (gp_put G 1 p.toNatClampNeg 1) p.toNatClampNeg ((gp_put G 1 p.toNatClampNeg 1).1 1 p.toNatClampNeg)) (G' := gp_reset G p.toNatClampNeg) ?_ rfl hv')
    intro e' he' f
    rw [pu_s]
    have : gp_reset G p.toNatClampNeg = gp_over G p.toNatClampNeg 1 := by unfold gp_reset; rw [if_neg (by omega)]
    rw [this]
    by_cases y : e' = p.toNatClampNeg
    · subst y
      simp only [gp_over, gp_put, gs_c]
      by_cases z : f = 1
      · subst z; simp +decide only [true_and, and_true, ↓reduceIte]
      · simp only [z, false_and, ↓reduceIte]
    · rw [ov_o y, ov_o y, pu_o y]
theorem xl_answerReset {q K : Int} {G : gm_T} {u : SX} {p x : Int32} {P : SX → Prop} {k : Nat} (hv : vx_S q G u) (hI : gv_I K G) (hp : vp_in p 2) (hk : k < 32) (hx : x = zi_n (k : Int)) (hP : ∀ u', vx_S q (if gm_L G 1 k / 2 % 2 = 1 then gp_rst G p.toNatClampNeg (gm_L G 2 k) 8 0 else gp_rst G p.toNatClampNeg 0 10 ((gm_L G 0 k + gp_slen G k) % 65536)) u' → P u') : wpX_answerReset P u p x := by
  obtain ⟨f_now, f_sent, a_stateOf, a_error, a_iss, a_una, a_nxt, a_max, a_writtenTo, a_kept, a_keptBytes, a_rcv, a_unread, a_unreadFrom, a_cameBytes, a_held, a_heldFin, a_wnd, a_wndSeq, a_wndAck, a_peak, a_half, a_same, a_rto, a_tries, a_retryAt, a_ackAt, a_waitTill, a_timedAt, a_timedSeq, a_smoothed, a_variance, a_rowCount, a_slotSeq, a_slotFlags, a_slotAck, a_slotWindow, a_slotSize, a_slotBytes⟩ := u
  have hv0 := hv
  obtain ⟨h_now, h_sent, h_stateOf, h_error, h_iss, h_una, h_nxt, h_max, h_writtenTo, h_kept, h_keptBytes, h_rcv, h_unread, h_unreadFrom, h_cameBytes, h_held, h_heldFin, h_wnd, h_wndSeq, h_wndAck, h_peak, h_half, h_same, h_rto, h_tries, h_retryAt, h_ackAt, h_waitTill, h_timedAt, h_timedSeq, h_smoothed, h_variance, h_rowCount, h_slotSeq, h_slotFlags, h_slotAck, h_slotWindow, h_slotSize, h_slotBytes⟩ := hv0
  have he := pe_lt hp
  obtain ⟨b1, b2, b3, b4, b5, b6⟩ := hI.2.2.2.2.1 _ he
  unfold gv_a at b1
  have l1 := hI.2.2.2.2.2.1.1 k hk
  have hin : vp_in x 33 := by rw [hx]; exact sl_in hk
  have hxk : x.toNatClampNeg = k := by rw [hx]; exact sl_c (by omega)
  unfold wpX_answerReset
  rw [hxk]
  refine ⟨hin, ?_⟩
  by_cases w : gm_L G 1 k / 2 % 2 = 1
  · rw [if_pos w] at hP
    refine br_f (by rw [h_slotFlags k hk, zf_2 (by omega) (by omega), zk_0, zi_eq (by omega) (by omega) (by omega) (by omega)]; omega) ⟨hin, ?_⟩
    exact xl_sendReset hv hp (by omega) (by omega) (h_slotAck k hk) zk_8 zk_0 hP
  · rw [if_neg w] at hP
    refine br_t (by rw [h_slotFlags k hk, zf_2 (by omega) (by omega), zk_0, zi_eq (by omega) (by omega) (by omega) (by omega)]; omega) ⟨hin, hin, ?_⟩
    rw [h_slotFlags k hk, h_slotSize k hk]
    refine xl_lengthOf (by omega) (by omega) ⟨hin, xl_behind (h_slotSeq k hk) rfl ?_⟩
    exact xl_sendReset hv hp (by omega) (by omega) zk_0 zk_10 rfl hP
theorem xl_arriveClosed {q K : Int} {G : gm_T} {u : SX} {p x : Int32} {P : SX → Prop} {k : Nat} (hv : vx_S q G u) (hI : gv_I K G) (hp : vp_in p 2) (hk : k < 32) (hx : x = zi_n (k : Int)) (hP : ∀ u', vx_S q (gp_toClosed G p.toNatClampNeg k) u' → P u') : wpX_arriveClosed P u p x := by
  obtain ⟨f_now, f_sent, a_stateOf, a_error, a_iss, a_una, a_nxt, a_max, a_writtenTo, a_kept, a_keptBytes, a_rcv, a_unread, a_unreadFrom, a_cameBytes, a_held, a_heldFin, a_wnd, a_wndSeq, a_wndAck, a_peak, a_half, a_same, a_rto, a_tries, a_retryAt, a_ackAt, a_waitTill, a_timedAt, a_timedSeq, a_smoothed, a_variance, a_rowCount, a_slotSeq, a_slotFlags, a_slotAck, a_slotWindow, a_slotSize, a_slotBytes⟩ := u
  have hv0 := hv
  obtain ⟨h_now, h_sent, h_stateOf, h_error, h_iss, h_una, h_nxt, h_max, h_writtenTo, h_kept, h_keptBytes, h_rcv, h_unread, h_unreadFrom, h_cameBytes, h_held, h_heldFin, h_wnd, h_wndSeq, h_wndAck, h_peak, h_half, h_same, h_rto, h_tries, h_retryAt, h_ackAt, h_waitTill, h_timedAt, h_timedSeq, h_smoothed, h_variance, h_rowCount, h_slotSeq, h_slotFlags, h_slotAck, h_slotWindow, h_slotSize, h_slotBytes⟩ := hv0
  have l1 := hI.2.2.2.2.2.1.1 k hk
  have hin : vp_in x 33 := by rw [hx]; exact sl_in hk
  have hxk : x.toNatClampNeg = k := by rw [hx]; exact sl_c (by omega)
  unfold wpX_arriveClosed
  rw [hxk]
  refine ⟨hin, ?_⟩
  by_cases w : gm_L G 1 k / 8 % 2 = 1
  · have : gp_toClosed G p.toNatClampNeg k = G := if_pos w
    rw [this] at hP
    exact br_f (by rw [h_slotFlags k hk, zf_8 (by omega) (by omega), zk_0, zi_eq (by omega) (by omega) (by omega) (by omega)]; omega) (hP _ hv)
  · have : gp_toClosed G p.toNatClampNeg k = (if gm_L G 1 k / 2 % 2 = 1 then gp_rst G p.toNatClampNeg (gm_L G 2 k) 8 0 else gp_rst G p.toNatClampNeg 0 10 ((gm_L G 0 k + gp_slen G k) % 65536)) := if_neg w
    rw [this] at hP
    exact br_t (by rw [h_slotFlags k hk, zf_8 (by omega) (by omega), zk_0, zi_eq (by omega) (by omega) (by omega) (by omega)]; omega) (xl_answerReset hv hI hp hk hx hP)
theorem xl_meetOther {q : Int} {G : gm_T} {u : SX} {p x : Int32} {P : SX → Prop} {k : Nat} (hv : vx_S q G u) (hp : vp_in p 2) (hk : k < 32) (hx : x = zi_n (k : Int)) (hur : G.1 9 p.toNatClampNeg = 0) (hfa : G.1 11 p.toNatClampNeg < 0) (hh : ∀ p', gm_H G p.toNatClampNeg p' = false) (hP : ∀ u', vx_S q (gp_hear G p.toNatClampNeg k) u' → P u') : wpX_meetOther P u p x := by
  obtain ⟨f_now, f_sent, a_stateOf, a_error, a_iss, a_una, a_nxt, a_max, a_writtenTo, a_kept, a_keptBytes, a_rcv, a_unread, a_unreadFrom, a_cameBytes, a_held, a_heldFin, a_wnd, a_wndSeq, a_wndAck, a_peak, a_half, a_same, a_rto, a_tries, a_retryAt, a_ackAt, a_waitTill, a_timedAt, a_timedSeq, a_smoothed, a_variance, a_rowCount, a_slotSeq, a_slotFlags, a_slotAck, a_slotWindow, a_slotSize, a_slotBytes⟩ := u
  obtain ⟨h_now, h_sent, h_stateOf, h_error, h_iss, h_una, h_nxt, h_max, h_writtenTo, h_kept, h_keptBytes, h_rcv, h_unread, h_unreadFrom, h_cameBytes, h_held, h_heldFin, h_wnd, h_wndSeq, h_wndAck, h_peak, h_half, h_same, h_rto, h_tries, h_retryAt, h_ackAt, h_waitTill, h_timedAt, h_timedSeq, h_smoothed, h_variance, h_rowCount, h_slotSeq, h_slotFlags, h_slotAck, h_slotWindow, h_slotSize, h_slotBytes⟩ := hv
  have he := pe_lt hp
  have hin : vp_in x 33 := by rw [hx]; exact sl_in hk
  have hxk : x.toNatClampNeg = k := by rw [hx]; exact sl_c (by omega)
  unfold wpX_meetOther
  rw [hxk]
  refine ⟨hin, xl_behind (h_slotSeq k hk) zk_1 ⟨hp, nm_e ⟨hp, hp, nm_e ⟨hin, hp, nm_e (hP _ ?_)⟩⟩⟩⟩
  rw [zu_s]
  generalize p.toNatClampNeg = e at *
  have o : ∀ e' f, e' ≠ e → (gp_hear G e k).1 f e' = G.1 f e' := fun e' f q => he_o q f
  have z0 : ∀ j, j < 32 → a_held (32 * e + j) = 0 := vh_all (I := G.1 7 e) (R := G.1 8 e) (fun p' h1 h2 => by rw [h_held e he p' h1 h2, hh]; rfl)
  refine (vx_mk h_now h_sent h_stateOf h_error h_iss h_una h_nxt h_max h_writtenTo h_kept h_keptBytes (vu_e h_rcv ?a1 (fun e' q => by rw [o _ _ q, o _ _ q])) h_unread (vu_e h_unreadFrom ?a2 (fun e' q => by rw [o _ _ q, o _ _ q])) (fun e' he' p' w => ?a4) (fun e' he' p' h1 h2 => ?a5) (vk_e h_heldFin (fun e' he' => ?a6)) (vu_e h_wnd ?a3 (fun e' q => o _ _ q)) h_wndSeq h_wndAck h_peak h_half h_same h_rto h_tries h_retryAt h_ackAt h_waitTill h_timedAt h_timedSeq h_smoothed h_variance h_rowCount h_slotSeq h_slotFlags h_slotAck h_slotWindow h_slotSize h_slotBytes)
  case a1 => simp +decide only [gp_hear, gs_s, gs_f]
  case a2 => simp +decide only [gp_hear, gs_s, gs_f]
  case a3 => simp +decide only [gp_hear, gs_s, gs_f]; exact h_slotWindow k hk
  case a4 =>
    by_cases y : e' = e
    · subst y
      rcases w with w | w
      · simp +decide only [gp_hear, gs_s, gs_f] at w; omega
      · have w' : gm_H G e' p' = true := w
        rw [hh] at w'; cases w'
    · simp only [o _ _ y] at w ⊢; exact h_cameBytes e' he' p' w
  case a5 =>
    by_cases y : e' = e
    · subst y
      show _ = if gm_H G e' p' = true then 1 else 0
      rw [hh, z0 _ (by omega)]; rfl
    · simp only [o _ _ y] at h1 h2 ⊢; exact h_held e' he' p' h1 h2
  case a6 =>
    by_cases y : e' = e
    · subst y; simp +decide only [gp_hear, gs_f]; rw [if_pos hfa, if_pos hfa]
    · simp only [o _ _ y]
