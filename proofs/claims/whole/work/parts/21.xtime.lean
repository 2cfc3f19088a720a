/-! the class: time -/
theorem xl_sendAgain {q K : Int} {G : gm_T} {u : SX} {p : Int32} {P : SX → Prop} (hv : vx_S q G u) (hI : gv_I K G) (hI2 : gv_I K (gp_late2 G p.toNatClampNeg)) (hp : vp_in p 2) (h4 : 4 ≤ G.1 0 p.toNatClampNeg) (hum : G.1 3 p.toNatClampNeg < G.1 5 p.toNatClampNeg) (hP : ∀ u', vx_S q (if G.1 12 p.toNatClampNeg = 0 then gp_piece (gp_late2 G p.toNatClampNeg) p.toNatClampNeg else gp_flow (gp_late2 G p.toNatClampNeg) p.toNatClampNeg) u' → P u') : wpX_sendAgain P u p := by
  obtain ⟨f_now, f_sent, a_stateOf, a_error, a_iss, a_una, a_nxt, a_max, a_writtenTo, a_kept, a_keptBytes, a_rcv, a_unread, a_unreadFrom, a_cameBytes, a_held, a_heldFin, a_wnd, a_wndSeq, a_wndAck, a_peak, a_half, a_same, a_rto, a_tries, a_retryAt, a_ackAt, a_waitTill, a_timedAt, a_timedSeq, a_smoothed, a_variance, a_rowCount, a_slotSeq, a_slotFlags, a_slotAck, a_slotWindow, a_slotSize, a_slotBytes⟩ := u
  have hv0 := hv
  obtain ⟨h_now, h_sent, h_stateOf, h_error, h_iss, h_una, h_nxt, h_max, h_writtenTo, h_kept, h_keptBytes, h_rcv, h_unread, h_unreadFrom, h_cameBytes, h_held, h_heldFin, h_wnd, h_wndSeq, h_wndAck, h_peak, h_half, h_same, h_rto, h_tries, h_retryAt, h_ackAt, h_waitTill, h_timedAt, h_timedSeq, h_smoothed, h_variance, h_rowCount, h_slotSeq, h_slotFlags, h_slotAck, h_slotWindow, h_slotSize, h_slotBytes⟩ := hv0
  have he := pe_lt hp
  have n2 := hI.2.1
  obtain ⟨b1, b2, b3, b4, b5, b6⟩ := hI.2.2.2.2.1 _ he
  unfold gv_p at b2
  unfold gv_c at b3
  have hu := (b2.2.2.2.2.1 h4)
  have hk := b2.2.2.2.2.2
  unfold wpX_sendAgain
  refine xl_halve hp (h_max _ he) (h_una _ he) (by omega) (by omega) ⟨hp, nm_e ⟨hp, nm_e ⟨hp, hp, nm_e ⟨hp, ?_⟩⟩⟩⟩
  have hv2 : vx_S q (gp_late2 G p.toNatClampNeg) (f_now, f_sent, a_stateOf, a_error, a_iss, a_una, upd a_nxt p.toNatClampNeg (a_una p.toNatClampNeg), a_max, a_writtenTo, a_kept, a_keptBytes, a_rcv, a_unread, a_unreadFrom, a_cameBytes, a_held, a_heldFin, a_wnd, a_wndSeq, a_wndAck, upd a_peak p.toNatClampNeg 8, upd a_half p.toNatClampNeg (zi_n (max 8 ((G.1 5 p.toNatClampNeg - G.1 3 p.toNatClampNeg) / 2))), upd a_same p.toNatClampNeg 0, a_rto, a_tries, a_retryAt, a_ackAt, a_waitTill, a_timedAt, a_timedSeq, a_smoothed, a_variance, a_rowCount, a_slotSeq, a_slotFlags, a_slotAck, a_slotWindow, a_slotSize, a_slotBytes) := by
    generalize p.toNatClampNeg = e at *
    have o : ∀ e' f, e' ≠ e → (gp_late2 G e).1 f e' = G.1 f e' := fun e' f y => by simp only [gp_late2, gs_e y]
    refine (vx_mk h_now h_sent h_stateOf h_error h_iss h_una (vu_e h_nxt ?a4 (fun e' y => by rw [o _ _ y, o _ _ y])) h_max h_writtenTo h_kept h_keptBytes h_rcv h_unread h_unreadFrom h_cameBytes h_held h_heldFin h_wnd h_wndSeq h_wndAck (vu_e h_peak ?a2 (fun e' y => o _ _ y)) (vu_e h_half ?a1 (fun e' y => o _ _ y)) (vu_e h_same ?a3 (fun e' y => o _ _ y)) h_rto h_tries h_retryAt h_ackAt h_waitTill h_timedAt h_timedSeq h_smoothed h_variance h_rowCount h_slotSeq h_slotFlags h_slotAck h_slotWindow h_slotSize h_slotBytes)
    case a1 => simp +decide only [gp_late2, gs_s, gs_f] <;> rfl
    case a2 => simp +decide only [gp_late2, gs_s, gs_f] <;> rfl
    case a3 => simp +decide only [gp_late2, gs_s, gs_f] <;> rfl
    case a4 => simp +decide only [gp_late2, gs_s, gs_f]; exact h_una e he
  have s1 : (gp_late2 G p.toNatClampNeg).1 0 p.toNatClampNeg = G.1 0 p.toNatClampNeg := by simp +decide only [gp_late2, gs_f]
  have s2 : (gp_late2 G p.toNatClampNeg).1 3 p.toNatClampNeg = G.1 3 p.toNatClampNeg := by simp +decide only [gp_late2, gs_f]
  have s3 : (gp_late2 G p.toNatClampNeg).1 5 p.toNatClampNeg = G.1 5 p.toNatClampNeg := by simp +decide only [gp_late2, gs_f]
  by_cases w : G.1 12 p.toNatClampNeg = 0
  · rw [if_pos w] at hP
    exact br_t (by rw [h_wnd _ he, w]; rfl) (xl_piece hv2 hI2 hp (by rw [s1]; exact h4) (by rw [s2, s3]; exact hum) hP)
  · rw [if_neg w] at hP
    exact br_f (by rw [h_wnd _ he, zk_0, zi_eq (by omega) (by omega) (by omega) (by omega)]; exact w) (xl_flow hv2 hI2 hp hP)
theorem xl_retry {q K : Int} {G : gm_T} {u : SX} {p : Int32} {P : SX → Prop} (hv : vx_S q G u) (hI : gv_I K G) (hp : vp_in p 2) (hs : 2 ≤ G.1 0 p.toNatClampNeg) (hP : ∀ u', vx_S q (gp_late G p.toNatClampNeg) u' → P u') : wpX_retry P u p := by
  obtain ⟨f_now, f_sent, a_stateOf, a_error, a_iss, a_una, a_nxt, a_max, a_writtenTo, a_kept, a_keptBytes, a_rcv, a_unread, a_unreadFrom, a_cameBytes, a_held, a_heldFin, a_wnd, a_wndSeq, a_wndAck, a_peak, a_half, a_same, a_rto, a_tries, a_retryAt, a_ackAt, a_waitTill, a_timedAt, a_timedSeq, a_smoothed, a_variance, a_rowCount, a_slotSeq, a_slotFlags, a_slotAck, a_slotWindow, a_slotSize, a_slotBytes⟩ := u
  have hv0 := hv
  obtain ⟨h_now, h_sent, h_stateOf, h_error, h_iss, h_una, h_nxt, h_max, h_writtenTo, h_kept, h_keptBytes, h_rcv, h_unread, h_unreadFrom, h_cameBytes, h_held, h_heldFin, h_wnd, h_wndSeq, h_wndAck, h_peak, h_half, h_same, h_rto, h_tries, h_retryAt, h_ackAt, h_waitTill, h_timedAt, h_timedSeq, h_smoothed, h_variance, h_rowCount, h_slotSeq, h_slotFlags, h_slotAck, h_slotWindow, h_slotSize, h_slotBytes⟩ := hv0
  have he := pe_lt hp
  have n2 := hI.2.1
  obtain ⟨b1, b2, b3, b4, b5, b6⟩ := hI.2.2.2.2.1 _ he
  have hIl := hI.2.2.2.2.1 _ he
  unfold gv_a at b1
  unfold gv_p at b2
  unfold gv_c at b3
  have hpos : 0 ≤ G.1 3 p.toNatClampNeg ∧ G.1 3 p.toNatClampNeg ≤ G.1 5 p.toNatClampNeg ∧ G.1 5 p.toNatClampNeg - G.1 3 p.toNatClampNeg ≤ 40 ∧ (G.1 0 p.toNatClampNeg < 4 → G.1 3 p.toNatClampNeg = 0 ∧ G.1 5 p.toNatClampNeg = 1) := by
    have r2 := b2.2.2.2.2.2
    by_cases w : 4 ≤ G.1 0 p.toNatClampNeg
    · have := b2.2.2.2.2.1 w; omega
    · have := b2.2.2.2.1 (by omega); omega
  have htr : G.1 20 p.toNatClampNeg ≤ 5 := (b3.2.2.2.2.2.2.2.2.2.2.2.2.2.2.2.1 (by omega)).1
  have hIL : ¬ (G.1 3 p.toNatClampNeg ≠ G.1 5 p.toNatClampNeg ∧ G.1 20 p.toNatClampNeg + 1 = 6) → gv_I K (gp_late1 G p.toNatClampNeg) := by
    intro hn
    obtain ⟨a1, a2, a3, a4, a5, a6, a7, a8⟩ := hI
    obtain ⟨b1, b2, b3, b4, b5, b6⟩ := a5 _ he
    have htr : 0 ≤ gp_tr G p.toNatClampNeg ∧ gp_tr G p.toNatClampNeg ≤ 5 := by unfold gp_tr; unfold gv_c at b3; split <;> omega
    refine ⟨a1, a2, a3, a4, gv_up (e := p.toNatClampNeg) (n := gm_N G) a5 (fun e' q f => ?_) (fun e' q => rfl) ?_, a6, a7, a8⟩
    · simp only [gp_late1, gs_e q]
    · unfold gv_E
      simp +decide only [gp_late1, gs_s, gs_f]
      generalize gp_tr G p.toNatClampNeg = tr at *
      refine ⟨b1, b2, ?_, ?_, ?_, b6⟩
      · unfold gv_c at *; omega
      · unfold gv_c gv_d at *; omega
      · unfold gv_t at *; omega
  have s0 : ∀ f, f = 0 ∨ f = 3 ∨ f = 5 ∨ f = 2 ∨ f = 6 ∨ f = 12 → (gp_late1 G p.toNatClampNeg).1 f p.toNatClampNeg = G.1 f p.toNatClampNeg := by
    intro f hf
    rcases hf with rfl | rfl | rfl | rfl | rfl | rfl <;> simp +decide only [gp_late1, gs_f]
  have k90 : ∀ (TX : Nat → Int32) (x2 z0 : Int32), ¬ (G.1 3 p.toNatClampNeg ≠ G.1 5 p.toNatClampNeg ∧ G.1 20 p.toNatClampNeg + 1 = 6) → (∀ e', e' < 2 → TX e' = zi_n ((gp_late1 G p.toNatClampNeg).1 20 e')) → (x2 = 0 ↔ G.1 3 p.toNatClampNeg = G.1 5 p.toNatClampNeg) → z0 = zi_n (min 64 (2 * G.1 19 p.toNatClampNeg)) → wX_retry_90 P p x2 z0 p f_now f_sent a_stateOf a_error a_iss a_una a_nxt a_max a_writtenTo a_kept a_keptBytes a_rcv a_unread a_unreadFrom a_cameBytes a_held a_heldFin a_wnd a_wndSeq a_wndAck a_peak a_half a_same a_rto (TX) a_retryAt a_ackAt a_waitTill a_timedAt a_timedSeq a_smoothed a_variance a_rowCount a_slotSeq a_slotFlags a_slotAck a_slotWindow a_slotSize a_slotBytes := by
    intro TX x2 z0 hn hTX hx2 hz0
    have hI1 := hIL hn
    have hv1 : vx_S q (gp_late1 G p.toNatClampNeg) (f_now, f_sent, a_stateOf, a_error, a_iss, a_una, a_nxt, a_max, a_writtenTo, a_kept, a_keptBytes, a_rcv, a_unread, a_unreadFrom, a_cameBytes, a_held, a_heldFin, a_wnd, a_wndSeq, a_wndAck, a_peak, a_half, a_same, upd a_rto p.toNatClampNeg z0, TX, upd a_retryAt p.toNatClampNeg (f_now + z0), a_ackAt, a_waitTill, upd a_timedAt p.toNatClampNeg (-1), a_timedSeq, a_smoothed, a_variance, a_rowCount, a_slotSeq, a_slotFlags, a_slotAck, a_slotWindow, a_slotSize, a_slotBytes) := by
      have o : ∀ e' f, e' ≠ p.toNatClampNeg → (gp_late1 G p.toNatClampNeg).1 f e' = G.1 f e' := fun e' f y => by simp only [gp_late1, gs_e y]
      generalize p.toNatClampNeg = e at *
      refine (vx_mk h_now h_sent h_stateOf h_error h_iss h_una h_nxt h_max h_writtenTo h_kept h_keptBytes h_rcv h_unread h_unreadFrom h_cameBytes h_held h_heldFin h_wnd h_wndSeq h_wndAck h_peak h_half h_same (vu_e h_rto ?a1 (fun e' y => o _ _ y)) (hTX) (vu_e h_retryAt ?a2 (fun e' y => o _ _ y)) h_ackAt h_waitTill (vu_e h_timedAt ?a3 (fun e' y => by simp only [o _ _ y])) (fun e' he' z => ?a4) h_smoothed h_variance h_rowCount h_slotSeq h_slotFlags h_slotAck h_slotWindow h_slotSize h_slotBytes)
      case a1 => simp +decide only [gp_late1, gs_s, gs_f]; exact hz0
      case a2 => simp +decide only [gp_late1, gs_s, gs_f]; rw [h_now, hz0, zi_add]
      case a3 => simp +decide only [gp_late1, gs_s, gs_f] <;> rfl
      case a4 =>
        by_cases y : e' = e
        · subst y; simp +decide only [gp_late1, gs_s, gs_f] at z <;> omega
        · simp only [o _ _ y] at z ⊢; exact h_timedSeq e' he' z
    unfold wX_retry_90
    refine ⟨hp, nm_e ⟨hp, hp, nm_r (e' := upd a_retryAt p.toNatClampNeg (f_now + z0)) (by rw [zu_s]) ⟨hp, nm_e ?_⟩⟩⟩
    by_cases w : G.1 3 p.toNatClampNeg = G.1 5 p.toNatClampNeg
    · have hl : gp_late G p.toNatClampNeg = gp_send (gp_late1 G p.toNatClampNeg) p.toNatClampNeg (G.1 3 p.toNatClampNeg - 1) 0 0 := by unfold gp_late; rw [if_neg hn, if_pos w]
      rw [hl] at hP
      refine br_t (hx2.mpr w) ⟨hp, xl_behind (h_una _ he) zk_m1 ?_⟩
      refine xl_send hv1 hp ?_ zk_0 zk_0 (sk_of hI1 he (by rw [s0 0 (by omega)]; omega) (Or.inl rfl) (by omega) (by omega) (by rw [s0 3 (by omega)]; omega) (by rw [s0 5 (by omega)]; omega) (by omega)) hP
      rw [s0 2 (by omega)]; congr 1; omega
    · refine br_f (fun z => w (hx2.mp z)) ⟨hp, ?_⟩
      have k161 : G.1 0 p.toNatClampNeg < 4 → wX_retry_161 P p f_now f_sent a_stateOf a_error a_iss a_una a_nxt a_max a_writtenTo a_kept a_keptBytes a_rcv a_unread a_unreadFrom a_cameBytes a_held a_heldFin a_wnd a_wndSeq a_wndAck a_peak a_half a_same (upd a_rto p.toNatClampNeg z0) (TX) (upd a_retryAt p.toNatClampNeg (f_now + z0)) a_ackAt a_waitTill (upd a_timedAt p.toNatClampNeg (-1)) a_timedSeq a_smoothed a_variance a_rowCount a_slotSeq a_slotFlags a_slotAck a_slotWindow a_slotSize a_slotBytes := by
        intro h4
        have hl : gp_late G p.toNatClampNeg = gp_send (gp_late1 G p.toNatClampNeg) p.toNatClampNeg 0 1 0 := by unfold gp_late; rw [if_neg hn, if_neg w, if_pos h4]
        rw [hl] at hP
        have := hpos.2.2.2 h4
        unfold wX_retry_161
        refine ⟨hp, xl_send hv1 hp ?_ zk_1 zk_0 (sk_of hI1 he (by rw [s0 0 (by omega)]; omega) (Or.inr (Or.inl rfl)) (by omega) (by omega) (by rw [s0 3 (by omega)]; omega) (by rw [s0 5 (by omega)]; omega) (by omega)) hP⟩
        rw [s0 2 (by omega), h_iss _ he]; congr 1; omega
      by_cases w2 : G.1 0 p.toNatClampNeg = 2
      · exact br_t (by rw [h_stateOf _ he, w2]; rfl) (k161 (by omega))
      · refine br_f (by rw [h_stateOf _ he, zk_2, zi_eq (by omega) (by omega) (by omega) (by omega)]; exact w2) ⟨hp, ?_⟩
        by_cases w3 : G.1 0 p.toNatClampNeg = 3
        · exact br_t (by rw [h_stateOf _ he, w3]; rfl) (k161 (by omega))
        · have hl : gp_late G p.toNatClampNeg = if G.1 12 p.toNatClampNeg = 0 then gp_piece (gp_late2 (gp_late1 G p.toNatClampNeg) p.toNatClampNeg) p.toNatClampNeg else gp_flow (gp_late2 (gp_late1 G p.toNatClampNeg) p.toNatClampNeg) p.toNatClampNeg := by unfold gp_late; rw [if_neg hn, if_neg w, if_neg (by omega)]
          rw [hl, ← s0 12 (by omega)] at hP
          refine br_f (by rw [h_stateOf _ he, zk_3, zi_eq (by omega) (by omega) (by omega) (by omega)]; exact w3) ?_
          exact xl_sendAgain hv1 hI1 (iv_late2 hI1 he (by rw [s0 0 (by omega)]; omega)) hp (by rw [s0 0 (by omega)]; omega) (by rw [s0 3 (by omega), s0 5 (by omega)]; omega) hP
  have k59 : ∀ (TX : Nat → Int32) (x2 : Int32), ¬ (G.1 3 p.toNatClampNeg ≠ G.1 5 p.toNatClampNeg ∧ G.1 20 p.toNatClampNeg + 1 = 6) → (∀ e', e' < 2 → TX e' = zi_n ((gp_late1 G p.toNatClampNeg).1 20 e')) → (x2 = 0 ↔ G.1 3 p.toNatClampNeg = G.1 5 p.toNatClampNeg) → wX_retry_59 P p x2 f_now f_sent a_stateOf a_error a_iss a_una a_nxt a_max a_writtenTo a_kept a_keptBytes a_rcv a_unread a_unreadFrom a_cameBytes a_held a_heldFin a_wnd a_wndSeq a_wndAck a_peak a_half a_same a_rto (TX) a_retryAt a_ackAt a_waitTill a_timedAt a_timedSeq a_smoothed a_variance a_rowCount a_slotSeq a_slotFlags a_slotAck a_slotWindow a_slotSize a_slotBytes := by
    intro TX x2 hn hTX hx2
    have e1 : 2 * a_rto p.toNatClampNeg = zi_n (2 * G.1 19 p.toNatClampNeg) := by rw [h_rto _ he, zk_2, zi_mul]
    unfold wX_retry_59
    refine ⟨hp, ?_⟩
    by_cases w : 64 ≤ 2 * G.1 19 p.toNatClampNeg
    · exact br_t (by rw [e1, zk_64, zi_le (by omega) (by omega) (by omega) (by omega)]; exact w) (k90 TX x2 64 hn hTX hx2 (by rw [zk_64]; congr 1; omega))
    · exact br_f (by rw [e1, zk_64, zi_le (by omega) (by omega) (by omega) (by omega)]; exact w) ⟨hp, k90 TX x2 _ hn hTX hx2 (by rw [e1]; congr 1; omega)⟩
  have vTR : (gp_late1 G p.toNatClampNeg).1 20 p.toNatClampNeg = gp_tr G p.toNatClampNeg := by simp +decide only [gp_late1, gs_s, gs_f]
  have oTR : ∀ e', e' ≠ p.toNatClampNeg → (gp_late1 G p.toNatClampNeg).1 20 e' = G.1 20 e' := fun e' y => by simp only [gp_late1, gs_e y]
  unfold wpX_retry
  refine ⟨hp, hp, ?_⟩
  by_cases w : G.1 3 p.toNatClampNeg = G.1 5 p.toNatClampNeg
  · refine br_t (by rw [h_una _ he, h_max _ he, w]) ?_
    unfold wX_retry_20
    refine br_t rfl (k59 a_tries 0 (fun z => z.1 w) (fun e' he' => ?_) ⟨fun _ => w, fun _ => rfl⟩)
    by_cases y : e' = p.toNatClampNeg
    · rw [y, vTR]; unfold gp_tr; rw [if_pos w]; exact h_tries _ he
    · rw [oTR e' y]; exact h_tries e' he'
  · refine br_f (by rw [h_una _ he, h_max _ he, zi_eq (by omega) (by omega) (by omega) (by omega)]; omega) ?_
    unfold wX_retry_20
    refine br_f (by decide) ⟨hp, hp, nm_r (e' := upd a_tries p.toNatClampNeg (zi_n (G.1 20 p.toNatClampNeg + 1))) (by rw [h_tries _ he, zk_1, zi_add]) ⟨hp, ?_⟩⟩
    by_cases w2 : G.1 20 p.toNatClampNeg + 1 = 6
    · have hl : gp_late G p.toNatClampNeg = gp_over (gp_put G 20 p.toNatClampNeg 6) p.toNatClampNeg 2 := if_pos ⟨w, w2⟩
      rw [hl] at hP
      refine br_t (by rw [zu_s, w2]; rfl) ⟨hp, nm_e ?_⟩
      have hv1 : vx_S q (gp_put (gp_put G 20 p.toNatClampNeg 6) 1 p.toNatClampNeg 2) (f_now, f_sent, a_stateOf, upd a_error p.toNatClampNeg 2, a_iss, a_una, a_nxt, a_max, a_writtenTo, a_kept, a_keptBytes, a_rcv, a_unread, a_unreadFrom, a_cameBytes, a_held, a_heldFin, a_wnd, a_wndSeq, a_wndAck, a_peak, a_half, a_same, a_rto, upd a_tries p.toNatClampNeg (zi_n (G.1 20 p.toNatClampNeg + 1)), a_retryAt, a_ackAt, a_waitTill, a_timedAt, a_timedSeq, a_smoothed, a_variance, a_rowCount, a_slotSeq, a_slotFlags, a_slotAck, a_slotWindow, a_slotSize, a_slotBytes) := by
        refine (vx_mk h_now h_sent h_stateOf (vu_e h_error ?a3 (fun e' y => ?a4)) h_iss h_una h_nxt h_max h_writtenTo h_kept h_keptBytes h_rcv h_unread h_unreadFrom h_cameBytes h_held h_heldFin h_wnd h_wndSeq h_wndAck h_peak h_half h_same h_rto (vu_e h_tries ?a1 (fun e' y => ?a2)) h_retryAt h_ackAt h_waitTill h_timedAt h_timedSeq h_smoothed h_variance h_rowCount h_slotSeq h_slotFlags h_slotAck h_slotWindow h_slotSize h_slotBytes)
        case a1 => rw [pu_f (by decide), pu_s, w2]
        case a2 => rw [pu_o y, pu_o y]
        case a3 => rw [pu_s]; rfl
        case a4 => rw [pu_o y, pu_o y]
      refine xl_endAll hv1 hp fun u' hv' => hP u' (vx_ext (G := gp_over (gp_put (gp_put G 20 p.toNatClampNeg 6) 1 p.toNatClampNeg 2) p.toNatClampNeg ((gp_put (gp_put G 20 p.toNatClampNeg 6) 1 p.toNatClampNeg 2).1 1 p.toNatClampNeg)) (G' := gp_over (gp_put G 20 p.toNatClampNeg 6) p.toNatClampNeg 2) ?_ rfl hv')
      intro e' he' f
      rw [pu_s]
      by_cases y : e' = p.toNatClampNeg
      · subst y
        simp only [gp_over, gp_put, gs_c]
        by_cases z : f = 1
        · subst z; simp +decide only [true_and, and_true, ↓reduceIte]
        · simp only [z, false_and, ↓reduceIte]
      · rw [ov_o y, ov_o y, pu_o y, pu_o y, pu_o y]
    · refine br_f (by rw [zu_s, zk_6, zi_eq (by omega) (by omega) (by omega) (by omega)]; exact w2) (k59 _ 1 (fun z => w2 z.2) (fun e' he' => ?_) ⟨fun z => absurd z (by decide), fun z => absurd z w⟩)
      by_cases y : e' = p.toNatClampNeg
      · rw [y, vTR, zu_s]; unfold gp_tr; rw [if_neg w]
      · rw [oTR e' y, zu_n y]; exact h_tries e' he'
