/-! the class: a segment arrives at an end that is connected -/
theorem xl_answerOutside {q K : Int} {G : gm_T} {u : SX} {p x : Int32} {P : SX → Prop} {k : Nat} (hv : vx_S q G u) (hI : gv_I K G) (hp : vp_in p 2) (hk : k < 32) (hx : x = zi_n (gm_L G 1 k)) (h3 : 3 ≤ G.1 0 p.toNatClampNeg) (hP : ∀ u', vx_S q (gp_out G p.toNatClampNeg k) u' → P u') : wpX_answerOutside P u p x := by
  obtain ⟨f_now, f_sent, a_stateOf, a_error, a_iss, a_una, a_nxt, a_max, a_writtenTo, a_kept, a_keptBytes, a_rcv, a_unread, a_unreadFrom, a_cameBytes, a_held, a_heldFin, a_wnd, a_wndSeq, a_wndAck, a_peak, a_half, a_same, a_rto, a_tries, a_retryAt, a_ackAt, a_waitTill, a_timedAt, a_timedSeq, a_smoothed, a_variance, a_rowCount, a_slotSeq, a_slotFlags, a_slotAck, a_slotWindow, a_slotSize, a_slotBytes⟩ := u
  have hv0 := hv
  obtain ⟨h_now, h_sent, h_stateOf, h_error, h_iss, h_una, h_nxt, h_max, h_writtenTo, h_kept, h_keptBytes, h_rcv, h_unread, h_unreadFrom, h_cameBytes, h_held, h_heldFin, h_wnd, h_wndSeq, h_wndAck, h_peak, h_half, h_same, h_rto, h_tries, h_retryAt, h_ackAt, h_waitTill, h_timedAt, h_timedSeq, h_smoothed, h_variance, h_rowCount, h_slotSeq, h_slotFlags, h_slotAck, h_slotWindow, h_slotSize, h_slotBytes⟩ := hv0
  have he := pe_lt hp
  have l1 := hI.2.2.2.2.2.1.1 k hk
  obtain ⟨b1, b2, b3, b4, b5, b6⟩ := hI.2.2.2.2.1 _ he
  have n2 := hI.2.2.1
  unfold gv_a at b1
  have k30 : ∀ u1, vx_S q (gp_out1 G p.toNatClampNeg k) u1 → (match u1 with | (f_now, f_sent, a_stateOf, a_error, a_iss, a_una, a_nxt, a_max, a_writtenTo, a_kept, a_keptBytes, a_rcv, a_unread, a_unreadFrom, a_cameBytes, a_held, a_heldFin, a_wnd, a_wndSeq, a_wndAck, a_peak, a_half, a_same, a_rto, a_tries, a_retryAt, a_ackAt, a_waitTill, a_timedAt, a_timedSeq, a_smoothed, a_variance, a_rowCount, a_slotSeq, a_slotFlags, a_slotAck, a_slotWindow, a_slotSize, a_slotBytes) => wX_answerOutside_30 P p (zi_n (gm_L G 1 k)) f_now f_sent a_stateOf a_error a_iss a_una a_nxt a_max a_writtenTo a_kept a_keptBytes a_rcv a_unread a_unreadFrom a_cameBytes a_held a_heldFin a_wnd a_wndSeq a_wndAck a_peak a_half a_same a_rto a_tries a_retryAt a_ackAt a_waitTill a_timedAt a_timedSeq a_smoothed a_variance a_rowCount a_slotSeq a_slotFlags a_slotAck a_slotWindow a_slotSize a_slotBytes) := by
    intro u1 hv1
    obtain ⟨f_now, f_sent, a_stateOf, a_error, a_iss, a_una, a_nxt, a_max, a_writtenTo, a_kept, a_keptBytes, a_rcv, a_unread, a_unreadFrom, a_cameBytes, a_held, a_heldFin, a_wnd, a_wndSeq, a_wndAck, a_peak, a_half, a_same, a_rto, a_tries, a_retryAt, a_ackAt, a_waitTill, a_timedAt, a_timedSeq, a_smoothed, a_variance, a_rowCount, a_slotSeq, a_slotFlags, a_slotAck, a_slotWindow, a_slotSize, a_slotBytes⟩ := u1
    show wX_answerOutside_30 P p _ f_now f_sent a_stateOf a_error a_iss a_una a_nxt a_max a_writtenTo a_kept a_keptBytes a_rcv a_unread a_unreadFrom a_cameBytes a_held a_heldFin a_wnd a_wndSeq a_wndAck a_peak a_half a_same a_rto a_tries a_retryAt a_ackAt a_waitTill a_timedAt a_timedSeq a_smoothed a_variance a_rowCount a_slotSeq a_slotFlags a_slotAck a_slotWindow a_slotSize a_slotBytes
    have h1 : gv_I K (gp_out1 G p.toNatClampNeg k) ∧ (gp_out1 G p.toNatClampNeg k).1 0 p.toNatClampNeg = G.1 0 p.toNatClampNeg := by
      unfold gp_out1
      split
      · refine ⟨iv_put hI ?_, pu_f (by decide)⟩
        obtain ⟨b1, b2, b3, b4, b5, b6⟩ := hI.2.2.2.2.1 _ he
        refine ⟨b1, b2, b3, ?_, b5, b6⟩
        show gv_d (gm_N G) (G.1 0 p.toNatClampNeg) (G.1 21 p.toNatClampNeg) (G.1 22 p.toNatClampNeg) (gs_c _ _ _ _ _ _)
        rw [gs_s]
        unfold gv_d at *
        omega
      · exact ⟨hI, rfl⟩
    have hg : gp_out G p.toNatClampNeg k = if gm_L G 1 k / 8 % 2 = 1 then gp_out1 G p.toNatClampNeg k else gp_ack (gp_out1 G p.toNatClampNeg k) p.toNatClampNeg := rfl
    rw [hg] at hP
    generalize gp_out1 G p.toNatClampNeg k = G1 at *
    obtain ⟨c1, c2, c3, c4, c5, c6⟩ := h1.1.2.2.2.2.1 _ he
    unfold gv_p at c2
    unfold wX_answerOutside_30
    rw [zf_8 (by omega) (by omega)]
    by_cases w : gm_L G 1 k / 8 % 2 = 1
    · rw [if_pos w] at hP
      exact br_f (by rw [zk_0, zi_eq (by omega) (by omega) (by omega) (by omega)]; omega) (hP _ hv1)
    · rw [if_neg w] at hP
      refine br_t (by rw [zk_0, zi_eq (by omega) (by omega) (by omega) (by omega)]; omega) (xl_sendAck hv1 hp (sk_of h1.1 he (by omega) (Or.inl rfl) (by omega) (by omega) ?_ (by omega) (by omega)) hP)
      by_cases w4 : 4 ≤ G1.1 0 p.toNatClampNeg
      · have := c2.2.2.2.2.1 w4; omega
      · have := c2.2.2.2.1 (by omega); omega
  unfold wpX_answerOutside
  rw [hx, zf_4 (by omega) (by omega)]
  refine ⟨hp, ?_⟩
  by_cases w : G.1 0 p.toNatClampNeg = 10
  · refine br_t (by rw [h_stateOf _ he, w]; rfl) ?_
    by_cases w2 : gm_L G 1 k / 4 % 2 = 1
    · have e1 : gp_out1 G p.toNatClampNeg k = gp_put G 23 p.toNatClampNeg (gm_N G + 20) := if_pos ⟨w, w2⟩
      refine br_f (by rw [zk_0, zi_eq (by omega) (by omega) (by omega) (by omega)]; omega) ⟨hp, nm_e ?_⟩
      refine k30 (f_now, f_sent, a_stateOf, a_error, a_iss, a_una, a_nxt, a_max, a_writtenTo, a_kept, a_keptBytes, a_rcv, a_unread, a_unreadFrom, a_cameBytes, a_held, a_heldFin, a_wnd, a_wndSeq, a_wndAck, a_peak, a_half, a_same, a_rto, a_tries, a_retryAt, a_ackAt, upd a_waitTill p.toNatClampNeg (f_now + 20), a_timedAt, a_timedSeq, a_smoothed, a_variance, a_rowCount, a_slotSeq, a_slotFlags, a_slotAck, a_slotWindow, a_slotSize, a_slotBytes) ?_
      rw [e1]
      exact (vx_mk h_now h_sent h_stateOf h_error h_iss h_una h_nxt h_max h_writtenTo h_kept h_keptBytes h_rcv h_unread h_unreadFrom h_cameBytes h_held h_heldFin h_wnd h_wndSeq h_wndAck h_peak h_half h_same h_rto h_tries h_retryAt h_ackAt (vu_e h_waitTill (by rw [pu_s, h_now, zk_20, zi_add]) (fun e' y => pu_o y _)) h_timedAt h_timedSeq h_smoothed h_variance h_rowCount h_slotSeq h_slotFlags h_slotAck h_slotWindow h_slotSize h_slotBytes)
    · have e1 : gp_out1 G p.toNatClampNeg k = G := if_neg (fun z => w2 z.2)
      refine br_t (by rw [zk_0, zi_eq (by omega) (by omega) (by omega) (by omega)]; omega) ?_
      exact k30 (f_now, f_sent, a_stateOf, a_error, a_iss, a_una, a_nxt, a_max, a_writtenTo, a_kept, a_keptBytes, a_rcv, a_unread, a_unreadFrom, a_cameBytes, a_held, a_heldFin, a_wnd, a_wndSeq, a_wndAck, a_peak, a_half, a_same, a_rto, a_tries, a_retryAt, a_ackAt, a_waitTill, a_timedAt, a_timedSeq, a_smoothed, a_variance, a_rowCount, a_slotSeq, a_slotFlags, a_slotAck, a_slotWindow, a_slotSize, a_slotBytes) (by rw [e1]; exact hv)
  · have e1 : gp_out1 G p.toNatClampNeg k = G := if_neg (fun z => w z.1)
    refine br_f (by rw [h_stateOf _ he, zk_10, zi_eq (by omega) (by omega) (by omega) (by omega)]; exact w) ?_
    exact k30 (f_now, f_sent, a_stateOf, a_error, a_iss, a_una, a_nxt, a_max, a_writtenTo, a_kept, a_keptBytes, a_rcv, a_unread, a_unreadFrom, a_cameBytes, a_held, a_heldFin, a_wnd, a_wndSeq, a_wndAck, a_peak, a_half, a_same, a_rto, a_tries, a_retryAt, a_ackAt, a_waitTill, a_timedAt, a_timedSeq, a_smoothed, a_variance, a_rowCount, a_slotSeq, a_slotFlags, a_slotAck, a_slotWindow, a_slotSize, a_slotBytes) (by rw [e1]; exact hv)
theorem xl_isAckUsable {q K : Int} {G : gm_T} {u : SX} {p x y : Int32} {P : Int32 → SX → Prop} {k : Nat} {a : Int} (hv : vx_S q G u) (hI : gv_I K G) (hp : vp_in p 2) (hk : k < 32) (hx : x = zi_n (k : Int)) (hy : y = zi_n a) (ha0 : -32768 ≤ a) (ha1 : a < 32768) (h3 : 3 ≤ G.1 0 p.toNatClampNeg) (hA : G.1 0 p.toNatClampNeg = 3 ∧ a ≠ 1 → ∀ u', vx_S q (gp_rst G p.toNatClampNeg (gm_L G 2 k) 8 0) u' → P 0 u') (hB : ¬ (G.1 0 p.toNatClampNeg = 3 ∧ a ≠ 1) → G.1 5 p.toNatClampNeg - G.1 3 p.toNatClampNeg < a → ∀ u', vx_S q (gp_ack (gp_est G p.toNatClampNeg) p.toNatClampNeg) u' → P 0 u') (hC : ¬ (G.1 0 p.toNatClampNeg = 3 ∧ a ≠ 1) → ¬ G.1 5 p.toNatClampNeg - G.1 3 p.toNatClampNeg < a → ∀ u', vx_S q (gp_est G p.toNatClampNeg) u' → P 1 u') : wpX_isAckUsable P u p x y := by
  obtain ⟨f_now, f_sent, a_stateOf, a_error, a_iss, a_una, a_nxt, a_max, a_writtenTo, a_kept, a_keptBytes, a_rcv, a_unread, a_unreadFrom, a_cameBytes, a_held, a_heldFin, a_wnd, a_wndSeq, a_wndAck, a_peak, a_half, a_same, a_rto, a_tries, a_retryAt, a_ackAt, a_waitTill, a_timedAt, a_timedSeq, a_smoothed, a_variance, a_rowCount, a_slotSeq, a_slotFlags, a_slotAck, a_slotWindow, a_slotSize, a_slotBytes⟩ := u
  have hv0 := hv
  obtain ⟨h_now, h_sent, h_stateOf, h_error, h_iss, h_una, h_nxt, h_max, h_writtenTo, h_kept, h_keptBytes, h_rcv, h_unread, h_unreadFrom, h_cameBytes, h_held, h_heldFin, h_wnd, h_wndSeq, h_wndAck, h_peak, h_half, h_same, h_rto, h_tries, h_retryAt, h_ackAt, h_waitTill, h_timedAt, h_timedSeq, h_smoothed, h_variance, h_rowCount, h_slotSeq, h_slotFlags, h_slotAck, h_slotWindow, h_slotSize, h_slotBytes⟩ := hv0
  have he := pe_lt hp
  have l1 := hI.2.2.2.2.2.1.1 k hk
  have hin : vp_in x 33 := by rw [hx]; exact sl_in hk
  have hxk : x.toNatClampNeg = k := by rw [hx]; exact sl_c (by omega)
  obtain ⟨b1, b2, b3, b4, b5, b6⟩ := hI.2.2.2.2.1 _ he
  have n2 := hI.2.1
  unfold gv_a at b1
  unfold gv_p at b2
  have hmu : 0 ≤ G.1 5 p.toNatClampNeg - G.1 3 p.toNatClampNeg ∧ G.1 5 p.toNatClampNeg - G.1 3 p.toNatClampNeg ≤ 40 := by
    by_cases w : 4 ≤ G.1 0 p.toNatClampNeg
    · have := b2.2.2.2.2.1 w; have := b2.2.2.2.2.2; omega
    · have := b2.2.2.2.1 (by omega); omega
  unfold wpX_isAckUsable
  rw [hxk]
  refine ⟨hp, ?_⟩
  by_cases w : G.1 0 p.toNatClampNeg = 3
  · refine br_t (by rw [h_stateOf _ he, w]; rfl) ?_
    have b24 := b2.2.2.2.1 (by omega)
    by_cases w2 : a = 1
    · have e1 : gp_est G p.toNatClampNeg = gp_put G 0 p.toNatClampNeg 4 := if_pos w
      refine br_t (by rw [hy, w2]; rfl) ⟨hp, nm_e ?_⟩
      unfold wX_isAckUsable_38
      refine ⟨hp, hp, xl_off (h_max _ he) (h_una _ he) (by omega) (by omega) (br_t (by rw [hy, zi_le (by omega) (by omega) (by omega) (by omega)]; omega) ?_)⟩
      refine hC (fun z => z.2 w2) (by omega) _ ?_
      rw [e1]; exact vx_put hv rfl
    · refine br_f (by rw [hy, zk_1, zi_eq (by omega) (by omega) (by omega) (by omega)]; exact w2) ⟨hin, ?_⟩
      exact xl_sendReset hv hp (by omega) (by omega) (h_slotAck k hk) zk_8 zk_0 (hA ⟨w, w2⟩)
  · have e1 : gp_est G p.toNatClampNeg = G := if_neg w
    rw [e1] at hB hC
    refine br_f (by rw [h_stateOf _ he, zk_3, zi_eq (by omega) (by omega) (by omega) (by omega)]; exact w) ?_
    unfold wX_isAckUsable_38
    refine ⟨hp, hp, xl_off (h_max _ he) (h_una _ he) (by omega) (by omega) ?_⟩
    by_cases w2 : a ≤ G.1 5 p.toNatClampNeg - G.1 3 p.toNatClampNeg
    · exact br_t (by rw [hy, zi_le (by omega) (by omega) (by omega) (by omega)]; exact w2) (hC (fun z => w z.1) (by omega) _ hv)
    · exact br_f (by rw [hy, zi_le (by omega) (by omega) (by omega) (by omega)]; exact w2) (xl_sendAck hv hp (sk_of hI he (by omega) (Or.inl rfl) (by omega) (by omega) (by omega) (by omega) (by omega)) (hB (fun z => w z.1) (by omega)))
/-- what a send leaves of the other row -/
theorem sd_L {G : gm_T} {e : Nat} {fr fl n : Int} {f k : Nat} (h0 : 0 ≤ G.1 30 e) (hk : k < 16 * e ∨ 16 * e + 16 ≤ k) : gm_L (gp_send G e fr fl n) f k = gm_L G f k := by
  have e1 : gm_L (gp_send G e fr fl n) = if G.1 30 e < 16 then gm_l (gm_L G) (16 * e + (G.1 30 e).toNat) ((G.1 2 e + fr) % 65536) (if G.1 0 e = 2 then fl else fl + 2) (if G.1 0 e = 2 then 0 else (G.1 7 e + G.1 8 e) % 65536) (24 - G.1 9 e) n else gm_L G := rfl
  rw [e1]
  split
  · unfold gm_l
    rw [if_neg (by omega)]
  · rfl
theorem pc_L {G : gm_T} {e f k : Nat} (h0 : 0 ≤ G.1 30 e) (hk : k < 16 * e ∨ 16 * e + 16 ≤ k) : gm_L (gp_piece G e) f k = gm_L G f k := by
  unfold gp_piece
  split <;> exact sd_L h0 hk
theorem nk_L {G : gm_T} {e f k k' : Nat} {a : Int} (h0 : 0 ≤ G.1 30 e) (hk : k < 16 * e ∨ 16 * e + 16 ≤ k) : gm_L (gp_newack G e k' a) f k = gm_L G f k := by
  unfold gp_newack
  split
  · have h3 : gm_L (gp_adv3 (gp_adv2 (gp_adv1 G e a) e) e) = gm_L G := by
      show gm_L (gp_adv2 (gp_adv1 G e a) e) = gm_L G
      unfold gp_adv2
      split <;> rfl
    unfold gp_adv gp_finack
    split
    · split
      · exact congrFun (congrFun h3 f) k
      · split
        · exact congrFun (congrFun h3 f) k
        · split
          · exact congrFun (congrFun h3 f) k
          · exact congrFun (congrFun h3 f) k
    · exact congrFun (congrFun h3 f) k
  · split
    · unfold gp_same gp_again
      split
      · split
        · show gm_L (gp_piece (gp_again1 G e) e) f k = _
          have h1 : 0 ≤ (gp_again1 G e).1 30 e := by simp +decide only [gp_again1, gs_f]; exact h0
          rw [pc_L h1 hk]; rfl
        · rfl
      · rfl
    · rfl
theorem nk_f {G : gm_T} {e e' k : Nat} {a : Int} {f : Nat} (hf : f = 7 ∨ f = 8 ∨ f = 9) : (gp_newack G e k a).1 f e' = G.1 f e' := by
  have c1 : f ≠ 0 := by omega
  have c2 : f ≠ 1 := by omega
  unfold gp_newack
  split
  · have h3 : (gp_adv3 (gp_adv2 (gp_adv1 G e a) e) e).1 f e' = G.1 f e' := by
      rcases hf with rfl | rfl | rfl <;> (simp +decide only [gp_adv3, gs_f]; unfold gp_adv2; split <;> simp +decide only [gp_meas, gp_adv1, gs_f])
    unfold gp_adv gp_finack
    split
    · split
      · rw [pu_f c1, h3]
      · split
        · rcases hf with rfl | rfl | rfl <;> (simp +decide only [gp_wait, gs_f]; exact h3)
        · split
          · rcases hf with rfl | rfl | rfl <;> (simp +decide only [gp_over, gs_f]; exact h3)
          · exact h3
    · exact h3
  · split
    · unfold gp_same gp_again
      split
      · split
        · rcases hf with rfl | rfl | rfl <;> (rw [pu_f (by decide), pc_f (by decide) (by decide) (by decide) (by decide) (by decide) (by decide)]; simp +decide only [gp_again1, gs_f])
        · rcases hf with rfl | rfl | rfl <;> simp +decide only [gs_f]
      · rfl
    · rfl
theorem wi_f {G : gm_T} {e e' k : Nat} {f : Nat} (h1 : f ≠ 13) (h2 : f ≠ 14) (h3 : f ≠ 15) (h4 : f ≠ 12) : (gp_win G e k).1 f e' = G.1 f e' := by
  unfold gp_win
  split
  · simp only [gs_f h1, gs_f h2, gs_f h3, gs_f h4]
  · rfl
theorem wi_L {G : gm_T} {e k : Nat} : gm_L (gp_win G e k) = gm_L G := by
  unfold gp_win
  split <;> rfl
theorem aq_of {K : Int} {G : gm_T} {e : Nat} {a : Int} (hI : gv_I K G) (he : e < 2) (hs : 3 ≤ G.1 0 e) (ha : 0 < a) (ham : a ≤ G.1 5 e - G.1 3 e) : aq_ok (gp_est G e) e a := by
  have v : ∀ f, f ≠ 0 → (gp_est G e).1 f e = G.1 f e := fun f hf => by
    unfold gp_est
    split
    · exact pu_f hf
    · rfl
  have hN : gm_N (gp_est G e) = gm_N G := by unfold gp_est; split <;> rfl
  obtain ⟨a1, a2, a3, a4, a5, a6, a7, a8⟩ := hI
  obtain ⟨b1, b2, b3, b4, b5, b6⟩ := a5 e he
  unfold gv_p at b2
  unfold gv_c at b3
  unfold gv_t at b5
  have hpos : 0 ≤ G.1 3 e ∧ G.1 5 e - G.1 3 e ≤ 40 ∧ G.1 5 e ≤ G.1 6 e + 1 ∧ G.1 6 e - G.1 3 e ≤ 33 ∧ G.1 3 e ≤ G.1 4 e ∧ G.1 4 e ≤ G.1 5 e ∧ G.1 5 e ≤ 1000000 := by
    have r1 := b2.1 (by omega)
    have r2 := b2.2.2.2.2.2
    by_cases w : 4 ≤ G.1 0 e
    · have := b2.2.2.2.2.1 w; omega
    · have := b2.2.2.2.1 (by omega); omega
  have r1 := b2.1 (by omega)
  have r3 := b3.2.2.2.2.2.2.2.2.2.2.2.2.2.2.2.1 (by omega)
  unfold aq_ok mq_ok
  rw [hN, v 5 (by decide), v 3 (by decide), v 6 (by decide), v 4 (by decide), v 12 (by decide), v 24 (by decide), v 25 (by decide), v 26 (by decide), v 27 (by decide), v 28 (by decide), v 16 (by decide), v 17 (by decide), v 18 (by decide), v 32 (by decide), v 33 (by decide), v 34 (by decide)]
  refine ⟨ha, ham, by omega, by omega, by omega, by omega, by omega, by omega, by omega, by omega, by omega, by omega, fun z => ?_, by omega, by omega, by omega, by omega, by omega, by omega, r1.2.2.1, r1.2.2.2, r3.2.1⟩
  have := b5.2.1 z
  exact ⟨by omega, by omega, z, a3, by omega, by omega, by omega, b5.2.2.1, b5.2.2.2.1, by omega, by omega⟩
theorem xc_186 {q K : Int} {G : gm_T} {f_now : Int32} {f_sent : Int32} {a_stateOf : (Nat → Int32)} {a_error : (Nat → Int32)} {a_iss : (Nat → Int32)} {a_una : (Nat → Int32)} {a_nxt : (Nat → Int32)} {a_max : (Nat → Int32)} {a_writtenTo : (Nat → Int32)} {a_kept : (Nat → Int32)} {a_keptBytes : (Nat → Int32)} {a_rcv : (Nat → Int32)} {a_unread : (Nat → Int32)} {a_unreadFrom : (Nat → Int32)} {a_cameBytes : (Nat → Int32)} {a_held : (Nat → Int32)} {a_heldFin : (Nat → Int32)} {a_wnd : (Nat → Int32)} {a_wndSeq : (Nat → Int32)} {a_wndAck : (Nat → Int32)} {a_peak : (Nat → Int32)} {a_half : (Nat → Int32)} {a_same : (Nat → Int32)} {a_rto : (Nat → Int32)} {a_tries : (Nat → Int32)} {a_retryAt : (Nat → Int32)} {a_ackAt : (Nat → Int32)} {a_waitTill : (Nat → Int32)} {a_timedAt : (Nat → Int32)} {a_timedSeq : (Nat → Int32)} {a_smoothed : (Nat → Int32)} {a_variance : (Nat → Int32)} {a_rowCount : (Nat → Int32)} {a_slotSeq : (Nat → Int32)} {a_slotFlags : (Nat → Int32)} {a_slotAck : (Nat → Int32)} {a_slotWindow : (Nat → Int32)} {a_slotSize : (Nat → Int32)} {a_slotBytes : (Nat → Int32)} {p x x4 : Int32} {P : SX → Prop} {k : Nat} {o : Int} (hv : vx_S q G (f_now, f_sent, a_stateOf, a_error, a_iss, a_una, a_nxt, a_max, a_writtenTo, a_kept, a_keptBytes, a_rcv, a_unread, a_unreadFrom, a_cameBytes, a_held, a_heldFin, a_wnd, a_wndSeq, a_wndAck, a_peak, a_half, a_same, a_rto, a_tries, a_retryAt, a_ackAt, a_waitTill, a_timedAt, a_timedSeq, a_smoothed, a_variance, a_rowCount, a_slotSeq, a_slotFlags, a_slotAck, a_slotWindow, a_slotSize, a_slotBytes)) (hI : gv_I K G) (hp : vp_in p 2) (hk : k < 32) (hK : K + 7 ≤ 5000) (hx : x = zi_n (k : Int)) (h4 : 4 ≤ G.1 0 p.toNatClampNeg) (ho : gp_o G p.toNatClampNeg k = o) (ho0 : -100 ≤ o) (ho1 : o ≤ 100) (hx4 : x4 = zi_n (gp_slen G k)) (hP : ∀ u', vx_S q (gp_flow (gp_content G p.toNatClampNeg k o) p.toNatClampNeg) u' → P u') : wX_arriveConnected_186 P p x x4 f_now f_sent a_stateOf a_error a_iss a_una a_nxt a_max a_writtenTo a_kept a_keptBytes a_rcv a_unread a_unreadFrom a_cameBytes a_held a_heldFin a_wnd a_wndSeq a_wndAck a_peak a_half a_same a_rto a_tries a_retryAt a_ackAt a_waitTill a_timedAt a_timedSeq a_smoothed a_variance a_rowCount a_slotSeq a_slotFlags a_slotAck a_slotWindow a_slotSize a_slotBytes := by
  have he := pe_lt hp
  unfold wX_arriveConnected_186
  refine xl_takeContent hv hI hp hk hK hx h4 ho ho0 ho1 hx4 fun u1 hv1 => ?_
  obtain ⟨f_now, f_sent, a_stateOf, a_error, a_iss, a_una, a_nxt, a_max, a_writtenTo, a_kept, a_keptBytes, a_rcv, a_unread, a_unreadFrom, a_cameBytes, a_held, a_heldFin, a_wnd, a_wndSeq, a_wndAck, a_peak, a_half, a_same, a_rto, a_tries, a_retryAt, a_ackAt, a_waitTill, a_timedAt, a_timedSeq, a_smoothed, a_variance, a_rowCount, a_slotSeq, a_slotFlags, a_slotAck, a_slotWindow, a_slotSize, a_slotBytes⟩ := u1
  exact xl_flow hv1 (iv_content hI he hk hK h4) hp hP
theorem xl_arriveConnected {q K : Int} {G : gm_T} {u : SX} {p x : Int32} {P : SX → Prop} {k : Nat} (hv : vx_S q G u) (hI : gv_I K G) (hp : vp_in p 2) (hk : k < 32) (hrow : k < 16 * p.toNatClampNeg ∨ 16 * p.toNatClampNeg + 16 ≤ k) (hK : K + 8 ≤ 5000) (hx : x = zi_n (k : Int)) (h3 : 3 ≤ G.1 0 p.toNatClampNeg) (hP : ∀ u', vx_S q (gp_conn G p.toNatClampNeg k) u' → P u') : wpX_arriveConnected P u p x := by
  obtain ⟨f_now, f_sent, a_stateOf, a_error, a_iss, a_una, a_nxt, a_max, a_writtenTo, a_kept, a_keptBytes, a_rcv, a_unread, a_unreadFrom, a_cameBytes, a_held, a_heldFin, a_wnd, a_wndSeq, a_wndAck, a_peak, a_half, a_same, a_rto, a_tries, a_retryAt, a_ackAt, a_waitTill, a_timedAt, a_timedSeq, a_smoothed, a_variance, a_rowCount, a_slotSeq, a_slotFlags, a_slotAck, a_slotWindow, a_slotSize, a_slotBytes⟩ := u
  have hv0 := hv
  obtain ⟨h_now, h_sent, h_stateOf, h_error, h_iss, h_una, h_nxt, h_max, h_writtenTo, h_kept, h_keptBytes, h_rcv, h_unread, h_unreadFrom, h_cameBytes, h_held, h_heldFin, h_wnd, h_wndSeq, h_wndAck, h_peak, h_half, h_same, h_rto, h_tries, h_retryAt, h_ackAt, h_waitTill, h_timedAt, h_timedSeq, h_smoothed, h_variance, h_rowCount, h_slotSeq, h_slotFlags, h_slotAck, h_slotWindow, h_slotSize, h_slotBytes⟩ := hv0
  have he := pe_lt hp
  have l1 := hI.2.2.2.2.2.1.1 k hk
  have hin : vp_in x 33 := by rw [hx]; exact sl_in hk
  have hxk : x.toNatClampNeg = k := by rw [hx]; exact sl_c (by omega)
  have hlen : 0 ≤ gp_slen G k ∧ gp_slen G k ≤ 10 := by unfold gp_slen gp_len; omega
  obtain ⟨b1, b2, b3, b4, b5, b6⟩ := hI.2.2.2.2.1 _ he
  unfold gv_a at b1
  have hur : 0 ≤ G.1 9 p.toNatClampNeg ∧ G.1 9 p.toNatClampNeg ≤ 24 := by unfold gv_r at b6; omega
  have ro := zs_r (gm_L G 0 k - (G.1 7 p.toNatClampNeg + G.1 8 p.toNatClampNeg) % 65536)
  have ra := zs_r (gm_L G 2 k - (G.1 2 p.toNatClampNeg + G.1 3 p.toNatClampNeg) % 65536)
  have ro' : -32768 ≤ gp_o G p.toNatClampNeg k ∧ gp_o G p.toNatClampNeg k < 32768 := ro
  have ra' : -32768 ≤ gp_a G p.toNatClampNeg k ∧ gp_a G p.toNatClampNeg k < 32768 := ra
  have hpos : 0 ≤ G.1 3 p.toNatClampNeg ∧ G.1 3 p.toNatClampNeg ≤ G.1 5 p.toNatClampNeg := by
    unfold gv_p at b2
    by_cases w : 4 ≤ G.1 0 p.toNatClampNeg
    · have := b2.2.2.2.2.1 w; omega
    · have := b2.2.2.2.1 (by omega); omega
  -- a good acknowledgement
  have kgo : gp_ok (24 - G.1 9 p.toNatClampNeg) (gp_o G p.toNatClampNeg k) (gp_slen G k) → ¬ (G.1 0 p.toNatClampNeg = 3 ∧ gp_a G p.toNatClampNeg k ≠ 1) → ¬ G.1 5 p.toNatClampNeg - G.1 3 p.toNatClampNeg < gp_a G p.toNatClampNeg k → (∀ u', vx_S q (gp_go (gp_est G p.toNatClampNeg) p.toNatClampNeg k (gp_o G p.toNatClampNeg k) (gp_a G p.toNatClampNeg k)) u' → P u') → ∀ u1, vx_S q (gp_est G p.toNatClampNeg) u1 → (match u1 with | (f_now, f_sent, a_stateOf, a_error, a_iss, a_una, a_nxt, a_max, a_writtenTo, a_kept, a_keptBytes, a_rcv, a_unread, a_unreadFrom, a_cameBytes, a_held, a_heldFin, a_wnd, a_wndSeq, a_wndAck, a_peak, a_half, a_same, a_rto, a_tries, a_retryAt, a_ackAt, a_waitTill, a_timedAt, a_timedSeq, a_smoothed, a_variance, a_rowCount, a_slotSeq, a_slotFlags, a_slotAck, a_slotWindow, a_slotSize, a_slotBytes) => ((zi_n (gp_a G p.toNatClampNeg k) ≤ 0 → (wX_arriveConnected_144 P p x (zi_n (gp_slen G k)) (zi_n (gp_a G p.toNatClampNeg k)) f_now f_sent a_stateOf a_error a_iss a_una a_nxt a_max a_writtenTo a_kept a_keptBytes a_rcv a_unread a_unreadFrom a_cameBytes a_held a_heldFin a_wnd a_wndSeq a_wndAck a_peak a_half a_same a_rto a_tries a_retryAt a_ackAt a_waitTill a_timedAt a_timedSeq a_smoothed a_variance a_rowCount a_slotSeq a_slotFlags a_slotAck a_slotWindow a_slotSize a_slotBytes)) ∧ (¬ zi_n (gp_a G p.toNatClampNeg k) ≤ 0 → (vp_in x 33 ∧ (wpX_takeNewAck (fun u => match u with | (f_now, f_sent, a_stateOf, a_error, a_iss, a_una, a_nxt, a_max, a_writtenTo, a_kept, a_keptBytes, a_rcv, a_unread, a_unreadFrom, a_cameBytes, a_held, a_heldFin, a_wnd, a_wndSeq, a_wndAck, a_peak, a_half, a_same, a_rto, a_tries, a_retryAt, a_ackAt, a_waitTill, a_timedAt, a_timedSeq, a_smoothed, a_variance, a_rowCount, a_slotSeq, a_slotFlags, a_slotAck, a_slotWindow, a_slotSize, a_slotBytes) => (wpX_takeFinAck (fun u => match u with | (f_now, f_sent, a_stateOf, a_error, a_iss, a_una, a_nxt, a_max, a_writtenTo, a_kept, a_keptBytes, a_rcv, a_unread, a_unreadFrom, a_cameBytes, a_held, a_heldFin, a_wnd, a_wndSeq, a_wndAck, a_peak, a_half, a_same, a_rto, a_tries, a_retryAt, a_ackAt, a_waitTill, a_timedAt, a_timedSeq, a_smoothed, a_variance, a_rowCount, a_slotSeq, a_slotFlags, a_slotAck, a_slotWindow, a_slotSize, a_slotBytes) => (wX_arriveConnected_144 P p x (zi_n (gp_slen G k)) (zi_n (gp_a G p.toNatClampNeg k)) f_now f_sent a_stateOf a_error a_iss a_una a_nxt a_max a_writtenTo a_kept a_keptBytes a_rcv a_unread a_unreadFrom a_cameBytes a_held a_heldFin a_wnd a_wndSeq a_wndAck a_peak a_half a_same a_rto a_tries a_retryAt a_ackAt a_waitTill a_timedAt a_timedSeq a_smoothed a_variance a_rowCount a_slotSeq a_slotFlags a_slotAck a_slotWindow a_slotSize a_slotBytes)) (f_now, f_sent, a_stateOf, a_error, a_iss, a_una, a_nxt, a_max, a_writtenTo, a_kept, a_keptBytes, a_rcv, a_unread, a_unreadFrom, a_cameBytes, a_held, a_heldFin, a_wnd, a_wndSeq, a_wndAck, a_peak, a_half, a_same, a_rto, a_tries, a_retryAt, a_ackAt, a_waitTill, a_timedAt, a_timedSeq, a_smoothed, a_variance, a_rowCount, a_slotSeq, a_slotFlags, a_slotAck, a_slotWindow, a_slotSize, a_slotBytes) p)) (f_now, f_sent, a_stateOf, a_error, a_iss, a_una, a_nxt, a_max, a_writtenTo, a_kept, a_keptBytes, a_rcv, a_unread, a_unreadFrom, a_cameBytes, a_held, a_heldFin, a_wnd, a_wndSeq, a_wndAck, a_peak, a_half, a_same, a_rto, a_tries, a_retryAt, a_ackAt, a_waitTill, a_timedAt, a_timedSeq, a_smoothed, a_variance, a_rowCount, a_slotSeq, a_slotFlags, a_slotAck, a_slotWindow, a_slotSize, a_slotBytes) p (a_slotAck x.toNatClampNeg) (zi_n (gp_a G p.toNatClampNeg k))))))) := by
    intro hok hn3 hle hPg u1 hv1
    have hob : -100 ≤ gp_o G p.toNatClampNeg k ∧ gp_o G p.toNatClampNeg k ≤ 100 := by unfold gp_ok at hok; omega
    have hest : 4 ≤ (gp_est G p.toNatClampNeg).1 0 p.toNatClampNeg := by
      unfold gp_est
      split
      · rw [pu_s]; decide
      · omega
    have vest : ∀ f, f ≠ 0 → (gp_est G p.toNatClampNeg).1 f p.toNatClampNeg = G.1 f p.toNatClampNeg := fun f hf => by
      unfold gp_est
      split
      · exact pu_f hf
      · rfl
    have Lest : gm_L (gp_est G p.toNatClampNeg) = gm_L G := by unfold gp_est; split <;> rfl
    have hIn : gv_I (K + 1) (gp_newack (gp_est G p.toNatClampNeg) p.toNatClampNeg k (gp_a G p.toNatClampNeg k)) := by
      unfold gp_newack
      split
      · exact gv_mono (by omega) (by omega) (iv_adv hI he h3 (by omega) (by omega) (fun h => by omega))
      · have e1 : gp_est G p.toNatClampNeg = G := if_neg (fun h => by omega)
        rw [e1] at hest ⊢
        split
        · exact iv_same hI he (by omega) hest
        · exact gv_mono (by omega) (by omega) hI
    have hnst := nk_ST (k := k) (a := gp_a G p.toNatClampNeg k) hest
    have nL : ∀ f, gm_L (gp_newack (gp_est G p.toNatClampNeg) p.toNatClampNeg k (gp_a G p.toNatClampNeg k)) f k = gm_L G f k := fun f => by
      rw [nk_L (by rw [vest _ (by decide)]; omega) hrow, Lest]
    have nF : ∀ f, f = 7 ∨ f = 8 ∨ f = 9 → (gp_newack (gp_est G p.toNatClampNeg) p.toNatClampNeg k (gp_a G p.toNatClampNeg k)).1 f p.toNatClampNeg = G.1 f p.toNatClampNeg := fun f hf => by
      rw [nk_f hf, vest f (by omega)]
    have k175 : ¬ (gp_newack (gp_est G p.toNatClampNeg) p.toNatClampNeg k (gp_a G p.toNatClampNeg k)).1 0 p.toNatClampNeg = 0 → ∀ u2, vx_S q (gp_newack (gp_est G p.toNatClampNeg) p.toNatClampNeg k (gp_a G p.toNatClampNeg k)) u2 → (match u2 with | (f_now, f_sent, a_stateOf, a_error, a_iss, a_una, a_nxt, a_max, a_writtenTo, a_kept, a_keptBytes, a_rcv, a_unread, a_unreadFrom, a_cameBytes, a_held, a_heldFin, a_wnd, a_wndSeq, a_wndAck, a_peak, a_half, a_same, a_rto, a_tries, a_retryAt, a_ackAt, a_waitTill, a_timedAt, a_timedSeq, a_smoothed, a_variance, a_rowCount, a_slotSeq, a_slotFlags, a_slotAck, a_slotWindow, a_slotSize, a_slotBytes) => wX_arriveConnected_175 P p x (zi_n (gp_slen G k)) (zi_n (gp_a G p.toNatClampNeg k)) f_now f_sent a_stateOf a_error a_iss a_una a_nxt a_max a_writtenTo a_kept a_keptBytes a_rcv a_unread a_unreadFrom a_cameBytes a_held a_heldFin a_wnd a_wndSeq a_wndAck a_peak a_half a_same a_rto a_tries a_retryAt a_ackAt a_waitTill a_timedAt a_timedSeq a_smoothed a_variance a_rowCount a_slotSeq a_slotFlags a_slotAck a_slotWindow a_slotSize a_slotBytes) := by
      intro hz u2 hv2
      obtain ⟨f_now, f_sent, a_stateOf, a_error, a_iss, a_una, a_nxt, a_max, a_writtenTo, a_kept, a_keptBytes, a_rcv, a_unread, a_unreadFrom, a_cameBytes, a_held, a_heldFin, a_wnd, a_wndSeq, a_wndAck, a_peak, a_half, a_same, a_rto, a_tries, a_retryAt, a_ackAt, a_waitTill, a_timedAt, a_timedSeq, a_smoothed, a_variance, a_rowCount, a_slotSeq, a_slotFlags, a_slotAck, a_slotWindow, a_slotSize, a_slotBytes⟩ := u2
      show wX_arriveConnected_175 P p x _ _ f_now f_sent a_stateOf a_error a_iss a_una a_nxt a_max a_writtenTo a_kept a_keptBytes a_rcv a_unread a_unreadFrom a_cameBytes a_held a_heldFin a_wnd a_wndSeq a_wndAck a_peak a_half a_same a_rto a_tries a_retryAt a_ackAt a_waitTill a_timedAt a_timedSeq a_smoothed a_variance a_rowCount a_slotSeq a_slotFlags a_slotAck a_slotWindow a_slotSize a_slotBytes
      have hgo : gp_go (gp_est G p.toNatClampNeg) p.toNatClampNeg k (gp_o G p.toNatClampNeg k) (gp_a G p.toNatClampNeg k) = gp_flow (gp_content (if 0 ≤ gp_a G p.toNatClampNeg k then gp_win (gp_newack (gp_est G p.toNatClampNeg) p.toNatClampNeg k (gp_a G p.toNatClampNeg k)) p.toNatClampNeg k else gp_newack (gp_est G p.toNatClampNeg) p.toNatClampNeg k (gp_a G p.toNatClampNeg k)) p.toNatClampNeg k (gp_o G p.toNatClampNeg k)) p.toNatClampNeg := if_neg hz
      rw [hgo] at hPg
      generalize gp_newack (gp_est G p.toNatClampNeg) p.toNatClampNeg k (gp_a G p.toNatClampNeg k) = G1 at *
      have h4n : 4 ≤ G1.1 0 p.toNatClampNeg := by omega
      have oo : gp_o G1 p.toNatClampNeg k = gp_o G p.toNatClampNeg k := by unfold gp_o; rw [nL, nF 7 (by omega), nF 8 (by omega)]
      have ll : gp_slen G1 k = gp_slen G k := by unfold gp_slen; rw [nL, nL]
      unfold wX_arriveConnected_175
      by_cases w : gp_a G p.toNatClampNeg k < 0
      · rw [if_neg (by omega)] at hPg
        refine br_t (by rw [zk_0, zi_lt (by omega) (by omega) (by omega) (by omega)]; exact w) ?_
        exact xc_186 hv2 hIn hp hk (by omega) hx h4n oo hob.1 hob.2 (by rw [ll]) hPg
      · rw [if_pos (by omega)] at hPg
        refine br_f (by rw [zk_0, zi_lt (by omega) (by omega) (by omega) (by omega)]; exact w) (xl_takeWindow hv2 hIn hp hk hx fun u3 hv3 => ?_)
        obtain ⟨f_now, f_sent, a_stateOf, a_error, a_iss, a_una, a_nxt, a_max, a_writtenTo, a_kept, a_keptBytes, a_rcv, a_unread, a_unreadFrom, a_cameBytes, a_held, a_heldFin, a_wnd, a_wndSeq, a_wndAck, a_peak, a_half, a_same, a_rto, a_tries, a_retryAt, a_ackAt, a_waitTill, a_timedAt, a_timedSeq, a_smoothed, a_variance, a_rowCount, a_slotSeq, a_slotFlags, a_slotAck, a_slotWindow, a_slotSize, a_slotBytes⟩ := u3
        refine xc_186 hv3 (iv_win hIn he hk) hp hk (by omega) hx ?_ ?_ hob.1 hob.2 ?_ hPg
        · rw [wi_f (by decide) (by decide) (by decide) (by decide)]; exact h4n
        · rw [← oo]; unfold gp_o; rw [wi_L, wi_f (by decide) (by decide) (by decide) (by decide), wi_f (by decide) (by decide) (by decide) (by decide)]
        · rw [← ll]; unfold gp_slen; rw [wi_L]
    obtain ⟨f_now, f_sent, a_stateOf, a_error, a_iss, a_una, a_nxt, a_max, a_writtenTo, a_kept, a_keptBytes, a_rcv, a_unread, a_unreadFrom, a_cameBytes, a_held, a_heldFin, a_wnd, a_wndSeq, a_wndAck, a_peak, a_half, a_same, a_rto, a_tries, a_retryAt, a_ackAt, a_waitTill, a_timedAt, a_timedSeq, a_smoothed, a_variance, a_rowCount, a_slotSeq, a_slotFlags, a_slotAck, a_slotWindow, a_slotSize, a_slotBytes⟩ := u1
    dsimp only
    by_cases w : gp_a G p.toNatClampNeg k ≤ 0
    · have e1 : gp_est G p.toNatClampNeg = G := if_neg (fun h => by omega)
      refine br_t (by rw [zk_0, zi_le (by omega) (by omega) (by omega) (by omega)]; exact w) ?_
      rw [e1] at hv1 hest k175
      have hv2 := hv1
      clear h_stateOf h_slotWindow
      obtain ⟨h_now, h_sent, h_stateOf, h_error, h_iss, h_una, h_nxt, h_max, h_writtenTo, h_kept, h_keptBytes, h_rcv, h_unread, h_unreadFrom, h_cameBytes, h_held, h_heldFin, h_wnd, h_wndSeq, h_wndAck, h_peak, h_half, h_same, h_rto, h_tries, h_retryAt, h_ackAt, h_waitTill, h_timedAt, h_timedSeq, h_smoothed, h_variance, h_rowCount, h_slotSeq, h_slotFlags, h_slotAck, h_slotWindow, h_slotSize, h_slotBytes⟩ := hv2
      unfold wX_arriveConnected_144
      refine ⟨hp, br_f (by rw [h_stateOf _ he, zk_0, zi_eq (by omega) (by omega) (by omega) (by omega)]; omega) ?_⟩
      by_cases w2 : gp_a G p.toNatClampNeg k = 0
      · refine br_t (by rw [w2]; rfl) ?_
        by_cases w3 : gp_slen G k = 0
        · have en : gp_newack G p.toNatClampNeg k (gp_a G p.toNatClampNeg k) = gp_same G p.toNatClampNeg k := by
            unfold gp_newack; rw [if_neg (by omega), if_pos ⟨w2, w3⟩]
          rw [en] at k175
          refine br_t (by rw [w3]; rfl) ⟨hin, ?_⟩
          rw [hxk]
          refine xl_again hv1 hI (by omega) hp hest (h_slotWindow k hk) (by omega) (by omega) fun u3 hv3 => ?_
          refine k175 ?_ u3 hv3
          have := nk_ST (k := k) (a := gp_a G p.toNatClampNeg k) hest
          rw [en] at this
          unfold gp_same gp_again at *
          split
          · split
            · rw [pu_f (by decide), pc_f (by decide) (by decide) (by decide) (by decide) (by decide) (by decide)]
              simp +decide only [gp_again1, gs_f]; omega
            · simp +decide only [gs_f]; omega
          · omega
        · have en : gp_newack G p.toNatClampNeg k (gp_a G p.toNatClampNeg k) = G := by
            unfold gp_newack; rw [if_neg (by omega), if_neg (fun z => w3 z.2)]
          rw [en] at k175
          exact br_f (by rw [zk_0, zi_eq (by omega) (by omega) (by omega) (by omega)]; exact w3) (k175 (by omega) (f_now, f_sent, a_stateOf, a_error, a_iss, a_una, a_nxt, a_max, a_writtenTo, a_kept, a_keptBytes, a_rcv, a_unread, a_unreadFrom, a_cameBytes, a_held, a_heldFin, a_wnd, a_wndSeq, a_wndAck, a_peak, a_half, a_same, a_rto, a_tries, a_retryAt, a_ackAt, a_waitTill, a_timedAt, a_timedSeq, a_smoothed, a_variance, a_rowCount, a_slotSeq, a_slotFlags, a_slotAck, a_slotWindow, a_slotSize, a_slotBytes) hv1)
      · have en : gp_newack G p.toNatClampNeg k (gp_a G p.toNatClampNeg k) = G := by
          unfold gp_newack; rw [if_neg (by omega), if_neg (fun z => w2 z.1)]
        rw [en] at k175
        exact br_f (by rw [zk_0, zi_eq (by omega) (by omega) (by omega) (by omega)]; exact w2) (k175 (by omega) (f_now, f_sent, a_stateOf, a_error, a_iss, a_una, a_nxt, a_max, a_writtenTo, a_kept, a_keptBytes, a_rcv, a_unread, a_unreadFrom, a_cameBytes, a_held, a_heldFin, a_wnd, a_wndSeq, a_wndAck, a_peak, a_half, a_same, a_rto, a_tries, a_retryAt, a_ackAt, a_waitTill, a_timedAt, a_timedSeq, a_smoothed, a_variance, a_rowCount, a_slotSeq, a_slotFlags, a_slotAck, a_slotWindow, a_slotSize, a_slotBytes) hv1)
    · have en : gp_newack (gp_est G p.toNatClampNeg) p.toNatClampNeg k (gp_a G p.toNatClampNeg k) = gp_finack (gp_adv3 (gp_adv2 (gp_adv1 (gp_est G p.toNatClampNeg) p.toNatClampNeg (gp_a G p.toNatClampNeg k)) p.toNatClampNeg) p.toNatClampNeg) p.toNatClampNeg := if_pos (by omega)
      refine br_f (by rw [zk_0, zi_le (by omega) (by omega) (by omega) (by omega)]; exact w) ⟨hin, ?_⟩
      rw [hxk]
      have hv2 := hv1
      clear h_slotAck
      obtain ⟨h_now, h_sent, h_stateOf, h_error, h_iss, h_una, h_nxt, h_max, h_writtenTo, h_kept, h_keptBytes, h_rcv, h_unread, h_unreadFrom, h_cameBytes, h_held, h_heldFin, h_wnd, h_wndSeq, h_wndAck, h_peak, h_half, h_same, h_rto, h_tries, h_retryAt, h_ackAt, h_waitTill, h_timedAt, h_timedSeq, h_smoothed, h_variance, h_rowCount, h_slotSeq, h_slotFlags, h_slotAck, h_slotWindow, h_slotSize, h_slotBytes⟩ := hv2
      have hIa : gv_I K (gp_adv3 (gp_adv2 (gp_adv1 (gp_est G p.toNatClampNeg) p.toNatClampNeg (gp_a G p.toNatClampNeg k)) p.toNatClampNeg) p.toNatClampNeg) ∧ 4 ≤ (gp_adv3 (gp_adv2 (gp_adv1 (gp_est G p.toNatClampNeg) p.toNatClampNeg (gp_a G p.toNatClampNeg k)) p.toNatClampNeg) p.toNatClampNeg).1 0 p.toNatClampNeg := by
        have s2 : 4 ≤ (gp_adv2 (gp_adv1 (gp_est G p.toNatClampNeg) p.toNatClampNeg (gp_a G p.toNatClampNeg k)) p.toNatClampNeg).1 0 p.toNatClampNeg := by rw [a1_ST]; exact hest
        refine ⟨iv_adv3 ?_ he s2, by simp +decide only [gp_adv3, gs_f]; exact s2⟩
        unfold gp_est
        split
        · exact iv_adv12e hI he (by assumption) (by omega) (by omega) (fun h => by omega)
        · exact iv_adv12 hI he (by omega) (by omega) (by omega) (fun h => by omega)
      refine xl_takeNewAck hv1 hp (aq_of hI he h3 (by omega) (by omega)) ?_ rfl fun u3 hv3 => ?_
      · rw [h_slotAck k hk, Lest, vest 2 (by decide), vest 3 (by decide)]
        congr 1
        unfold gp_a
        rw [zi_s_e]; omega
      · obtain ⟨f_now, f_sent, a_stateOf, a_error, a_iss, a_una, a_nxt, a_max, a_writtenTo, a_kept, a_keptBytes, a_rcv, a_unread, a_unreadFrom, a_cameBytes, a_held, a_heldFin, a_wnd, a_wndSeq, a_wndAck, a_peak, a_half, a_same, a_rto, a_tries, a_retryAt, a_ackAt, a_waitTill, a_timedAt, a_timedSeq, a_smoothed, a_variance, a_rowCount, a_slotSeq, a_slotFlags, a_slotAck, a_slotWindow, a_slotSize, a_slotBytes⟩ := u3
        refine xl_takeFinAck hv3 hIa.1 hp hIa.2 fun u4 hv4 => ?_
        rw [← en] at hv4
        obtain ⟨f_now, f_sent, a_stateOf, a_error, a_iss, a_una, a_nxt, a_max, a_writtenTo, a_kept, a_keptBytes, a_rcv, a_unread, a_unreadFrom, a_cameBytes, a_held, a_heldFin, a_wnd, a_wndSeq, a_wndAck, a_peak, a_half, a_same, a_rto, a_tries, a_retryAt, a_ackAt, a_waitTill, a_timedAt, a_timedSeq, a_smoothed, a_variance, a_rowCount, a_slotSeq, a_slotFlags, a_slotAck, a_slotWindow, a_slotSize, a_slotBytes⟩ := u4
        have hv5 := hv4
        clear h_stateOf
        obtain ⟨h_now, h_sent, h_stateOf, h_error, h_iss, h_una, h_nxt, h_max, h_writtenTo, h_kept, h_keptBytes, h_rcv, h_unread, h_unreadFrom, h_cameBytes, h_held, h_heldFin, h_wnd, h_wndSeq, h_wndAck, h_peak, h_half, h_same, h_rto, h_tries, h_retryAt, h_ackAt, h_waitTill, h_timedAt, h_timedSeq, h_smoothed, h_variance, h_rowCount, h_slotSeq, h_slotFlags, h_slotAck, h_slotWindow, h_slotSize, h_slotBytes⟩ := hv5
        show wX_arriveConnected_144 P p x _ _ f_now f_sent a_stateOf a_error a_iss a_una a_nxt a_max a_writtenTo a_kept a_keptBytes a_rcv a_unread a_unreadFrom a_cameBytes a_held a_heldFin a_wnd a_wndSeq a_wndAck a_peak a_half a_same a_rto a_tries a_retryAt a_ackAt a_waitTill a_timedAt a_timedSeq a_smoothed a_variance a_rowCount a_slotSeq a_slotFlags a_slotAck a_slotWindow a_slotSize a_slotBytes
        unfold wX_arriveConnected_144
        refine ⟨hp, ?_⟩
        obtain ⟨d1, d2, d3, d4, d5, d6⟩ := hIn.2.2.2.2.1 _ he
        unfold gv_a at d1
        by_cases w5 : (gp_newack (gp_est G p.toNatClampNeg) p.toNatClampNeg k (gp_a G p.toNatClampNeg k)).1 0 p.toNatClampNeg = 0
        · have hgo : gp_go (gp_est G p.toNatClampNeg) p.toNatClampNeg k (gp_o G p.toNatClampNeg k) (gp_a G p.toNatClampNeg k) = gp_newack (gp_est G p.toNatClampNeg) p.toNatClampNeg k (gp_a G p.toNatClampNeg k) := if_pos w5
          rw [hgo] at hPg
          exact br_t (by rw [h_stateOf _ he, w5]; rfl) (hPg _ hv4)
        · exact br_f (by rw [h_stateOf _ he, zk_0, zi_eq (by omega) (by omega) (by omega) (by omega)]; exact w5) (br_f (by rw [zk_0, zi_eq (by omega) (by omega) (by omega) (by omega)]; omega) (k175 w5 (f_now, f_sent, a_stateOf, a_error, a_iss, a_una, a_nxt, a_max, a_writtenTo, a_kept, a_keptBytes, a_rcv, a_unread, a_unreadFrom, a_cameBytes, a_held, a_heldFin, a_wnd, a_wndSeq, a_wndAck, a_peak, a_half, a_same, a_rto, a_tries, a_retryAt, a_ackAt, a_waitTill, a_timedAt, a_timedSeq, a_smoothed, a_variance, a_rowCount, a_slotSeq, a_slotFlags, a_slotAck, a_slotWindow, a_slotSize, a_slotBytes) hv4))
  have k73 : gp_ok (24 - G.1 9 p.toNatClampNeg) (gp_o G p.toNatClampNeg k) (gp_slen G k) → ¬ (gm_L G 1 k / 8 % 2 = 1 ∧ gp_o G p.toNatClampNeg k = 0) → wX_arriveConnected_73 P p x (zi_n (gm_L G 1 k)) (zi_n (gp_slen G k)) f_now f_sent a_stateOf a_error a_iss a_una a_nxt a_max a_writtenTo a_kept a_keptBytes a_rcv a_unread a_unreadFrom a_cameBytes a_held a_heldFin a_wnd a_wndSeq a_wndAck a_peak a_half a_same a_rto a_tries a_retryAt a_ackAt a_waitTill a_timedAt a_timedSeq a_smoothed a_variance a_rowCount a_slotSeq a_slotFlags a_slotAck a_slotWindow a_slotSize a_slotBytes := by
    intro hok hnr
    have hcn : gp_conn G p.toNatClampNeg k = (if gm_L G 1 k / 8 % 2 = 1 then (if gp_o G p.toNatClampNeg k = 0 then gp_reset G p.toNatClampNeg else gp_ack G p.toNatClampNeg) else if gm_L G 1 k % 2 = 1 then gp_ack G p.toNatClampNeg else if gm_L G 1 k / 2 % 2 = 1 then gp_acked G p.toNatClampNeg k (gp_o G p.toNatClampNeg k) (gp_a G p.toNatClampNeg k) else G) := if_pos hok
    rw [hcn] at hP
    unfold wX_arriveConnected_73
    rw [zf_9 (by omega) (by omega), zf_2 (by omega) (by omega)]
    by_cases w : gm_L G 1 k / 8 % 2 = 1 ∨ gm_L G 1 k % 2 = 1
    · have e1 : (if gm_L G 1 k / 8 % 2 = 1 then (if gp_o G p.toNatClampNeg k = 0 then gp_reset G p.toNatClampNeg else gp_ack G p.toNatClampNeg) else if gm_L G 1 k % 2 = 1 then gp_ack G p.toNatClampNeg else if gm_L G 1 k / 2 % 2 = 1 then gp_acked G p.toNatClampNeg k (gp_o G p.toNatClampNeg k) (gp_a G p.toNatClampNeg k) else G) = gp_ack G p.toNatClampNeg := by
        by_cases w2 : gm_L G 1 k / 8 % 2 = 1
        · rw [if_pos w2, if_neg (fun z => hnr ⟨w2, z⟩)]
        · rw [if_neg w2, if_pos (by omega)]
      rw [e1] at hP
      exact br_f (by rw [zk_0, zi_eq (by omega) (by omega) (by omega) (by omega)]; omega) (xl_sendAck hv hp (sk_of hI he (by omega) (Or.inl rfl) (by omega) (by omega) (by omega) (by omega) (by omega)) hP)
    · rw [if_neg (by omega), if_neg (by omega)] at hP
      refine br_t (by rw [zk_0, zi_eq (by omega) (by omega) (by omega) (by omega)]; omega) ⟨hin, hp, ?_⟩
      rw [hxk]
      refine xl_offset (h_slotAck k hk) (h_una _ he) ?_
      show _ ∧ _
      rw [show zi_s (gm_L G 2 k - (G.1 2 p.toNatClampNeg + G.1 3 p.toNatClampNeg) % 65536) = gp_a G p.toNatClampNeg k from rfl]
      by_cases w2 : gm_L G 1 k / 2 % 2 = 1
      · rw [if_pos w2] at hP
        refine br_f (by rw [zk_0, zi_eq (by omega) (by omega) (by omega) (by omega)]; omega) ?_
        refine xl_isAckUsable hv hI hp hk hx rfl ra'.1 ra'.2 h3 (fun z u1 hv1 => ?_) (fun z z2 u1 hv1 => ?_) (fun z z2 u1 hv1 => ?_)
        · obtain ⟨f_now, f_sent, a_stateOf, a_error, a_iss, a_una, a_nxt, a_max, a_writtenTo, a_kept, a_keptBytes, a_rcv, a_unread, a_unreadFrom, a_cameBytes, a_held, a_heldFin, a_wnd, a_wndSeq, a_wndAck, a_peak, a_half, a_same, a_rto, a_tries, a_retryAt, a_ackAt, a_waitTill, a_timedAt, a_timedSeq, a_smoothed, a_variance, a_rowCount, a_slotSeq, a_slotFlags, a_slotAck, a_slotWindow, a_slotSize, a_slotBytes⟩ := u1
          refine br_t rfl (hP _ ?_)
          have : gp_acked G p.toNatClampNeg k (gp_o G p.toNatClampNeg k) (gp_a G p.toNatClampNeg k) = gp_rst G p.toNatClampNeg (gm_L G 2 k) 8 0 := if_pos z
          rw [this]; exact hv1
        · obtain ⟨f_now, f_sent, a_stateOf, a_error, a_iss, a_una, a_nxt, a_max, a_writtenTo, a_kept, a_keptBytes, a_rcv, a_unread, a_unreadFrom, a_cameBytes, a_held, a_heldFin, a_wnd, a_wndSeq, a_wndAck, a_peak, a_half, a_same, a_rto, a_tries, a_retryAt, a_ackAt, a_waitTill, a_timedAt, a_timedSeq, a_smoothed, a_variance, a_rowCount, a_slotSeq, a_slotFlags, a_slotAck, a_slotWindow, a_slotSize, a_slotBytes⟩ := u1
          refine br_t rfl (hP _ ?_)
          have : gp_acked G p.toNatClampNeg k (gp_o G p.toNatClampNeg k) (gp_a G p.toNatClampNeg k) = gp_ack (gp_est G p.toNatClampNeg) p.toNatClampNeg := by unfold gp_acked; rw [if_neg z, if_pos z2]
          rw [this]; exact hv1
        · have : gp_acked G p.toNatClampNeg k (gp_o G p.toNatClampNeg k) (gp_a G p.toNatClampNeg k) = gp_go (gp_est G p.toNatClampNeg) p.toNatClampNeg k (gp_o G p.toNatClampNeg k) (gp_a G p.toNatClampNeg k) := by unfold gp_acked; rw [if_neg z, if_neg z2]
          rw [this] at hP
          have key := kgo hok z z2 hP u1 hv1
          obtain ⟨f_now, f_sent, a_stateOf, a_error, a_iss, a_una, a_nxt, a_max, a_writtenTo, a_kept, a_keptBytes, a_rcv, a_unread, a_unreadFrom, a_cameBytes, a_held, a_heldFin, a_wnd, a_wndSeq, a_wndAck, a_peak, a_half, a_same, a_rto, a_tries, a_retryAt, a_ackAt, a_waitTill, a_timedAt, a_timedSeq, a_smoothed, a_variance, a_rowCount, a_slotSeq, a_slotFlags, a_slotAck, a_slotWindow, a_slotSize, a_slotBytes⟩ := u1
          rw [hxk] at key
          exact br_f (by decide) key
      · rw [if_neg w2] at hP
        exact br_t (by rw [zk_0, zi_eq (by omega) (by omega) (by omega) (by omega)]; omega) (hP _ hv)
  unfold wpX_arriveConnected
  rw [hxk]
  refine ⟨hin, nm_r (h_slotFlags k hk) ⟨hin, ?_⟩⟩
  rw [h_slotSize k hk]
  refine xl_lengthOf (by omega) (by omega) ⟨hin, hp, xl_offset (h_slotSeq k hk) (h_rcv _ he) ?_⟩
  refine xl_isAcceptable (o := gp_o G p.toNatClampNeg k) (len := gp_slen G k) hp (h_unread _ he) hur.1 hur.2 rfl rfl ro'.1 ro'.2 hlen.1 (by omega) (fun hok => ?_) (fun hok => ?_)
  · refine br_f (by decide) ?_
    rw [zf_8 (by omega) (by omega)]
    by_cases w : gm_L G 1 k / 8 % 2 = 1
    · refine br_f (by rw [zk_0, zi_eq (by omega) (by omega) (by omega) (by omega)]; omega) ?_
      by_cases w2 : gp_o G p.toNatClampNeg k = 0
      · have hcn : gp_conn G p.toNatClampNeg k = gp_reset G p.toNatClampNeg := by unfold gp_conn; rw [if_pos hok, if_pos w, if_pos w2]
        rw [hcn] at hP
        exact br_t (by show zi_n (gp_o G p.toNatClampNeg k) = 0; rw [w2]; rfl) (xl_reset hv hI hp (by omega) hP)
      · exact br_f (by show ¬ zi_n (gp_o G p.toNatClampNeg k) = 0; rw [zk_0, zi_eq (by omega) (by omega) (by omega) (by omega)]; exact w2) (k73 hok (fun z => w2 z.2))
    · exact br_t (by rw [zk_0, zi_eq (by omega) (by omega) (by omega) (by omega)]; omega) (k73 hok (fun z => w z.1))
  · have hcn : gp_conn G p.toNatClampNeg k = gp_out G p.toNatClampNeg k := if_neg hok
    rw [hcn] at hP
    exact br_t rfl (xl_answerOutside hv hI hp hk rfl h3 hP)
