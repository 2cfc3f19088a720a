/-! the class: the calls -/
theorem xl_isEnd {P : Int32 → Prop} {x : Int32} (ht : vp_in x 2 → P 1) (hf : ¬ vp_in x 2 → P 0) : wpX_isEnd P x := by
  obtain ⟨z, z0, z1, rfl⟩ := zi_of x
  have iff : vp_in (zi_n z) 2 ↔ (z = 0 ∨ z = 1) := by rw [vp_in_iff, zi_T z0 z1]; omega
  unfold wpX_isEnd
  by_cases w : z = 0
  · exact br_t (by rw [w]; rfl) (ht (iff.mpr (Or.inl w)))
  · refine br_f (by rw [zk_0, zi_eq z0 z1 (by omega) (by omega)]; exact w) ?_
    by_cases w2 : z = 1
    · exact br_t (by rw [w2]; rfl) (ht (iff.mpr (Or.inr w2)))
    · exact br_f (by rw [zk_1, zi_eq z0 z1 (by omega) (by omega)]; exact w2) (hf (fun h => by have := iff.mp h; omega))
theorem xl_isNumber {P : Int32 → Prop} {x : Int32} {z : Int} (hx : x = zi_n z) (z0 : -2147483648 ≤ z) (z1 : z < 2147483648) (ht : 0 ≤ z ∧ z ≤ 65535 → P 1) (hf : ¬ (0 ≤ z ∧ z ≤ 65535) → P 0) : wpX_isNumber P x := by
  subst hx
  unfold wpX_isNumber
  by_cases w : z < 0
  · exact br_t (by rw [zk_0, zi_lt z0 z1 (by omega) (by omega)]; exact w) (hf (by omega))
  · refine br_f (by rw [zk_0, zi_lt z0 z1 (by omega) (by omega)]; exact w) ?_
    by_cases w2 : 65535 < z
    · exact br_t (by rw [zk_65535, zi_lt (by omega) (by omega) z0 z1]; exact w2) (hf (by omega))
    · exact br_f (by rw [zk_65535, zi_lt (by omega) (by omega) z0 z1]; exact w2) (ht (by omega))
theorem xl_open {q K : Int} {G : gm_T} {u : SX} {P : Int32 → SX → Prop} {x y z : Int32} {iss : Int} (hv : vx_S q G u) (hI : gv_I K G) (hz : z = zi_n iss) (h0 : -2147483648 ≤ iss) (h1 : iss < 2147483648) (hA : ¬ (vp_in x 2 ∧ (0 ≤ iss ∧ iss ≤ 65535) ∧ G.1 0 x.toNatClampNeg = 0) → P (-1) u) (hB : vp_in x 2 → (0 ≤ iss ∧ iss ≤ 65535) → G.1 0 x.toNatClampNeg = 0 → ∀ u', vx_S q (gp_open G x.toNatClampNeg (decide (¬ y = 0)) iss) u' → P (if y = 0 then 1 else 2) u') : wpX_open P u x y z := by
  obtain ⟨f_now, f_sent, a_stateOf, a_error, a_iss, a_una, a_nxt, a_max, a_writtenTo, a_kept, a_keptBytes, a_rcv, a_unread, a_unreadFrom, a_cameBytes, a_held, a_heldFin, a_wnd, a_wndSeq, a_wndAck, a_peak, a_half, a_same, a_rto, a_tries, a_retryAt, a_ackAt, a_waitTill, a_timedAt, a_timedSeq, a_smoothed, a_variance, a_rowCount, a_slotSeq, a_slotFlags, a_slotAck, a_slotWindow, a_slotSize, a_slotBytes⟩ := u
  have hv0 := hv
  obtain ⟨h_now, h_sent, h_stateOf, h_error, h_iss, h_una, h_nxt, h_max, h_writtenTo, h_kept, h_keptBytes, h_rcv, h_unread, h_unreadFrom, h_cameBytes, h_held, h_heldFin, h_wnd, h_wndSeq, h_wndAck, h_peak, h_half, h_same, h_rto, h_tries, h_retryAt, h_ackAt, h_waitTill, h_timedAt, h_timedSeq, h_smoothed, h_variance, h_rowCount, h_slotSeq, h_slotFlags, h_slotAck, h_slotWindow, h_slotSize, h_slotBytes⟩ := hv0
  unfold wpX_open
  refine xl_isEnd (fun hp => ?_) (fun hp => br_t rfl (hA (fun w => hp w.1)))
  refine br_f (by decide) (xl_isNumber hz h0 h1 (fun hi => ?_) (fun hi => br_t rfl (hA (fun w => hi w.2.1))))
  have he := pe_lt hp
  obtain ⟨b1, b2, b3, b4, b5, b6⟩ := hI.2.2.2.2.1 _ he
  unfold gv_a at b1
  refine br_f (by decide) ⟨hp, ?_⟩
  by_cases w : G.1 0 x.toNatClampNeg = 0
  · refine br_t (by rw [h_stateOf _ he, w]; rfl) (xl_begin hv hp hz hi.1 hi.2 fun u1 hv1 => ?_)
    have hBB := hB hp hi w
    have hIl := iv_listen hI he hi.1 hi.2
    have hok := sk_syn hIl he (Or.inl rfl)
    have hIS : (gp_begin G x.toNatClampNeg iss).1 2 x.toNatClampNeg = iss := by simp +decide only [gp_begin, ↓reduceIte]
    unfold gp_open at hBB
    generalize gp_begin G x.toNatClampNeg iss = G1 at *
    obtain ⟨f_now, f_sent, a_stateOf, a_error, a_iss, a_una, a_nxt, a_max, a_writtenTo, a_kept, a_keptBytes, a_rcv, a_unread, a_unreadFrom, a_cameBytes, a_held, a_heldFin, a_wnd, a_wndSeq, a_wndAck, a_peak, a_half, a_same, a_rto, a_tries, a_retryAt, a_ackAt, a_waitTill, a_timedAt, a_timedSeq, a_smoothed, a_variance, a_rowCount, a_slotSeq, a_slotFlags, a_slotAck, a_slotWindow, a_slotSize, a_slotBytes⟩ := u1
    by_cases w2 : y = 0
    · refine br_t w2 ⟨hp, nm_e ⟨hp, ?_⟩⟩
      rw [zu_s]
      have e1 : decide (¬ y = 0) = false := by rw [w2]; rfl
      rw [e1, if_neg (by decide), if_pos w2] at hBB
      exact hBB _ (vx_put hv1 rfl)
    · have e1 : decide (¬ y = 0) = true := decide_eq_true w2
      rw [e1, if_pos rfl, if_neg w2] at hBB
      refine br_f w2 ⟨hp, nm_e (xl_send (G := gp_put G1 0 x.toNatClampNeg 2) (fr := 0) (vx_put hv1 rfl) hp ?_ zk_1 zk_0 hok fun u2 hv2 => ?_)⟩
      · rw [pu_f (by decide), hIS, hz]; congr 1; omega
      · have hst : (gp_send (gp_put G1 0 x.toNatClampNeg 2) x.toNatClampNeg 0 1 0).1 0 x.toNatClampNeg = 2 := by rw [sd_f (by decide) (by decide) (by decide) (by decide) (by decide) (by decide), pu_s]
        have hIS2 : (gp_send (gp_put G1 0 x.toNatClampNeg 2) x.toNatClampNeg 0 1 0).1 2 x.toNatClampNeg = iss := by rw [sd_f (by decide) (by decide) (by decide) (by decide) (by decide) (by decide), pu_f (by decide), hIS]
        obtain ⟨f_now, f_sent, a_stateOf, a_error, a_iss, a_una, a_nxt, a_max, a_writtenTo, a_kept, a_keptBytes, a_rcv, a_unread, a_unreadFrom, a_cameBytes, a_held, a_heldFin, a_wnd, a_wndSeq, a_wndAck, a_peak, a_half, a_same, a_rto, a_tries, a_retryAt, a_ackAt, a_waitTill, a_timedAt, a_timedSeq, a_smoothed, a_variance, a_rowCount, a_slotSeq, a_slotFlags, a_slotAck, a_slotWindow, a_slotSize, a_slotBytes⟩ := u2
        have hv3 := hv2
        clear h_stateOf
        obtain ⟨h_now, h_sent, h_stateOf, h_error, h_iss, h_una, h_nxt, h_max, h_writtenTo, h_kept, h_keptBytes, h_rcv, h_unread, h_unreadFrom, h_cameBytes, h_held, h_heldFin, h_wnd, h_wndSeq, h_wndAck, h_peak, h_half, h_same, h_rto, h_tries, h_retryAt, h_ackAt, h_waitTill, h_timedAt, h_timedSeq, h_smoothed, h_variance, h_rowCount, h_slotSeq, h_slotFlags, h_slotAck, h_slotWindow, h_slotSize, h_slotBytes⟩ := hv3
        refine xl_behind hz zk_1 ⟨hp, nm_e ⟨hp, ?_⟩⟩
        rw [h_stateOf _ he, hst]
        exact hBB _ (vx_step (G := G1) hv2 (by rw [hIS2]))
  · exact br_f (by rw [h_stateOf _ he, zk_0, zi_eq (by omega) (by omega) (by omega) (by omega)]; exact w) (hA (fun z => w z.2.2))
theorem xl_close {q K : Int} {G : gm_T} {u : SX} {P : Int32 → SX → Prop} {x : Int32} (hv : vx_S q G u) (hI : gv_I K G) (hA : ¬ (vp_in x 2 ∧ (G.1 0 x.toNatClampNeg = 1 ∨ G.1 0 x.toNatClampNeg = 2 ∨ G.1 0 x.toNatClampNeg = 4 ∨ G.1 0 x.toNatClampNeg = 7)) → P (-1) u) (hB : vp_in x 2 → (G.1 0 x.toNatClampNeg = 1 ∨ G.1 0 x.toNatClampNeg = 2 ∨ G.1 0 x.toNatClampNeg = 4 ∨ G.1 0 x.toNatClampNeg = 7) → ∀ u', vx_S q (gp_close G x.toNatClampNeg) u' → P (zi_n ((gp_close G x.toNatClampNeg).1 0 x.toNatClampNeg)) u') : wpX_close P u x := by
  obtain ⟨f_now, f_sent, a_stateOf, a_error, a_iss, a_una, a_nxt, a_max, a_writtenTo, a_kept, a_keptBytes, a_rcv, a_unread, a_unreadFrom, a_cameBytes, a_held, a_heldFin, a_wnd, a_wndSeq, a_wndAck, a_peak, a_half, a_same, a_rto, a_tries, a_retryAt, a_ackAt, a_waitTill, a_timedAt, a_timedSeq, a_smoothed, a_variance, a_rowCount, a_slotSeq, a_slotFlags, a_slotAck, a_slotWindow, a_slotSize, a_slotBytes⟩ := u
  have hv0 := hv
  obtain ⟨h_now, h_sent, h_stateOf, h_error, h_iss, h_una, h_nxt, h_max, h_writtenTo, h_kept, h_keptBytes, h_rcv, h_unread, h_unreadFrom, h_cameBytes, h_held, h_heldFin, h_wnd, h_wndSeq, h_wndAck, h_peak, h_half, h_same, h_rto, h_tries, h_retryAt, h_ackAt, h_waitTill, h_timedAt, h_timedSeq, h_smoothed, h_variance, h_rowCount, h_slotSeq, h_slotFlags, h_slotAck, h_slotWindow, h_slotSize, h_slotBytes⟩ := hv0
  unfold wpX_close
  refine xl_isEnd (fun hp => ?_) (fun hp => br_t rfl (hA (fun w => hp w.1)))
  have he := pe_lt hp
  obtain ⟨b1, b2, b3, b4, b5, b6⟩ := hI.2.2.2.2.1 _ he
  unfold gv_a at b1
  have hs := h_stateOf _ he
  have her : G.1 0 x.toNatClampNeg ≠ 0 → G.1 1 x.toNatClampNeg = 0 := b1.2.2.2.2.1
  refine br_f (by decide) ⟨hp, ?_⟩
  have k87 : ∀ (K' : Int) (G1 : gm_T) (u1 : SX), vx_S q G1 u1 → gv_I K' G1 → gp_flow G1 x.toNatClampNeg = gp_close G x.toNatClampNeg → (G.1 0 x.toNatClampNeg = 1 ∨ G.1 0 x.toNatClampNeg = 2 ∨ G.1 0 x.toNatClampNeg = 4 ∨ G.1 0 x.toNatClampNeg = 7) → (match u1 with | (f_now, f_sent, a_stateOf, a_error, a_iss, a_una, a_nxt, a_max, a_writtenTo, a_kept, a_keptBytes, a_rcv, a_unread, a_unreadFrom, a_cameBytes, a_held, a_heldFin, a_wnd, a_wndSeq, a_wndAck, a_peak, a_half, a_same, a_rto, a_tries, a_retryAt, a_ackAt, a_waitTill, a_timedAt, a_timedSeq, a_smoothed, a_variance, a_rowCount, a_slotSeq, a_slotFlags, a_slotAck, a_slotWindow, a_slotSize, a_slotBytes) => wX_close_87 P x f_now f_sent a_stateOf a_error a_iss a_una a_nxt a_max a_writtenTo a_kept a_keptBytes a_rcv a_unread a_unreadFrom a_cameBytes a_held a_heldFin a_wnd a_wndSeq a_wndAck a_peak a_half a_same a_rto a_tries a_retryAt a_ackAt a_waitTill a_timedAt a_timedSeq a_smoothed a_variance a_rowCount a_slotSeq a_slotFlags a_slotAck a_slotWindow a_slotSize a_slotBytes) := by
    intro K' G1 u1 hv1 hI1 hfl hst
    obtain ⟨f_now, f_sent, a_stateOf, a_error, a_iss, a_una, a_nxt, a_max, a_writtenTo, a_kept, a_keptBytes, a_rcv, a_unread, a_unreadFrom, a_cameBytes, a_held, a_heldFin, a_wnd, a_wndSeq, a_wndAck, a_peak, a_half, a_same, a_rto, a_tries, a_retryAt, a_ackAt, a_waitTill, a_timedAt, a_timedSeq, a_smoothed, a_variance, a_rowCount, a_slotSeq, a_slotFlags, a_slotAck, a_slotWindow, a_slotSize, a_slotBytes⟩ := u1
    show wX_close_87 P x f_now f_sent a_stateOf a_error a_iss a_una a_nxt a_max a_writtenTo a_kept a_keptBytes a_rcv a_unread a_unreadFrom a_cameBytes a_held a_heldFin a_wnd a_wndSeq a_wndAck a_peak a_half a_same a_rto a_tries a_retryAt a_ackAt a_waitTill a_timedAt a_timedSeq a_smoothed a_variance a_rowCount a_slotSeq a_slotFlags a_slotAck a_slotWindow a_slotSize a_slotBytes
    unfold wX_close_87
    refine xl_flow hv1 hI1 hp fun u2 hv2 => ?_
    rw [hfl] at hv2
    have hb := hB hp hst u2 hv2
    obtain ⟨f_now, f_sent, a_stateOf, a_error, a_iss, a_una, a_nxt, a_max, a_writtenTo, a_kept, a_keptBytes, a_rcv, a_unread, a_unreadFrom, a_cameBytes, a_held, a_heldFin, a_wnd, a_wndSeq, a_wndAck, a_peak, a_half, a_same, a_rto, a_tries, a_retryAt, a_ackAt, a_waitTill, a_timedAt, a_timedSeq, a_smoothed, a_variance, a_rowCount, a_slotSeq, a_slotFlags, a_slotAck, a_slotWindow, a_slotSize, a_slotBytes⟩ := u2
    clear h_stateOf
    obtain ⟨h_now, h_sent, h_stateOf, h_error, h_iss, h_una, h_nxt, h_max, h_writtenTo, h_kept, h_keptBytes, h_rcv, h_unread, h_unreadFrom, h_cameBytes, h_held, h_heldFin, h_wnd, h_wndSeq, h_wndAck, h_peak, h_half, h_same, h_rto, h_tries, h_retryAt, h_ackAt, h_waitTill, h_timedAt, h_timedSeq, h_smoothed, h_variance, h_rowCount, h_slotSeq, h_slotFlags, h_slotAck, h_slotWindow, h_slotSize, h_slotBytes⟩ := hv2
    refine ⟨hp, ?_⟩
    rw [h_stateOf _ he]
    exact hb
  have k56 : (G.1 0 x.toNatClampNeg = 1 ∨ G.1 0 x.toNatClampNeg = 2) → wX_close_56 P x f_now f_sent a_stateOf a_error a_iss a_una a_nxt a_max a_writtenTo a_kept a_keptBytes a_rcv a_unread a_unreadFrom a_cameBytes a_held a_heldFin a_wnd a_wndSeq a_wndAck a_peak a_half a_same a_rto a_tries a_retryAt a_ackAt a_waitTill a_timedAt a_timedSeq a_smoothed a_variance a_rowCount a_slotSeq a_slotFlags a_slotAck a_slotWindow a_slotSize a_slotBytes := by
    intro h12
    unfold wX_close_56
    refine xl_endAll hv hp fun u1 hv1 => ?_
    rw [her (by omega)] at hv1
    have hI1 := iv_over (code := 0) hI he (by decide) (by decide)
    have hc : gp_close G x.toNatClampNeg = gp_over G x.toNatClampNeg 0 := if_pos h12
    have hf : gp_flow (gp_over G x.toNatClampNeg 0) x.toNatClampNeg = gp_over G x.toNatClampNeg 0 := by
      have : (gp_over G x.toNatClampNeg 0).1 0 x.toNatClampNeg = 0 := by simp +decide only [gp_over, gs_s, gs_f]
      unfold gp_flow
      rw [this]
      exact if_neg (by omega)
    exact k87 K _ u1 hv1 hI1 (by rw [hf, hc]) (by omega)
  have no : ∀ s : Int, G.1 0 x.toNatClampNeg = s → ¬ (s = 1 ∨ s = 2 ∨ s = 4 ∨ s = 7) → P (-1) (f_now, f_sent, a_stateOf, a_error, a_iss, a_una, a_nxt, a_max, a_writtenTo, a_kept, a_keptBytes, a_rcv, a_unread, a_unreadFrom, a_cameBytes, a_held, a_heldFin, a_wnd, a_wndSeq, a_wndAck, a_peak, a_half, a_same, a_rto, a_tries, a_retryAt, a_ackAt, a_waitTill, a_timedAt, a_timedSeq, a_smoothed, a_variance, a_rowCount, a_slotSeq, a_slotFlags, a_slotAck, a_slotWindow, a_slotSize, a_slotBytes) := fun s h1 h2 => hA (fun z => h2 (h1 ▸ z.2))
  have hcase : G.1 0 x.toNatClampNeg = 0 ∨ G.1 0 x.toNatClampNeg = 1 ∨ G.1 0 x.toNatClampNeg = 2 ∨ G.1 0 x.toNatClampNeg = 3 ∨ G.1 0 x.toNatClampNeg = 4 ∨ G.1 0 x.toNatClampNeg = 5 ∨ G.1 0 x.toNatClampNeg = 6 ∨ G.1 0 x.toNatClampNeg = 7 ∨ 8 ≤ G.1 0 x.toNatClampNeg := by omega
  rcases hcase with w | w | w | w | w | w | w | w | w
  · rw [w] at hs; exact nm_r hs (br_t (by decide) (no 0 w (by omega)))
  · rw [w] at hs; exact nm_r hs (br_f (by decide) (br_f (by decide) (br_t (by decide) (k56 (Or.inl w)))))
  · rw [w] at hs; exact nm_r hs (br_f (by decide) (br_f (by decide) (br_f (by decide) (br_t (by decide) (k56 (Or.inr w))))))
  · rw [w] at hs; exact nm_r hs (br_f (by decide) (br_f (by decide) (br_f (by decide) (br_f (by decide) (br_t (by decide) (no 3 w (by omega)))))))
  · rw [w] at hs
    refine nm_r hs (br_f (by decide) (br_f (by decide) (br_f (by decide) (br_f (by decide) (br_f (by decide) (br_t (by decide) ⟨hp, nm_e ?_⟩))))))
    have hc : gp_close G x.toNatClampNeg = gp_flow (gs_c (gs_c G.1 0 x.toNatClampNeg 5) 29 x.toNatClampNeg 1, G.2) x.toNatClampNeg := by unfold gp_close; rw [if_neg (by omega), if_pos w]
    refine k87 K (gs_c (gs_c G.1 0 x.toNatClampNeg 5) 29 x.toNatClampNeg 1, G.2) (f_now, f_sent, upd a_stateOf x.toNatClampNeg 5, a_error, a_iss, a_una, a_nxt, a_max, a_writtenTo, a_kept, a_keptBytes, a_rcv, a_unread, a_unreadFrom, a_cameBytes, a_held, a_heldFin, a_wnd, a_wndSeq, a_wndAck, a_peak, a_half, a_same, a_rto, a_tries, a_retryAt, a_ackAt, a_waitTill, a_timedAt, a_timedSeq, a_smoothed, a_variance, a_rowCount, a_slotSeq, a_slotFlags, a_slotAck, a_slotWindow, a_slotSize, a_slotBytes) ?_ (iv_cls hI he (Or.inl ⟨w, rfl⟩)) hc.symm (by omega)
    refine (vx_mk h_now h_sent (vu_e h_stateOf ?a1 (fun e' y => ?a2)) h_error h_iss h_una h_nxt h_max h_writtenTo h_kept h_keptBytes h_rcv h_unread h_unreadFrom h_cameBytes h_held h_heldFin h_wnd h_wndSeq h_wndAck h_peak h_half h_same h_rto h_tries h_retryAt h_ackAt h_waitTill h_timedAt h_timedSeq h_smoothed h_variance h_rowCount h_slotSeq h_slotFlags h_slotAck h_slotWindow h_slotSize h_slotBytes)
    case a1 => simp +decide only [gs_s, gs_f] <;> rfl
    case a2 => simp only [gs_e y]
  · rw [w] at hs; exact nm_r hs (br_f (by decide) (br_f (by decide) (br_f (by decide) (br_f (by decide) (br_f (by decide) (br_f (by decide) (br_t (by decide) (no 5 w (by omega)))))))))
  · rw [w] at hs; exact nm_r hs (br_f (by decide) (br_f (by decide) (br_f (by decide) (br_f (by decide) (br_f (by decide) (br_f (by decide) (br_f (by decide) (br_t (by decide) (no 6 w (by omega))))))))))
  · rw [w] at hs
    refine nm_r hs (br_f (by decide) (br_f (by decide) (br_f (by decide) (br_f (by decide) (br_f (by decide) (br_f (by decide) (br_f (by decide) (br_f (by decide) (br_t (by decide) ⟨hp, nm_e ?_⟩)))))))))
    have hc : gp_close G x.toNatClampNeg = gp_flow (gs_c (gs_c G.1 0 x.toNatClampNeg 9) 29 x.toNatClampNeg 1, G.2) x.toNatClampNeg := by unfold gp_close; rw [if_neg (by omega), if_neg (by omega), if_pos w]
    refine k87 K (gs_c (gs_c G.1 0 x.toNatClampNeg 9) 29 x.toNatClampNeg 1, G.2) (f_now, f_sent, upd a_stateOf x.toNatClampNeg 9, a_error, a_iss, a_una, a_nxt, a_max, a_writtenTo, a_kept, a_keptBytes, a_rcv, a_unread, a_unreadFrom, a_cameBytes, a_held, a_heldFin, a_wnd, a_wndSeq, a_wndAck, a_peak, a_half, a_same, a_rto, a_tries, a_retryAt, a_ackAt, a_waitTill, a_timedAt, a_timedSeq, a_smoothed, a_variance, a_rowCount, a_slotSeq, a_slotFlags, a_slotAck, a_slotWindow, a_slotSize, a_slotBytes) ?_ (iv_cls hI he (Or.inr ⟨w, rfl⟩)) hc.symm (by omega)
    refine (vx_mk h_now h_sent (vu_e h_stateOf ?a1 (fun e' y => ?a2)) h_error h_iss h_una h_nxt h_max h_writtenTo h_kept h_keptBytes h_rcv h_unread h_unreadFrom h_cameBytes h_held h_heldFin h_wnd h_wndSeq h_wndAck h_peak h_half h_same h_rto h_tries h_retryAt h_ackAt h_waitTill h_timedAt h_timedSeq h_smoothed h_variance h_rowCount h_slotSeq h_slotFlags h_slotAck h_slotWindow h_slotSize h_slotBytes)
    case a1 => simp +decide only [gs_s, gs_f] <;> rfl
    case a2 => simp only [gs_e y]
  · refine nm_r hs (br_f (by rw [zk_1, zi_lt (by omega) (by omega) (by omega) (by omega)]; omega) (br_t (by rw [zk_7, zi_lt (by omega) (by omega) (by omega) (by omega)]; omega) (no _ rfl (by omega))))
theorem xl_abort {q K : Int} {G : gm_T} {u : SX} {P : Int32 → SX → Prop} {x : Int32} (hv : vx_S q G u) (hI : gv_I K G) (hA : ¬ (vp_in x 2 ∧ G.1 0 x.toNatClampNeg ≠ 0) → P (-1) u) (hB : vp_in x 2 → G.1 0 x.toNatClampNeg ≠ 0 → ∀ u', vx_S q (gp_abort G x.toNatClampNeg) u' → P (zi_n (G.1 0 x.toNatClampNeg)) u') : wpX_abort P u x := by
  obtain ⟨f_now, f_sent, a_stateOf, a_error, a_iss, a_una, a_nxt, a_max, a_writtenTo, a_kept, a_keptBytes, a_rcv, a_unread, a_unreadFrom, a_cameBytes, a_held, a_heldFin, a_wnd, a_wndSeq, a_wndAck, a_peak, a_half, a_same, a_rto, a_tries, a_retryAt, a_ackAt, a_waitTill, a_timedAt, a_timedSeq, a_smoothed, a_variance, a_rowCount, a_slotSeq, a_slotFlags, a_slotAck, a_slotWindow, a_slotSize, a_slotBytes⟩ := u
  have hv0 := hv
  obtain ⟨h_now, h_sent, h_stateOf, h_error, h_iss, h_una, h_nxt, h_max, h_writtenTo, h_kept, h_keptBytes, h_rcv, h_unread, h_unreadFrom, h_cameBytes, h_held, h_heldFin, h_wnd, h_wndSeq, h_wndAck, h_peak, h_half, h_same, h_rto, h_tries, h_retryAt, h_ackAt, h_waitTill, h_timedAt, h_timedSeq, h_smoothed, h_variance, h_rowCount, h_slotSeq, h_slotFlags, h_slotAck, h_slotWindow, h_slotSize, h_slotBytes⟩ := hv0
  unfold wpX_abort
  refine xl_isEnd (fun hp => ?_) (fun hp => br_t rfl (hA (fun w => hp w.1)))
  have he := pe_lt hp
  obtain ⟨b1, b2, b3, b4, b5, b6⟩ := hI.2.2.2.2.1 _ he
  unfold gv_a at b1
  refine br_f (by decide) ⟨hp, ?_⟩
  by_cases w : G.1 0 x.toNatClampNeg = 0
  · exact br_t (by rw [h_stateOf _ he, w]; rfl) (hA (fun z => z.2 w))
  · have hb := hB hp w
    have her : G.1 1 x.toNatClampNeg = 0 := b1.2.2.2.2.1 w
    refine br_f (by rw [h_stateOf _ he, zk_0, zi_eq (by omega) (by omega) (by omega) (by omega)]; exact w) ⟨hp, nm_r (h_stateOf _ he) ?_⟩
    have k50 : ∀ (G1 : gm_T) (u1 : SX), vx_S q G1 u1 → gp_over G1 x.toNatClampNeg (G1.1 1 x.toNatClampNeg) = gp_abort G x.toNatClampNeg → (match u1 with | (f_now, f_sent, a_stateOf, a_error, a_iss, a_una, a_nxt, a_max, a_writtenTo, a_kept, a_keptBytes, a_rcv, a_unread, a_unreadFrom, a_cameBytes, a_held, a_heldFin, a_wnd, a_wndSeq, a_wndAck, a_peak, a_half, a_same, a_rto, a_tries, a_retryAt, a_ackAt, a_waitTill, a_timedAt, a_timedSeq, a_smoothed, a_variance, a_rowCount, a_slotSeq, a_slotFlags, a_slotAck, a_slotWindow, a_slotSize, a_slotBytes) => wX_abort_50 P x (zi_n (G.1 0 x.toNatClampNeg)) f_now f_sent a_stateOf a_error a_iss a_una a_nxt a_max a_writtenTo a_kept a_keptBytes a_rcv a_unread a_unreadFrom a_cameBytes a_held a_heldFin a_wnd a_wndSeq a_wndAck a_peak a_half a_same a_rto a_tries a_retryAt a_ackAt a_waitTill a_timedAt a_timedSeq a_smoothed a_variance a_rowCount a_slotSeq a_slotFlags a_slotAck a_slotWindow a_slotSize a_slotBytes) := by
      intro G1 u1 hv1 hov
      obtain ⟨f_now, f_sent, a_stateOf, a_error, a_iss, a_una, a_nxt, a_max, a_writtenTo, a_kept, a_keptBytes, a_rcv, a_unread, a_unreadFrom, a_cameBytes, a_held, a_heldFin, a_wnd, a_wndSeq, a_wndAck, a_peak, a_half, a_same, a_rto, a_tries, a_retryAt, a_ackAt, a_waitTill, a_timedAt, a_timedSeq, a_smoothed, a_variance, a_rowCount, a_slotSeq, a_slotFlags, a_slotAck, a_slotWindow, a_slotSize, a_slotBytes⟩ := u1
      show wX_abort_50 P x _ f_now f_sent a_stateOf a_error a_iss a_una a_nxt a_max a_writtenTo a_kept a_keptBytes a_rcv a_unread a_unreadFrom a_cameBytes a_held a_heldFin a_wnd a_wndSeq a_wndAck a_peak a_half a_same a_rto a_tries a_retryAt a_ackAt a_waitTill a_timedAt a_timedSeq a_smoothed a_variance a_rowCount a_slotSeq a_slotFlags a_slotAck a_slotWindow a_slotSize a_slotBytes
      unfold wX_abort_50
      refine xl_endAll hv1 hp fun u2 hv2 => ?_
      rw [hov] at hv2
      exact hb u2 hv2
    by_cases w2 : G.1 0 x.toNatClampNeg < 3
    · refine br_t (by rw [zk_3, zi_lt (by omega) (by omega) (by omega) (by omega)]; exact w2) ?_
      refine k50 G (f_now, f_sent, a_stateOf, a_error, a_iss, a_una, a_nxt, a_max, a_writtenTo, a_kept, a_keptBytes, a_rcv, a_unread, a_unreadFrom, a_cameBytes, a_held, a_heldFin, a_wnd, a_wndSeq, a_wndAck, a_peak, a_half, a_same, a_rto, a_tries, a_retryAt, a_ackAt, a_waitTill, a_timedAt, a_timedSeq, a_smoothed, a_variance, a_rowCount, a_slotSeq, a_slotFlags, a_slotAck, a_slotWindow, a_slotSize, a_slotBytes) hv ?_
      unfold gp_abort; rw [if_neg (by omega), her]
    · refine br_f (by rw [zk_3, zi_lt (by omega) (by omega) (by omega) (by omega)]; exact w2) ?_
      by_cases w3 : 9 < G.1 0 x.toNatClampNeg
      · refine br_t (by rw [zk_9, zi_lt (by omega) (by omega) (by omega) (by omega)]; exact w3) ?_
        refine k50 G (f_now, f_sent, a_stateOf, a_error, a_iss, a_una, a_nxt, a_max, a_writtenTo, a_kept, a_keptBytes, a_rcv, a_unread, a_unreadFrom, a_cameBytes, a_held, a_heldFin, a_wnd, a_wndSeq, a_wndAck, a_peak, a_half, a_same, a_rto, a_tries, a_retryAt, a_ackAt, a_waitTill, a_timedAt, a_timedSeq, a_smoothed, a_variance, a_rowCount, a_slotSeq, a_slotFlags, a_slotAck, a_slotWindow, a_slotSize, a_slotBytes) hv ?_
        unfold gp_abort; rw [if_neg (by omega), her]
      · refine br_f (by rw [zk_9, zi_lt (by omega) (by omega) (by omega) (by omega)]; exact w3) ⟨hp, ?_⟩
        refine xl_sendReset hv hp (by omega) (by omega) (h_nxt _ he) zk_8 zk_0 fun u1 hv1 => ?_
        have := k50 _ u1 hv1 (by
          unfold gp_abort
          rw [if_pos (by omega), show (gp_rst G x.toNatClampNeg ((G.1 2 x.toNatClampNeg + G.1 4 x.toNatClampNeg) % 65536) 8 0).1 1 x.toNatClampNeg = G.1 1 x.toNatClampNeg from rfl, her])
        obtain ⟨f_now, f_sent, a_stateOf, a_error, a_iss, a_una, a_nxt, a_max, a_writtenTo, a_kept, a_keptBytes, a_rcv, a_unread, a_unreadFrom, a_cameBytes, a_held, a_heldFin, a_wnd, a_wndSeq, a_wndAck, a_peak, a_half, a_same, a_rto, a_tries, a_retryAt, a_ackAt, a_waitTill, a_timedAt, a_timedSeq, a_smoothed, a_variance, a_rowCount, a_slotSeq, a_slotFlags, a_slotAck, a_slotWindow, a_slotSize, a_slotBytes⟩ := u1
        exact this
