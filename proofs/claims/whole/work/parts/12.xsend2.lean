/-! the class: send -/
theorem zb_b (z : Int) : zi_b (zi_b z) = zi_b z := by rw [zi_b_e, zi_b_e]; omega
theorem vn_byte (z : Int) : vp_nar .byte (zi_n z) = zi_n (zi_b z) := by rw [vp_nar_byte, zi_byte]
theorem xs_238 {q : Int} {G : gm_T} {f_now : Int32} {f_sent : Int32} {a_stateOf : (Nat → Int32)} {a_error : (Nat → Int32)} {a_iss : (Nat → Int32)} {a_una : (Nat → Int32)} {a_nxt : (Nat → Int32)} {a_max : (Nat → Int32)} {a_writtenTo : (Nat → Int32)} {a_kept : (Nat → Int32)} {a_keptBytes : (Nat → Int32)} {a_rcv : (Nat → Int32)} {a_unread : (Nat → Int32)} {a_unreadFrom : (Nat → Int32)} {a_cameBytes : (Nat → Int32)} {a_held : (Nat → Int32)} {a_heldFin : (Nat → Int32)} {a_wnd : (Nat → Int32)} {a_wndSeq : (Nat → Int32)} {a_wndAck : (Nat → Int32)} {a_peak : (Nat → Int32)} {a_half : (Nat → Int32)} {a_same : (Nat → Int32)} {a_rto : (Nat → Int32)} {a_tries : (Nat → Int32)} {a_retryAt : (Nat → Int32)} {a_ackAt : (Nat → Int32)} {a_waitTill : (Nat → Int32)} {a_timedAt : (Nat → Int32)} {a_timedSeq : (Nat → Int32)} {a_smoothed : (Nat → Int32)} {a_variance : (Nat → Int32)} {a_rowCount : (Nat → Int32)} {a_slotSeq : (Nat → Int32)} {a_slotFlags : (Nat → Int32)} {a_slotAck : (Nat → Int32)} {a_slotWindow : (Nat → Int32)} {a_slotSize : (Nat → Int32)} {a_slotBytes : (Nat → Int32)} {p : Int32} {P : SX → Prop} {len : Int} (hv : vx_S q G (f_now, f_sent, a_stateOf, a_error, a_iss, a_una, a_nxt, a_max, a_writtenTo, a_kept, a_keptBytes, a_rcv, a_unread, a_unreadFrom, a_cameBytes, a_held, a_heldFin, a_wnd, a_wndSeq, a_wndAck, a_peak, a_half, a_same, a_rto, a_tries, a_retryAt, a_ackAt, a_waitTill, a_timedAt, a_timedSeq, a_smoothed, a_variance, a_rowCount, a_slotSeq, a_slotFlags, a_slotAck, a_slotWindow, a_slotSize, a_slotBytes)) (hp : vp_in p 2) (hl : len ≠ 0) (h0 : -1 ≤ G.1 21 p.toNatClampNeg) (h1 : G.1 21 p.toNatClampNeg < 2147483648) (hP : ∀ u', vx_S q (gt_4 G p.toNatClampNeg len) u' → P u') : wX_send_238 P p f_now f_sent a_stateOf a_error a_iss a_una a_nxt a_max a_writtenTo a_kept a_keptBytes a_rcv a_unread a_unreadFrom a_cameBytes a_held a_heldFin a_wnd a_wndSeq a_wndAck a_peak a_half a_same a_rto a_tries a_retryAt a_ackAt a_waitTill a_timedAt a_timedSeq a_smoothed a_variance a_rowCount a_slotSeq a_slotFlags a_slotAck a_slotWindow a_slotSize a_slotBytes := by
  obtain ⟨h_now, h_sent, h_stateOf, h_error, h_iss, h_una, h_nxt, h_max, h_writtenTo, h_kept, h_keptBytes, h_rcv, h_unread, h_unreadFrom, h_cameBytes, h_held, h_heldFin, h_wnd, h_wndSeq, h_wndAck, h_peak, h_half, h_same, h_rto, h_tries, h_retryAt, h_ackAt, h_waitTill, h_timedAt, h_timedSeq, h_smoothed, h_variance, h_rowCount, h_slotSeq, h_slotFlags, h_slotAck, h_slotWindow, h_slotSize, h_slotBytes⟩ := hv
  have he := pe_lt hp
  unfold wX_send_238
  refine xl_setRetry hp (h_retryAt _ he) h0 h1 ?_
  by_cases w : G.1 21 p.toNatClampNeg < 0
  · rw [if_pos w]
    refine hP _ (vx_mk h_now h_sent h_stateOf h_error h_iss h_una h_nxt h_max h_writtenTo h_kept h_keptBytes h_rcv h_unread h_unreadFrom h_cameBytes h_held h_heldFin h_wnd h_wndSeq h_wndAck h_peak h_half h_same h_rto h_tries (vu_e h_retryAt ?_ (fun e' q => gs_e q)) h_ackAt h_waitTill h_timedAt h_timedSeq h_smoothed h_variance h_rowCount h_slotSeq h_slotFlags h_slotAck h_slotWindow h_slotSize h_slotBytes)
    show _ = zi_n (gs_c _ _ _ _ _ _)
    rw [gs_s, if_pos ⟨hl, w⟩, h_now, h_rto _ he, zi_add]
  · rw [if_neg w]
    refine hP _ (vx_mk h_now h_sent h_stateOf h_error h_iss h_una h_nxt h_max h_writtenTo h_kept h_keptBytes h_rcv h_unread h_unreadFrom h_cameBytes h_held h_heldFin h_wnd h_wndSeq h_wndAck h_peak h_half h_same h_rto h_tries (vk_e h_retryAt (fun e' _ => ?_)) h_ackAt h_waitTill h_timedAt h_timedSeq h_smoothed h_variance h_rowCount h_slotSeq h_slotFlags h_slotAck h_slotWindow h_slotSize h_slotBytes)
    show gs_c _ _ _ _ _ _ = _
    rw [gs_id (if_neg (fun z => w z.2))]
theorem xs_208 {q : Int} {G : gm_T} {f_now : Int32} {f_sent : Int32} {a_stateOf : (Nat → Int32)} {a_error : (Nat → Int32)} {a_iss : (Nat → Int32)} {a_una : (Nat → Int32)} {a_nxt : (Nat → Int32)} {a_max : (Nat → Int32)} {a_writtenTo : (Nat → Int32)} {a_kept : (Nat → Int32)} {a_keptBytes : (Nat → Int32)} {a_rcv : (Nat → Int32)} {a_unread : (Nat → Int32)} {a_unreadFrom : (Nat → Int32)} {a_cameBytes : (Nat → Int32)} {a_held : (Nat → Int32)} {a_heldFin : (Nat → Int32)} {a_wnd : (Nat → Int32)} {a_wndSeq : (Nat → Int32)} {a_wndAck : (Nat → Int32)} {a_peak : (Nat → Int32)} {a_half : (Nat → Int32)} {a_same : (Nat → Int32)} {a_rto : (Nat → Int32)} {a_tries : (Nat → Int32)} {a_retryAt : (Nat → Int32)} {a_ackAt : (Nat → Int32)} {a_waitTill : (Nat → Int32)} {a_timedAt : (Nat → Int32)} {a_timedSeq : (Nat → Int32)} {a_smoothed : (Nat → Int32)} {a_variance : (Nat → Int32)} {a_rowCount : (Nat → Int32)} {a_slotSeq : (Nat → Int32)} {a_slotFlags : (Nat → Int32)} {a_slotAck : (Nat → Int32)} {a_slotWindow : (Nat → Int32)} {a_slotSize : (Nat → Int32)} {a_slotBytes : (Nat → Int32)} {p x2 x7 : Int32} {P : SX → Prop} {fr len : Int} (hv : vx_S q G (f_now, f_sent, a_stateOf, a_error, a_iss, a_una, a_nxt, a_max, a_writtenTo, a_kept, a_keptBytes, a_rcv, a_unread, a_unreadFrom, a_cameBytes, a_held, a_heldFin, a_wnd, a_wndSeq, a_wndAck, a_peak, a_half, a_same, a_rto, a_tries, a_retryAt, a_ackAt, a_waitTill, a_timedAt, a_timedSeq, a_smoothed, a_variance, a_rowCount, a_slotSeq, a_slotFlags, a_slotAck, a_slotWindow, a_slotSize, a_slotBytes)) (hp : vp_in p 2) (hx2 : x2 = zi_n ((G.1 2 p.toNatClampNeg + fr) % 65536)) (hx7 : x7 = zi_n len) (hl : len ≠ 0) (hl0 : 0 ≤ len) (hl1 : len ≤ 10) (hm0 : -100 ≤ fr - G.1 5 p.toNatClampNeg) (hm1 : fr - G.1 5 p.toNatClampNeg ≤ 100) (h0 : -1 ≤ G.1 21 p.toNatClampNeg) (h1 : G.1 21 p.toNatClampNeg < 2147483648) (hP : ∀ u', vx_S q (gt_4 (gt_3 G p.toNatClampNeg fr len) p.toNatClampNeg len) u' → P u') : wX_send_208 P p x2 x7 f_now f_sent a_stateOf a_error a_iss a_una a_nxt a_max a_writtenTo a_kept a_keptBytes a_rcv a_unread a_unreadFrom a_cameBytes a_held a_heldFin a_wnd a_wndSeq a_wndAck a_peak a_half a_same a_rto a_tries a_retryAt a_ackAt a_waitTill a_timedAt a_timedSeq a_smoothed a_variance a_rowCount a_slotSeq a_slotFlags a_slotAck a_slotWindow a_slotSize a_slotBytes := by
  have hv0 := hv
  obtain ⟨h_now, h_sent, h_stateOf, h_error, h_iss, h_una, h_nxt, h_max, h_writtenTo, h_kept, h_keptBytes, h_rcv, h_unread, h_unreadFrom, h_cameBytes, h_held, h_heldFin, h_wnd, h_wndSeq, h_wndAck, h_peak, h_half, h_same, h_rto, h_tries, h_retryAt, h_ackAt, h_waitTill, h_timedAt, h_timedSeq, h_smoothed, h_variance, h_rowCount, h_slotSeq, h_slotFlags, h_slotAck, h_slotWindow, h_slotSize, h_slotBytes⟩ := hv
  have he := pe_lt hp
  unfold wX_send_208
  refine xl_behind hx2 hx7 ⟨hp, xl_off (i := G.1 2 p.toNatClampNeg) (a := fr + len) (b := G.1 5 p.toNatClampNeg) ?_ (h_max _ he) (by omega) (by omega) ?_⟩
  · congr 1; omega
  · by_cases w : G.1 5 p.toNatClampNeg < fr + len
    · refine br_f (by rw [zk_0, zi_le (by omega) (by omega) (by omega) (by omega)]; omega) ⟨hp, nm_e ?_⟩
      refine xs_238 (G := gt_3 G p.toNatClampNeg fr len) ?_ hp hl h0 h1 hP
      refine (vx_mk h_now h_sent h_stateOf h_error h_iss h_una h_nxt (vu_e h_max ?_ (fun e' q => ?_)) h_writtenTo h_kept h_keptBytes h_rcv h_unread h_unreadFrom h_cameBytes h_held h_heldFin h_wnd h_wndSeq h_wndAck h_peak h_half h_same h_rto h_tries h_retryAt h_ackAt h_waitTill h_timedAt h_timedSeq h_smoothed h_variance h_rowCount h_slotSeq h_slotFlags h_slotAck h_slotWindow h_slotSize h_slotBytes)
      · show _ = zi_n ((G.1 2 p.toNatClampNeg + gs_c _ _ _ _ _ _) % 65536)
        rw [gs_s, if_pos ⟨hl, w⟩]; congr 1; omega
      · show (G.1 2 e' + gs_c _ _ _ _ _ _) % 65536 = _
        rw [gs_e q]
    · refine br_t (by rw [zk_0, zi_le (by omega) (by omega) (by omega) (by omega)]; omega) ?_
      refine xs_238 (G := gt_3 G p.toNatClampNeg fr len) ?_ hp hl h0 h1 hP
      have : gt_3 G p.toNatClampNeg fr len = G := by
        unfold gt_3
        rw [gs_id (if_neg (fun z => w z.2))]
      rw [this]; exact hv0
/-- behind the bytes -/
theorem xs_exit {q : Int} {G : gm_T} {f_now : Int32} {f_sent : Int32} {a_stateOf : (Nat → Int32)} {a_error : (Nat → Int32)} {a_iss : (Nat → Int32)} {a_una : (Nat → Int32)} {a_nxt : (Nat → Int32)} {a_max : (Nat → Int32)} {a_writtenTo : (Nat → Int32)} {a_kept : (Nat → Int32)} {a_keptBytes : (Nat → Int32)} {a_rcv : (Nat → Int32)} {a_unread : (Nat → Int32)} {a_unreadFrom : (Nat → Int32)} {a_cameBytes : (Nat → Int32)} {a_held : (Nat → Int32)} {a_heldFin : (Nat → Int32)} {a_wnd : (Nat → Int32)} {a_wndSeq : (Nat → Int32)} {a_wndAck : (Nat → Int32)} {a_peak : (Nat → Int32)} {a_half : (Nat → Int32)} {a_same : (Nat → Int32)} {a_rto : (Nat → Int32)} {a_tries : (Nat → Int32)} {a_retryAt : (Nat → Int32)} {a_ackAt : (Nat → Int32)} {a_waitTill : (Nat → Int32)} {a_timedAt : (Nat → Int32)} {a_timedSeq : (Nat → Int32)} {a_smoothed : (Nat → Int32)} {a_variance : (Nat → Int32)} {a_rowCount : (Nat → Int32)} {a_slotSeq : (Nat → Int32)} {a_slotFlags : (Nat → Int32)} {a_slotAck : (Nat → Int32)} {a_slotWindow : (Nat → Int32)} {a_slotSize : (Nat → Int32)} {a_slotBytes : (Nat → Int32)} {p x2 x3 x4 x6 : Int32} {P : SX → Prop} {fr fl n : Int} {m : Nat} (hv : vx_S (q - 1) G (f_now, f_sent, a_stateOf, a_error, a_iss, a_una, a_nxt, a_max, a_writtenTo, a_kept, a_keptBytes, a_rcv, a_unread, a_unreadFrom, a_cameBytes, a_held, a_heldFin, a_wnd, a_wndSeq, a_wndAck, a_peak, a_half, a_same, a_rto, a_tries, a_retryAt, a_ackAt, a_waitTill, a_timedAt, a_timedSeq, a_smoothed, a_variance, a_rowCount, a_slotSeq, a_slotFlags, a_slotAck, a_slotWindow, a_slotSize, a_slotBytes)) (hp : vp_in p 2) (hx2 : x2 = zi_n ((G.1 2 p.toNatClampNeg + fr) % 65536)) (hx3 : x3 = zi_n fl) (hx4 : x4 = zi_n n) (hf : fl = 0 ∨ fl = 1 ∨ fl = 4) (hn0 : 0 ≤ n) (hn8 : n ≤ 8) (hm0 : -100 ≤ fr - G.1 5 p.toNatClampNeg) (hm1 : fr - G.1 5 p.toNatClampNeg ≤ 100) (hM : 0 ≤ G.1 5 p.toNatClampNeg) (ht0 : -1 ≤ G.1 24 p.toNatClampNeg) (ht1 : 0 ≤ G.1 24 p.toNatClampNeg → 0 ≤ G.1 25 p.toNatClampNeg ∧ G.1 25 p.toNatClampNeg < 2147483648) (h0 : -1 ≤ G.1 21 p.toNatClampNeg) (h1 : G.1 21 p.toNatClampNeg < 2147483648) (hP : ∀ u', vx_S q (gt_4 (gt_3 (gt_2 (gt_1 G p.toNatClampNeg) p.toNatClampNeg fr (gp_len fl n)) p.toNatClampNeg fr (gp_len fl n)) p.toNatClampNeg (gp_len fl n)) u' → P u') : wX_send_97 P p x2 x3 x4 x6 f_now f_sent (m + 1) x4 a_stateOf a_error a_iss a_una a_nxt a_max a_writtenTo a_kept a_keptBytes a_rcv a_unread a_unreadFrom a_cameBytes a_held a_heldFin a_wnd a_wndSeq a_wndAck a_peak a_half a_same a_rto a_tries a_retryAt a_ackAt a_waitTill a_timedAt a_timedSeq a_smoothed a_variance a_rowCount a_slotSeq a_slotFlags a_slotAck a_slotWindow a_slotSize a_slotBytes := by
  obtain ⟨h_now, h_sent, h_stateOf, h_error, h_iss, h_una, h_nxt, h_max, h_writtenTo, h_kept, h_keptBytes, h_rcv, h_unread, h_unreadFrom, h_cameBytes, h_held, h_heldFin, h_wnd, h_wndSeq, h_wndAck, h_peak, h_half, h_same, h_rto, h_tries, h_retryAt, h_ackAt, h_waitTill, h_timedAt, h_timedSeq, h_smoothed, h_variance, h_rowCount, h_slotSeq, h_slotFlags, h_slotAck, h_slotWindow, h_slotSize, h_slotBytes⟩ := hv
  have he := pe_lt hp
  have hle : x4 ≤ x4 := Int32.le_refl x4
  have hlen : 0 ≤ gp_len fl n ∧ gp_len fl n ≤ 10 := by unfold gp_len; omega
  have hsent : f_sent + 1 = zi_n (gm_S G + q) := by rw [h_sent, zk_1, zi_add]; congr 1; omega
  generalize hL : gp_len fl n = len at *
  have hv1 : vx_S q (gt_1 G p.toNatClampNeg) (f_now, f_sent + 1, a_stateOf, a_error, a_iss, a_una, a_nxt, a_max, a_writtenTo, a_kept, a_keptBytes, a_rcv, a_unread, a_unreadFrom, a_cameBytes, a_held, a_heldFin, a_wnd, a_wndSeq, a_wndAck, a_peak, a_half, a_same, a_rto, a_tries, a_retryAt, upd a_ackAt p.toNatClampNeg (-1), a_waitTill, a_timedAt, a_timedSeq, a_smoothed, a_variance, a_rowCount, a_slotSeq, a_slotFlags, a_slotAck, a_slotWindow, a_slotSize, a_slotBytes) := by
    refine (vx_mk h_now (hsent) h_stateOf h_error h_iss h_una h_nxt h_max h_writtenTo h_kept h_keptBytes h_rcv h_unread h_unreadFrom h_cameBytes h_held h_heldFin h_wnd h_wndSeq h_wndAck h_peak h_half h_same h_rto h_tries h_retryAt (vu_e h_ackAt ?_ (fun e' q => gs_e q)) h_waitTill h_timedAt h_timedSeq h_smoothed h_variance h_rowCount h_slotSeq h_slotFlags h_slotAck h_slotWindow h_slotSize h_slotBytes)
    show _ = zi_n (gs_c _ _ _ _ _ _)
    rw [gs_s]; rfl
  refine br_t hle (nm_e ⟨hp, nm_e ?_⟩)
  subst hx3 hx4
  refine xl_lengthOf (by omega) (by omega) ?_
  rw [hL]
  by_cases w : len = 0
  · refine br_t (by rw [w]; rfl) (hP _ ?_)
    have e2 : gt_2 (gt_1 G p.toNatClampNeg) p.toNatClampNeg fr len = gt_1 G p.toNatClampNeg := by
      unfold gt_2
      rw [gs_id (c := (gt_1 G p.toNatClampNeg).1) (if_neg (fun z => z.1 w)), gs_id (if_neg (fun z => z.1 w))]
    have e3 : gt_3 (gt_1 G p.toNatClampNeg) p.toNatClampNeg fr len = gt_1 G p.toNatClampNeg := by
      unfold gt_3
      rw [gs_id (if_neg (fun z => z.1 w))]
    have e4 : gt_4 (gt_1 G p.toNatClampNeg) p.toNatClampNeg len = gt_1 G p.toNatClampNeg := by
      unfold gt_4
      rw [gs_id (if_neg (fun z => z.1 w))]
    rw [e2, e3, e4]
    exact hv1
  · refine br_f (by rw [zk_0, zi_eq (by omega) (by omega) (by omega) (by omega)]; exact w) ⟨hp, ?_⟩
    have hxm : x2 = a_max p.toNatClampNeg ↔ fr = G.1 5 p.toNatClampNeg := by
      rw [hx2, h_max _ he, zi_eq (by omega) (by omega) (by omega) (by omega)]; omega
    have hv2 : ¬ (len ≠ 0 ∧ fr = G.1 5 p.toNatClampNeg ∧ G.1 24 p.toNatClampNeg < 0) → gt_2 (gt_1 G p.toNatClampNeg) p.toNatClampNeg fr len = gt_1 G p.toNatClampNeg := by
      intro z
      have z' : ¬ (len ≠ 0 ∧ fr = (gt_1 G p.toNatClampNeg).1 5 p.toNatClampNeg ∧ (gt_1 G p.toNatClampNeg).1 24 p.toNatClampNeg < 0) := z
      unfold gt_2
      rw [gs_id (c := (gt_1 G p.toNatClampNeg).1) (if_neg z'), gs_id (if_neg z')]
    by_cases w2 : fr = G.1 5 p.toNatClampNeg
    · refine br_t (hxm.mpr w2) ⟨hp, ?_⟩
      by_cases w3 : G.1 24 p.toNatClampNeg < 0
      · refine br_t (by rw [h_timedAt _ he, if_pos w3]; rfl) ⟨hp, nm_e ⟨hp, nm_e ?_⟩⟩
        refine xs_208 (G := gt_2 (gt_1 G p.toNatClampNeg) p.toNatClampNeg fr len) ?_ hp hx2 rfl w hlen.1 hlen.2 hm0 hm1 h0 h1 hP
        have z' : len ≠ 0 ∧ fr = (gt_1 G p.toNatClampNeg).1 5 p.toNatClampNeg ∧ (gt_1 G p.toNatClampNeg).1 24 p.toNatClampNeg < 0 := ⟨w, w2, w3⟩
        clear h_sent h_ackAt
        obtain ⟨h_now, h_sent, h_stateOf, h_error, h_iss, h_una, h_nxt, h_max, h_writtenTo, h_kept, h_keptBytes, h_rcv, h_unread, h_unreadFrom, h_cameBytes, h_held, h_heldFin, h_wnd, h_wndSeq, h_wndAck, h_peak, h_half, h_same, h_rto, h_tries, h_retryAt, h_ackAt, h_waitTill, h_timedAt, h_timedSeq, h_smoothed, h_variance, h_rowCount, h_slotSeq, h_slotFlags, h_slotAck, h_slotWindow, h_slotSize, h_slotBytes⟩ := hv1
        refine (vx_mk h_now h_sent h_stateOf h_error h_iss h_una h_nxt h_max h_writtenTo h_kept h_keptBytes h_rcv h_unread h_unreadFrom h_cameBytes h_held h_heldFin h_wnd h_wndSeq h_wndAck h_peak h_half h_same h_rto h_tries h_retryAt h_ackAt h_waitTill (vu_e h_timedAt ?_ (fun e' q => ?_)) (fun e' he' z => ?_) h_smoothed h_variance h_rowCount h_slotSeq h_slotFlags h_slotAck h_slotWindow h_slotSize h_slotBytes)
        · simp +decide only [gt_2, gs_s, gs_f]
          rw [if_pos z', if_pos z', if_neg (by omega)]
          exact h_now
        · simp only [gt_2, gs_e q]
        · by_cases q : e' = p.toNatClampNeg
          · subst q
            rw [zu_s]
            show x2 = zi_n ((G.1 2 p.toNatClampNeg + gs_c _ _ _ _ _ _) % 65536)
            rw [gs_s, if_pos z']; exact hx2
          · rw [zu_n q]
            have z2 : 0 ≤ gs_c (gs_c (gt_1 G p.toNatClampNeg).1 _ _ _) _ _ _ _ _ := z
            show a_timedSeq e' = zi_n (((gt_1 G p.toNatClampNeg).1 2 e' + gs_c (gs_c _ _ _ _) _ _ _ _ _) % 65536)
            rw [gs_e q, gs_e q] at z2 ⊢
            exact h_timedSeq e' he' z2
      · refine br_f (by rw [h_timedAt _ he, if_neg w3, zk_m1, zi_eq (by omega) (by omega) (by omega) (by omega)]; omega) ?_
        refine xs_208 (G := gt_2 (gt_1 G p.toNatClampNeg) p.toNatClampNeg fr len) ?_ hp hx2 rfl w hlen.1 hlen.2 hm0 hm1 h0 h1 hP
        rw [hv2 (fun z => w3 z.2.2)]
        exact hv1
    · refine br_f (fun z => w2 (hxm.mp z)) ?_
      refine xs_208 (G := gt_2 (gt_1 G p.toNatClampNeg) p.toNatClampNeg fr len) ?_ hp hx2 rfl w hlen.1 hlen.2 hm0 hm1 h0 h1 hP
      rw [hv2 (fun z => w2 z.2.1)]
      exact hv1
/-- what a send asks of the picture -/
def sq_ok (G : gm_T) (e : Nat) (fr fl n : Int) : Prop := 0 ≤ G.1 0 e ∧ G.1 0 e ≤ 10 ∧ 0 ≤ G.1 30 e ∧ G.1 30 e ≤ 16 ∧ 0 ≤ n ∧ n ≤ 8 ∧ (fl = 0 ∨ fl = 1 ∨ fl = 4) ∧ -100 ≤ fr - G.1 5 e ∧ fr - G.1 5 e ≤ 100 ∧ 0 ≤ G.1 5 e ∧ G.1 5 e ≤ 1000000 ∧ -1 ≤ G.1 24 e ∧ (0 ≤ G.1 24 e → 0 ≤ G.1 25 e ∧ G.1 25 e < 2147483648) ∧ -1 ≤ G.1 21 e ∧ G.1 21 e < 2147483648 ∧ (0 < n → 1 ≤ fr ∧ G.1 6 e - 32 ≤ fr ∧ fr + n ≤ G.1 6 e ∧ G.1 33 e = G.1 6 e) ∧ (G.1 0 e = 2 → G.1 22 e = -1) ∧ -1 ≤ G.1 24 e ∧ G.1 24 e ≤ 1000000
theorem xs_97 {P : SX → Prop} {f_now : Int32} {f_sent : Int32} {a_stateOf : (Nat → Int32)} {a_error : (Nat → Int32)} {a_iss : (Nat → Int32)} {a_una : (Nat → Int32)} {a_nxt : (Nat → Int32)} {a_max : (Nat → Int32)} {a_writtenTo : (Nat → Int32)} {a_kept : (Nat → Int32)} {a_keptBytes : (Nat → Int32)} {a_rcv : (Nat → Int32)} {a_unread : (Nat → Int32)} {a_unreadFrom : (Nat → Int32)} {a_cameBytes : (Nat → Int32)} {a_held : (Nat → Int32)} {a_heldFin : (Nat → Int32)} {a_wnd : (Nat → Int32)} {a_wndSeq : (Nat → Int32)} {a_wndAck : (Nat → Int32)} {a_peak : (Nat → Int32)} {a_half : (Nat → Int32)} {a_same : (Nat → Int32)} {a_rto : (Nat → Int32)} {a_tries : (Nat → Int32)} {a_retryAt : (Nat → Int32)} {a_ackAt : (Nat → Int32)} {a_waitTill : (Nat → Int32)} {a_timedAt : (Nat → Int32)} {a_timedSeq : (Nat → Int32)} {a_smoothed : (Nat → Int32)} {a_variance : (Nat → Int32)} {a_rowCount : (Nat → Int32)} {a_slotSeq : (Nat → Int32)} {a_slotFlags : (Nat → Int32)} {a_slotAck : (Nat → Int32)} {a_slotWindow : (Nat → Int32)} {a_slotSize : (Nat → Int32)} {a_slotBytes : (Nat → Int32)} {p x2 x3 x4 x6 : Int32} {e k : Nat} {i0 fr n : Int} {g : Int → Int} (hp : vp_in p 2) (hpe : p.toNatClampNeg = e) (hk : k ≤ 32) (hx2 : x2 = zi_n ((i0 + fr) % 65536)) (hx4 : x4 = zi_n n) (hx6 : x6 = zi_n (k : Int)) (hn0 : 0 ≤ n) (hn8 : n ≤ 8) (hkb : ∀ i : Int, 0 ≤ i → i < n → a_keptBytes (32 * e + ((i0 + (fr + i)) % 32).toNat) = zi_n (zi_b (g i))) (hX : ∀ (m : Nat) (SB : Nat → Int32), (∀ j, SB j = if 8 * (k : Int) ≤ j ∧ (j : Int) < 8 * (k : Int) + n then zi_n (zi_b (g ((j : Int) - 8 * (k : Int)))) else a_slotBytes j) → wX_send_97 P p x2 x3 x4 x6 f_now f_sent (m + 1) x4 a_stateOf a_error a_iss a_una a_nxt a_max a_writtenTo a_kept a_keptBytes a_rcv a_unread a_unreadFrom a_cameBytes a_held a_heldFin a_wnd a_wndSeq a_wndAck a_peak a_half a_same a_rto a_tries a_retryAt a_ackAt a_waitTill a_timedAt a_timedSeq a_smoothed a_variance a_rowCount a_slotSeq a_slotFlags a_slotAck a_slotWindow a_slotSize (SB)) :
    ∀ (f i : Nat) (SB : Nat → Int32), (i : Int) ≤ n → n - i < f → (∀ j, SB j = if 8 * (k : Int) ≤ j ∧ (j : Int) < 8 * (k : Int) + i then zi_n (zi_b (g ((j : Int) - 8 * (k : Int)))) else a_slotBytes j) → wX_send_97 P p x2 x3 x4 x6 f_now f_sent f (nI i) a_stateOf a_error a_iss a_una a_nxt a_max a_writtenTo a_kept a_keptBytes a_rcv a_unread a_unreadFrom a_cameBytes a_held a_heldFin a_wnd a_wndSeq a_wndAck a_peak a_half a_same a_rto a_tries a_retryAt a_ackAt a_waitTill a_timedAt a_timedSeq a_smoothed a_variance a_rowCount a_slotSeq a_slotFlags a_slotAck a_slotWindow a_slotSize (SB) := by
  have hz := pe_z hp
  have he := pe_lt hp
  intro f
  induction f with
  | zero => intro i SB h1 h2; omega
  | succ f ih =>
    intro i SB h1 h2 h3
    by_cases w : (i : Int) = n
    · have e1 : nI i = x4 := by rw [zi_nI, hx4, w]
      rw [e1]
      rw [w] at h3
      exact hX f SB h3
    · have i1 : (p * 32 + ((x2 + nI i) &&& 31)) = zi_n (32 * (e : Int) + (i0 + (fr + i)) % 32) := by
        rw [hpe] at hz
        rw [hz, hx2, zi_nI, zk_32, zi_mul, zi_add, zi_a5, zi_add]; congr 1; omega
      have i2 : (p * 32 + ((x2 + nI i) &&& 31)).toNatClampNeg = 32 * e + ((i0 + (fr + i)) % 32).toNat := by
        rw [i1, zi_cl (by omega) (by omega)]; omega
      have i3 : (x6 * 8 + nI i) = zi_n (8 * (k : Int) + i) := by
        rw [hx6, zi_nI, zk_8, zi_mul, zi_add]; congr 1; omega
      have i4 : (x6 * 8 + nI i).toNatClampNeg = 8 * k + i := by
        rw [i3, zi_cl (by omega) (by omega)]; omega
      refine br_f (by rw [hx4, zi_nI, zi_le (by omega) (by omega) (by omega) (by omega)]; omega) ⟨?_, ?_, nm_e (nm_r (nI_1 i) (ih (i + 1) _ (by omega) (by omega) ?_))⟩
      · rw [i1]; exact zi_in (by omega) (by omega) (by omega)
      · rw [i3]; exact zi_in (by omega) (by omega) (by omega)
      · intro j
        rw [i4, i2, hkb i (by omega) (by omega), vn_byte, zb_b]
        by_cases w2 : j = 8 * k + i
        · rw [w2, zu_s, if_pos (by omega)]
          congr 3; omega
        · rw [zu_n w2, h3 j]
          by_cases w3 : 8 * (k : Int) ≤ j ∧ (j : Int) < 8 * (k : Int) + i
          · rw [if_pos w3, if_pos (by omega)]
          · rw [if_neg w3, if_neg (by omega)]
theorem xl_send {q : Int} {G : gm_T} {u : SX} {p x1 x2 x3 : Int32} {P : SX → Prop} {fr fl n : Int} (hv : vx_S q G u) (hp : vp_in p 2) (hx1 : x1 = zi_n ((G.1 2 p.toNatClampNeg + fr) % 65536)) (hx2 : x2 = zi_n fl) (hx3 : x3 = zi_n n) (ok : sq_ok G p.toNatClampNeg fr fl n) (hP : ∀ u', vx_S q (gp_send G p.toNatClampNeg fr fl n) u' → P u') : wpX_send P u p x1 x2 x3 := by
  obtain ⟨f_now, f_sent, a_stateOf, a_error, a_iss, a_una, a_nxt, a_max, a_writtenTo, a_kept, a_keptBytes, a_rcv, a_unread, a_unreadFrom, a_cameBytes, a_held, a_heldFin, a_wnd, a_wndSeq, a_wndAck, a_peak, a_half, a_same, a_rto, a_tries, a_retryAt, a_ackAt, a_waitTill, a_timedAt, a_timedSeq, a_smoothed, a_variance, a_rowCount, a_slotSeq, a_slotFlags, a_slotAck, a_slotWindow, a_slotSize, a_slotBytes⟩ := u
  have hv0 := hv
  obtain ⟨h_now, h_sent, h_stateOf, h_error, h_iss, h_una, h_nxt, h_max, h_writtenTo, h_kept, h_keptBytes, h_rcv, h_unread, h_unreadFrom, h_cameBytes, h_held, h_heldFin, h_wnd, h_wndSeq, h_wndAck, h_peak, h_half, h_same, h_rto, h_tries, h_retryAt, h_ackAt, h_waitTill, h_timedAt, h_timedSeq, h_smoothed, h_variance, h_rowCount, h_slotSeq, h_slotFlags, h_slotAck, h_slotWindow, h_slotSize, h_slotBytes⟩ := hv0
  have he := pe_lt hp
  obtain ⟨c1, c2, c3, c4, c5, c6, c7, c8, c9, d1, d2, d3, d4, d5, d6, d7, d8⟩ := ok
  have hr := h_rowCount _ he
  have key : ∀ (k : Nat) (R : Nat → Int32) (z r : Int32), r = zi_n (k : Int) → k ≤ 32 → ((G.1 0 p.toNatClampNeg = 2 ∧ z = 0) ∨ (G.1 0 p.toNatClampNeg ≠ 2 ∧ z = 1)) → ((G.1 30 p.toNatClampNeg < 16 ∧ k = 16 * p.toNatClampNeg + (G.1 30 p.toNatClampNeg).toNat ∧ R = upd a_rowCount p.toNatClampNeg (zi_n (G.1 30 p.toNatClampNeg + 1))) ∨ (G.1 30 p.toNatClampNeg = 16 ∧ k = 32 ∧ R = a_rowCount)) → ∀ (A : Int32) (B : Int32), A = zi_n (if G.1 0 p.toNatClampNeg = 2 then fl else fl + 2) → B = zi_n (if G.1 0 p.toNatClampNeg = 2 then 0 else (G.1 7 p.toNatClampNeg + G.1 8 p.toNatClampNeg) % 65536) → wX_send_72 P p x1 x2 x3 r B r f_now f_sent a_stateOf a_error a_iss a_una a_nxt a_max a_writtenTo a_kept a_keptBytes a_rcv a_unread a_unreadFrom a_cameBytes a_held a_heldFin a_wnd a_wndSeq a_wndAck a_peak a_half a_same a_rto a_tries a_retryAt a_ackAt a_waitTill a_timedAt a_timedSeq a_smoothed a_variance (R) (upd a_slotSeq r.toNatClampNeg x1) (upd a_slotFlags r.toNatClampNeg A) a_slotAck a_slotWindow a_slotSize a_slotBytes := by
    intro k R z r hrk hk hz hkR A B hA hB
    have rk : r.toNatClampNeg = k := by rw [hrk, zi_cl (by omega) (by omega)]; omega
    have hin : vp_in r 33 := by rw [hrk]; exact zi_in (by omega) (by omega) (by omega)
    unfold wX_send_72
    refine ⟨hin, nm_e (xl_ownWindow hp (h_unread _ he) ⟨hin, nm_e ⟨hin, nm_e ⟨9, ?_⟩⟩⟩)⟩
    refine xs_97 (e := p.toNatClampNeg) (k := k) (i0 := G.1 2 p.toNatClampNeg) (fr := fr) (n := n) (g := fun i => gm_W G p.toNatClampNeg (fr + i)) hp rfl hk hx1 hx3 hrk c5 c6 ?_ ?_ 9 0 a_slotBytes (by omega) (by omega) (fun j => by rw [if_neg (by omega)])
    · intro i hi0 hin
      have := d7 (by omega)
      exact h_keptBytes _ he (fr + i) (by omega) (by omega) (by omega)
    · intro m SB hSB
      rw [rk, hA, hB]
      have hvp := vx_post (num := (G.1 2 p.toNatClampNeg + fr) % 65536) (flag := if G.1 0 p.toNatClampNeg = 2 then fl else fl + 2) (ack := if G.1 0 p.toNatClampNeg = 2 then 0 else (G.1 7 p.toNatClampNeg + G.1 8 p.toNatClampNeg) % 65536) (win := 24 - G.1 9 p.toNatClampNeg) (n := n) (g := fun i => gm_W G p.toNatClampNeg (fr + i)) (SB := SB) (R := R) hv he c3 c4 hkR rfl rfl rfl rfl rfl hSB
      subst hx1 hx3
      exact xs_exit (G := gp_sp G p.toNatClampNeg fr fl n) hvp hp rfl hx2 rfl c7 c5 c6 c8 c9 d1 d3 d4 d5 d6 hP
  have key2 : ∀ z : Int32, ((G.1 0 p.toNatClampNeg = 2 ∧ z = 0) ∨ (G.1 0 p.toNatClampNeg ≠ 2 ∧ z = 1)) → wX_send_15 P p x1 x2 x3 z f_now f_sent a_stateOf a_error a_iss a_una a_nxt a_max a_writtenTo a_kept a_keptBytes a_rcv a_unread a_unreadFrom a_cameBytes a_held a_heldFin a_wnd a_wndSeq a_wndAck a_peak a_half a_same a_rto a_tries a_retryAt a_ackAt a_waitTill a_timedAt a_timedSeq a_smoothed a_variance a_rowCount a_slotSeq a_slotFlags a_slotAck a_slotWindow a_slotSize a_slotBytes := by
    intro z hz
    have fin : ∀ (k : Nat) (R : Nat → Int32) (r : Int32), r = zi_n (k : Int) → k ≤ 32 → ((G.1 30 p.toNatClampNeg < 16 ∧ k = 16 * p.toNatClampNeg + (G.1 30 p.toNatClampNeg).toNat ∧ R = upd a_rowCount p.toNatClampNeg (zi_n (G.1 30 p.toNatClampNeg + 1))) ∨ (G.1 30 p.toNatClampNeg = 16 ∧ k = 32 ∧ R = a_rowCount)) → (z = 0 → wX_send_50 P p x1 x2 x3 z r x2 r f_now f_sent a_stateOf a_error a_iss a_una a_nxt a_max a_writtenTo a_kept a_keptBytes a_rcv a_unread a_unreadFrom a_cameBytes a_held a_heldFin a_wnd a_wndSeq a_wndAck a_peak a_half a_same a_rto a_tries a_retryAt a_ackAt a_waitTill a_timedAt a_timedSeq a_smoothed a_variance (R) (upd a_slotSeq r.toNatClampNeg x1) a_slotFlags a_slotAck a_slotWindow a_slotSize a_slotBytes) ∧ (¬ z = 0 → wX_send_50 P p x1 x2 x3 z r (x2 ||| 2) r f_now f_sent a_stateOf a_error a_iss a_una a_nxt a_max a_writtenTo a_kept a_keptBytes a_rcv a_unread a_unreadFrom a_cameBytes a_held a_heldFin a_wnd a_wndSeq a_wndAck a_peak a_half a_same a_rto a_tries a_retryAt a_ackAt a_waitTill a_timedAt a_timedSeq a_smoothed a_variance (R) (upd a_slotSeq r.toNatClampNeg x1) a_slotFlags a_slotAck a_slotWindow a_slotSize a_slotBytes) := by
      intro k R r hrk hk hkR
      have hin : vp_in r 33 := by rw [hrk]; exact zi_in (by omega) (by omega) (by omega)
      rcases hz with ⟨hz1, hz2⟩ | ⟨hz1, hz2⟩
      · refine br_t hz2 ?_
        unfold wX_send_50
        refine ⟨hin, nm_e (br_t hz2 ?_)⟩
        exact key k R z r hrk hk (Or.inl ⟨hz1, hz2⟩) hkR _ _ (by rw [if_pos hz1]; exact hx2) (by rw [if_pos hz1]; rfl)
      · have hz0 : ¬ z = 0 := by rw [hz2]; decide
        refine br_f hz0 ?_
        unfold wX_send_50
        refine ⟨hin, nm_e (br_f hz0 ⟨hp, ?_⟩)⟩
        exact key k R z r hrk hk (Or.inr ⟨hz1, hz2⟩) hkR _ _ (by rw [if_neg hz1, hx2]; exact zf_o c7) (by rw [if_neg hz1]; exact h_rcv _ he)
    unfold wX_send_15
    refine xl_nextSlot hp hr c3 c4 (fun hlt => ?_) (fun h => ?_)
    · have hin : vp_in (zi_n (16 * (p.toNatClampNeg : Int) + G.1 30 p.toNatClampNeg)) 33 := zi_in (by omega) (by omega) (by omega)
      refine ⟨hin, nm_e ?_⟩
      exact fin (16 * p.toNatClampNeg + (G.1 30 p.toNatClampNeg).toNat) _ _ (by congr 1; omega) (by omega) (Or.inl ⟨hlt, rfl, rfl⟩)
    · have hin : vp_in (zi_n 32) 33 := zi_in (by omega) (by omega) (by omega)
      refine ⟨hin, nm_e ?_⟩
      exact fin 32 _ _ rfl (by omega) (Or.inr ⟨h, rfl, rfl⟩)
  unfold wpX_send
  by_cases w : G.1 0 p.toNatClampNeg = 2
  · exact ⟨hp, br_t (by rw [h_stateOf _ he, w]; rfl) (key2 0 (Or.inl ⟨w, rfl⟩))⟩
  · exact ⟨hp, br_f (by rw [h_stateOf _ he, zk_2, zi_eq (by omega) (by omega) (by omega) (by omega)]; exact w) (key2 1 (Or.inr ⟨w, rfl⟩))⟩
theorem xl_sendAck {q : Int} {G : gm_T} {u : SX} {p : Int32} {P : SX → Prop} (hv : vx_S q G u) (hp : vp_in p 2) (ok : sq_ok G p.toNatClampNeg (G.1 5 p.toNatClampNeg) 0 0) (hP : ∀ u', vx_S q (gp_ack G p.toNatClampNeg) u' → P u') : wpX_sendAck P u p := by
  obtain ⟨f_now, f_sent, a_stateOf, a_error, a_iss, a_una, a_nxt, a_max, a_writtenTo, a_kept, a_keptBytes, a_rcv, a_unread, a_unreadFrom, a_cameBytes, a_held, a_heldFin, a_wnd, a_wndSeq, a_wndAck, a_peak, a_half, a_same, a_rto, a_tries, a_retryAt, a_ackAt, a_waitTill, a_timedAt, a_timedSeq, a_smoothed, a_variance, a_rowCount, a_slotSeq, a_slotFlags, a_slotAck, a_slotWindow, a_slotSize, a_slotBytes⟩ := u
  have hv0 := hv
  obtain ⟨h_now, h_sent, h_stateOf, h_error, h_iss, h_una, h_nxt, h_max, h_writtenTo, h_kept, h_keptBytes, h_rcv, h_unread, h_unreadFrom, h_cameBytes, h_held, h_heldFin, h_wnd, h_wndSeq, h_wndAck, h_peak, h_half, h_same, h_rto, h_tries, h_retryAt, h_ackAt, h_waitTill, h_timedAt, h_timedSeq, h_smoothed, h_variance, h_rowCount, h_slotSeq, h_slotFlags, h_slotAck, h_slotWindow, h_slotSize, h_slotBytes⟩ := hv0
  unfold wpX_sendAck
  exact ⟨hp, xl_send hv hp (h_max _ (pe_lt hp)) rfl rfl ok hP⟩
