/-! the class: flow -/
theorem sk_of {K : Int} {G : gm_T} {e : Nat} {fr fl n : Int} (hI : gv_I K G) (he : e < 2) (hs : 2 ≤ G.1 0 e) (hf : fl = 0 ∨ fl = 1 ∨ fl = 4) (hn0 : 0 ≤ n) (hn8 : n ≤ 8) (h0 : G.1 3 e - 1 ≤ fr) (h1 : fr ≤ G.1 5 e) (hb : 0 < n → 4 ≤ G.1 0 e ∧ G.1 3 e ≤ fr ∧ fr + n ≤ G.1 6 e) : sq_ok G e fr fl n := by
  obtain ⟨a1, a2, a3, a4, a5, a6, a7, a8⟩ := hI
  obtain ⟨b1, b2, b3, b4, b5, b6⟩ := a5 e he
  unfold gv_a at b1
  unfold gv_p at b2
  unfold gv_d at b4
  unfold gv_t at b5
  obtain ⟨p1, p2, p3, p4, p5, p6, p7, p8, p9⟩ := b2
  have q1 := p1 (by omega)
  have hM : 0 ≤ G.1 5 e ∧ G.1 5 e ≤ K + 2 ∧ G.1 5 e - G.1 3 e ≤ 34 := by
    by_cases w : 4 ≤ G.1 0 e
    · have := p5 w; omega
    · have := p4 (by omega); omega
  refine ⟨by omega, by omega, by omega, by omega, hn0, hn8, hf, by omega, by omega, by omega, by omega, by omega, ?_, by omega, by omega, ?_, by omega, by omega, ?_⟩
  · intro z; have := b5.2.1 z; omega
  · intro z
    have r := hb z
    have := p5 r.1
    omega
  · by_cases w : 0 ≤ G.1 24 e
    · have := b5.2.1 w; omega
    · omega
theorem xl_maySend {P : Int32 → Prop} {x : Int32} {s : Int} (hx : x = zi_n s) (h0 : 0 ≤ s) (h1 : s ≤ 10) (ht : (s = 4 ∨ s = 5 ∨ s = 7 ∨ s = 8 ∨ s = 9) → P 1) (hf : ¬ (s = 4 ∨ s = 5 ∨ s = 7 ∨ s = 8 ∨ s = 9) → P 0) : wpX_maySend P x := by
  unfold wpX_maySend
  rw [hx, zk_4, zk_5, zk_7, zk_8, zk_9]
  simp only [zi_eq (a := s) (b := 4) (by omega) (by omega) (by omega) (by omega), zi_eq (a := s) (b := 5) (by omega) (by omega) (by omega) (by omega), zi_eq (a := s) (b := 7) (by omega) (by omega) (by omega) (by omega), zi_eq (a := s) (b := 8) (by omega) (by omega) (by omega) (by omega), zi_eq (a := s) (b := 9) (by omega) (by omega) (by omega) (by omega)]
  refine ⟨fun h => ht (by omega), fun _ => ⟨fun h => ht (by omega), fun _ => ⟨fun h => ht (by omega), fun _ => ⟨fun h => ht (by omega), fun _ => ⟨fun h => ht (by omega), fun _ => hf (by omega)⟩⟩⟩⟩⟩
theorem xl_hasFin {P : Int32 → Prop} {x : Int32} {s : Int} (hx : x = zi_n s) (h0 : 0 ≤ s) (h1 : s ≤ 10) (ht : (s = 5 ∨ s = 6 ∨ s = 8 ∨ s = 9 ∨ s = 10) → P 1) (hf : ¬ (s = 5 ∨ s = 6 ∨ s = 8 ∨ s = 9 ∨ s = 10) → P 0) : wpX_hasFin P x := by
  unfold wpX_hasFin
  rw [hx, zk_5, zk_6, zk_8]
  simp only [zi_eq (a := s) (b := 5) (by omega) (by omega) (by omega) (by omega), zi_eq (a := s) (b := 6) (by omega) (by omega) (by omega) (by omega), zi_lt (a := s) (b := 8) (by omega) (by omega) (by omega) (by omega)]
  refine ⟨fun h => ht (by omega), fun _ => ⟨fun h => ht (by omega), fun _ => ⟨fun h => hf (by omega), fun _ => ht (by omega)⟩⟩⟩
theorem xf_340 {q : Int} {G : gm_T} {f_now : Int32} {f_sent : Int32} {a_stateOf : (Nat → Int32)} {a_error : (Nat → Int32)} {a_iss : (Nat → Int32)} {a_una : (Nat → Int32)} {a_nxt : (Nat → Int32)} {a_max : (Nat → Int32)} {a_writtenTo : (Nat → Int32)} {a_kept : (Nat → Int32)} {a_keptBytes : (Nat → Int32)} {a_rcv : (Nat → Int32)} {a_unread : (Nat → Int32)} {a_unreadFrom : (Nat → Int32)} {a_cameBytes : (Nat → Int32)} {a_held : (Nat → Int32)} {a_heldFin : (Nat → Int32)} {a_wnd : (Nat → Int32)} {a_wndSeq : (Nat → Int32)} {a_wndAck : (Nat → Int32)} {a_peak : (Nat → Int32)} {a_half : (Nat → Int32)} {a_same : (Nat → Int32)} {a_rto : (Nat → Int32)} {a_tries : (Nat → Int32)} {a_retryAt : (Nat → Int32)} {a_ackAt : (Nat → Int32)} {a_waitTill : (Nat → Int32)} {a_timedAt : (Nat → Int32)} {a_timedSeq : (Nat → Int32)} {a_smoothed : (Nat → Int32)} {a_variance : (Nat → Int32)} {a_rowCount : (Nat → Int32)} {a_slotSeq : (Nat → Int32)} {a_slotFlags : (Nat → Int32)} {a_slotAck : (Nat → Int32)} {a_slotWindow : (Nat → Int32)} {a_slotSize : (Nat → Int32)} {a_slotBytes : (Nat → Int32)} {p : Int32} {P : SX → Prop} (hv : vx_S q G (f_now, f_sent, a_stateOf, a_error, a_iss, a_una, a_nxt, a_max, a_writtenTo, a_kept, a_keptBytes, a_rcv, a_unread, a_unreadFrom, a_cameBytes, a_held, a_heldFin, a_wnd, a_wndSeq, a_wndAck, a_peak, a_half, a_same, a_rto, a_tries, a_retryAt, a_ackAt, a_waitTill, a_timedAt, a_timedSeq, a_smoothed, a_variance, a_rowCount, a_slotSeq, a_slotFlags, a_slotAck, a_slotWindow, a_slotSize, a_slotBytes)) (hp : vp_in p 2) (h0 : -1 ≤ G.1 21 p.toNatClampNeg) (h1 : G.1 21 p.toNatClampNeg < 2147483648) (hc : G.1 12 p.toNatClampNeg = 0 ∧ G.1 4 p.toNatClampNeg = G.1 3 p.toNatClampNeg ∧ (G.1 4 p.toNatClampNeg < G.1 6 p.toNatClampNeg ∨ (G.1 29 p.toNatClampNeg = 1 ∧ G.1 4 p.toNatClampNeg = G.1 6 p.toNatClampNeg))) (hP : ∀ u', vx_S q (gp_rest G p.toNatClampNeg) u' → P u') : wX_flow_340 P p f_now f_sent a_stateOf a_error a_iss a_una a_nxt a_max a_writtenTo a_kept a_keptBytes a_rcv a_unread a_unreadFrom a_cameBytes a_held a_heldFin a_wnd a_wndSeq a_wndAck a_peak a_half a_same a_rto a_tries a_retryAt a_ackAt a_waitTill a_timedAt a_timedSeq a_smoothed a_variance a_rowCount a_slotSeq a_slotFlags a_slotAck a_slotWindow a_slotSize a_slotBytes := by
  obtain ⟨h_now, h_sent, h_stateOf, h_error, h_iss, h_una, h_nxt, h_max, h_writtenTo, h_kept, h_keptBytes, h_rcv, h_unread, h_unreadFrom, h_cameBytes, h_held, h_heldFin, h_wnd, h_wndSeq, h_wndAck, h_peak, h_half, h_same, h_rto, h_tries, h_retryAt, h_ackAt, h_waitTill, h_timedAt, h_timedSeq, h_smoothed, h_variance, h_rowCount, h_slotSeq, h_slotFlags, h_slotAck, h_slotWindow, h_slotSize, h_slotBytes⟩ := hv
  have he := pe_lt hp
  unfold wX_flow_340
  refine xl_setRetry hp (h_retryAt _ he) h0 h1 ?_
  by_cases w : G.1 21 p.toNatClampNeg < 0
  · rw [if_pos w]
    refine hP _ (vx_mk h_now h_sent h_stateOf h_error h_iss h_una h_nxt h_max h_writtenTo h_kept h_keptBytes h_rcv h_unread h_unreadFrom h_cameBytes h_held h_heldFin h_wnd h_wndSeq h_wndAck h_peak h_half h_same h_rto h_tries (vu_e h_retryAt ?_ (fun e' q => gs_e q)) h_ackAt h_waitTill h_timedAt h_timedSeq h_smoothed h_variance h_rowCount h_slotSeq h_slotFlags h_slotAck h_slotWindow h_slotSize h_slotBytes)
    show _ = zi_n (gs_c _ _ _ _ _ _)
    rw [gs_s, if_pos ⟨hc.1, hc.2.1, hc.2.2, w⟩, h_now, h_rto _ he, zi_add]
  · rw [if_neg w]
    refine hP _ (vx_mk h_now h_sent h_stateOf h_error h_iss h_una h_nxt h_max h_writtenTo h_kept h_keptBytes h_rcv h_unread h_unreadFrom h_cameBytes h_held h_heldFin h_wnd h_wndSeq h_wndAck h_peak h_half h_same h_rto h_tries (vk_e h_retryAt (fun e' _ => ?_)) h_ackAt h_waitTill h_timedAt h_timedSeq h_smoothed h_variance h_rowCount h_slotSeq h_slotFlags h_slotAck h_slotWindow h_slotSize h_slotBytes)
    show gs_c _ _ _ _ _ _ = _
    rw [gs_id (if_neg (fun z => w z.2.2.2))]
theorem xf_306 {q K : Int} {G : gm_T} {f_now : Int32} {f_sent : Int32} {a_stateOf : (Nat → Int32)} {a_error : (Nat → Int32)} {a_iss : (Nat → Int32)} {a_una : (Nat → Int32)} {a_nxt : (Nat → Int32)} {a_max : (Nat → Int32)} {a_writtenTo : (Nat → Int32)} {a_kept : (Nat → Int32)} {a_keptBytes : (Nat → Int32)} {a_rcv : (Nat → Int32)} {a_unread : (Nat → Int32)} {a_unreadFrom : (Nat → Int32)} {a_cameBytes : (Nat → Int32)} {a_held : (Nat → Int32)} {a_heldFin : (Nat → Int32)} {a_wnd : (Nat → Int32)} {a_wndSeq : (Nat → Int32)} {a_wndAck : (Nat → Int32)} {a_peak : (Nat → Int32)} {a_half : (Nat → Int32)} {a_same : (Nat → Int32)} {a_rto : (Nat → Int32)} {a_tries : (Nat → Int32)} {a_retryAt : (Nat → Int32)} {a_ackAt : (Nat → Int32)} {a_waitTill : (Nat → Int32)} {a_timedAt : (Nat → Int32)} {a_timedSeq : (Nat → Int32)} {a_smoothed : (Nat → Int32)} {a_variance : (Nat → Int32)} {a_rowCount : (Nat → Int32)} {a_slotSeq : (Nat → Int32)} {a_slotFlags : (Nat → Int32)} {a_slotAck : (Nat → Int32)} {a_slotWindow : (Nat → Int32)} {a_slotSize : (Nat → Int32)} {a_slotBytes : (Nat → Int32)} {p x4 x6 : Int32} {d : Int} {P : SX → Prop} (hv : vx_S q G (f_now, f_sent, a_stateOf, a_error, a_iss, a_una, a_nxt, a_max, a_writtenTo, a_kept, a_keptBytes, a_rcv, a_unread, a_unreadFrom, a_cameBytes, a_held, a_heldFin, a_wnd, a_wndSeq, a_wndAck, a_peak, a_half, a_same, a_rto, a_tries, a_retryAt, a_ackAt, a_waitTill, a_timedAt, a_timedSeq, a_smoothed, a_variance, a_rowCount, a_slotSeq, a_slotFlags, a_slotAck, a_slotWindow, a_slotSize, a_slotBytes)) (hI : gv_I K G) (hp : vp_in p 2) (h4 : 4 ≤ G.1 0 p.toNatClampNeg) (hx4 : x4 = zi_n d) (hd0 : -10 ≤ d) (hd1 : d ≤ 100) (hd : G.1 12 p.toNatClampNeg = 0 → ((0 < d ∨ ¬ x6 = 0) ↔ (G.1 4 p.toNatClampNeg < G.1 6 p.toNatClampNeg ∨ (G.1 29 p.toNatClampNeg = 1 ∧ G.1 4 p.toNatClampNeg = G.1 6 p.toNatClampNeg)))) (hP : ∀ u', vx_S q (gp_rest G p.toNatClampNeg) u' → P u') : wX_flow_306 P p x4 x6 f_now f_sent a_stateOf a_error a_iss a_una a_nxt a_max a_writtenTo a_kept a_keptBytes a_rcv a_unread a_unreadFrom a_cameBytes a_held a_heldFin a_wnd a_wndSeq a_wndAck a_peak a_half a_same a_rto a_tries a_retryAt a_ackAt a_waitTill a_timedAt a_timedSeq a_smoothed a_variance a_rowCount a_slotSeq a_slotFlags a_slotAck a_slotWindow a_slotSize a_slotBytes := by
  have hv0 := hv
  obtain ⟨h_now, h_sent, h_stateOf, h_error, h_iss, h_una, h_nxt, h_max, h_writtenTo, h_kept, h_keptBytes, h_rcv, h_unread, h_unreadFrom, h_cameBytes, h_held, h_heldFin, h_wnd, h_wndSeq, h_wndAck, h_peak, h_half, h_same, h_rto, h_tries, h_retryAt, h_ackAt, h_waitTill, h_timedAt, h_timedSeq, h_smoothed, h_variance, h_rowCount, h_slotSeq, h_slotFlags, h_slotAck, h_slotWindow, h_slotSize, h_slotBytes⟩ := hv0
  have he := pe_lt hp
  have n0 := hI.2.2.1
  have n1 := hI.2.2.2.1
  have n2 := hI.2.1
  obtain ⟨b1, b2, b3, b4, b5, b6⟩ := hI.2.2.2.2.1 _ he
  unfold gv_p at b2
  unfold gv_c at b3
  unfold gv_d at b4
  have hno : ¬ (G.1 12 p.toNatClampNeg = 0 ∧ G.1 4 p.toNatClampNeg = G.1 3 p.toNatClampNeg ∧ (G.1 4 p.toNatClampNeg < G.1 6 p.toNatClampNeg ∨ (G.1 29 p.toNatClampNeg = 1 ∧ G.1 4 p.toNatClampNeg = G.1 6 p.toNatClampNeg))) → P (f_now, f_sent, a_stateOf, a_error, a_iss, a_una, a_nxt, a_max, a_writtenTo, a_kept, a_keptBytes, a_rcv, a_unread, a_unreadFrom, a_cameBytes, a_held, a_heldFin, a_wnd, a_wndSeq, a_wndAck, a_peak, a_half, a_same, a_rto, a_tries, a_retryAt, a_ackAt, a_waitTill, a_timedAt, a_timedSeq, a_smoothed, a_variance, a_rowCount, a_slotSeq, a_slotFlags, a_slotAck, a_slotWindow, a_slotSize, a_slotBytes) := by
    intro z
    refine hP _ ?_
    have : gp_rest G p.toNatClampNeg = G := by
      unfold gp_rest
      rw [gs_id (if_neg (fun y => z ⟨y.1, y.2.1, y.2.2.1⟩))]
    rw [this]; exact hv
  unfold wX_flow_306
  refine ⟨hp, ?_⟩
  by_cases w : G.1 12 p.toNatClampNeg = 0
  · refine br_t (by rw [h_wnd _ he, w]; rfl) ⟨hp, hp, ?_⟩
    have hu := (b2.2.2.2.2.1 h4)
    by_cases w2 : G.1 4 p.toNatClampNeg = G.1 3 p.toNatClampNeg
    · refine br_t (by rw [h_nxt _ he, h_una _ he, w2]) ?_
      by_cases w3 : 0 < d
      · refine br_t (by rw [zk_0, hx4, zi_lt (by omega) (by omega) (by omega) (by omega)]; exact w3) ?_
        exact xf_340 hv hp (by omega) (by omega) ⟨w, w2, (hd w).mp (Or.inl w3)⟩ hP
      · refine br_f (by rw [zk_0, hx4, zi_lt (by omega) (by omega) (by omega) (by omega)]; exact w3) ?_
        by_cases w4 : x6 = 0
        · exact br_t w4 (hno (fun z => ((hd w).mpr z.2.2).elim w3 (fun h => h w4)))
        · exact br_f w4 (xf_340 hv hp (by omega) (by omega) ⟨w, w2, (hd w).mp (Or.inr w4)⟩ hP)
    · refine br_f (by rw [h_nxt _ he, h_una _ he, zi_eq (by omega) (by omega) (by omega) (by omega)]; omega) (hno (fun z => w2 z.2.1))
  · exact br_f (by rw [h_wnd _ he, zk_0, zi_eq (by omega) (by omega) (by omega) (by omega)]; exact w) (hno (fun z => w z.1))
theorem xf_202 {q K : Int} {G : gm_T} {f_now : Int32} {f_sent : Int32} {a_stateOf : (Nat → Int32)} {a_error : (Nat → Int32)} {a_iss : (Nat → Int32)} {a_una : (Nat → Int32)} {a_nxt : (Nat → Int32)} {a_max : (Nat → Int32)} {a_writtenTo : (Nat → Int32)} {a_kept : (Nat → Int32)} {a_keptBytes : (Nat → Int32)} {a_rcv : (Nat → Int32)} {a_unread : (Nat → Int32)} {a_unreadFrom : (Nat → Int32)} {a_cameBytes : (Nat → Int32)} {a_held : (Nat → Int32)} {a_heldFin : (Nat → Int32)} {a_wnd : (Nat → Int32)} {a_wndSeq : (Nat → Int32)} {a_wndAck : (Nat → Int32)} {a_peak : (Nat → Int32)} {a_half : (Nat → Int32)} {a_same : (Nat → Int32)} {a_rto : (Nat → Int32)} {a_tries : (Nat → Int32)} {a_retryAt : (Nat → Int32)} {a_ackAt : (Nat → Int32)} {a_waitTill : (Nat → Int32)} {a_timedAt : (Nat → Int32)} {a_timedSeq : (Nat → Int32)} {a_smoothed : (Nat → Int32)} {a_variance : (Nat → Int32)} {a_rowCount : (Nat → Int32)} {a_slotSeq : (Nat → Int32)} {a_slotFlags : (Nat → Int32)} {a_slotAck : (Nat → Int32)} {a_slotWindow : (Nat → Int32)} {a_slotSize : (Nat → Int32)} {a_slotBytes : (Nat → Int32)} {p x2 : Int32} {P : SX → Prop} (hv : vx_S q G (f_now, f_sent, a_stateOf, a_error, a_iss, a_una, a_nxt, a_max, a_writtenTo, a_kept, a_keptBytes, a_rcv, a_unread, a_unreadFrom, a_cameBytes, a_held, a_heldFin, a_wnd, a_wndSeq, a_wndAck, a_peak, a_half, a_same, a_rto, a_tries, a_retryAt, a_ackAt, a_waitTill, a_timedAt, a_timedSeq, a_smoothed, a_variance, a_rowCount, a_slotSeq, a_slotFlags, a_slotAck, a_slotWindow, a_slotSize, a_slotBytes)) (hI : gv_I K G) (hp : vp_in p 2) (h4 : 4 ≤ G.1 0 p.toNatClampNeg) (hx2 : x2 = zi_n (min (G.1 12 p.toNatClampNeg) (G.1 16 p.toNatClampNeg))) (hP : ∀ u', vx_S q (gp_rest (gp_fin G p.toNatClampNeg) p.toNatClampNeg) u' → P u') : wX_flow_202 P p x2 f_now f_sent a_stateOf a_error a_iss a_una a_nxt a_max a_writtenTo a_kept a_keptBytes a_rcv a_unread a_unreadFrom a_cameBytes a_held a_heldFin a_wnd a_wndSeq a_wndAck a_peak a_half a_same a_rto a_tries a_retryAt a_ackAt a_waitTill a_timedAt a_timedSeq a_smoothed a_variance a_rowCount a_slotSeq a_slotFlags a_slotAck a_slotWindow a_slotSize a_slotBytes := by
  have hv0 := hv
  obtain ⟨h_now, h_sent, h_stateOf, h_error, h_iss, h_una, h_nxt, h_max, h_writtenTo, h_kept, h_keptBytes, h_rcv, h_unread, h_unreadFrom, h_cameBytes, h_held, h_heldFin, h_wnd, h_wndSeq, h_wndAck, h_peak, h_half, h_same, h_rto, h_tries, h_retryAt, h_ackAt, h_waitTill, h_timedAt, h_timedSeq, h_smoothed, h_variance, h_rowCount, h_slotSeq, h_slotFlags, h_slotAck, h_slotWindow, h_slotSize, h_slotBytes⟩ := hv0
  have he := pe_lt hp
  have n0 := hI.2.2.1
  have n1 := hI.2.2.2.1
  have n2 := hI.2.1
  obtain ⟨b1, b2, b3, b4, b5, b6⟩ := hI.2.2.2.2.1 _ he
  unfold gv_a at b1
  unfold gv_p at b2
  unfold gv_c at b3
  have hu := (b2.2.2.2.2.1 h4)
  have hcl := b2.2.2.2.2.2.2.2
  have hk := b2.2.2.2.2.2.1
  generalize hwd : min (G.1 12 p.toNatClampNeg) (G.1 16 p.toNatClampNeg) = wd at *
  have hwd0 : 0 ≤ wd ∧ wd ≤ 24 ∧ (0 < wd → 0 < G.1 12 p.toNatClampNeg) := by omega
  have k306 : ∀ z : Int32, ¬ (G.1 29 p.toNatClampNeg = 1 ∧ G.1 4 p.toNatClampNeg = G.1 6 p.toNatClampNeg ∧ 0 < wd - (G.1 4 p.toNatClampNeg - G.1 3 p.toNatClampNeg)) → (¬ z = 0 ↔ (G.1 29 p.toNatClampNeg = 1 ∧ 0 ≤ G.1 6 p.toNatClampNeg - G.1 4 p.toNatClampNeg)) → wX_flow_306 P p (zi_n (G.1 6 p.toNatClampNeg - G.1 4 p.toNatClampNeg)) z f_now f_sent a_stateOf a_error a_iss a_una a_nxt a_max a_writtenTo a_kept a_keptBytes a_rcv a_unread a_unreadFrom a_cameBytes a_held a_heldFin a_wnd a_wndSeq a_wndAck a_peak a_half a_same a_rto a_tries a_retryAt a_ackAt a_waitTill a_timedAt a_timedSeq a_smoothed a_variance a_rowCount a_slotSeq a_slotFlags a_slotAck a_slotWindow a_slotSize a_slotBytes := by
    intro z hz hz2
    have hfin : gp_fin G p.toNatClampNeg = G := by
      unfold gp_fin
      rw [hwd]
      exact if_neg hz
    rw [hfin] at hP
    refine xf_306 hv hI hp h4 rfl (by omega) (by omega) (fun _ => ?_) hP
    rw [hz2]; omega
  have k260 : ∀ z : Int32, (¬ z = 0 ↔ (G.1 29 p.toNatClampNeg = 1 ∧ 0 ≤ G.1 6 p.toNatClampNeg - G.1 4 p.toNatClampNeg)) → wX_flow_260 P p (zi_n (G.1 6 p.toNatClampNeg - G.1 4 p.toNatClampNeg)) (zi_n (wd - (G.1 4 p.toNatClampNeg - G.1 3 p.toNatClampNeg))) z f_now f_sent a_stateOf a_error a_iss a_una a_nxt a_max a_writtenTo a_kept a_keptBytes a_rcv a_unread a_unreadFrom a_cameBytes a_held a_heldFin a_wnd a_wndSeq a_wndAck a_peak a_half a_same a_rto a_tries a_retryAt a_ackAt a_waitTill a_timedAt a_timedSeq a_smoothed a_variance a_rowCount a_slotSeq a_slotFlags a_slotAck a_slotWindow a_slotSize a_slotBytes := by
    intro z hz2
    unfold wX_flow_260
    by_cases w : G.1 6 p.toNatClampNeg - G.1 4 p.toNatClampNeg = 0
    · refine br_t (by rw [w]; rfl) ?_
      by_cases w2 : z = 0
      · exact br_t w2 (k306 z (fun y => by have : ¬ z = 0 := hz2.mpr ⟨y.1, by omega⟩; exact this w2) hz2)
      · have hc1 := hz2.mp w2
        refine br_f w2 ?_
        by_cases w3 : wd - (G.1 4 p.toNatClampNeg - G.1 3 p.toNatClampNeg) ≤ 0
        · exact br_t (by rw [zk_0, zi_le (by omega) (by omega) (by omega) (by omega)]; exact w3) (k306 z (fun y => by omega) hz2)
        · refine br_f (by rw [zk_0, zi_le (by omega) (by omega) (by omega) (by omega)]; exact w3) ⟨hp, ?_⟩
          have hcond : G.1 29 p.toNatClampNeg = 1 ∧ G.1 4 p.toNatClampNeg = G.1 6 p.toNatClampNeg ∧ 0 < wd - (G.1 4 p.toNatClampNeg - G.1 3 p.toNatClampNeg) := ⟨hc1.1, by omega, by omega⟩
          have hfin : gp_fin G p.toNatClampNeg = (gs_c (gp_send G p.toNatClampNeg (G.1 4 p.toNatClampNeg) 4 0).1 4 p.toNatClampNeg (G.1 4 p.toNatClampNeg + 1), (gp_send G p.toNatClampNeg (G.1 4 p.toNatClampNeg) 4 0).2) := by
            unfold gp_fin
            rw [hwd]
            exact if_pos hcond
          have hIf := iv_fin hI he h4
          refine xl_send hv hp (h_nxt _ he) zk_4 zk_0 (sk_of hI he (by omega) (Or.inr (Or.inr rfl)) (by omega) (by omega) (by omega) (by omega) (by omega)) fun u1 hv1 => ?_
          rw [hfin] at hP hIf
          have hN1 : (gp_send G p.toNatClampNeg (G.1 4 p.toNatClampNeg) 4 0).1 4 p.toNatClampNeg = G.1 4 p.toNatClampNeg := sd_f (by decide) (by decide) (by decide) (by decide) (by decide) (by decide)
          have hI1 : ∀ e', (gp_send G p.toNatClampNeg (G.1 4 p.toNatClampNeg) 4 0).1 2 e' = G.1 2 e' := fun e' => sd_f (by decide) (by decide) (by decide) (by decide) (by decide) (by decide)
          generalize hG1 : gp_send G p.toNatClampNeg (G.1 4 p.toNatClampNeg) 4 0 = G1 at *
          obtain ⟨f_now, f_sent, a_stateOf, a_error, a_iss, a_una, a_nxt, a_max, a_writtenTo, a_kept, a_keptBytes, a_rcv, a_unread, a_unreadFrom, a_cameBytes, a_held, a_heldFin, a_wnd, a_wndSeq, a_wndAck, a_peak, a_half, a_same, a_rto, a_tries, a_retryAt, a_ackAt, a_waitTill, a_timedAt, a_timedSeq, a_smoothed, a_variance, a_rowCount, a_slotSeq, a_slotFlags, a_slotAck, a_slotWindow, a_slotSize, a_slotBytes⟩ := u1
          have hv2 := hv1
          obtain ⟨h_now, h_sent, h_stateOf, h_error, h_iss, h_una, h_nxt, h_max, h_writtenTo, h_kept, h_keptBytes, h_rcv, h_unread, h_unreadFrom, h_cameBytes, h_held, h_heldFin, h_wnd, h_wndSeq, h_wndAck, h_peak, h_half, h_same, h_rto, h_tries, h_retryAt, h_ackAt, h_waitTill, h_timedAt, h_timedSeq, h_smoothed, h_variance, h_rowCount, h_slotSeq, h_slotFlags, h_slotAck, h_slotWindow, h_slotSize, h_slotBytes⟩ := hv2
          refine ⟨hp, xl_behind (h_nxt _ he) zk_1 ⟨hp, nm_e ?_⟩⟩
          refine xf_306 (G := (gs_c G1.1 4 p.toNatClampNeg (G.1 4 p.toNatClampNeg + 1), G1.2)) ?_ hIf hp ?_ rfl (by omega) (by omega) ?_ hP
          · refine (vx_mk h_now h_sent h_stateOf h_error h_iss h_una (vu_e h_nxt ?_ (fun e' q => ?_)) h_max h_writtenTo h_kept h_keptBytes h_rcv h_unread h_unreadFrom h_cameBytes h_held h_heldFin h_wnd h_wndSeq h_wndAck h_peak h_half h_same h_rto h_tries h_retryAt h_ackAt h_waitTill h_timedAt h_timedSeq h_smoothed h_variance h_rowCount h_slotSeq h_slotFlags h_slotAck h_slotWindow h_slotSize h_slotBytes)
            · show _ = zi_n ((G1.1 2 p.toNatClampNeg + gs_c _ _ _ _ _ _) % 65536)
              rw [gs_s, hN1]; congr 1; omega
            · show (G1.1 2 e' + gs_c _ _ _ _ _ _) % 65536 = _
              rw [gs_e q]
          · show 4 ≤ G1.1 0 p.toNatClampNeg
            rw [← hG1, sd_f (by decide) (by decide) (by decide) (by decide) (by decide) (by decide)]; exact h4
          · intro y
            have y' : G1.1 12 p.toNatClampNeg = 0 := y
            rw [← hG1, sd_f (by decide) (by decide) (by decide) (by decide) (by decide) (by decide)] at y'
            omega
    · refine br_f (by rw [zk_0, zi_eq (by omega) (by omega) (by omega) (by omega)]; exact w) (k306 z (fun y => by omega) hz2)
  unfold wX_flow_202
  refine ⟨hp, hp, xl_off (h_writtenTo _ he) (h_nxt _ he) (by omega) (by omega) ⟨hp, hp, xl_off (h_nxt _ he) (h_una _ he) (by omega) (by omega) (nm_r (e' := zi_n (wd - (G.1 4 p.toNatClampNeg - G.1 3 p.toNatClampNeg))) (by rw [hx2, zi_sub]) ⟨hp, ?_⟩)⟩⟩
  refine xl_hasFin (h_stateOf _ he) (by omega) (by omega) (fun w => ?_) (fun w => ?_)
  · refine br_f (by decide) ?_
    by_cases w2 : G.1 6 p.toNatClampNeg - G.1 4 p.toNatClampNeg < 0
    · refine br_t (by rw [zk_0, zi_lt (by omega) (by omega) (by omega) (by omega)]; exact w2) ?_
      exact k260 0 ⟨fun h => absurd rfl h, fun h => by omega⟩
    · refine br_f (by rw [zk_0, zi_lt (by omega) (by omega) (by omega) (by omega)]; exact w2) ?_
      exact k260 1 ⟨fun h => ⟨hcl.2.mpr w, by omega⟩, fun h => by decide⟩
  · refine br_t rfl ?_
    exact k260 0 ⟨fun h => absurd rfl h, fun h => absurd (hcl.2.mp h.1) w⟩
theorem vx_step {q : Int} {G G1 : gm_T} {f_now : Int32} {f_sent : Int32} {a_stateOf : (Nat → Int32)} {a_error : (Nat → Int32)} {a_iss : (Nat → Int32)} {a_una : (Nat → Int32)} {a_nxt : (Nat → Int32)} {a_max : (Nat → Int32)} {a_writtenTo : (Nat → Int32)} {a_kept : (Nat → Int32)} {a_keptBytes : (Nat → Int32)} {a_rcv : (Nat → Int32)} {a_unread : (Nat → Int32)} {a_unreadFrom : (Nat → Int32)} {a_cameBytes : (Nat → Int32)} {a_held : (Nat → Int32)} {a_heldFin : (Nat → Int32)} {a_wnd : (Nat → Int32)} {a_wndSeq : (Nat → Int32)} {a_wndAck : (Nat → Int32)} {a_peak : (Nat → Int32)} {a_half : (Nat → Int32)} {a_same : (Nat → Int32)} {a_rto : (Nat → Int32)} {a_tries : (Nat → Int32)} {a_retryAt : (Nat → Int32)} {a_ackAt : (Nat → Int32)} {a_waitTill : (Nat → Int32)} {a_timedAt : (Nat → Int32)} {a_timedSeq : (Nat → Int32)} {a_smoothed : (Nat → Int32)} {a_variance : (Nat → Int32)} {a_rowCount : (Nat → Int32)} {a_slotSeq : (Nat → Int32)} {a_slotFlags : (Nat → Int32)} {a_slotAck : (Nat → Int32)} {a_slotWindow : (Nat → Int32)} {a_slotSize : (Nat → Int32)} {a_slotBytes : (Nat → Int32)} {p : Int32} {y : Int32} {z : Int} (hv : vx_S q G1 (f_now, f_sent, a_stateOf, a_error, a_iss, a_una, a_nxt, a_max, a_writtenTo, a_kept, a_keptBytes, a_rcv, a_unread, a_unreadFrom, a_cameBytes, a_held, a_heldFin, a_wnd, a_wndSeq, a_wndAck, a_peak, a_half, a_same, a_rto, a_tries, a_retryAt, a_ackAt, a_waitTill, a_timedAt, a_timedSeq, a_smoothed, a_variance, a_rowCount, a_slotSeq, a_slotFlags, a_slotAck, a_slotWindow, a_slotSize, a_slotBytes)) (hy : y = zi_n ((G1.1 2 p.toNatClampNeg + z) % 65536)) : vx_S q (gp_put G1 4 p.toNatClampNeg z) (f_now, f_sent, a_stateOf, a_error, a_iss, a_una, upd a_nxt p.toNatClampNeg y, a_max, a_writtenTo, a_kept, a_keptBytes, a_rcv, a_unread, a_unreadFrom, a_cameBytes, a_held, a_heldFin, a_wnd, a_wndSeq, a_wndAck, a_peak, a_half, a_same, a_rto, a_tries, a_retryAt, a_ackAt, a_waitTill, a_timedAt, a_timedSeq, a_smoothed, a_variance, a_rowCount, a_slotSeq, a_slotFlags, a_slotAck, a_slotWindow, a_slotSize, a_slotBytes) := by
  obtain ⟨h_now, h_sent, h_stateOf, h_error, h_iss, h_una, h_nxt, h_max, h_writtenTo, h_kept, h_keptBytes, h_rcv, h_unread, h_unreadFrom, h_cameBytes, h_held, h_heldFin, h_wnd, h_wndSeq, h_wndAck, h_peak, h_half, h_same, h_rto, h_tries, h_retryAt, h_ackAt, h_waitTill, h_timedAt, h_timedSeq, h_smoothed, h_variance, h_rowCount, h_slotSeq, h_slotFlags, h_slotAck, h_slotWindow, h_slotSize, h_slotBytes⟩ := hv
  refine (vx_mk h_now h_sent h_stateOf h_error h_iss h_una (vu_e h_nxt ?_ (fun e' q => ?_)) h_max h_writtenTo h_kept h_keptBytes h_rcv h_unread h_unreadFrom h_cameBytes h_held h_heldFin h_wnd h_wndSeq h_wndAck h_peak h_half h_same h_rto h_tries h_retryAt h_ackAt h_waitTill h_timedAt h_timedSeq h_smoothed h_variance h_rowCount h_slotSeq h_slotFlags h_slotAck h_slotWindow h_slotSize h_slotBytes)
  · show _ = zi_n ((G1.1 2 p.toNatClampNeg + gs_c _ _ _ _ _ _) % 65536)
    rw [gs_s]; exact hy
  · show (G1.1 2 e' + gs_c _ _ _ _ _ _) % 65536 = _
    rw [gs_e q]
theorem xf_49 {q K : Int} {p x2 : Int32} {P : SX → Prop} (hp : vp_in p 2) : ∀ (k f r : Nat) (G : gm_T) (f_now : Int32) (f_sent : Int32) (a_stateOf : (Nat → Int32)) (a_error : (Nat → Int32)) (a_iss : (Nat → Int32)) (a_una : (Nat → Int32)) (a_nxt : (Nat → Int32)) (a_max : (Nat → Int32)) (a_writtenTo : (Nat → Int32)) (a_kept : (Nat → Int32)) (a_keptBytes : (Nat → Int32)) (a_rcv : (Nat → Int32)) (a_unread : (Nat → Int32)) (a_unreadFrom : (Nat → Int32)) (a_cameBytes : (Nat → Int32)) (a_held : (Nat → Int32)) (a_heldFin : (Nat → Int32)) (a_wnd : (Nat → Int32)) (a_wndSeq : (Nat → Int32)) (a_wndAck : (Nat → Int32)) (a_peak : (Nat → Int32)) (a_half : (Nat → Int32)) (a_same : (Nat → Int32)) (a_rto : (Nat → Int32)) (a_tries : (Nat → Int32)) (a_retryAt : (Nat → Int32)) (a_ackAt : (Nat → Int32)) (a_waitTill : (Nat → Int32)) (a_timedAt : (Nat → Int32)) (a_timedSeq : (Nat → Int32)) (a_smoothed : (Nat → Int32)) (a_variance : (Nat → Int32)) (a_rowCount : (Nat → Int32)) (a_slotSeq : (Nat → Int32)) (a_slotFlags : (Nat → Int32)) (a_slotAck : (Nat → Int32)) (a_slotWindow : (Nat → Int32)) (a_slotSize : (Nat → Int32)) (a_slotBytes : (Nat → Int32)), r + k = 33 → k + 1 < f → vx_S q G (f_now, f_sent, a_stateOf, a_error, a_iss, a_una, a_nxt, a_max, a_writtenTo, a_kept, a_keptBytes, a_rcv, a_unread, a_unreadFrom, a_cameBytes, a_held, a_heldFin, a_wnd, a_wndSeq, a_wndAck, a_peak, a_half, a_same, a_rto, a_tries, a_retryAt, a_ackAt, a_waitTill, a_timedAt, a_timedSeq, a_smoothed, a_variance, a_rowCount, a_slotSeq, a_slotFlags, a_slotAck, a_slotWindow, a_slotSize, a_slotBytes) → gv_I K G → 4 ≤ G.1 0 p.toNatClampNeg → x2 = zi_n (min (G.1 12 p.toNatClampNeg) (G.1 16 p.toNatClampNeg)) → (∀ u', vx_S q (gp_rest (gp_fin (gp_loop k G p.toNatClampNeg) p.toNatClampNeg) p.toNatClampNeg) u' → P u') → wX_flow_49 P p x2 f 1 (nI r) f_now f_sent a_stateOf a_error a_iss a_una a_nxt a_max a_writtenTo a_kept a_keptBytes a_rcv a_unread a_unreadFrom a_cameBytes a_held a_heldFin a_wnd a_wndSeq a_wndAck a_peak a_half a_same a_rto a_tries a_retryAt a_ackAt a_waitTill a_timedAt a_timedSeq a_smoothed a_variance a_rowCount a_slotSeq a_slotFlags a_slotAck a_slotWindow a_slotSize a_slotBytes := by
  have he := pe_lt hp
  intro k
  induction k with
  | zero =>
    intro f r G f_now f_sent a_stateOf a_error a_iss a_una a_nxt a_max a_writtenTo a_kept a_keptBytes a_rcv a_unread a_unreadFrom a_cameBytes a_held a_heldFin a_wnd a_wndSeq a_wndAck a_peak a_half a_same a_rto a_tries a_retryAt a_ackAt a_waitTill a_timedAt a_timedSeq a_smoothed a_variance a_rowCount a_slotSeq a_slotFlags a_slotAck a_slotWindow a_slotSize a_slotBytes hr hf hv hI h4 hx2 hP
    obtain ⟨f, rfl⟩ : ∃ g, f = g + 1 := ⟨f - 1, by omega⟩
    obtain rfl : r = 33 := by omega
    exact br_t (by decide) (xf_202 hv hI hp h4 hx2 hP)
  | succ k ih =>
    intro f r G f_now f_sent a_stateOf a_error a_iss a_una a_nxt a_max a_writtenTo a_kept a_keptBytes a_rcv a_unread a_unreadFrom a_cameBytes a_held a_heldFin a_wnd a_wndSeq a_wndAck a_peak a_half a_same a_rto a_tries a_retryAt a_ackAt a_waitTill a_timedAt a_timedSeq a_smoothed a_variance a_rowCount a_slotSeq a_slotFlags a_slotAck a_slotWindow a_slotSize a_slotBytes hr hf hv hI h4 hx2 hP
    obtain ⟨f, rfl⟩ : ∃ g, f = g + 1 := ⟨f - 1, by omega⟩
    have hv0 := hv
    obtain ⟨h_now, h_sent, h_stateOf, h_error, h_iss, h_una, h_nxt, h_max, h_writtenTo, h_kept, h_keptBytes, h_rcv, h_unread, h_unreadFrom, h_cameBytes, h_held, h_heldFin, h_wnd, h_wndSeq, h_wndAck, h_peak, h_half, h_same, h_rto, h_tries, h_retryAt, h_ackAt, h_waitTill, h_timedAt, h_timedSeq, h_smoothed, h_variance, h_rowCount, h_slotSeq, h_slotFlags, h_slotAck, h_slotWindow, h_slotSize, h_slotBytes⟩ := hv0
    obtain ⟨b1, b2, b3, b4, b5, b6⟩ := hI.2.2.2.2.1 _ he
    have n2 := hI.2.1
    unfold gv_p at b2
    unfold gv_c at b3
    have hu := (b2.2.2.2.2.1 h4)
    have hcl := b2.2.2.2.2.2.2.2
    have hk := b2.2.2.2.2.2.1
    have hl1 := b2.1 (by omega)
    have hnn : gp_nn G p.toNatClampNeg = min (min (G.1 6 p.toNatClampNeg - G.1 4 p.toNatClampNeg) (min (G.1 12 p.toNatClampNeg) (G.1 16 p.toNatClampNeg) - (G.1 4 p.toNatClampNeg - G.1 3 p.toNatClampNeg))) 8 := rfl
    have hnb : -200 ≤ gp_nn G p.toNatClampNeg ∧ gp_nn G p.toNatClampNeg ≤ 8 ∧ gp_nn G p.toNatClampNeg ≤ G.1 6 p.toNatClampNeg - G.1 4 p.toNatClampNeg := by omega
    have k160 : ∀ z : Int32, ((gp_nn G p.toNatClampNeg = 8 ∨ (0 < gp_nn G p.toNatClampNeg ∧ G.1 4 p.toNatClampNeg = G.1 3 p.toNatClampNeg)) ∧ z = 1) ∨ (¬ (gp_nn G p.toNatClampNeg = 8 ∨ (0 < gp_nn G p.toNatClampNeg ∧ G.1 4 p.toNatClampNeg = G.1 3 p.toNatClampNeg)) ∧ z = 0) → wX_flow_160 P (wX_flow_49 P p x2 f) p x2 (nI r) (zi_n (gp_nn G p.toNatClampNeg)) z f_now f_sent a_stateOf a_error a_iss a_una a_nxt a_max a_writtenTo a_kept a_keptBytes a_rcv a_unread a_unreadFrom a_cameBytes a_held a_heldFin a_wnd a_wndSeq a_wndAck a_peak a_half a_same a_rto a_tries a_retryAt a_ackAt a_waitTill a_timedAt a_timedSeq a_smoothed a_variance a_rowCount a_slotSeq a_slotFlags a_slotAck a_slotWindow a_slotSize a_slotBytes := by
      intro z hz
      unfold wX_flow_160
      rcases hz with ⟨hc, hz⟩ | ⟨hc, hz⟩
      · have hlo : gp_loop (k + 1) G p.toNatClampNeg = gp_loop k (gp_step G p.toNatClampNeg) p.toNatClampNeg := by
          show (if _ then _ else _) = _
          exact if_pos hc
        rw [hlo] at hP
        refine br_f (by rw [hz]; decide) ⟨hp, ?_⟩
        refine xl_send hv hp (h_nxt _ he) zk_0 rfl (sk_of hI he (by omega) (Or.inl rfl) (by omega) (by omega) (by omega) (by omega) (fun _ => ⟨h4, by omega, by omega⟩)) fun u1 hv1 => ?_
        have hIs := iv_step hI he h4 (by omega)
        obtain ⟨f_now, f_sent, a_stateOf, a_error, a_iss, a_una, a_nxt, a_max, a_writtenTo, a_kept, a_keptBytes, a_rcv, a_unread, a_unreadFrom, a_cameBytes, a_held, a_heldFin, a_wnd, a_wndSeq, a_wndAck, a_peak, a_half, a_same, a_rto, a_tries, a_retryAt, a_ackAt, a_waitTill, a_timedAt, a_timedSeq, a_smoothed, a_variance, a_rowCount, a_slotSeq, a_slotFlags, a_slotAck, a_slotWindow, a_slotSize, a_slotBytes⟩ := u1
        have hv2 := hv1
        clear h_nxt
        obtain ⟨h_now, h_sent, h_stateOf, h_error, h_iss, h_una, h_nxt, h_max, h_writtenTo, h_kept, h_keptBytes, h_rcv, h_unread, h_unreadFrom, h_cameBytes, h_held, h_heldFin, h_wnd, h_wndSeq, h_wndAck, h_peak, h_half, h_same, h_rto, h_tries, h_retryAt, h_ackAt, h_waitTill, h_timedAt, h_timedSeq, h_smoothed, h_variance, h_rowCount, h_slotSeq, h_slotFlags, h_slotAck, h_slotWindow, h_slotSize, h_slotBytes⟩ := hv2
        have hN1 : (gp_send G p.toNatClampNeg (G.1 4 p.toNatClampNeg) 0 (gp_nn G p.toNatClampNeg)).1 4 p.toNatClampNeg = G.1 4 p.toNatClampNeg := sd_f (by decide) (by decide) (by decide) (by decide) (by decide) (by decide)
        refine ⟨hp, xl_behind (h_nxt _ he) rfl ⟨hp, nm_e (nm_r (nI_1 r) ?_)⟩⟩
        rw [hz]
        refine ih f (r + 1) (gp_step G p.toNatClampNeg) f_now f_sent a_stateOf a_error a_iss a_una (upd a_nxt p.toNatClampNeg _) a_max a_writtenTo a_kept a_keptBytes a_rcv a_unread a_unreadFrom a_cameBytes a_held a_heldFin a_wnd a_wndSeq a_wndAck a_peak a_half a_same a_rto a_tries a_retryAt a_ackAt a_waitTill a_timedAt a_timedSeq a_smoothed a_variance a_rowCount a_slotSeq a_slotFlags a_slotAck a_slotWindow a_slotSize a_slotBytes (by omega) (by omega) ?_ hIs ?_ ?_ hP
        · exact vx_step (G := G) hv1 (by rw [hN1]; congr 1; omega)
        · rw [st_f (by decide) (by decide) (by decide) (by decide) (by decide) (by decide) (by decide)]; exact h4
        · rw [st_f (by decide) (by decide) (by decide) (by decide) (by decide) (by decide) (by decide), st_f (by decide) (by decide) (by decide) (by decide) (by decide) (by decide) (by decide)]; exact hx2
      · have hlo : gp_loop (k + 1) G p.toNatClampNeg = G := by
          show (if _ then _ else _) = _
          exact if_neg hc
        rw [hlo] at hP
        refine br_t hz (nm_e ?_)
        obtain ⟨f, rfl⟩ : ∃ g, f = g + 1 := ⟨f - 1, by omega⟩
        rw [nI_1, hz]
        by_cases w : r + 1 = 33
        · exact br_t (by rw [w]; decide) (xf_202 hv hI hp h4 hx2 hP)
        · exact br_f (by rw [zk_32, zi_nI, zi_lt (by omega) (by omega) (by omega) (by omega)]; omega) (br_t rfl (xf_202 hv hI hp h4 hx2 hP))
    have k126 : wX_flow_126 P (wX_flow_49 P p x2 f) p x2 (nI r) (zi_n (gp_nn G p.toNatClampNeg)) f_now f_sent a_stateOf a_error a_iss a_una a_nxt a_max a_writtenTo a_kept a_keptBytes a_rcv a_unread a_unreadFrom a_cameBytes a_held a_heldFin a_wnd a_wndSeq a_wndAck a_peak a_half a_same a_rto a_tries a_retryAt a_ackAt a_waitTill a_timedAt a_timedSeq a_smoothed a_variance a_rowCount a_slotSeq a_slotFlags a_slotAck a_slotWindow a_slotSize a_slotBytes := by
      unfold wX_flow_126
      by_cases w : gp_nn G p.toNatClampNeg = 8
      · exact br_t (by rw [w]; rfl) (k160 1 (Or.inl ⟨Or.inl w, rfl⟩))
      · refine br_f (by rw [zk_8, zi_eq (by omega) (by omega) (by omega) (by omega)]; exact w) ?_
        by_cases w2 : gp_nn G p.toNatClampNeg ≤ 0
        · exact br_t (by rw [zk_0, zi_le (by omega) (by omega) (by omega) (by omega)]; exact w2) (k160 0 (Or.inr ⟨by omega, rfl⟩))
        · refine br_f (by rw [zk_0, zi_le (by omega) (by omega) (by omega) (by omega)]; exact w2) ⟨hp, hp, ?_⟩
          by_cases w3 : G.1 4 p.toNatClampNeg = G.1 3 p.toNatClampNeg
          · exact br_t (by rw [h_nxt _ he, h_una _ he, w3]) (k160 1 (Or.inl ⟨Or.inr ⟨by omega, w3⟩, rfl⟩))
          · exact br_f (by rw [h_nxt _ he, h_una _ he, zi_eq (by omega) (by omega) (by omega) (by omega)]; omega) (k160 0 (Or.inr ⟨by omega, rfl⟩))
    have k110 : ∀ t : Int, t = min (G.1 6 p.toNatClampNeg - G.1 4 p.toNatClampNeg) (min (G.1 12 p.toNatClampNeg) (G.1 16 p.toNatClampNeg) - (G.1 4 p.toNatClampNeg - G.1 3 p.toNatClampNeg)) → wX_flow_110 P (wX_flow_49 P p x2 f) p x2 (nI r) (zi_n t) f_now f_sent a_stateOf a_error a_iss a_una a_nxt a_max a_writtenTo a_kept a_keptBytes a_rcv a_unread a_unreadFrom a_cameBytes a_held a_heldFin a_wnd a_wndSeq a_wndAck a_peak a_half a_same a_rto a_tries a_retryAt a_ackAt a_waitTill a_timedAt a_timedSeq a_smoothed a_variance a_rowCount a_slotSeq a_slotFlags a_slotAck a_slotWindow a_slotSize a_slotBytes := by
      intro t ht
      unfold wX_flow_110
      by_cases w : 8 ≤ t
      · refine br_t (by rw [zk_8, zi_le (by omega) (by omega) (by omega) (by omega)]; exact w) ?_
        rw [zk_8, show (8 : Int) = gp_nn G p.toNatClampNeg from by omega]; exact k126
      · refine br_f (by rw [zk_8, zi_le (by omega) (by omega) (by omega) (by omega)]; exact w) ?_
        rw [show t = gp_nn G p.toNatClampNeg from by omega]; exact k126
    refine br_f (by rw [zk_32, zi_nI, zi_lt (by omega) (by omega) (by omega) (by omega)]; omega) (br_f (by decide) ⟨hp, hp, ?_⟩)
    refine xl_off (h_nxt _ he) (h_una _ he) (by omega) (by omega) (nm_r (e' := zi_n (min (G.1 12 p.toNatClampNeg) (G.1 16 p.toNatClampNeg) - (G.1 4 p.toNatClampNeg - G.1 3 p.toNatClampNeg))) (by rw [hx2, zi_sub]) ⟨hp, hp, xl_off (h_writtenTo _ he) (h_nxt _ he) (by omega) (by omega) ?_⟩)
    by_cases w : min (G.1 12 p.toNatClampNeg) (G.1 16 p.toNatClampNeg) - (G.1 4 p.toNatClampNeg - G.1 3 p.toNatClampNeg) ≤ G.1 6 p.toNatClampNeg - G.1 4 p.toNatClampNeg
    · exact br_t (by rw [zi_le (by omega) (by omega) (by omega) (by omega)]; exact w) (k110 _ (by omega))
    · exact br_f (by rw [zi_le (by omega) (by omega) (by omega) (by omega)]; exact w) (k110 _ (by omega))
theorem xl_flow {q K : Int} {G : gm_T} {u : SX} {p : Int32} {P : SX → Prop} (hv : vx_S q G u) (hI : gv_I K G) (hp : vp_in p 2) (hP : ∀ u', vx_S q (gp_flow G p.toNatClampNeg) u' → P u') : wpX_flow P u p := by
  obtain ⟨f_now, f_sent, a_stateOf, a_error, a_iss, a_una, a_nxt, a_max, a_writtenTo, a_kept, a_keptBytes, a_rcv, a_unread, a_unreadFrom, a_cameBytes, a_held, a_heldFin, a_wnd, a_wndSeq, a_wndAck, a_peak, a_half, a_same, a_rto, a_tries, a_retryAt, a_ackAt, a_waitTill, a_timedAt, a_timedSeq, a_smoothed, a_variance, a_rowCount, a_slotSeq, a_slotFlags, a_slotAck, a_slotWindow, a_slotSize, a_slotBytes⟩ := u
  have hv0 := hv
  obtain ⟨h_now, h_sent, h_stateOf, h_error, h_iss, h_una, h_nxt, h_max, h_writtenTo, h_kept, h_keptBytes, h_rcv, h_unread, h_unreadFrom, h_cameBytes, h_held, h_heldFin, h_wnd, h_wndSeq, h_wndAck, h_peak, h_half, h_same, h_rto, h_tries, h_retryAt, h_ackAt, h_waitTill, h_timedAt, h_timedSeq, h_smoothed, h_variance, h_rowCount, h_slotSeq, h_slotFlags, h_slotAck, h_slotWindow, h_slotSize, h_slotBytes⟩ := hv0
  have he := pe_lt hp
  obtain ⟨b1, b2, b3, b4, b5, b6⟩ := hI.2.2.2.2.1 _ he
  unfold gv_a at b1
  unfold gv_c at b3
  unfold wpX_flow
  refine ⟨hp, xl_maySend (h_stateOf _ he) (by omega) (by omega) (fun w => ?_) (fun w => ?_)⟩
  · have hfl : gp_flow G p.toNatClampNeg = gp_rest (gp_fin (gp_loop 33 G p.toNatClampNeg) p.toNatClampNeg) p.toNatClampNeg := if_pos w
    rw [hfl] at hP
    refine br_f (by decide) ⟨hp, hp, ?_⟩
    by_cases w2 : G.1 16 p.toNatClampNeg ≤ G.1 12 p.toNatClampNeg
    · refine br_t (by rw [h_peak _ he, h_wnd _ he, zi_le (by omega) (by omega) (by omega) (by omega)]; exact w2) ⟨hp, nm_r (e' := zi_n (min (G.1 12 p.toNatClampNeg) (G.1 16 p.toNatClampNeg))) (by rw [h_peak _ he]; congr 1; omega) ⟨35, ?_⟩⟩
      exact xf_49 hp 33 35 0 G f_now f_sent a_stateOf a_error a_iss a_una a_nxt a_max a_writtenTo a_kept a_keptBytes a_rcv a_unread a_unreadFrom a_cameBytes a_held a_heldFin a_wnd a_wndSeq a_wndAck a_peak a_half a_same a_rto a_tries a_retryAt a_ackAt a_waitTill a_timedAt a_timedSeq a_smoothed a_variance a_rowCount a_slotSeq a_slotFlags a_slotAck a_slotWindow a_slotSize a_slotBytes rfl (by omega) hv hI (by omega) rfl hP
    · refine br_f (by rw [h_peak _ he, h_wnd _ he, zi_le (by omega) (by omega) (by omega) (by omega)]; exact w2) ⟨hp, nm_r (e' := zi_n (min (G.1 12 p.toNatClampNeg) (G.1 16 p.toNatClampNeg))) (by rw [h_wnd _ he]; congr 1; omega) ⟨35, ?_⟩⟩
      exact xf_49 hp 33 35 0 G f_now f_sent a_stateOf a_error a_iss a_una a_nxt a_max a_writtenTo a_kept a_keptBytes a_rcv a_unread a_unreadFrom a_cameBytes a_held a_heldFin a_wnd a_wndSeq a_wndAck a_peak a_half a_same a_rto a_tries a_retryAt a_ackAt a_waitTill a_timedAt a_timedSeq a_smoothed a_variance a_rowCount a_slotSeq a_slotFlags a_slotAck a_slotWindow a_slotSize a_slotBytes rfl (by omega) hv hI (by omega) rfl hP
  · have hfl : gp_flow G p.toNatClampNeg = G := if_neg w
    rw [hfl] at hP
    exact br_t rfl (hP _ hv)
