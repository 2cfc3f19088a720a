/-! the class: measured; acknowledgements -/
def mq_ok (G : gm_T) (e : Nat) : Prop := 0 ≤ G.1 24 e ∧ 0 ≤ gm_N G ∧ gm_N G ≤ 1000000 ∧ 0 ≤ G.1 25 e ∧ G.1 25 e ≤ gm_N G ∧ (G.1 26 e = 0 ∨ G.1 26 e = 1) ∧ (G.1 26 e = 1 → 0 ≤ G.1 27 e ∧ G.1 27 e ≤ 8 * gm_N G) ∧ 0 ≤ G.1 28 e ∧ G.1 28 e ≤ 4 * gm_N G + 3
theorem mq_r {G : gm_T} {e : Nat} (h : mq_ok G e) : (0 ≤ gp_so G e ∧ gp_so G e ≤ 8000000) ∧ (0 ≤ gp_va G e ∧ gp_va G e ≤ 8000000) := by
  obtain ⟨h1, h2, h3, h4, h5, h6, h7, h8, h9⟩ := h
  refine ⟨?_, ?_⟩
  · unfold gp_so; split <;> omega
  · unfold gp_va; split <;> (try split) <;> omega
theorem mq_of {K : Int} {G : gm_T} {e : Nat} (hI : gv_I K G) (he : e < 2) (ht : 0 ≤ G.1 24 e) : mq_ok G e := by
  obtain ⟨a1, a2, a3, a4, a5, a6, a7, a8⟩ := hI
  obtain ⟨b1, b2, b3, b4, b5, b6⟩ := a5 e he
  unfold gv_t at b5
  have := b5.2.1 ht
  exact ⟨ht, a3, by omega, by omega, by omega, b5.2.2.1, b5.2.2.2.1, b5.2.2.2.2.1, b5.2.2.2.2.2⟩
theorem xm_94 {P : SX → Prop} {f_now : Int32} {f_sent : Int32} {a_stateOf : (Nat → Int32)} {a_error : (Nat → Int32)} {a_iss : (Nat → Int32)} {a_una : (Nat → Int32)} {a_nxt : (Nat → Int32)} {a_max : (Nat → Int32)} {a_writtenTo : (Nat → Int32)} {a_kept : (Nat → Int32)} {a_keptBytes : (Nat → Int32)} {a_rcv : (Nat → Int32)} {a_unread : (Nat → Int32)} {a_unreadFrom : (Nat → Int32)} {a_cameBytes : (Nat → Int32)} {a_held : (Nat → Int32)} {a_heldFin : (Nat → Int32)} {a_wnd : (Nat → Int32)} {a_wndSeq : (Nat → Int32)} {a_wndAck : (Nat → Int32)} {a_peak : (Nat → Int32)} {a_half : (Nat → Int32)} {a_same : (Nat → Int32)} {a_rto : (Nat → Int32)} {a_tries : (Nat → Int32)} {a_retryAt : (Nat → Int32)} {a_ackAt : (Nat → Int32)} {a_waitTill : (Nat → Int32)} {a_timedAt : (Nat → Int32)} {a_timedSeq : (Nat → Int32)} {a_smoothed : (Nat → Int32)} {a_variance : (Nat → Int32)} {a_rowCount : (Nat → Int32)} {a_slotSeq : (Nat → Int32)} {a_slotFlags : (Nat → Int32)} {a_slotAck : (Nat → Int32)} {a_slotWindow : (Nat → Int32)} {a_slotSize : (Nat → Int32)} {a_slotBytes : (Nat → Int32)} {p : Int32} {so va : Int} (hp : vp_in p 2) (hs : a_smoothed p.toNatClampNeg = zi_n so) (hva : a_variance p.toNatClampNeg = zi_n va) (h0 : 0 ≤ so) (h1 : so ≤ 8000000) (h2 : 0 ≤ va) (h3 : va ≤ 8000000) (hP : P (f_now, f_sent, a_stateOf, a_error, a_iss, a_una, a_nxt, a_max, a_writtenTo, a_kept, a_keptBytes, a_rcv, a_unread, a_unreadFrom, a_cameBytes, a_held, a_heldFin, a_wnd, a_wndSeq, a_wndAck, a_peak, a_half, a_same, upd a_rto p.toNatClampNeg (zi_n (if so / 8 + va < 2 then 2 else if 64 < so / 8 + va then 64 else so / 8 + va)), a_tries, a_retryAt, a_ackAt, a_waitTill, upd a_timedAt p.toNatClampNeg (-1), a_timedSeq, a_smoothed, a_variance, a_rowCount, a_slotSeq, a_slotFlags, a_slotAck, a_slotWindow, a_slotSize, a_slotBytes)) : wX_measure_94 P p f_now f_sent a_stateOf a_error a_iss a_una a_nxt a_max a_writtenTo a_kept a_keptBytes a_rcv a_unread a_unreadFrom a_cameBytes a_held a_heldFin a_wnd a_wndSeq a_wndAck a_peak a_half a_same a_rto a_tries a_retryAt a_ackAt a_waitTill a_timedAt a_timedSeq a_smoothed a_variance a_rowCount a_slotSeq a_slotFlags a_slotAck a_slotWindow a_slotSize a_slotBytes := by
  unfold wX_measure_94
  refine ⟨hp, by decide, hp, nm_r (e' := zi_n (so / 8 + va)) (by rw [hs, hva, zk_8, zi_div h0 (by omega) (by omega) (by omega), zi_add]) ?_⟩
  by_cases w : 64 ≤ so / 8 + va
  · refine br_t (by rw [zk_64, zi_le (by omega) (by omega) (by omega) (by omega)]; exact w) ?_
    unfold wX_measure_123
    refine br_f (by decide) ⟨hp, nm_e ⟨hp, nm_e ?_⟩⟩
    have : (64 : Int32) = zi_n (if so / 8 + va < 2 then 2 else if 64 < so / 8 + va then 64 else so / 8 + va) := by
      rw [zk_64]; congr 1; split <;> (try split) <;> omega
    rw [this]; exact hP
  · refine br_f (by rw [zk_64, zi_le (by omega) (by omega) (by omega) (by omega)]; exact w) ?_
    unfold wX_measure_123
    by_cases w2 : so / 8 + va ≤ 2
    · refine br_t (by rw [zk_2, zi_le (by omega) (by omega) (by omega) (by omega)]; exact w2) ⟨hp, nm_e ⟨hp, nm_e ?_⟩⟩
      have : (2 : Int32) = zi_n (if so / 8 + va < 2 then 2 else if 64 < so / 8 + va then 64 else so / 8 + va) := by
        rw [zk_2]; congr 1; split <;> (try split) <;> omega
      rw [this]; exact hP
    · refine br_f (by rw [zk_2, zi_le (by omega) (by omega) (by omega) (by omega)]; exact w2) ⟨hp, nm_e ⟨hp, nm_e ?_⟩⟩
      have : so / 8 + va = (if so / 8 + va < 2 then 2 else if 64 < so / 8 + va then 64 else so / 8 + va) := by
        split <;> (try split) <;> omega
      rw [this]; exact hP
theorem xl_measure {q : Int} {G : gm_T} {u : SX} {p : Int32} {P : SX → Prop} (hv : vx_S q G u) (hp : vp_in p 2) (ok : mq_ok G p.toNatClampNeg) (hP : ∀ u', vx_S q (gp_meas G p.toNatClampNeg) u' → P u') : wpX_measure P u p := by
  obtain ⟨f_now, f_sent, a_stateOf, a_error, a_iss, a_una, a_nxt, a_max, a_writtenTo, a_kept, a_keptBytes, a_rcv, a_unread, a_unreadFrom, a_cameBytes, a_held, a_heldFin, a_wnd, a_wndSeq, a_wndAck, a_peak, a_half, a_same, a_rto, a_tries, a_retryAt, a_ackAt, a_waitTill, a_timedAt, a_timedSeq, a_smoothed, a_variance, a_rowCount, a_slotSeq, a_slotFlags, a_slotAck, a_slotWindow, a_slotSize, a_slotBytes⟩ := u
  obtain ⟨h_now, h_sent, h_stateOf, h_error, h_iss, h_una, h_nxt, h_max, h_writtenTo, h_kept, h_keptBytes, h_rcv, h_unread, h_unreadFrom, h_cameBytes, h_held, h_heldFin, h_wnd, h_wndSeq, h_wndAck, h_peak, h_half, h_same, h_rto, h_tries, h_retryAt, h_ackAt, h_waitTill, h_timedAt, h_timedSeq, h_smoothed, h_variance, h_rowCount, h_slotSeq, h_slotFlags, h_slotAck, h_slotWindow, h_slotSize, h_slotBytes⟩ := hv
  have he := pe_lt hp
  obtain ⟨⟨r1, r2⟩, r3, r4⟩ := mq_r ok
  obtain ⟨k1, k2, k3, k4, k5, k6, k7, k8, k9⟩ := ok
  have fin : P (f_now, f_sent, a_stateOf, a_error, a_iss, a_una, a_nxt, a_max, a_writtenTo, a_kept, a_keptBytes, a_rcv, a_unread, a_unreadFrom, a_cameBytes, a_held, a_heldFin, a_wnd, a_wndSeq, a_wndAck, a_peak, a_half, a_same, upd a_rto p.toNatClampNeg (zi_n (gp_rt G p.toNatClampNeg)), a_tries, a_retryAt, a_ackAt, a_waitTill, upd a_timedAt p.toNatClampNeg (-1), a_timedSeq, upd a_smoothed p.toNatClampNeg (zi_n (gp_so G p.toNatClampNeg)), upd a_variance p.toNatClampNeg (zi_n (gp_va G p.toNatClampNeg)), a_rowCount, a_slotSeq, a_slotFlags, a_slotAck, a_slotWindow, a_slotSize, a_slotBytes) := by
    refine hP _ ?_
    generalize p.toNatClampNeg = e at *
    refine (vx_mk h_now h_sent h_stateOf h_error h_iss h_una h_nxt h_max h_writtenTo h_kept h_keptBytes h_rcv h_unread h_unreadFrom h_cameBytes h_held h_heldFin h_wnd h_wndSeq h_wndAck h_peak h_half h_same (vu_e h_rto ?a3 (fun e' q => ms_o q _)) h_tries h_retryAt h_ackAt h_waitTill (vu_e h_timedAt ?a4 (fun e' q => by simp only [ms_o q])) (fun e' he' z => ?a5) (vu_e h_smoothed ?a1 (fun e' q => by simp only [ms_o q])) (vu_e h_variance ?a2 (fun e' q => ms_o q _)) h_rowCount h_slotSeq h_slotFlags h_slotAck h_slotWindow h_slotSize h_slotBytes)
    case a1 => simp +decide only [gp_meas, gs_s, gs_f] <;> rfl
    case a2 => simp +decide only [gp_meas, gs_s, gs_f] <;> rfl
    case a3 => simp +decide only [gp_meas, gs_s, gs_f] <;> rfl
    case a4 => simp +decide only [gp_meas, gs_s, gs_f] <;> rfl
    case a5 =>
      by_cases q : e' = e
      · subst q; simp +decide only [gp_meas, gs_s, gs_f] at z <;> omega
      · simp only [ms_o q] at z ⊢; exact h_timedSeq e' he' z
  have k94 : wX_measure_94 P p f_now f_sent a_stateOf a_error a_iss a_una a_nxt a_max a_writtenTo a_kept a_keptBytes a_rcv a_unread a_unreadFrom a_cameBytes a_held a_heldFin a_wnd a_wndSeq a_wndAck a_peak a_half a_same a_rto a_tries a_retryAt a_ackAt a_waitTill a_timedAt a_timedSeq (upd a_smoothed p.toNatClampNeg (zi_n (gp_so G p.toNatClampNeg))) (upd a_variance p.toNatClampNeg (zi_n (gp_va G p.toNatClampNeg))) a_rowCount a_slotSeq a_slotFlags a_slotAck a_slotWindow a_slotSize a_slotBytes :=
    xm_94 hp zu_s zu_s r1 r2 r3 r4 fin
  unfold wpX_measure
  refine ⟨hp, nm_r (e' := zi_n (gm_N G - G.1 25 p.toNatClampNeg)) (by rw [h_timedAt _ he, if_neg (by omega), h_now, zi_sub]) ⟨hp, ?_⟩⟩
  rcases k6 with w | w
  · have e1 : gp_so G p.toNatClampNeg = 8 * (gm_N G - G.1 25 p.toNatClampNeg) := by unfold gp_so; rw [if_neg (by omega)]
    have e2 : gp_va G p.toNatClampNeg = 2 * (gm_N G - G.1 25 p.toNatClampNeg) := by unfold gp_va; rw [if_neg (by omega)]
    refine br_t (by rw [h_smoothed _ he, if_pos w]; rfl) ⟨hp, nm_r (e' := upd a_smoothed p.toNatClampNeg (zi_n (gp_so G p.toNatClampNeg))) (by rw [zk_8, zi_mul, e1]) ⟨hp, nm_r (e' := upd a_variance p.toNatClampNeg (zi_n (gp_va G p.toNatClampNeg))) (by rw [zk_2, zi_mul, e2]) k94⟩⟩
  · have k7' := k7 w
    have e1 : gp_so G p.toNatClampNeg = G.1 27 p.toNatClampNeg + ((gm_N G - G.1 25 p.toNatClampNeg) - G.1 27 p.toNatClampNeg / 8) := by unfold gp_so; rw [if_pos w]
    have e2 : gp_va G p.toNatClampNeg = G.1 28 p.toNatClampNeg + ((if (gm_N G - G.1 25 p.toNatClampNeg) - G.1 27 p.toNatClampNeg / 8 < 0 then - ((gm_N G - G.1 25 p.toNatClampNeg) - G.1 27 p.toNatClampNeg / 8) else (gm_N G - G.1 25 p.toNatClampNeg) - G.1 27 p.toNatClampNeg / 8) - G.1 28 p.toNatClampNeg / 4) := by unfold gp_va; rw [if_pos w]
    have hsm : a_smoothed p.toNatClampNeg = zi_n (G.1 27 p.toNatClampNeg) := by rw [h_smoothed _ he, if_neg (by omega)]
    have hva := h_variance _ he
    refine br_f (by rw [hsm, zk_m1, zi_eq (by omega) (by omega) (by omega) (by omega)]; omega) ⟨hp, by decide, nm_r (e' := zi_n ((gm_N G - G.1 25 p.toNatClampNeg) - G.1 27 p.toNatClampNeg / 8)) (by rw [hsm, zk_8, zi_div (by omega) (by omega) (by omega) (by omega), zi_sub]) ⟨hp, hp, nm_r (e' := upd a_smoothed p.toNatClampNeg (zi_n (gp_so G p.toNatClampNeg))) (by rw [hsm, zi_add, e1]) ⟨hp, ?_⟩⟩⟩
    have k83 : ∀ z : Int, z = (if (gm_N G - G.1 25 p.toNatClampNeg) - G.1 27 p.toNatClampNeg / 8 < 0 then - ((gm_N G - G.1 25 p.toNatClampNeg) - G.1 27 p.toNatClampNeg / 8) else (gm_N G - G.1 25 p.toNatClampNeg) - G.1 27 p.toNatClampNeg / 8) → wX_measure_83 P p (zi_n z) (a_variance p.toNatClampNeg) p f_now f_sent a_stateOf a_error a_iss a_una a_nxt a_max a_writtenTo a_kept a_keptBytes a_rcv a_unread a_unreadFrom a_cameBytes a_held a_heldFin a_wnd a_wndSeq a_wndAck a_peak a_half a_same a_rto a_tries a_retryAt a_ackAt a_waitTill a_timedAt a_timedSeq (upd a_smoothed p.toNatClampNeg (zi_n (gp_so G p.toNatClampNeg))) a_variance a_rowCount a_slotSeq a_slotFlags a_slotAck a_slotWindow a_slotSize a_slotBytes := by
      intro z hz
      unfold wX_measure_83
      refine ⟨hp, by decide, hp, nm_r (e' := upd a_variance p.toNatClampNeg (zi_n (gp_va G p.toNatClampNeg))) ?_ k94⟩
      rw [hva, zk_4, zi_div (by omega) (by omega) (by omega) (by omega), zi_sub, zi_add, e2, hz]
    by_cases w2 : 0 ≤ (gm_N G - G.1 25 p.toNatClampNeg) - G.1 27 p.toNatClampNeg / 8
    · exact br_t (by rw [zk_0, zi_le (by omega) (by omega) (by omega) (by omega)]; exact w2) (k83 _ (by rw [if_neg (by omega)]))
    · refine br_f (by rw [zk_0, zi_le (by omega) (by omega) (by omega) (by omega)]; exact w2) ?_
      rw [zi_neg]
      exact k83 _ (by rw [if_pos (by omega)])
theorem xl_widenPeak {P : SX → Prop} {f_now : Int32} {f_sent : Int32} {a_stateOf : (Nat → Int32)} {a_error : (Nat → Int32)} {a_iss : (Nat → Int32)} {a_una : (Nat → Int32)} {a_nxt : (Nat → Int32)} {a_max : (Nat → Int32)} {a_writtenTo : (Nat → Int32)} {a_kept : (Nat → Int32)} {a_keptBytes : (Nat → Int32)} {a_rcv : (Nat → Int32)} {a_unread : (Nat → Int32)} {a_unreadFrom : (Nat → Int32)} {a_cameBytes : (Nat → Int32)} {a_held : (Nat → Int32)} {a_heldFin : (Nat → Int32)} {a_wnd : (Nat → Int32)} {a_wndSeq : (Nat → Int32)} {a_wndAck : (Nat → Int32)} {a_peak : (Nat → Int32)} {a_half : (Nat → Int32)} {a_same : (Nat → Int32)} {a_rto : (Nat → Int32)} {a_tries : (Nat → Int32)} {a_retryAt : (Nat → Int32)} {a_ackAt : (Nat → Int32)} {a_waitTill : (Nat → Int32)} {a_timedAt : (Nat → Int32)} {a_timedSeq : (Nat → Int32)} {a_smoothed : (Nat → Int32)} {a_variance : (Nat → Int32)} {a_rowCount : (Nat → Int32)} {a_slotSeq : (Nat → Int32)} {a_slotFlags : (Nat → Int32)} {a_slotAck : (Nat → Int32)} {a_slotWindow : (Nat → Int32)} {a_slotSize : (Nat → Int32)} {a_slotBytes : (Nat → Int32)} {p x : Int32} {pk st : Int} (hp : vp_in p 2) (hk : a_peak p.toNatClampNeg = zi_n pk) (hx : x = zi_n st) (h0 : 0 ≤ pk) (h1 : pk ≤ 1000) (h2 : 0 ≤ st) (h3 : st ≤ 1000) (hP : P (f_now, f_sent, a_stateOf, a_error, a_iss, a_una, a_nxt, a_max, a_writtenTo, a_kept, a_keptBytes, a_rcv, a_unread, a_unreadFrom, a_cameBytes, a_held, a_heldFin, a_wnd, a_wndSeq, a_wndAck, upd a_peak p.toNatClampNeg (zi_n (min 64 (pk + st))), a_half, a_same, a_rto, a_tries, a_retryAt, a_ackAt, a_waitTill, a_timedAt, a_timedSeq, a_smoothed, a_variance, a_rowCount, a_slotSeq, a_slotFlags, a_slotAck, a_slotWindow, a_slotSize, a_slotBytes)) : wpX_widenPeak P (f_now, f_sent, a_stateOf, a_error, a_iss, a_una, a_nxt, a_max, a_writtenTo, a_kept, a_keptBytes, a_rcv, a_unread, a_unreadFrom, a_cameBytes, a_held, a_heldFin, a_wnd, a_wndSeq, a_wndAck, a_peak, a_half, a_same, a_rto, a_tries, a_retryAt, a_ackAt, a_waitTill, a_timedAt, a_timedSeq, a_smoothed, a_variance, a_rowCount, a_slotSeq, a_slotFlags, a_slotAck, a_slotWindow, a_slotSize, a_slotBytes) p x := by
  unfold wpX_widenPeak
  refine ⟨hp, nm_r (e' := zi_n (pk + st)) (by rw [hk, hx, zi_add]) ?_⟩
  by_cases w : 64 ≤ pk + st
  · refine br_t (by rw [zk_64, zi_le (by omega) (by omega) (by omega) (by omega)]; exact w) ⟨hp, nm_r (e' := upd a_peak p.toNatClampNeg (zi_n (min 64 (pk + st)))) (by rw [zk_64]; congr 2; omega) hP⟩
  · refine br_f (by rw [zk_64, zi_le (by omega) (by omega) (by omega) (by omega)]; exact w) ⟨hp, nm_r (e' := upd a_peak p.toNatClampNeg (zi_n (min 64 (pk + st)))) (by congr 2; omega) hP⟩
theorem xl_growPeak {P : SX → Prop} {f_now : Int32} {f_sent : Int32} {a_stateOf : (Nat → Int32)} {a_error : (Nat → Int32)} {a_iss : (Nat → Int32)} {a_una : (Nat → Int32)} {a_nxt : (Nat → Int32)} {a_max : (Nat → Int32)} {a_writtenTo : (Nat → Int32)} {a_kept : (Nat → Int32)} {a_keptBytes : (Nat → Int32)} {a_rcv : (Nat → Int32)} {a_unread : (Nat → Int32)} {a_unreadFrom : (Nat → Int32)} {a_cameBytes : (Nat → Int32)} {a_held : (Nat → Int32)} {a_heldFin : (Nat → Int32)} {a_wnd : (Nat → Int32)} {a_wndSeq : (Nat → Int32)} {a_wndAck : (Nat → Int32)} {a_peak : (Nat → Int32)} {a_half : (Nat → Int32)} {a_same : (Nat → Int32)} {a_rto : (Nat → Int32)} {a_tries : (Nat → Int32)} {a_retryAt : (Nat → Int32)} {a_ackAt : (Nat → Int32)} {a_waitTill : (Nat → Int32)} {a_timedAt : (Nat → Int32)} {a_timedSeq : (Nat → Int32)} {a_smoothed : (Nat → Int32)} {a_variance : (Nat → Int32)} {a_rowCount : (Nat → Int32)} {a_slotSeq : (Nat → Int32)} {a_slotFlags : (Nat → Int32)} {a_slotAck : (Nat → Int32)} {a_slotWindow : (Nat → Int32)} {a_slotSize : (Nat → Int32)} {a_slotBytes : (Nat → Int32)} {p : Int32} {pk hf sm : Int} (hp : vp_in p 2) (hk : a_peak p.toNatClampNeg = zi_n pk) (hh : a_half p.toNatClampNeg = zi_n hf) (hs : a_same p.toNatClampNeg = zi_n sm) (h0 : 8 ≤ pk) (h1 : pk ≤ 64) (h2 : 8 ≤ hf) (h3 : hf ≤ 64) (h4 : 0 ≤ sm) (h5 : sm ≤ 100000) (hP : P (f_now, f_sent, a_stateOf, a_error, a_iss, a_una, a_nxt, a_max, a_writtenTo, a_kept, a_keptBytes, a_rcv, a_unread, a_unreadFrom, a_cameBytes, a_held, a_heldFin, a_wnd, a_wndSeq, a_wndAck, upd a_peak p.toNatClampNeg (zi_n (if 3 ≤ sm then hf else min 64 (pk + (if pk < hf then 8 else 64 / pk)))), a_half, a_same, a_rto, a_tries, a_retryAt, a_ackAt, a_waitTill, a_timedAt, a_timedSeq, a_smoothed, a_variance, a_rowCount, a_slotSeq, a_slotFlags, a_slotAck, a_slotWindow, a_slotSize, a_slotBytes)) : wpX_growPeak P (f_now, f_sent, a_stateOf, a_error, a_iss, a_una, a_nxt, a_max, a_writtenTo, a_kept, a_keptBytes, a_rcv, a_unread, a_unreadFrom, a_cameBytes, a_held, a_heldFin, a_wnd, a_wndSeq, a_wndAck, a_peak, a_half, a_same, a_rto, a_tries, a_retryAt, a_ackAt, a_waitTill, a_timedAt, a_timedSeq, a_smoothed, a_variance, a_rowCount, a_slotSeq, a_slotFlags, a_slotAck, a_slotWindow, a_slotSize, a_slotBytes) p := by
  have hd : 0 ≤ 64 / pk ∧ 64 / pk ≤ 64 := ⟨Int.ediv_nonneg (by omega) (by omega), Int.ediv_le_self _ (by omega)⟩
  unfold wpX_growPeak
  refine ⟨hp, ?_⟩
  by_cases w : sm < 3
  · rw [if_neg (by omega)] at hP
    refine br_t (by rw [hs, zk_3, zi_lt (by omega) (by omega) (by omega) (by omega)]; exact w) ⟨hp, hp, ?_⟩
    by_cases w2 : pk < hf
    · rw [if_pos w2] at hP
      refine br_t (by rw [hk, hh, zi_lt (by omega) (by omega) (by omega) (by omega)]; exact w2) ?_
      unfold wX_growPeak_60
      exact xl_widenPeak hp hk zk_8 (by omega) (by omega) (by omega) (by omega) hP
    · rw [if_neg w2] at hP
      refine br_f (by rw [hk, hh, zi_lt (by omega) (by omega) (by omega) (by omega)]; exact w2) ⟨hp, br_f (by rw [hk, zk_0, zi_le (by omega) (by omega) (by omega) (by omega)]; omega) ⟨hp, by rw [hk, zk_0, zi_eq (by omega) (by omega) (by omega) (by omega)]; omega, nm_r (e' := zi_n (64 / pk)) (by rw [hk, zk_64, zi_div (by omega) (by omega) (by omega) (by omega)]) ?_⟩⟩
      unfold wX_growPeak_60
      exact xl_widenPeak hp hk rfl (by omega) (by omega) hd.1 (by omega) hP
  · rw [if_pos (by omega)] at hP
    refine br_f (by rw [hs, zk_3, zi_lt (by omega) (by omega) (by omega) (by omega)]; exact w) ⟨hp, hp, nm_r (e' := upd a_peak p.toNatClampNeg (zi_n hf)) (by rw [hh]) hP⟩
def aq_ok (G : gm_T) (e : Nat) (a : Int) : Prop := 0 < a ∧ a ≤ G.1 5 e - G.1 3 e ∧ 0 ≤ G.1 3 e ∧ G.1 5 e - G.1 3 e ≤ 40 ∧ G.1 5 e ≤ G.1 6 e + 1 ∧ G.1 6 e - G.1 3 e ≤ 33 ∧ G.1 3 e ≤ G.1 4 e ∧ G.1 4 e ≤ G.1 5 e ∧ G.1 5 e ≤ 1000000 ∧ 0 ≤ G.1 12 e ∧ G.1 12 e ≤ 24 ∧ -1 ≤ G.1 24 e ∧ (0 ≤ G.1 24 e → G.1 3 e ≤ G.1 24 e ∧ G.1 24 e < G.1 5 e ∧ mq_ok G e) ∧ 8 ≤ G.1 16 e ∧ G.1 16 e ≤ 64 ∧ 8 ≤ G.1 17 e ∧ G.1 17 e ≤ 64 ∧ 0 ≤ G.1 18 e ∧ G.1 18 e ≤ 100000 ∧ G.1 32 e = G.1 3 e ∧ G.1 33 e = G.1 6 e ∧ G.1 34 e = G.1 18 e
theorem xa_119 {q : Int} {G : gm_T} {f_now : Int32} {f_sent : Int32} {a_stateOf : (Nat → Int32)} {a_error : (Nat → Int32)} {a_iss : (Nat → Int32)} {a_una : (Nat → Int32)} {a_nxt : (Nat → Int32)} {a_max : (Nat → Int32)} {a_writtenTo : (Nat → Int32)} {a_kept : (Nat → Int32)} {a_keptBytes : (Nat → Int32)} {a_rcv : (Nat → Int32)} {a_unread : (Nat → Int32)} {a_unreadFrom : (Nat → Int32)} {a_cameBytes : (Nat → Int32)} {a_held : (Nat → Int32)} {a_heldFin : (Nat → Int32)} {a_wnd : (Nat → Int32)} {a_wndSeq : (Nat → Int32)} {a_wndAck : (Nat → Int32)} {a_peak : (Nat → Int32)} {a_half : (Nat → Int32)} {a_same : (Nat → Int32)} {a_rto : (Nat → Int32)} {a_tries : (Nat → Int32)} {a_retryAt : (Nat → Int32)} {a_ackAt : (Nat → Int32)} {a_waitTill : (Nat → Int32)} {a_timedAt : (Nat → Int32)} {a_timedSeq : (Nat → Int32)} {a_smoothed : (Nat → Int32)} {a_variance : (Nat → Int32)} {a_rowCount : (Nat → Int32)} {a_slotSeq : (Nat → Int32)} {a_slotFlags : (Nat → Int32)} {a_slotAck : (Nat → Int32)} {a_slotWindow : (Nat → Int32)} {a_slotSize : (Nat → Int32)} {a_slotBytes : (Nat → Int32)} {p : Int32} {P : SX → Prop} (hv : vx_S q G (f_now, f_sent, a_stateOf, a_error, a_iss, a_una, a_nxt, a_max, a_writtenTo, a_kept, a_keptBytes, a_rcv, a_unread, a_unreadFrom, a_cameBytes, a_held, a_heldFin, a_wnd, a_wndSeq, a_wndAck, a_peak, a_half, a_same, a_rto, a_tries, a_retryAt, a_ackAt, a_waitTill, a_timedAt, a_timedSeq, a_smoothed, a_variance, a_rowCount, a_slotSeq, a_slotFlags, a_slotAck, a_slotWindow, a_slotSize, a_slotBytes)) (hp : vp_in p 2) (h0 : 8 ≤ G.1 16 p.toNatClampNeg) (h1 : G.1 16 p.toNatClampNeg ≤ 64) (h2 : 8 ≤ G.1 17 p.toNatClampNeg) (h3 : G.1 17 p.toNatClampNeg ≤ 64) (h4 : 0 ≤ G.1 18 p.toNatClampNeg) (h5 : G.1 18 p.toNatClampNeg ≤ 100000) (h6 : -100 ≤ G.1 5 p.toNatClampNeg - G.1 3 p.toNatClampNeg) (h7 : G.1 5 p.toNatClampNeg - G.1 3 p.toNatClampNeg ≤ 100) (hP : ∀ u', vx_S q (gp_adv3 G p.toNatClampNeg) u' → P u') : wX_takeNewAck_119 P p f_now f_sent a_stateOf a_error a_iss a_una a_nxt a_max a_writtenTo a_kept a_keptBytes a_rcv a_unread a_unreadFrom a_cameBytes a_held a_heldFin a_wnd a_wndSeq a_wndAck a_peak a_half a_same a_rto a_tries a_retryAt a_ackAt a_waitTill a_timedAt a_timedSeq a_smoothed a_variance a_rowCount a_slotSeq a_slotFlags a_slotAck a_slotWindow a_slotSize a_slotBytes := by
  obtain ⟨h_now, h_sent, h_stateOf, h_error, h_iss, h_una, h_nxt, h_max, h_writtenTo, h_kept, h_keptBytes, h_rcv, h_unread, h_unreadFrom, h_cameBytes, h_held, h_heldFin, h_wnd, h_wndSeq, h_wndAck, h_peak, h_half, h_same, h_rto, h_tries, h_retryAt, h_ackAt, h_waitTill, h_timedAt, h_timedSeq, h_smoothed, h_variance, h_rowCount, h_slotSeq, h_slotFlags, h_slotAck, h_slotWindow, h_slotSize, h_slotBytes⟩ := hv
  have he := pe_lt hp
  have fin : ∀ x : Int32, x = zi_n (if G.1 3 p.toNatClampNeg = G.1 5 p.toNatClampNeg then -1 else gm_N G + G.1 19 p.toNatClampNeg) → P (f_now, f_sent, a_stateOf, a_error, a_iss, a_una, a_nxt, a_max, a_writtenTo, a_kept, a_keptBytes, a_rcv, a_unread, a_unreadFrom, a_cameBytes, a_held, a_heldFin, a_wnd, a_wndSeq, a_wndAck, upd a_peak p.toNatClampNeg (zi_n (if 3 ≤ G.1 18 p.toNatClampNeg then G.1 17 p.toNatClampNeg else min 64 (G.1 16 p.toNatClampNeg + (if G.1 16 p.toNatClampNeg < G.1 17 p.toNatClampNeg then 8 else 64 / G.1 16 p.toNatClampNeg)))), a_half, upd a_same p.toNatClampNeg 0, a_rto, a_tries, upd a_retryAt p.toNatClampNeg x, a_ackAt, a_waitTill, a_timedAt, a_timedSeq, a_smoothed, a_variance, a_rowCount, a_slotSeq, a_slotFlags, a_slotAck, a_slotWindow, a_slotSize, a_slotBytes) := by
    intro x hx
    refine hP _ ?_
    generalize p.toNatClampNeg = e at *
    have o : ∀ e' f, e' ≠ e → (gp_adv3 G e).1 f e' = G.1 f e' := fun e' f q => by simp only [gp_adv3, gs_e q]
    refine (vx_mk h_now h_sent h_stateOf h_error h_iss h_una h_nxt h_max h_writtenTo h_kept h_keptBytes h_rcv h_unread h_unreadFrom h_cameBytes h_held h_heldFin h_wnd h_wndSeq h_wndAck (vu_e h_peak ?_ (fun e' q => o _ _ q)) h_half (vu_e h_same ?_ (fun e' q => o _ _ q)) h_rto h_tries (vu_e h_retryAt ?_ (fun e' q => o _ _ q)) h_ackAt h_waitTill h_timedAt h_timedSeq h_smoothed h_variance h_rowCount h_slotSeq h_slotFlags h_slotAck h_slotWindow h_slotSize h_slotBytes)
    · simp +decide only [gp_adv3, gs_s, gs_f]
    · simp +decide only [gp_adv3, gs_s, gs_f] <;> rfl
    · simp +decide only [gp_adv3, gs_s, gs_f]; exact hx
  unfold wX_takeNewAck_119
  refine xl_growPeak hp (h_peak _ he) (h_half _ he) (h_same _ he) h0 h1 h2 h3 h4 h5 ⟨hp, nm_e ⟨hp, hp, ?_⟩⟩
  by_cases w : G.1 3 p.toNatClampNeg = G.1 5 p.toNatClampNeg
  · exact br_t (by rw [h_una _ he, h_max _ he, w]) ⟨hp, nm_e (fin _ (by rw [if_pos w]; rfl))⟩
  · exact br_f (by rw [h_una _ he, h_max _ he, zi_eq (by omega) (by omega) (by omega) (by omega)]; omega) ⟨hp, hp, nm_e (fin _ (by rw [if_neg w, h_now, h_rto _ he, zi_add]))⟩
theorem xl_takeNewAck {q : Int} {G : gm_T} {u : SX} {p x1 x2 : Int32} {P : SX → Prop} {a : Int} (hv : vx_S q G u) (hp : vp_in p 2) (ok : aq_ok G p.toNatClampNeg a) (hx1 : x1 = zi_n ((G.1 2 p.toNatClampNeg + (G.1 3 p.toNatClampNeg + a)) % 65536)) (hx2 : x2 = zi_n a) (hP : ∀ u', vx_S q (gp_adv3 (gp_adv2 (gp_adv1 G p.toNatClampNeg a) p.toNatClampNeg) p.toNatClampNeg) u' → P u') : wpX_takeNewAck P u p x1 x2 := by
  obtain ⟨f_now, f_sent, a_stateOf, a_error, a_iss, a_una, a_nxt, a_max, a_writtenTo, a_kept, a_keptBytes, a_rcv, a_unread, a_unreadFrom, a_cameBytes, a_held, a_heldFin, a_wnd, a_wndSeq, a_wndAck, a_peak, a_half, a_same, a_rto, a_tries, a_retryAt, a_ackAt, a_waitTill, a_timedAt, a_timedSeq, a_smoothed, a_variance, a_rowCount, a_slotSeq, a_slotFlags, a_slotAck, a_slotWindow, a_slotSize, a_slotBytes⟩ := u
  have hv0 := hv
  obtain ⟨h_now, h_sent, h_stateOf, h_error, h_iss, h_una, h_nxt, h_max, h_writtenTo, h_kept, h_keptBytes, h_rcv, h_unread, h_unreadFrom, h_cameBytes, h_held, h_heldFin, h_wnd, h_wndSeq, h_wndAck, h_peak, h_half, h_same, h_rto, h_tries, h_retryAt, h_ackAt, h_waitTill, h_timedAt, h_timedSeq, h_smoothed, h_variance, h_rowCount, h_slotSeq, h_slotFlags, h_slotAck, h_slotWindow, h_slotSize, h_slotBytes⟩ := hv0
  have he := pe_lt hp
  obtain ⟨k1, k2, k3, k4, k5, k6, k7, k8, k9, l1, l2, l3, l4, l5, l6, l7, l8, l9, m1, m2, m3, m4⟩ := ok
  -- behind the stores: the state shows gp_adv1
  have key : ∀ (KX NX WX : Nat → Int32), KX = upd a_kept p.toNatClampNeg (zi_n (max (G.1 6 p.toNatClampNeg - (G.1 3 p.toNatClampNeg + a)) 0)) → WX = upd a_wnd p.toNatClampNeg (zi_n (max (G.1 12 p.toNatClampNeg - a) 0)) → (∀ e', e' < 2 → NX e' = zi_n ((G.1 2 e' + (gp_adv1 G p.toNatClampNeg a).1 4 e') % 65536)) → vx_S q (gp_adv1 G p.toNatClampNeg a) (f_now, f_sent, a_stateOf, a_error, a_iss, upd a_una p.toNatClampNeg x1, NX, a_max, a_writtenTo, KX, a_keptBytes, a_rcv, a_unread, a_unreadFrom, a_cameBytes, a_held, a_heldFin, WX, a_wndSeq, a_wndAck, a_peak, a_half, a_same, a_rto, upd a_tries p.toNatClampNeg 0, a_retryAt, a_ackAt, a_waitTill, a_timedAt, a_timedSeq, a_smoothed, a_variance, a_rowCount, a_slotSeq, a_slotFlags, a_slotAck, a_slotWindow, a_slotSize, a_slotBytes) := by
    intro KX NX WX hK hW hN
    subst hK hW
    generalize p.toNatClampNeg = e at *
    have o : ∀ e' f, e' ≠ e → (gp_adv1 G e a).1 f e' = G.1 f e' := fun e' f q => by simp only [gp_adv1, gs_e q]
    refine (vx_mk h_now h_sent h_stateOf h_error h_iss (vu_e h_una ?_ (fun e' q => by rw [o _ _ q, o _ _ q])) (hN) h_max h_writtenTo (vu_e h_kept ?_ (fun e' q => o _ _ q)) h_keptBytes h_rcv h_unread h_unreadFrom h_cameBytes h_held h_heldFin (vu_e h_wnd ?_ (fun e' q => o _ _ q)) h_wndSeq h_wndAck h_peak h_half h_same h_rto (vu_e h_tries ?_ (fun e' q => o _ _ q)) h_retryAt h_ackAt h_waitTill h_timedAt h_timedSeq h_smoothed h_variance h_rowCount h_slotSeq h_slotFlags h_slotAck h_slotWindow h_slotSize h_slotBytes)
    · simp +decide only [gp_adv1, gs_s, gs_f]; exact hx1
    · simp +decide only [gp_adv1, gs_s, gs_f]
    · simp +decide only [gp_adv1, gs_s, gs_f]
    · simp +decide only [gp_adv1, gs_s, gs_f] <;> rfl
  have v1 : ∀ f, f = 24 ∨ f = 16 ∨ f = 17 ∨ f = 18 ∨ f = 5 ∨ f = 2 ∨ f = 25 ∨ f = 26 ∨ f = 27 ∨ f = 28 → (gp_adv1 G p.toNatClampNeg a).1 f p.toNatClampNeg = G.1 f p.toNatClampNeg := by
    intro f hf
    rcases hf with rfl | rfl | rfl | rfl | rfl | rfl | rfl | rfl | rfl | rfl <;> simp +decide only [gp_adv1, gs_f]
  have vU : (gp_adv1 G p.toNatClampNeg a).1 3 p.toNatClampNeg = G.1 3 p.toNatClampNeg + a := by simp +decide only [gp_adv1, gs_s, gs_f]
  have k83 : ∀ (KX NX : Nat → Int32) (z : Int32), KX = upd a_kept p.toNatClampNeg (zi_n (max (G.1 6 p.toNatClampNeg - (G.1 3 p.toNatClampNeg + a)) 0)) → z = zi_n (max (G.1 12 p.toNatClampNeg - a) 0) → (∀ e', e' < 2 → NX e' = zi_n ((G.1 2 e' + (gp_adv1 G p.toNatClampNeg a).1 4 e') % 65536)) → wX_takeNewAck_83 P p x1 z p f_now f_sent a_stateOf a_error a_iss (upd a_una p.toNatClampNeg x1) (NX) a_max a_writtenTo (KX) a_keptBytes a_rcv a_unread a_unreadFrom a_cameBytes a_held a_heldFin a_wnd a_wndSeq a_wndAck a_peak a_half a_same a_rto a_tries a_retryAt a_ackAt a_waitTill a_timedAt a_timedSeq a_smoothed a_variance a_rowCount a_slotSeq a_slotFlags a_slotAck a_slotWindow a_slotSize a_slotBytes := by
    intro KX NX z hK hz hN
    have hv1 := key KX NX (upd a_wnd p.toNatClampNeg z) hK (by rw [hz]) hN
    unfold wX_takeNewAck_83
    refine ⟨hp, nm_e ⟨hp, nm_e ⟨hp, ?_⟩⟩⟩
    by_cases w : G.1 24 p.toNatClampNeg < 0
    · refine br_t (by rw [h_timedAt _ he, if_pos w]; rfl) ?_
      have e2 : gp_adv2 (gp_adv1 G p.toNatClampNeg a) p.toNatClampNeg = gp_adv1 G p.toNatClampNeg a := if_neg (fun y => by have := v1 24 (by omega); omega)
      rw [e2] at hP
      rw [hz] at *
      exact xa_119 hv1 hp (by rw [v1 _ (by omega)]; exact l5) (by rw [v1 _ (by omega)]; exact l6) (by rw [v1 _ (by omega)]; exact l7) (by rw [v1 _ (by omega)]; exact l8) (by rw [v1 _ (by omega)]; exact l9) (by rw [v1 _ (by omega)]; exact m1) (by rw [v1 _ (by omega), vU]; omega) (by rw [v1 _ (by omega), vU]; omega) hP
    · obtain ⟨t1, t2, t3⟩ := l4 (by omega)
      have t3' := t3
      obtain ⟨s1, s2, s3, s4, s5, s6⟩ := t3'
      refine br_f (by rw [h_timedAt _ he, if_neg w, zk_m1, zi_eq (by omega) (by omega) (by omega) (by omega)]; omega) ⟨hp, xl_off (h_timedSeq _ he (by omega)) hx1 (by omega) (by omega) ?_⟩
      by_cases w2 : 0 ≤ G.1 24 p.toNatClampNeg - (G.1 3 p.toNatClampNeg + a)
      · refine br_t (by rw [zk_0, zi_le (by omega) (by omega) (by omega) (by omega)]; exact w2) ?_
        have e2 : gp_adv2 (gp_adv1 G p.toNatClampNeg a) p.toNatClampNeg = gp_adv1 G p.toNatClampNeg a := if_neg (fun y => by have := v1 24 (by omega); rw [vU] at y; omega)
        rw [e2] at hP
        rw [hz] at *
        exact xa_119 hv1 hp (by rw [v1 _ (by omega)]; exact l5) (by rw [v1 _ (by omega)]; exact l6) (by rw [v1 _ (by omega)]; exact l7) (by rw [v1 _ (by omega)]; exact l8) (by rw [v1 _ (by omega)]; exact l9) (by rw [v1 _ (by omega)]; exact m1) (by rw [v1 _ (by omega), vU]; omega) (by rw [v1 _ (by omega), vU]; omega) hP
      · refine br_f (by rw [zk_0, zi_le (by omega) (by omega) (by omega) (by omega)]; exact w2) ?_
        have e2 : gp_adv2 (gp_adv1 G p.toNatClampNeg a) p.toNatClampNeg = gp_meas (gp_adv1 G p.toNatClampNeg a) p.toNatClampNeg := if_pos ⟨by rw [v1 _ (by omega)]; omega, by rw [v1 _ (by omega), vU]; omega⟩
        rw [e2] at hP
        have mo : mq_ok (gp_adv1 G p.toNatClampNeg a) p.toNatClampNeg := by
          unfold mq_ok
          rw [v1 24 (by omega), v1 25 (by omega), v1 26 (by omega), v1 27 (by omega), v1 28 (by omega)]
          exact t3
        have mv : ∀ f, f = 16 ∨ f = 17 ∨ f = 18 ∨ f = 5 → (gp_meas (gp_adv1 G p.toNatClampNeg a) p.toNatClampNeg).1 f p.toNatClampNeg = G.1 f p.toNatClampNeg := by
          intro f hf
          rcases hf with rfl | rfl | rfl | rfl <;> simp +decide only [gp_meas, gp_adv1, gs_f]
        have mU : (gp_meas (gp_adv1 G p.toNatClampNeg a) p.toNatClampNeg).1 3 p.toNatClampNeg = G.1 3 p.toNatClampNeg + a := by simp +decide only [gp_meas, gp_adv1, gs_s, gs_f]
        rw [hz] at *
        refine xl_measure hv1 hp mo fun u2 hv2 => ?_
        obtain ⟨f_now, f_sent, a_stateOf, a_error, a_iss, a_una, a_nxt, a_max, a_writtenTo, a_kept, a_keptBytes, a_rcv, a_unread, a_unreadFrom, a_cameBytes, a_held, a_heldFin, a_wnd, a_wndSeq, a_wndAck, a_peak, a_half, a_same, a_rto, a_tries, a_retryAt, a_ackAt, a_waitTill, a_timedAt, a_timedSeq, a_smoothed, a_variance, a_rowCount, a_slotSeq, a_slotFlags, a_slotAck, a_slotWindow, a_slotSize, a_slotBytes⟩ := u2
        exact xa_119 hv2 hp (by rw [mv _ (by omega)]; exact l5) (by rw [mv _ (by omega)]; exact l6) (by rw [mv _ (by omega)]; exact l7) (by rw [mv _ (by omega)]; exact l8) (by rw [mv _ (by omega)]; exact l9) (by rw [mv _ (by omega)]; exact m1) (by rw [mv _ (by omega), mU]; omega) (by rw [mv _ (by omega), mU]; omega) hP
  have k56 : ∀ (KX NX : Nat → Int32), KX = upd a_kept p.toNatClampNeg (zi_n (max (G.1 6 p.toNatClampNeg - (G.1 3 p.toNatClampNeg + a)) 0)) → (∀ e', e' < 2 → NX e' = zi_n ((G.1 2 e' + (gp_adv1 G p.toNatClampNeg a).1 4 e') % 65536)) → wX_takeNewAck_56 P p x1 x2 f_now f_sent a_stateOf a_error a_iss (upd a_una p.toNatClampNeg x1) (NX) a_max a_writtenTo (KX) a_keptBytes a_rcv a_unread a_unreadFrom a_cameBytes a_held a_heldFin a_wnd a_wndSeq a_wndAck a_peak a_half a_same a_rto a_tries a_retryAt a_ackAt a_waitTill a_timedAt a_timedSeq a_smoothed a_variance a_rowCount a_slotSeq a_slotFlags a_slotAck a_slotWindow a_slotSize a_slotBytes := by
    intro KX NX hK hN
    unfold wX_takeNewAck_56
    refine ⟨hp, ?_⟩
    by_cases w : G.1 12 p.toNatClampNeg ≤ a
    · exact br_t (by rw [h_wnd _ he, hx2, zi_le (by omega) (by omega) (by omega) (by omega)]; exact w) (k83 KX NX 0 hK (by rw [zk_0]; congr 1; omega) hN)
    · exact br_f (by rw [h_wnd _ he, hx2, zi_le (by omega) (by omega) (by omega) (by omega)]; exact w) ⟨hp, k83 KX NX _ hK (by rw [h_wnd _ he, hx2, zi_sub]; congr 1; omega) hN⟩
  have vN : (gp_adv1 G p.toNatClampNeg a).1 4 p.toNatClampNeg = max (G.1 4 p.toNatClampNeg) (G.1 3 p.toNatClampNeg + a) := by simp +decide only [gp_adv1, gs_s, gs_f]
  have oN : ∀ e', e' ≠ p.toNatClampNeg → (gp_adv1 G p.toNatClampNeg a).1 4 e' = G.1 4 e' := fun e' q => by simp only [gp_adv1, gs_e q]
  have k35 : ∀ z : Int32, z = zi_n (max (G.1 6 p.toNatClampNeg - (G.1 3 p.toNatClampNeg + a)) 0) → wX_takeNewAck_35 P p x1 x2 z p f_now f_sent a_stateOf a_error a_iss (upd a_una p.toNatClampNeg x1) a_nxt a_max a_writtenTo a_kept a_keptBytes a_rcv a_unread a_unreadFrom a_cameBytes a_held a_heldFin a_wnd a_wndSeq a_wndAck a_peak a_half a_same a_rto a_tries a_retryAt a_ackAt a_waitTill a_timedAt a_timedSeq a_smoothed a_variance a_rowCount a_slotSeq a_slotFlags a_slotAck a_slotWindow a_slotSize a_slotBytes := by
    intro z hz
    unfold wX_takeNewAck_35
    refine ⟨hp, nm_e ⟨hp, xl_off (h_nxt _ he) hx1 (by omega) (by omega) ?_⟩⟩
    by_cases w : 0 ≤ G.1 4 p.toNatClampNeg - (G.1 3 p.toNatClampNeg + a)
    · refine br_t (by rw [zk_0, zi_le (by omega) (by omega) (by omega) (by omega)]; exact w) (k56 _ a_nxt (by rw [hz]) (fun e' he' => ?_))
      by_cases y : e' = p.toNatClampNeg
      · rw [y, vN, h_nxt _ he]; congr 2; omega
      · rw [oN e' y]; exact h_nxt e' he'
    · refine br_f (by rw [zk_0, zi_le (by omega) (by omega) (by omega) (by omega)]; exact w) ⟨hp, nm_e (k56 _ _ (by rw [hz]) (fun e' he' => ?_))⟩
      by_cases y : e' = p.toNatClampNeg
      · rw [y, vN, zu_s, hx1]; congr 2; omega
      · rw [oN e' y, zu_n y]; exact h_nxt e' he'
  unfold wpX_takeNewAck
  refine ⟨hp, nm_e ⟨hp, xl_off (h_writtenTo _ he) hx1 (by omega) (by omega) ?_⟩⟩
  by_cases w : G.1 6 p.toNatClampNeg - (G.1 3 p.toNatClampNeg + a) ≤ 0
  · exact br_t (by rw [zk_0, zi_le (by omega) (by omega) (by omega) (by omega)]; exact w) (k35 0 (by rw [zk_0]; congr 1; omega))
  · exact br_f (by rw [zk_0, zi_le (by omega) (by omega) (by omega) (by omega)]; exact w) (k35 _ (by congr 1; omega))
