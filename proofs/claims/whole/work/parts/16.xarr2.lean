/-! the class: listening, opening -/
theorem gv_idle {K : Int} {G : gm_T} {e : Nat} (hI : gv_I K G) (he : e < 2) (hs : G.1 0 e = 1 ∨ G.1 0 e = 2) : G.1 9 e = 0 ∧ G.1 11 e < 0 ∧ (∀ p, gm_H G e p = false) := by
  obtain ⟨b1, b2, b3, b4, b5, b6⟩ := hI.2.2.2.2.1 _ he
  unfold gv_r at b6
  obtain ⟨q1, q2, q3, q4, q5, q6, q7, q8, q9, qa, qb, qc⟩ := b6
  refine ⟨q8 hs, ?_, fun p => ?_⟩
  · by_cases w : G.1 11 e < 0
    · exact w
    · have := qb (by omega); omega
  · cases w : gm_H G e p
    · rfl
    · have := qc p w; omega
/-- what a first SYN asks -/
theorem sk_syn {K : Int} {G : gm_T} {e : Nat} {s : Int} (hI : gv_I K (gp_put G 0 e 1)) (he : e < 2) (hs : s = 2 ∨ s = 3) : sq_ok (gp_put G 0 e s) e 0 1 0 := by
  obtain ⟨a1, a2, a3, a4, a5, a6, a7, a8⟩ := hI
  obtain ⟨b1, b2, b3, b4, b5, b6⟩ := a5 e he
  rw [show gm_N (gp_put G 0 e 1) = gm_N G from rfl] at b4 b5
  simp +decide only [gp_put, gs_s, gs_f] at b1 b2 b3 b4 b5 b6
  unfold gv_a at b1
  unfold gv_p at b2
  unfold gv_d at b4
  unfold gv_t at b5
  unfold sq_ok
  rw [pu_s, pu_f (f' := 30) (by decide), pu_f (f' := 5) (by decide), pu_f (f' := 24) (by decide), pu_f (f' := 25) (by decide), pu_f (f' := 21) (by decide), pu_f (f' := 6) (by decide), pu_f (f' := 33) (by decide), pu_f (f' := 22) (by decide)]
  exact ⟨by omega, by omega, by omega, by omega, by omega, by omega, by omega, by omega, by omega, by omega, by omega, by omega, by omega, by omega, by omega, by omega, by omega, by omega, by omega⟩
theorem xl_arriveListen {q K : Int} {G : gm_T} {u : SX} {p x : Int32} {P : SX → Prop} {k : Nat} (hv : vx_S q G u) (hI : gv_I K G) (hp : vp_in p 2) (hk : k < 32) (hx : x = zi_n (k : Int)) (hs : G.1 0 p.toNatClampNeg = 1) (hP : ∀ u', vx_S q (gp_toListen G p.toNatClampNeg k) u' → P u') : wpX_arriveListen P u p x := by
  obtain ⟨f_now, f_sent, a_stateOf, a_error, a_iss, a_una, a_nxt, a_max, a_writtenTo, a_kept, a_keptBytes, a_rcv, a_unread, a_unreadFrom, a_cameBytes, a_held, a_heldFin, a_wnd, a_wndSeq, a_wndAck, a_peak, a_half, a_same, a_rto, a_tries, a_retryAt, a_ackAt, a_waitTill, a_timedAt, a_timedSeq, a_smoothed, a_variance, a_rowCount, a_slotSeq, a_slotFlags, a_slotAck, a_slotWindow, a_slotSize, a_slotBytes⟩ := u
  have hv0 := hv
  obtain ⟨h_now, h_sent, h_stateOf, h_error, h_iss, h_una, h_nxt, h_max, h_writtenTo, h_kept, h_keptBytes, h_rcv, h_unread, h_unreadFrom, h_cameBytes, h_held, h_heldFin, h_wnd, h_wndSeq, h_wndAck, h_peak, h_half, h_same, h_rto, h_tries, h_retryAt, h_ackAt, h_waitTill, h_timedAt, h_timedSeq, h_smoothed, h_variance, h_rowCount, h_slotSeq, h_slotFlags, h_slotAck, h_slotWindow, h_slotSize, h_slotBytes⟩ := hv0
  have he := pe_lt hp
  have l1 := hI.2.2.2.2.2.1.1 k hk
  have hin : vp_in x 33 := by rw [hx]; exact sl_in hk
  have hxk : x.toNatClampNeg = k := by rw [hx]; exact sl_c (by omega)
  unfold wpX_arriveListen
  rw [hxk]
  refine ⟨hin, nm_r (h_slotFlags k hk) ?_⟩
  rw [zf_8 (by omega) (by omega), zf_2 (by omega) (by omega), zf_1 (by omega) (by omega)]
  by_cases w : gm_L G 1 k / 8 % 2 = 1
  · have : gp_toListen G p.toNatClampNeg k = G := if_pos w
    rw [this] at hP
    exact br_f (by rw [zk_0, zi_eq (by omega) (by omega) (by omega) (by omega)]; omega) (hP _ hv)
  · refine br_t (by rw [zk_0, zi_eq (by omega) (by omega) (by omega) (by omega)]; omega) ?_
    by_cases w2 : gm_L G 1 k / 2 % 2 = 1
    · have : gp_toListen G p.toNatClampNeg k = gp_rst G p.toNatClampNeg (gm_L G 2 k) 8 0 := by unfold gp_toListen; rw [if_neg w, if_pos w2]
      rw [this] at hP
      refine br_f (by rw [zk_0, zi_eq (by omega) (by omega) (by omega) (by omega)]; omega) (xl_answerReset hv hI hp hk hx ?_)
      rw [if_pos w2]; exact hP
    · refine br_t (by rw [zk_0, zi_eq (by omega) (by omega) (by omega) (by omega)]; omega) ?_
      by_cases w3 : gm_L G 1 k % 2 = 1
      · have : gp_toListen G p.toNatClampNeg k = gp_put (gp_send (gp_put (gp_hear G p.toNatClampNeg k) 0 p.toNatClampNeg 3) p.toNatClampNeg 0 1 0) 4 p.toNatClampNeg 1 := by unfold gp_toListen; rw [if_neg w, if_neg w2, if_pos w3]
        rw [this] at hP
        refine br_f (by rw [zk_0, zi_eq (by omega) (by omega) (by omega) (by omega)]; omega) ?_
        obtain ⟨i1, i2, i3⟩ := gv_idle hI he (Or.inl hs)
        refine xl_meetOther hv hp hk hx i1 i2 i3 fun u1 hv1 => ?_
        have hI1 : gv_I K (gp_put (gp_hear G p.toNatClampNeg k) 0 p.toNatClampNeg 1) := by
          have h1 := iv_hear hI he hk (Or.inl hs)
          have e1 : gs_c (gp_hear G p.toNatClampNeg k).1 0 p.toNatClampNeg 1 = (gp_hear G p.toNatClampNeg k).1 := gs_id (by simp +decide only [gp_hear, gs_f]; exact hs.symm)
          show gv_I K (gs_c (gp_hear G p.toNatClampNeg k).1 0 p.toNatClampNeg 1, (gp_hear G p.toNatClampNeg k).2)
          rw [e1]; exact h1
        have ok := sk_syn hI1 he (Or.inr rfl)
        generalize gp_hear G p.toNatClampNeg k = G1 at *
        clear h_stateOf h_iss
        obtain ⟨f_now, f_sent, a_stateOf, a_error, a_iss, a_una, a_nxt, a_max, a_writtenTo, a_kept, a_keptBytes, a_rcv, a_unread, a_unreadFrom, a_cameBytes, a_held, a_heldFin, a_wnd, a_wndSeq, a_wndAck, a_peak, a_half, a_same, a_rto, a_tries, a_retryAt, a_ackAt, a_waitTill, a_timedAt, a_timedSeq, a_smoothed, a_variance, a_rowCount, a_slotSeq, a_slotFlags, a_slotAck, a_slotWindow, a_slotSize, a_slotBytes⟩ := u1
        have hv2 := hv1
        obtain ⟨h_now, h_sent, h_stateOf, h_error, h_iss, h_una, h_nxt, h_max, h_writtenTo, h_kept, h_keptBytes, h_rcv, h_unread, h_unreadFrom, h_cameBytes, h_held, h_heldFin, h_wnd, h_wndSeq, h_wndAck, h_peak, h_half, h_same, h_rto, h_tries, h_retryAt, h_ackAt, h_waitTill, h_timedAt, h_timedSeq, h_smoothed, h_variance, h_rowCount, h_slotSeq, h_slotFlags, h_slotAck, h_slotWindow, h_slotSize, h_slotBytes⟩ := hv2
        refine ⟨hp, nm_e ⟨hp, xl_send (G := gp_put G1 0 p.toNatClampNeg 3) (fr := 0) (vx_put hv1 rfl) hp ?_ zk_1 zk_0 ok fun u3 hv3 => ?_⟩⟩
        · rw [pu_f (by decide), h_iss _ he]
          congr 1
          obtain ⟨b1, b2, b3, b4, b5, b6⟩ := hI1.2.2.2.2.1 _ he
          rw [pu_f (f' := 2) (by decide)] at b1
          unfold gv_a at b1
          omega
        · obtain ⟨f_now, f_sent, a_stateOf, a_error, a_iss, a_una, a_nxt, a_max, a_writtenTo, a_kept, a_keptBytes, a_rcv, a_unread, a_unreadFrom, a_cameBytes, a_held, a_heldFin, a_wnd, a_wndSeq, a_wndAck, a_peak, a_half, a_same, a_rto, a_tries, a_retryAt, a_ackAt, a_waitTill, a_timedAt, a_timedSeq, a_smoothed, a_variance, a_rowCount, a_slotSeq, a_slotFlags, a_slotAck, a_slotWindow, a_slotSize, a_slotBytes⟩ := u3
          have hv4 := hv3
          clear h_iss
          obtain ⟨h_now, h_sent, h_stateOf, h_error, h_iss, h_una, h_nxt, h_max, h_writtenTo, h_kept, h_keptBytes, h_rcv, h_unread, h_unreadFrom, h_cameBytes, h_held, h_heldFin, h_wnd, h_wndSeq, h_wndAck, h_peak, h_half, h_same, h_rto, h_tries, h_retryAt, h_ackAt, h_waitTill, h_timedAt, h_timedSeq, h_smoothed, h_variance, h_rowCount, h_slotSeq, h_slotFlags, h_slotAck, h_slotWindow, h_slotSize, h_slotBytes⟩ := hv4
          refine ⟨hp, xl_behind (h_iss _ he) zk_1 ⟨hp, nm_e (hP _ (vx_step (G := G1) hv3 ?_))⟩⟩
          rfl
      · have : gp_toListen G p.toNatClampNeg k = G := by unfold gp_toListen; rw [if_neg w, if_neg w2, if_neg w3]
        rw [this] at hP
        exact br_t (by rw [zk_0, zi_eq (by omega) (by omega) (by omega) (by omega)]; omega) (hP _ hv)
theorem xl_arriveSynSent {q K : Int} {G : gm_T} {u : SX} {p x : Int32} {P : SX → Prop} {k : Nat} (hv : vx_S q G u) (hI : gv_I K G) (hp : vp_in p 2) (hk : k < 32) (hx : x = zi_n (k : Int)) (hs : G.1 0 p.toNatClampNeg = 2) (hP : ∀ u', vx_S q (gp_toOpen G p.toNatClampNeg k) u' → P u') : wpX_arriveSynSent P u p x := by
  obtain ⟨f_now, f_sent, a_stateOf, a_error, a_iss, a_una, a_nxt, a_max, a_writtenTo, a_kept, a_keptBytes, a_rcv, a_unread, a_unreadFrom, a_cameBytes, a_held, a_heldFin, a_wnd, a_wndSeq, a_wndAck, a_peak, a_half, a_same, a_rto, a_tries, a_retryAt, a_ackAt, a_waitTill, a_timedAt, a_timedSeq, a_smoothed, a_variance, a_rowCount, a_slotSeq, a_slotFlags, a_slotAck, a_slotWindow, a_slotSize, a_slotBytes⟩ := u
  have hv0 := hv
  obtain ⟨h_now, h_sent, h_stateOf, h_error, h_iss, h_una, h_nxt, h_max, h_writtenTo, h_kept, h_keptBytes, h_rcv, h_unread, h_unreadFrom, h_cameBytes, h_held, h_heldFin, h_wnd, h_wndSeq, h_wndAck, h_peak, h_half, h_same, h_rto, h_tries, h_retryAt, h_ackAt, h_waitTill, h_timedAt, h_timedSeq, h_smoothed, h_variance, h_rowCount, h_slotSeq, h_slotFlags, h_slotAck, h_slotWindow, h_slotSize, h_slotBytes⟩ := hv0
  have he := pe_lt hp
  have l1 := hI.2.2.2.2.2.1.1 k hk
  have hin : vp_in x 33 := by rw [hx]; exact sl_in hk
  have hxk : x.toNatClampNeg = k := by rw [hx]; exact sl_c (by omega)
  obtain ⟨i1, i2, i3⟩ := gv_idle hI he (Or.inr hs)
  have hIh := iv_hear hI he hk (Or.inr hs)
  have hsh : (gp_hear G p.toNatClampNeg k).1 0 p.toNatClampNeg = 2 := by simp +decide only [gp_hear, gs_f]; exact hs
  have huh : (gp_hear G p.toNatClampNeg k).1 10 p.toNatClampNeg + (gp_hear G p.toNatClampNeg k).1 9 p.toNatClampNeg = (gp_hear G p.toNatClampNeg k).1 8 p.toNatClampNeg := by simp +decide only [gp_hear, gs_s, gs_f]; omega
  obtain ⟨b1, b2, b3, b4, b5, b6⟩ := hI.2.2.2.2.1 _ he
  unfold gv_a at b1
  unfold gv_p at b2
  -- behind the SYN without the wrong ACK
  have k70 : ∀ x4 x5 : Int32, (x4 = 0 ↔ ¬ gm_L G 1 k / 2 % 2 = 1) → (x5 = 0 ↔ ¬ gm_L G 1 k / 8 % 2 = 1) → ¬ (gm_L G 1 k / 2 % 2 = 1 ∧ gm_L G 2 k ≠ (G.1 2 p.toNatClampNeg + 1) % 65536) → wX_arriveSynSent_70 P p x (zi_n (gm_L G 1 k)) x4 x5 f_now f_sent a_stateOf a_error a_iss a_una a_nxt a_max a_writtenTo a_kept a_keptBytes a_rcv a_unread a_unreadFrom a_cameBytes a_held a_heldFin a_wnd a_wndSeq a_wndAck a_peak a_half a_same a_rto a_tries a_retryAt a_ackAt a_waitTill a_timedAt a_timedSeq a_smoothed a_variance a_rowCount a_slotSeq a_slotFlags a_slotAck a_slotWindow a_slotSize a_slotBytes := by
    intro x4 x5 hx4 hx5 hna
    unfold wX_arriveSynSent_70
    rw [zf_1 (by omega) (by omega), hxk]
    by_cases w : gm_L G 1 k / 8 % 2 = 1
    · refine br_f (fun z => hx5.mp z w) ?_
      by_cases w2 : gm_L G 1 k / 2 % 2 = 1
      · have : gp_toOpen G p.toNatClampNeg k = gp_reset G p.toNatClampNeg := by unfold gp_toOpen; rw [if_neg hna, if_pos w, if_pos w2]
        rw [this] at hP
        exact br_f (fun z => hx4.mp z w2) (xl_reset hv hI hp (by omega) hP)
      · have : gp_toOpen G p.toNatClampNeg k = G := by unfold gp_toOpen; rw [if_neg hna, if_pos w, if_neg w2]
        rw [this] at hP
        exact br_t (hx4.mpr w2) (hP _ hv)
    · refine br_t (hx5.mpr w) ?_
      by_cases w3 : gm_L G 1 k % 2 = 1
      · refine br_f (by rw [zk_0, zi_eq (by omega) (by omega) (by omega) (by omega)]; omega) ?_
        refine xl_meetOther hv hp hk hx i1 i2 i3 fun u1 hv1 => ?_
        obtain ⟨f_now, f_sent, a_stateOf, a_error, a_iss, a_una, a_nxt, a_max, a_writtenTo, a_kept, a_keptBytes, a_rcv, a_unread, a_unreadFrom, a_cameBytes, a_held, a_heldFin, a_wnd, a_wndSeq, a_wndAck, a_peak, a_half, a_same, a_rto, a_tries, a_retryAt, a_ackAt, a_waitTill, a_timedAt, a_timedSeq, a_smoothed, a_variance, a_rowCount, a_slotSeq, a_slotFlags, a_slotAck, a_slotWindow, a_slotSize, a_slotBytes⟩ := u1
        by_cases w2 : gm_L G 1 k / 2 % 2 = 1
        · have hgo : gp_toOpen G p.toNatClampNeg k = gp_flow (gp_ack (gp_put (gp_tmeas (gp_opened (gp_hear G p.toNatClampNeg k) p.toNatClampNeg) p.toNatClampNeg) 0 p.toNatClampNeg 4) p.toNatClampNeg) p.toNatClampNeg := by unfold gp_toOpen; rw [if_neg hna, if_neg w, if_pos w3, if_pos w2]
          rw [hgo] at hP
          have hI4 := iv_opened hIh he hsh huh
          have hack : gm_L (gp_hear G p.toNatClampNeg k) 2 k = ((gp_hear G p.toNatClampNeg k).1 2 p.toNatClampNeg + 1) % 65536 := by
            show gm_L G 2 k = _
            simp +decide only [gp_hear, gs_f]
            omega
          refine br_f (fun z => hx4.mp z w2) ⟨hin, hp, nm_e ⟨hp, nm_e ⟨hp, nm_e ⟨hp, ?_⟩⟩⟩⟩
          have mok : 0 ≤ (gp_hear G p.toNatClampNeg k).1 24 p.toNatClampNeg → mq_ok (gp_opened (gp_hear G p.toNatClampNeg k) p.toNatClampNeg) p.toNatClampNeg := fun z => by
            have := mq_of hIh he z
            unfold mq_ok at *
            rw [show gm_N (gp_opened (gp_hear G p.toNatClampNeg k) p.toNatClampNeg) = gm_N (gp_hear G p.toNatClampNeg k) from rfl]
            simp +decide only [gp_opened, gs_f]
            exact this
          have tme : ∀ G1 : gm_T, (gp_opened G1 p.toNatClampNeg).1 24 p.toNatClampNeg = G1.1 24 p.toNatClampNeg := fun G1 => by simp +decide only [gp_opened, gs_f]
          generalize gp_hear G p.toNatClampNeg k = G1 at *
          have hv2 := hv1
          clear h_timedAt
          obtain ⟨h_now, h_sent, h_stateOf, h_error, h_iss, h_una, h_nxt, h_max, h_writtenTo, h_kept, h_keptBytes, h_rcv, h_unread, h_unreadFrom, h_cameBytes, h_held, h_heldFin, h_wnd, h_wndSeq, h_wndAck, h_peak, h_half, h_same, h_rto, h_tries, h_retryAt, h_ackAt, h_waitTill, h_timedAt, h_timedSeq, h_smoothed, h_variance, h_rowCount, h_slotSeq, h_slotFlags, h_slotAck, h_slotWindow, h_slotSize, h_slotBytes⟩ := hv2
          have hvo : vx_S q (gp_opened G1 p.toNatClampNeg) (f_now, f_sent, a_stateOf, a_error, a_iss, upd a_una p.toNatClampNeg (a_slotAck k), a_nxt, a_max, a_writtenTo, a_kept, a_keptBytes, a_rcv, a_unread, a_unreadFrom, a_cameBytes, a_held, a_heldFin, a_wnd, a_wndSeq, a_wndAck, a_peak, a_half, a_same, a_rto, upd a_tries p.toNatClampNeg 0, upd a_retryAt p.toNatClampNeg (-1), a_ackAt, a_waitTill, a_timedAt, a_timedSeq, a_smoothed, a_variance, a_rowCount, a_slotSeq, a_slotFlags, a_slotAck, a_slotWindow, a_slotSize, a_slotBytes) := by
            have o : ∀ e' f, e' ≠ p.toNatClampNeg → (gp_opened G1 p.toNatClampNeg).1 f e' = G1.1 f e' := fun e' f q => by simp only [gp_opened, gs_e q]
            refine (vx_mk h_now h_sent h_stateOf h_error h_iss (vu_e h_una ?a1 (fun e' q => by rw [o _ _ q, o _ _ q])) h_nxt h_max h_writtenTo h_kept h_keptBytes h_rcv h_unread h_unreadFrom h_cameBytes h_held h_heldFin h_wnd h_wndSeq h_wndAck h_peak h_half h_same h_rto (vu_e h_tries ?a3 (fun e' q => o _ _ q)) (vu_e h_retryAt ?a2 (fun e' q => o _ _ q)) h_ackAt h_waitTill h_timedAt h_timedSeq h_smoothed h_variance h_rowCount h_slotSeq h_slotFlags h_slotAck h_slotWindow h_slotSize h_slotBytes)
            case a1 => simp +decide only [gp_opened, gs_s, gs_f]; rw [h_slotAck k hk, hack]
            case a2 => simp +decide only [gp_opened, gs_s, gs_f] <;> rfl
            case a3 => simp +decide only [gp_opened, gs_s, gs_f] <;> rfl
          have k145 : ∀ u3, vx_S q (gp_tmeas (gp_opened G1 p.toNatClampNeg) p.toNatClampNeg) u3 → (match u3 with | (f_now, f_sent, a_stateOf, a_error, a_iss, a_una, a_nxt, a_max, a_writtenTo, a_kept, a_keptBytes, a_rcv, a_unread, a_unreadFrom, a_cameBytes, a_held, a_heldFin, a_wnd, a_wndSeq, a_wndAck, a_peak, a_half, a_same, a_rto, a_tries, a_retryAt, a_ackAt, a_waitTill, a_timedAt, a_timedSeq, a_smoothed, a_variance, a_rowCount, a_slotSeq, a_slotFlags, a_slotAck, a_slotWindow, a_slotSize, a_slotBytes) => wX_arriveSynSent_145 P p f_now f_sent a_stateOf a_error a_iss a_una a_nxt a_max a_writtenTo a_kept a_keptBytes a_rcv a_unread a_unreadFrom a_cameBytes a_held a_heldFin a_wnd a_wndSeq a_wndAck a_peak a_half a_same a_rto a_tries a_retryAt a_ackAt a_waitTill a_timedAt a_timedSeq a_smoothed a_variance a_rowCount a_slotSeq a_slotFlags a_slotAck a_slotWindow a_slotSize a_slotBytes) := by
            intro u3 hv3
            obtain ⟨f_now, f_sent, a_stateOf, a_error, a_iss, a_una, a_nxt, a_max, a_writtenTo, a_kept, a_keptBytes, a_rcv, a_unread, a_unreadFrom, a_cameBytes, a_held, a_heldFin, a_wnd, a_wndSeq, a_wndAck, a_peak, a_half, a_same, a_rto, a_tries, a_retryAt, a_ackAt, a_waitTill, a_timedAt, a_timedSeq, a_smoothed, a_variance, a_rowCount, a_slotSeq, a_slotFlags, a_slotAck, a_slotWindow, a_slotSize, a_slotBytes⟩ := u3
            show wX_arriveSynSent_145 P p f_now f_sent a_stateOf a_error a_iss a_una a_nxt a_max a_writtenTo a_kept a_keptBytes a_rcv a_unread a_unreadFrom a_cameBytes a_held a_heldFin a_wnd a_wndSeq a_wndAck a_peak a_half a_same a_rto a_tries a_retryAt a_ackAt a_waitTill a_timedAt a_timedSeq a_smoothed a_variance a_rowCount a_slotSeq a_slotFlags a_slotAck a_slotWindow a_slotSize a_slotBytes
            unfold wX_arriveSynSent_145
            have s4 : 2 ≤ (gp_put (gp_tmeas (gp_opened G1 p.toNatClampNeg) p.toNatClampNeg) 0 p.toNatClampNeg 4).1 0 p.toNatClampNeg := by rw [pu_s]; decide
            have hIa := iv_ack hI4 he s4
            refine ⟨hp, nm_e (xl_sendAck (vx_put hv3 rfl) hp (sk_of hI4 he s4 (Or.inl rfl) (by omega) (by omega) ?_ (by omega) (by omega)) fun u5 hv5 => ?_)⟩
            · obtain ⟨b1, b2, b3, b4, b5, b6⟩ := hI4.2.2.2.2.1 _ he
              rw [pu_s] at b2
              unfold gv_p at b2
              have := b2.2.2.2.2.1 (by omega)
              omega
            · obtain ⟨f_now, f_sent, a_stateOf, a_error, a_iss, a_una, a_nxt, a_max, a_writtenTo, a_kept, a_keptBytes, a_rcv, a_unread, a_unreadFrom, a_cameBytes, a_held, a_heldFin, a_wnd, a_wndSeq, a_wndAck, a_peak, a_half, a_same, a_rto, a_tries, a_retryAt, a_ackAt, a_waitTill, a_timedAt, a_timedSeq, a_smoothed, a_variance, a_rowCount, a_slotSeq, a_slotFlags, a_slotAck, a_slotWindow, a_slotSize, a_slotBytes⟩ := u5
              show wX_arriveSynSent_180 P p f_now f_sent a_stateOf a_error a_iss a_una a_nxt a_max a_writtenTo a_kept a_keptBytes a_rcv a_unread a_unreadFrom a_cameBytes a_held a_heldFin a_wnd a_wndSeq a_wndAck a_peak a_half a_same a_rto a_tries a_retryAt a_ackAt a_waitTill a_timedAt a_timedSeq a_smoothed a_variance a_rowCount a_slotSeq a_slotFlags a_slotAck a_slotWindow a_slotSize a_slotBytes
              unfold wX_arriveSynSent_180
              exact xl_flow hv5 hIa hp hP
          by_cases w5 : G1.1 24 p.toNatClampNeg < 0
          · have e5 : gp_tmeas (gp_opened G1 p.toNatClampNeg) p.toNatClampNeg = gp_opened G1 p.toNatClampNeg := if_neg (by rw [tme]; omega)
            refine br_t (by rw [h_timedAt _ he, if_pos w5]; rfl) ?_
            exact k145 _ (by rw [e5]; exact hvo)
          · have e5 : gp_tmeas (gp_opened G1 p.toNatClampNeg) p.toNatClampNeg = gp_meas (gp_opened G1 p.toNatClampNeg) p.toNatClampNeg := if_pos (by rw [tme]; omega)
            have mk := mok (by omega)
            obtain ⟨m1, m2, m3, m4, m5, m6⟩ := mk
            have ta : (gp_opened G1 p.toNatClampNeg).1 25 p.toNatClampNeg = G1.1 25 p.toNatClampNeg := by simp +decide only [gp_opened, gs_f]
            rw [ta] at m4 m5
            refine br_f (by rw [h_timedAt _ he, if_neg w5, zk_m1, zi_eq (by omega) (by omega) (by omega) (by omega)]; omega) ?_
            refine xl_measure hvo hp (mok (by omega)) fun u3 hv3 => ?_
            exact k145 u3 (by rw [e5]; exact hv3)
        · have hgo : gp_toOpen G p.toNatClampNeg k = gp_flow (gp_send (gp_put (gp_hear G p.toNatClampNeg k) 0 p.toNatClampNeg 3) p.toNatClampNeg 0 1 0) p.toNatClampNeg := by unfold gp_toOpen; rw [if_neg hna, if_neg w, if_pos w3, if_neg w2]
          rw [hgo] at hP
          have hI3 := iv_half hIh he hsh huh
          generalize gp_hear G p.toNatClampNeg k = G1 at *
          have hv2 := hv1
          obtain ⟨h_now, h_sent, h_stateOf, h_error, h_iss, h_una, h_nxt, h_max, h_writtenTo, h_kept, h_keptBytes, h_rcv, h_unread, h_unreadFrom, h_cameBytes, h_held, h_heldFin, h_wnd, h_wndSeq, h_wndAck, h_peak, h_half, h_same, h_rto, h_tries, h_retryAt, h_ackAt, h_waitTill, h_timedAt, h_timedSeq, h_smoothed, h_variance, h_rowCount, h_slotSeq, h_slotFlags, h_slotAck, h_slotWindow, h_slotSize, h_slotBytes⟩ := hv2
          obtain ⟨c1, c2, c3, c4, c5, c6⟩ := hI3.2.2.2.2.1 _ he
          rw [pu_f (f' := 2) (by decide)] at c1
          have cp := c2
          rw [pu_s] at cp
          unfold gv_a at c1
          unfold gv_p at cp
          have c7 := cp.2.2.2.1 (by omega)
          have s3 : (gp_put G1 0 p.toNatClampNeg 3).1 0 p.toNatClampNeg = 3 := pu_s
          have hIs : gv_I K (gp_send (gp_put G1 0 p.toNatClampNeg 3) p.toNatClampNeg 0 1 0) := iv_send hI3 he (by omega) (Or.inr (Or.inl rfl)) (by omega) (by omega) (Or.inl (by rw [show gp_len 1 0 = 1 from by decide]; omega))
          refine br_t (hx4.mpr w2) ⟨hp, nm_e ⟨hp, xl_send (G := gp_put G1 0 p.toNatClampNeg 3) (fr := 0) (vx_put hv1 rfl) hp ?_ zk_1 zk_0 (sk_of hI3 he (by omega) (Or.inr (Or.inl rfl)) (by omega) (by omega) (by omega) (by omega) (by omega)) fun u3 hv3 => ?_⟩⟩
          · rw [pu_f (by decide), h_iss _ he]; congr 1; omega
          · obtain ⟨f_now, f_sent, a_stateOf, a_error, a_iss, a_una, a_nxt, a_max, a_writtenTo, a_kept, a_keptBytes, a_rcv, a_unread, a_unreadFrom, a_cameBytes, a_held, a_heldFin, a_wnd, a_wndSeq, a_wndAck, a_peak, a_half, a_same, a_rto, a_tries, a_retryAt, a_ackAt, a_waitTill, a_timedAt, a_timedSeq, a_smoothed, a_variance, a_rowCount, a_slotSeq, a_slotFlags, a_slotAck, a_slotWindow, a_slotSize, a_slotBytes⟩ := u3
            show wX_arriveSynSent_180 P p f_now f_sent a_stateOf a_error a_iss a_una a_nxt a_max a_writtenTo a_kept a_keptBytes a_rcv a_unread a_unreadFrom a_cameBytes a_held a_heldFin a_wnd a_wndSeq a_wndAck a_peak a_half a_same a_rto a_tries a_retryAt a_ackAt a_waitTill a_timedAt a_timedSeq a_smoothed a_variance a_rowCount a_slotSeq a_slotFlags a_slotAck a_slotWindow a_slotSize a_slotBytes
            unfold wX_arriveSynSent_180
            exact xl_flow hv3 hIs hp hP
      · have : gp_toOpen G p.toNatClampNeg k = G := by unfold gp_toOpen; rw [if_neg hna, if_neg w, if_neg w3]
        rw [this] at hP
        exact br_t (by rw [zk_0, zi_eq (by omega) (by omega) (by omega) (by omega)]; omega) (hP _ hv)
  have k32 : ∀ x4 z0 : Int32, (x4 = 0 ↔ ¬ gm_L G 1 k / 2 % 2 = 1) → (z0 = 0 ↔ ¬ gm_L G 1 k / 8 % 2 = 1) → wX_arriveSynSent_32 P p x (zi_n (gm_L G 1 k)) x4 z0 f_now f_sent a_stateOf a_error a_iss a_una a_nxt a_max a_writtenTo a_kept a_keptBytes a_rcv a_unread a_unreadFrom a_cameBytes a_held a_heldFin a_wnd a_wndSeq a_wndAck a_peak a_half a_same a_rto a_tries a_retryAt a_ackAt a_waitTill a_timedAt a_timedSeq a_smoothed a_variance a_rowCount a_slotSeq a_slotFlags a_slotAck a_slotWindow a_slotSize a_slotBytes := by
    intro x4 z0 hx4 hz0
    unfold wX_arriveSynSent_32
    rw [hxk]
    by_cases w : gm_L G 1 k / 2 % 2 = 1
    · refine br_f (fun z => hx4.mp z w) ⟨hin, hp, xl_behind (h_iss _ he) zk_1 ?_⟩
      by_cases w2 : gm_L G 2 k = (G.1 2 p.toNatClampNeg + 1) % 65536
      · exact br_t (by rw [h_slotAck k hk, w2]) (k70 x4 z0 hx4 hz0 (fun z => z.2 w2))
      · refine br_f (by rw [h_slotAck k hk, zi_eq (by omega) (by omega) (by omega) (by omega)]; exact w2) ?_
        by_cases w3 : gm_L G 1 k / 8 % 2 = 1
        · have : gp_toOpen G p.toNatClampNeg k = G := by unfold gp_toOpen; rw [if_pos ⟨w, w2⟩, if_pos w3]
          rw [this] at hP
          exact br_f (fun z => hz0.mp z w3) (hP _ hv)
        · have : gp_toOpen G p.toNatClampNeg k = gp_rst G p.toNatClampNeg (gm_L G 2 k) 8 0 := by unfold gp_toOpen; rw [if_pos ⟨w, w2⟩, if_neg w3]
          rw [this] at hP
          refine br_t (hz0.mpr w3) (xl_answerReset hv hI hp hk hx ?_)
          rw [if_pos w]; exact hP
    · exact br_t (hx4.mpr w) (k70 x4 z0 hx4 hz0 (fun z => w z.1))
  have k18 : ∀ x4 : Int32, (x4 = 0 ↔ ¬ gm_L G 1 k / 2 % 2 = 1) → wX_arriveSynSent_18 P p x (zi_n (gm_L G 1 k)) x4 f_now f_sent a_stateOf a_error a_iss a_una a_nxt a_max a_writtenTo a_kept a_keptBytes a_rcv a_unread a_unreadFrom a_cameBytes a_held a_heldFin a_wnd a_wndSeq a_wndAck a_peak a_half a_same a_rto a_tries a_retryAt a_ackAt a_waitTill a_timedAt a_timedSeq a_smoothed a_variance a_rowCount a_slotSeq a_slotFlags a_slotAck a_slotWindow a_slotSize a_slotBytes := by
    intro x4 hx4
    unfold wX_arriveSynSent_18
    rw [zf_8 (by omega) (by omega)]
    by_cases w : gm_L G 1 k / 8 % 2 = 1
    · exact br_f (by rw [zk_0, zi_eq (by omega) (by omega) (by omega) (by omega)]; omega) (k32 x4 1 hx4 ⟨fun z => absurd z (by decide), fun z => absurd w z⟩)
    · exact br_t (by rw [zk_0, zi_eq (by omega) (by omega) (by omega) (by omega)]; omega) (k32 x4 0 hx4 ⟨fun _ => w, fun _ => rfl⟩)
  unfold wpX_arriveSynSent
  rw [hxk]
  refine ⟨hin, nm_r (h_slotFlags k hk) ?_⟩
  rw [zf_2 (by omega) (by omega)]
  by_cases w : gm_L G 1 k / 2 % 2 = 1
  · exact br_f (by rw [zk_0, zi_eq (by omega) (by omega) (by omega) (by omega)]; omega) (k18 1 ⟨fun z => absurd z (by decide), fun z => absurd w z⟩)
  · exact br_t (by rw [zk_0, zi_eq (by omega) (by omega) (by omega) (by omega)]; omega) (k18 0 ⟨fun _ => w, fun _ => rfl⟩)
