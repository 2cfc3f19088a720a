/-! the class: the calls on the link -/
theorem xl_isSegment {q K : Int} {G : gm_T} {u : SX} {P : Int32 → Prop} {x y : Int32} {k : Int} (hv : vx_S q G u) (hI : gv_I K G) (hy : y = zi_n k) (h0 : -2147483648 ≤ k) (h1 : k < 2147483648) (ht : vp_in x 2 → 0 ≤ k → k < G.1 30 x.toNatClampNeg → P 1) (hf : ¬ (vp_in x 2 ∧ 0 ≤ k ∧ k < G.1 30 x.toNatClampNeg) → P 0) : wpX_isSegment P u x y := by
  obtain ⟨f_now, f_sent, a_stateOf, a_error, a_iss, a_una, a_nxt, a_max, a_writtenTo, a_kept, a_keptBytes, a_rcv, a_unread, a_unreadFrom, a_cameBytes, a_held, a_heldFin, a_wnd, a_wndSeq, a_wndAck, a_peak, a_half, a_same, a_rto, a_tries, a_retryAt, a_ackAt, a_waitTill, a_timedAt, a_timedSeq, a_smoothed, a_variance, a_rowCount, a_slotSeq, a_slotFlags, a_slotAck, a_slotWindow, a_slotSize, a_slotBytes⟩ := u
  obtain ⟨h_now, h_sent, h_stateOf, h_error, h_iss, h_una, h_nxt, h_max, h_writtenTo, h_kept, h_keptBytes, h_rcv, h_unread, h_unreadFrom, h_cameBytes, h_held, h_heldFin, h_wnd, h_wndSeq, h_wndAck, h_peak, h_half, h_same, h_rto, h_tries, h_retryAt, h_ackAt, h_waitTill, h_timedAt, h_timedSeq, h_smoothed, h_variance, h_rowCount, h_slotSeq, h_slotFlags, h_slotAck, h_slotWindow, h_slotSize, h_slotBytes⟩ := hv
  obtain ⟨z, z0, z1, rfl⟩ := zi_of x
  have iff : vp_in (zi_n z) 2 ↔ (z = 0 ∨ z = 1) := by rw [vp_in_iff, zi_T z0 z1]; omega
  have k9 : vp_in (zi_n z) 2 → wX_isSegment_9 P (zi_n z) y f_now f_sent a_stateOf a_error a_iss a_una a_nxt a_max a_writtenTo a_kept a_keptBytes a_rcv a_unread a_unreadFrom a_cameBytes a_held a_heldFin a_wnd a_wndSeq a_wndAck a_peak a_half a_same a_rto a_tries a_retryAt a_ackAt a_waitTill a_timedAt a_timedSeq a_smoothed a_variance a_rowCount a_slotSeq a_slotFlags a_slotAck a_slotWindow a_slotSize a_slotBytes := by
    intro hp
    have he := pe_lt hp
    obtain ⟨b1, b2, b3, b4, b5, b6⟩ := hI.2.2.2.2.1 _ he
    unfold gv_a at b1
    unfold wX_isSegment_9
    by_cases w : k < 0
    · exact br_t (by rw [hy, zk_0, zi_lt h0 h1 (by omega) (by omega)]; exact w) (hf (fun t => by omega))
    · refine br_f (by rw [hy, zk_0, zi_lt h0 h1 (by omega) (by omega)]; exact w) ⟨hp, ?_⟩
      by_cases w2 : G.1 30 (zi_n z).toNatClampNeg ≤ k
      · exact br_t (by rw [hy, h_rowCount _ he, zi_le (by omega) (by omega) h0 h1]; exact w2) (hf (fun t => by omega))
      · exact br_f (by rw [hy, h_rowCount _ he, zi_le (by omega) (by omega) h0 h1]; exact w2) (ht hp (by omega) (by omega))
  unfold wpX_isSegment
  by_cases w : z = 0
  · exact br_t (by rw [w]; rfl) (k9 (iff.mpr (Or.inl w)))
  · refine br_f (by rw [zk_0, zi_eq z0 z1 (by omega) (by omega)]; exact w) ?_
    by_cases w2 : z = 1
    · exact br_t (by rw [w2]; rfl) (k9 (iff.mpr (Or.inr w2)))
    · exact br_f (by rw [zk_1, zi_eq z0 z1 (by omega) (by omega)]; exact w2) (hf (fun h => by have := iff.mp h.1; omega))
theorem xl_drop {q K : Int} {G : gm_T} {u : SX} {P : Int32 → SX → Prop} {x y : Int32} {k : Int} (hv : vx_S q G u) (hI : gv_I K G) (hy : y = zi_n k) (h0 : -2147483648 ≤ k) (h1 : k < 2147483648) (hA : ¬ (vp_in x 2 ∧ 0 ≤ k ∧ k < G.1 30 x.toNatClampNeg) → P (-1) u) (hB : vp_in x 2 → 0 ≤ k → k < G.1 30 x.toNatClampNeg → ∀ u', vx_S q (gp_rm G x.toNatClampNeg k.toNat) u' → P (zi_n (G.1 30 x.toNatClampNeg - 1)) u') : wpX_drop P u x y := by
  obtain ⟨f_now, f_sent, a_stateOf, a_error, a_iss, a_una, a_nxt, a_max, a_writtenTo, a_kept, a_keptBytes, a_rcv, a_unread, a_unreadFrom, a_cameBytes, a_held, a_heldFin, a_wnd, a_wndSeq, a_wndAck, a_peak, a_half, a_same, a_rto, a_tries, a_retryAt, a_ackAt, a_waitTill, a_timedAt, a_timedSeq, a_smoothed, a_variance, a_rowCount, a_slotSeq, a_slotFlags, a_slotAck, a_slotWindow, a_slotSize, a_slotBytes⟩ := u
  unfold wpX_drop
  refine xl_isSegment hv hI hy h0 h1 (fun hp k0 k1 => ?_) (fun h => br_t rfl (hA h))
  have he := pe_lt hp
  obtain ⟨b1, b2, b3, b4, b5, b6⟩ := hI.2.2.2.2.1 _ he
  unfold gv_a at b1
  refine br_f (by decide) (xl_takeOut (k := k.toNat) hv hp (by rw [hy]; congr 1; omega) (by omega) (by omega) fun u1 hv1 => ?_)
  have hb := hB hp k0 k1 u1 hv1
  obtain ⟨f_now, f_sent, a_stateOf, a_error, a_iss, a_una, a_nxt, a_max, a_writtenTo, a_kept, a_keptBytes, a_rcv, a_unread, a_unreadFrom, a_cameBytes, a_held, a_heldFin, a_wnd, a_wndSeq, a_wndAck, a_peak, a_half, a_same, a_rto, a_tries, a_retryAt, a_ackAt, a_waitTill, a_timedAt, a_timedSeq, a_smoothed, a_variance, a_rowCount, a_slotSeq, a_slotFlags, a_slotAck, a_slotWindow, a_slotSize, a_slotBytes⟩ := u1
  obtain ⟨h_now, h_sent, h_stateOf, h_error, h_iss, h_una, h_nxt, h_max, h_writtenTo, h_kept, h_keptBytes, h_rcv, h_unread, h_unreadFrom, h_cameBytes, h_held, h_heldFin, h_wnd, h_wndSeq, h_wndAck, h_peak, h_half, h_same, h_rto, h_tries, h_retryAt, h_ackAt, h_waitTill, h_timedAt, h_timedSeq, h_smoothed, h_variance, h_rowCount, h_slotSeq, h_slotFlags, h_slotAck, h_slotWindow, h_slotSize, h_slotBytes⟩ := hv1
  refine ⟨hp, ?_⟩
  rw [h_rowCount _ he]
  show P (zi_n (gs_c _ _ _ _ _ _)) _
  rw [gs_s]
  exact hb
theorem xl_deliver {q K : Int} {G : gm_T} {u : SX} {P : Int32 → SX → Prop} {x y : Int32} {k : Int} (hv : vx_S q G u) (hI : gv_I K G) (hK : K + 8 ≤ 5000) (hy : y = zi_n k) (h0 : -2147483648 ≤ k) (h1 : k < 2147483648) (hA : ¬ (vp_in x 2 ∧ 0 ≤ k ∧ k < G.1 30 x.toNatClampNeg) → P (-1) u) (hB : vp_in x 2 → 0 ≤ k → k < G.1 30 x.toNatClampNeg → ∀ u', vx_S 0 (gp_deliver G x.toNatClampNeg k.toNat) u' → P (zi_n (gm_S (gp_deliver G x.toNatClampNeg k.toNat))) u') : wpX_deliver P u x y := by
  obtain ⟨f_now, f_sent, a_stateOf, a_error, a_iss, a_una, a_nxt, a_max, a_writtenTo, a_kept, a_keptBytes, a_rcv, a_unread, a_unreadFrom, a_cameBytes, a_held, a_heldFin, a_wnd, a_wndSeq, a_wndAck, a_peak, a_half, a_same, a_rto, a_tries, a_retryAt, a_ackAt, a_waitTill, a_timedAt, a_timedSeq, a_smoothed, a_variance, a_rowCount, a_slotSeq, a_slotFlags, a_slotAck, a_slotWindow, a_slotSize, a_slotBytes⟩ := u
  have hv0 := hv
  obtain ⟨h_now, h_sent, h_stateOf, h_error, h_iss, h_una, h_nxt, h_max, h_writtenTo, h_kept, h_keptBytes, h_rcv, h_unread, h_unreadFrom, h_cameBytes, h_held, h_heldFin, h_wnd, h_wndSeq, h_wndAck, h_peak, h_half, h_same, h_rto, h_tries, h_retryAt, h_ackAt, h_waitTill, h_timedAt, h_timedSeq, h_smoothed, h_variance, h_rowCount, h_slotSeq, h_slotFlags, h_slotAck, h_slotWindow, h_slotSize, h_slotBytes⟩ := hv0
  unfold wpX_deliver
  refine xl_isSegment hv hI hy h0 h1 (fun hp k0 k1 => ?_) (fun h => br_t rfl (hA h))
  have he := pe_lt hp
  have hz := pe_z hp
  obtain ⟨b1, b2, b3, b4, b5, b6⟩ := hI.2.2.2.2.1 _ he
  unfold gv_a at b1
  have e1 : 1 - x = zi_n (((1 - x.toNatClampNeg : Nat)) : Int) := by
    generalize x.toNatClampNeg = e at hz he
    rw [hz, zk_1, zi_sub]; congr 1; omega
  have e2 : (zi_n (((1 - x.toNatClampNeg : Nat)) : Int)).toNatClampNeg = 1 - x.toNatClampNeg := by rw [zi_cl (by omega) (by omega)]; omega
  have hp' : vp_in (zi_n (((1 - x.toNatClampNeg : Nat)) : Int)) 2 := zi_in (by omega) (by omega) (by omega)
  have he' : 1 - x.toNatClampNeg < 2 := by omega
  have e3 : x * 16 + y = zi_n ((16 * x.toNatClampNeg + k.toNat : Nat) : Int) := by
    generalize x.toNatClampNeg = e at hz he
    rw [hz, hy, zk_16, zi_mul, zi_add]; congr 1; omega
  obtain ⟨c1, c2, c3, c4, c5, c6⟩ := hI.2.2.2.2.1 _ he'
  unfold gv_a at c1
  have hb := hB hp k0 k1
  have hvz := vx_zero hv
  have hIz := iv_zero hI
  have kk : 16 * x.toNatClampNeg + k.toNat < 32 := by omega
  have hrow : 16 * x.toNatClampNeg + k.toNat < 16 * (zi_n (((1 - x.toNatClampNeg : Nat)) : Int)).toNatClampNeg ∨ 16 * (zi_n (((1 - x.toNatClampNeg : Nat)) : Int)).toNatClampNeg + 16 ≤ 16 * x.toNatClampNeg + k.toNat := by rw [e2]; omega
  have k97 : ∀ u1, vx_S 0 (gp_arrive (gp_zero G) (1 - x.toNatClampNeg) (16 * x.toNatClampNeg + k.toNat)) u1 → (match u1 with | (f_now, f_sent, a_stateOf, a_error, a_iss, a_una, a_nxt, a_max, a_writtenTo, a_kept, a_keptBytes, a_rcv, a_unread, a_unreadFrom, a_cameBytes, a_held, a_heldFin, a_wnd, a_wndSeq, a_wndAck, a_peak, a_half, a_same, a_rto, a_tries, a_retryAt, a_ackAt, a_waitTill, a_timedAt, a_timedSeq, a_smoothed, a_variance, a_rowCount, a_slotSeq, a_slotFlags, a_slotAck, a_slotWindow, a_slotSize, a_slotBytes) => wX_deliver_97 P x y f_now f_sent a_stateOf a_error a_iss a_una a_nxt a_max a_writtenTo a_kept a_keptBytes a_rcv a_unread a_unreadFrom a_cameBytes a_held a_heldFin a_wnd a_wndSeq a_wndAck a_peak a_half a_same a_rto a_tries a_retryAt a_ackAt a_waitTill a_timedAt a_timedSeq a_smoothed a_variance a_rowCount a_slotSeq a_slotFlags a_slotAck a_slotWindow a_slotSize a_slotBytes) := by
    intro u1 hv1
    obtain ⟨f_now, f_sent, a_stateOf, a_error, a_iss, a_una, a_nxt, a_max, a_writtenTo, a_kept, a_keptBytes, a_rcv, a_unread, a_unreadFrom, a_cameBytes, a_held, a_heldFin, a_wnd, a_wndSeq, a_wndAck, a_peak, a_half, a_same, a_rto, a_tries, a_retryAt, a_ackAt, a_waitTill, a_timedAt, a_timedSeq, a_smoothed, a_variance, a_rowCount, a_slotSeq, a_slotFlags, a_slotAck, a_slotWindow, a_slotSize, a_slotBytes⟩ := u1
    show wX_deliver_97 P x y f_now f_sent a_stateOf a_error a_iss a_una a_nxt a_max a_writtenTo a_kept a_keptBytes a_rcv a_unread a_unreadFrom a_cameBytes a_held a_heldFin a_wnd a_wndSeq a_wndAck a_peak a_half a_same a_rto a_tries a_retryAt a_ackAt a_waitTill a_timedAt a_timedSeq a_smoothed a_variance a_rowCount a_slotSeq a_slotFlags a_slotAck a_slotWindow a_slotSize a_slotBytes
    have hrw : (gp_arrive (gp_zero G) (1 - x.toNatClampNeg) (16 * x.toNatClampNeg + k.toNat)).1 30 x.toNatClampNeg = G.1 30 x.toNatClampNeg := ar_o (by omega) _
    unfold wX_deliver_97
    refine xl_takeOut (k := k.toNat) hv1 hp (by rw [hy]; congr 1; omega) (by rw [hrw]; omega) (by rw [hrw]; omega) fun u2 hv2 => ?_
    have hb2 := hb u2 hv2
    obtain ⟨f_now, f_sent, a_stateOf, a_error, a_iss, a_una, a_nxt, a_max, a_writtenTo, a_kept, a_keptBytes, a_rcv, a_unread, a_unreadFrom, a_cameBytes, a_held, a_heldFin, a_wnd, a_wndSeq, a_wndAck, a_peak, a_half, a_same, a_rto, a_tries, a_retryAt, a_ackAt, a_waitTill, a_timedAt, a_timedSeq, a_smoothed, a_variance, a_rowCount, a_slotSeq, a_slotFlags, a_slotAck, a_slotWindow, a_slotSize, a_slotBytes⟩ := u2
    clear h_sent
    obtain ⟨h_now, h_sent, h_stateOf, h_error, h_iss, h_una, h_nxt, h_max, h_writtenTo, h_kept, h_keptBytes, h_rcv, h_unread, h_unreadFrom, h_cameBytes, h_held, h_heldFin, h_wnd, h_wndSeq, h_wndAck, h_peak, h_half, h_same, h_rto, h_tries, h_retryAt, h_ackAt, h_waitTill, h_timedAt, h_timedSeq, h_smoothed, h_variance, h_rowCount, h_slotSeq, h_slotFlags, h_slotAck, h_slotWindow, h_slotSize, h_slotBytes⟩ := hv2
    have hs : zi_n (gm_S (gp_deliver G x.toNatClampNeg k.toNat)) = f_sent := by rw [h_sent, Int.add_zero]; rfl
    rw [hs] at hb2
    exact hb2
  refine br_f (by decide) (nm_r e1 (nm_r e3 ⟨hp', nm_r (e' := zi_n (G.1 0 (1 - x.toNatClampNeg))) (by rw [e2]; exact h_stateOf _ he') ?_⟩))
  have hst0 : (gp_zero G).1 0 (1 - x.toNatClampNeg) = G.1 0 (1 - x.toNatClampNeg) := rfl
  refine br_f (by rw [zk_0, zi_lt (by omega) (by omega) (by omega) (by omega)]; omega) ?_
  by_cases w : 2 < G.1 0 (1 - x.toNatClampNeg)
  · refine br_t (by rw [zk_2, zi_lt (by omega) (by omega) (by omega) (by omega)]; exact w) ?_
    refine xl_arriveConnected hvz hIz hp' kk hrow hK rfl (by rw [e2]; show 3 ≤ G.1 0 (1 - x.toNatClampNeg); omega) fun u1 hv1 => ?_
    rw [e2] at hv1
    refine k97 u1 ?_
    unfold gp_arrive
    rw [hst0, if_neg (by omega), if_neg (by omega), if_neg (by omega)]; exact hv1
  · refine br_f (by rw [zk_2, zi_lt (by omega) (by omega) (by omega) (by omega)]; exact w) ?_
    by_cases w0 : G.1 0 (1 - x.toNatClampNeg) = 0
    · refine br_t (by rw [w0]; rfl) (xl_arriveClosed hvz hIz hp' kk rfl fun u1 hv1 => ?_)
      rw [e2] at hv1
      refine k97 u1 ?_
      unfold gp_arrive
      rw [hst0, if_pos w0]; exact hv1
    · refine br_f (by rw [zk_0, zi_eq (by omega) (by omega) (by omega) (by omega)]; exact w0) ?_
      by_cases w1 : G.1 0 (1 - x.toNatClampNeg) = 1
      · refine br_t (by rw [w1]; rfl) (xl_arriveListen hvz hIz hp' kk rfl (by rw [e2]; exact w1) fun u1 hv1 => ?_)
        rw [e2] at hv1
        refine k97 u1 ?_
        unfold gp_arrive
        rw [hst0, if_neg w0, if_pos w1]; exact hv1
      · refine br_f (by rw [zk_1, zi_eq (by omega) (by omega) (by omega) (by omega)]; exact w1) ?_
        have w2 : G.1 0 (1 - x.toNatClampNeg) = 2 := by omega
        refine br_t (by rw [w2]; rfl) (xl_arriveSynSent hvz hIz hp' kk rfl (by rw [e2]; exact w2) fun u1 hv1 => ?_)
        rw [e2] at hv1
        refine k97 u1 ?_
        unfold gp_arrive
        rw [hst0, if_neg w0, if_neg w1, if_pos w2]; exact hv1
theorem xl_twice {q K : Int} {G : gm_T} {u : SX} {P : Int32 → SX → Prop} {x y : Int32} {k : Int} (hv : vx_S q G u) (hI : gv_I K G) (hy : y = zi_n k) (h0 : -2147483648 ≤ k) (h1 : k < 2147483648) (hA : ¬ (vp_in x 2 ∧ 0 ≤ k ∧ k < G.1 30 x.toNatClampNeg) → P (-1) u) (hF : vp_in x 2 → 0 ≤ k → k < G.1 30 x.toNatClampNeg → G.1 30 x.toNatClampNeg = 16 → P (-2) u) (hB : vp_in x 2 → 0 ≤ k → k < G.1 30 x.toNatClampNeg → G.1 30 x.toNatClampNeg < 16 → ∀ u', vx_S q (gp_twice G x.toNatClampNeg k.toNat) u' → P (zi_n (G.1 30 x.toNatClampNeg + 1)) u') : wpX_twice P u x y := by
  obtain ⟨f_now, f_sent, a_stateOf, a_error, a_iss, a_una, a_nxt, a_max, a_writtenTo, a_kept, a_keptBytes, a_rcv, a_unread, a_unreadFrom, a_cameBytes, a_held, a_heldFin, a_wnd, a_wndSeq, a_wndAck, a_peak, a_half, a_same, a_rto, a_tries, a_retryAt, a_ackAt, a_waitTill, a_timedAt, a_timedSeq, a_smoothed, a_variance, a_rowCount, a_slotSeq, a_slotFlags, a_slotAck, a_slotWindow, a_slotSize, a_slotBytes⟩ := u
  have hv0 := hv
  obtain ⟨h_now, h_sent, h_stateOf, h_error, h_iss, h_una, h_nxt, h_max, h_writtenTo, h_kept, h_keptBytes, h_rcv, h_unread, h_unreadFrom, h_cameBytes, h_held, h_heldFin, h_wnd, h_wndSeq, h_wndAck, h_peak, h_half, h_same, h_rto, h_tries, h_retryAt, h_ackAt, h_waitTill, h_timedAt, h_timedSeq, h_smoothed, h_variance, h_rowCount, h_slotSeq, h_slotFlags, h_slotAck, h_slotWindow, h_slotSize, h_slotBytes⟩ := hv0
  unfold wpX_twice
  refine xl_isSegment hv hI hy h0 h1 (fun hp k0 k1 => ?_) (fun h => br_t rfl (hA h))
  have he := pe_lt hp
  have hz := pe_z hp
  obtain ⟨b1, b2, b3, b4, b5, b6⟩ := hI.2.2.2.2.1 _ he
  unfold gv_a at b1
  refine br_f (by decide) ⟨hp, ?_⟩
  by_cases w : G.1 30 x.toNatClampNeg = 16
  · exact br_t (by rw [h_rowCount _ he, w]; rfl) (hF hp k0 k1 w)
  · have hb := hB hp k0 k1 (by omega)
    refine br_f (by rw [h_rowCount _ he, zk_16, zi_eq (by omega) (by omega) (by omega) (by omega)]; exact w) (xl_nextSlot hp (h_rowCount _ he) (by omega) (by omega) (fun hlt => ?_) (fun h => absurd h w))
    have e3 : x * 16 + y = zi_n ((16 * x.toNatClampNeg + k.toNat : Nat) : Int) := by
      generalize x.toNatClampNeg = e at hz he
      rw [hz, hy, zk_16, zi_mul, zi_add]; congr 1; omega
    refine xl_copySlot (a := 16 * x.toNatClampNeg + k.toNat) (b := 16 * x.toNatClampNeg + (G.1 30 x.toNatClampNeg).toNat) e3 (by congr 1; omega) (by omega) (by omega) (by omega) (fun j hj => ⟨_, h_slotBytes j hj⟩) fun SB hSB => ⟨hp, ?_⟩
    rw [zu_s]
    refine hb _ ?_
    refine (vx_mk h_now h_sent h_stateOf h_error h_iss h_una h_nxt h_max h_writtenTo h_kept h_keptBytes h_rcv h_unread h_unreadFrom h_cameBytes h_held h_heldFin h_wnd h_wndSeq h_wndAck h_peak h_half h_same h_rto h_tries h_retryAt h_ackAt h_waitTill h_timedAt h_timedSeq h_smoothed h_variance (vu_e h_rowCount ?a1 (fun e' y => gs_e y)) (vs_0 h_slotSeq (h_slotSeq _ (by omega))) (vs_1 h_slotFlags (h_slotFlags _ (by omega))) (vs_2 h_slotAck (h_slotAck _ (by omega))) (vs_3 h_slotWindow (h_slotWindow _ (by omega))) (vs_4 h_slotSize (h_slotSize _ (by omega))) (fun j hj => ?a2))
    case a1 =>
      show _ = zi_n (gs_c _ _ _ _ _ _)
      rw [gs_s]
    case a2 =>
      have t : gm_D (gp_twice G x.toNatClampNeg k.toNat) j = gm_d (gm_D G) (16 * x.toNatClampNeg + (G.1 30 x.toNatClampNeg).toNat) 8 (fun i => gm_D G (8 * (16 * x.toNatClampNeg + k.toNat) + i.toNat)) j := rfl
      rw [hSB, t]
      unfold gm_d
      by_cases w2 : 8 * (16 * x.toNatClampNeg + (G.1 30 x.toNatClampNeg).toNat) ≤ j ∧ j < 8 * (16 * x.toNatClampNeg + (G.1 30 x.toNatClampNeg).toNat) + 8
      · rw [if_pos w2, if_pos (by omega), h_slotBytes _ (by omega)]
        congr 3; omega
      · rw [if_neg w2, if_neg (by omega)]; exact h_slotBytes j hj
