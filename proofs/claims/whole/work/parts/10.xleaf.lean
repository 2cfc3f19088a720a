/-! the class's small methods -/
theorem xl_behind {P : Int32 → Prop} {x y : Int32} {a b : Int} (hx : x = zi_n a) (hy : y = zi_n b) (h : P (zi_n ((a + b) % 65536))) : wpX_behind P x y := by
  unfold wpX_behind
  rw [hx, hy, zi_add, zi_a16]
  exact h
theorem xl_offset {P : Int32 → Prop} {x y : Int32} {a b : Int} (hx : x = zi_n a) (hy : y = zi_n b) (h : P (zi_n (zi_s (a - b)))) : wpX_offset P x y := by
  unfold wpX_offset
  rw [hx, hy, zi_sub, zi_short]
  exact h
theorem xl_off {P : Int32 → Prop} {x y : Int32} {i a b : Int} (hx : x = zi_n ((i + a) % 65536)) (hy : y = zi_n ((i + b) % 65536)) (h1 : -32768 ≤ a - b) (h2 : a - b < 32768) (h : P (zi_n (a - b))) : wpX_offset P x y :=
  xl_offset hx hy (by rw [zi_off h1 h2]; exact h)
theorem xl_lengthOf {P : Int32 → Prop} {f n : Int} (h0 : 0 ≤ f) (h1 : f ≤ 15) (h : P (zi_n (gp_len f n))) : wpX_lengthOf P (zi_n f) (zi_n n) := by
  unfold wpX_lengthOf wX_lengthOf_12
  have e1 : (zi_n f &&& 1) = zi_n (f % 2) := zf_1 h0 h1
  have e4 : (zi_n f &&& 4) = zi_n (4 * (f / 4 % 2)) := zf_4 h0 h1
  have e : gp_len f n = n + f % 2 + f / 4 % 2 := rfl
  rw [e] at h
  rw [e1, e4, zk_0, zk_1]
  rw [zi_eq (by omega) (by omega) (by omega) (by omega), zi_eq (by omega) (by omega) (by omega) (by omega)]
  simp only [zi_add]
  refine ⟨fun q => ⟨fun w => ?_, fun w => ?_⟩, fun q => ⟨fun w => ?_, fun w => ?_⟩⟩
  · rw [show n + 0 + 0 = n + f % 2 + f / 4 % 2 from by omega]; exact h
  · rw [show n + 0 + 1 = n + f % 2 + f / 4 % 2 from by omega]; exact h
  · rw [show n + 1 + 0 = n + f % 2 + f / 4 % 2 from by omega]; exact h
  · rw [show n + 1 + 1 = n + f % 2 + f / 4 % 2 from by omega]; exact h
theorem xl_nextSlot {P : Int32 → SX → Prop} {f_now : Int32} {f_sent : Int32} {a_stateOf : (Nat → Int32)} {a_error : (Nat → Int32)} {a_iss : (Nat → Int32)} {a_una : (Nat → Int32)} {a_nxt : (Nat → Int32)} {a_max : (Nat → Int32)} {a_writtenTo : (Nat → Int32)} {a_kept : (Nat → Int32)} {a_keptBytes : (Nat → Int32)} {a_rcv : (Nat → Int32)} {a_unread : (Nat → Int32)} {a_unreadFrom : (Nat → Int32)} {a_cameBytes : (Nat → Int32)} {a_held : (Nat → Int32)} {a_heldFin : (Nat → Int32)} {a_wnd : (Nat → Int32)} {a_wndSeq : (Nat → Int32)} {a_wndAck : (Nat → Int32)} {a_peak : (Nat → Int32)} {a_half : (Nat → Int32)} {a_same : (Nat → Int32)} {a_rto : (Nat → Int32)} {a_tries : (Nat → Int32)} {a_retryAt : (Nat → Int32)} {a_ackAt : (Nat → Int32)} {a_waitTill : (Nat → Int32)} {a_timedAt : (Nat → Int32)} {a_timedSeq : (Nat → Int32)} {a_smoothed : (Nat → Int32)} {a_variance : (Nat → Int32)} {a_rowCount : (Nat → Int32)} {a_slotSeq : (Nat → Int32)} {a_slotFlags : (Nat → Int32)} {a_slotAck : (Nat → Int32)} {a_slotWindow : (Nat → Int32)} {a_slotSize : (Nat → Int32)} {a_slotBytes : (Nat → Int32)} {p : Int32} {r : Int} (hp : vp_in p 2) (hr : a_rowCount p.toNatClampNeg = zi_n r) (h0 : 0 ≤ r) (h16 : r ≤ 16) (h1 : r < 16 → P (zi_n (16 * (p.toNatClampNeg : Int) + r)) (f_now, f_sent, a_stateOf, a_error, a_iss, a_una, a_nxt, a_max, a_writtenTo, a_kept, a_keptBytes, a_rcv, a_unread, a_unreadFrom, a_cameBytes, a_held, a_heldFin, a_wnd, a_wndSeq, a_wndAck, a_peak, a_half, a_same, a_rto, a_tries, a_retryAt, a_ackAt, a_waitTill, a_timedAt, a_timedSeq, a_smoothed, a_variance, upd a_rowCount p.toNatClampNeg (zi_n (r + 1)), a_slotSeq, a_slotFlags, a_slotAck, a_slotWindow, a_slotSize, a_slotBytes)) (h2 : r = 16 → P (zi_n 32) (f_now, f_sent, a_stateOf, a_error, a_iss, a_una, a_nxt, a_max, a_writtenTo, a_kept, a_keptBytes, a_rcv, a_unread, a_unreadFrom, a_cameBytes, a_held, a_heldFin, a_wnd, a_wndSeq, a_wndAck, a_peak, a_half, a_same, a_rto, a_tries, a_retryAt, a_ackAt, a_waitTill, a_timedAt, a_timedSeq, a_smoothed, a_variance, a_rowCount, a_slotSeq, a_slotFlags, a_slotAck, a_slotWindow, a_slotSize, a_slotBytes)) : wpX_nextSlot P (f_now, f_sent, a_stateOf, a_error, a_iss, a_una, a_nxt, a_max, a_writtenTo, a_kept, a_keptBytes, a_rcv, a_unread, a_unreadFrom, a_cameBytes, a_held, a_heldFin, a_wnd, a_wndSeq, a_wndAck, a_peak, a_half, a_same, a_rto, a_tries, a_retryAt, a_ackAt, a_waitTill, a_timedAt, a_timedSeq, a_smoothed, a_variance, a_rowCount, a_slotSeq, a_slotFlags, a_slotAck, a_slotWindow, a_slotSize, a_slotBytes) p := by
  have hz := pe_z hp
  have hl := pe_lt hp
  unfold wpX_nextSlot
  by_cases q : r = 16
  · exact ⟨hp, br_t (by rw [hr, q]; rfl) (h2 q)⟩
  · have e1 : a_rowCount p.toNatClampNeg + 1 = zi_n (r + 1) := by rw [hr, zk_1, zi_add]
    have e2 : (p * 16 + upd a_rowCount p.toNatClampNeg (zi_n (r + 1)) p.toNatClampNeg) - 1 = zi_n (16 * (p.toNatClampNeg : Int) + r) := by
      rw [zu_s]
      generalize p.toNatClampNeg = e at *
      rw [hz, zk_16, zk_1, zi_mul, zi_add, zi_sub]
      congr 1; omega
    refine ⟨hp, br_f (by rw [hr, zk_16, zi_eq (by omega) (by omega) (by omega) (by omega)]; exact q) ⟨hp, hp, nm_r (congrArg (upd a_rowCount p.toNatClampNeg) e1) ⟨hp, ?_⟩⟩⟩
    rw [e2]
    exact h1 (by omega)
theorem xl_setRetry {P : SX → Prop} {f_now : Int32} {f_sent : Int32} {a_stateOf : (Nat → Int32)} {a_error : (Nat → Int32)} {a_iss : (Nat → Int32)} {a_una : (Nat → Int32)} {a_nxt : (Nat → Int32)} {a_max : (Nat → Int32)} {a_writtenTo : (Nat → Int32)} {a_kept : (Nat → Int32)} {a_keptBytes : (Nat → Int32)} {a_rcv : (Nat → Int32)} {a_unread : (Nat → Int32)} {a_unreadFrom : (Nat → Int32)} {a_cameBytes : (Nat → Int32)} {a_held : (Nat → Int32)} {a_heldFin : (Nat → Int32)} {a_wnd : (Nat → Int32)} {a_wndSeq : (Nat → Int32)} {a_wndAck : (Nat → Int32)} {a_peak : (Nat → Int32)} {a_half : (Nat → Int32)} {a_same : (Nat → Int32)} {a_rto : (Nat → Int32)} {a_tries : (Nat → Int32)} {a_retryAt : (Nat → Int32)} {a_ackAt : (Nat → Int32)} {a_waitTill : (Nat → Int32)} {a_timedAt : (Nat → Int32)} {a_timedSeq : (Nat → Int32)} {a_smoothed : (Nat → Int32)} {a_variance : (Nat → Int32)} {a_rowCount : (Nat → Int32)} {a_slotSeq : (Nat → Int32)} {a_slotFlags : (Nat → Int32)} {a_slotAck : (Nat → Int32)} {a_slotWindow : (Nat → Int32)} {a_slotSize : (Nat → Int32)} {a_slotBytes : (Nat → Int32)} {p : Int32} {r : Int} (hp : vp_in p 2) (hr : a_retryAt p.toNatClampNeg = zi_n r) (h0 : -1 ≤ r) (h1 : r < 2147483648) (hP : P (f_now, f_sent, a_stateOf, a_error, a_iss, a_una, a_nxt, a_max, a_writtenTo, a_kept, a_keptBytes, a_rcv, a_unread, a_unreadFrom, a_cameBytes, a_held, a_heldFin, a_wnd, a_wndSeq, a_wndAck, a_peak, a_half, a_same, a_rto, a_tries, if r < 0 then upd a_retryAt p.toNatClampNeg (f_now + a_rto p.toNatClampNeg) else a_retryAt, a_ackAt, a_waitTill, a_timedAt, a_timedSeq, a_smoothed, a_variance, a_rowCount, a_slotSeq, a_slotFlags, a_slotAck, a_slotWindow, a_slotSize, a_slotBytes)) : wpX_setRetryIfNone P (f_now, f_sent, a_stateOf, a_error, a_iss, a_una, a_nxt, a_max, a_writtenTo, a_kept, a_keptBytes, a_rcv, a_unread, a_unreadFrom, a_cameBytes, a_held, a_heldFin, a_wnd, a_wndSeq, a_wndAck, a_peak, a_half, a_same, a_rto, a_tries, a_retryAt, a_ackAt, a_waitTill, a_timedAt, a_timedSeq, a_smoothed, a_variance, a_rowCount, a_slotSeq, a_slotFlags, a_slotAck, a_slotWindow, a_slotSize, a_slotBytes) p := by
  unfold wpX_setRetryIfNone
  by_cases q : r < 0
  · rw [if_pos q] at hP
    exact ⟨hp, br_t (by rw [hr, zk_m1]; congr 1; omega) ⟨hp, hp, nm_e hP⟩⟩
  · rw [if_neg q] at hP
    exact ⟨hp, br_f (by rw [hr, zk_m1, zi_eq (by omega) (by omega) (by omega) (by omega)]; omega) hP⟩
theorem xl_ownWindow {P : Int32 → Prop} {f_now : Int32} {f_sent : Int32} {a_stateOf : (Nat → Int32)} {a_error : (Nat → Int32)} {a_iss : (Nat → Int32)} {a_una : (Nat → Int32)} {a_nxt : (Nat → Int32)} {a_max : (Nat → Int32)} {a_writtenTo : (Nat → Int32)} {a_kept : (Nat → Int32)} {a_keptBytes : (Nat → Int32)} {a_rcv : (Nat → Int32)} {a_unread : (Nat → Int32)} {a_unreadFrom : (Nat → Int32)} {a_cameBytes : (Nat → Int32)} {a_held : (Nat → Int32)} {a_heldFin : (Nat → Int32)} {a_wnd : (Nat → Int32)} {a_wndSeq : (Nat → Int32)} {a_wndAck : (Nat → Int32)} {a_peak : (Nat → Int32)} {a_half : (Nat → Int32)} {a_same : (Nat → Int32)} {a_rto : (Nat → Int32)} {a_tries : (Nat → Int32)} {a_retryAt : (Nat → Int32)} {a_ackAt : (Nat → Int32)} {a_waitTill : (Nat → Int32)} {a_timedAt : (Nat → Int32)} {a_timedSeq : (Nat → Int32)} {a_smoothed : (Nat → Int32)} {a_variance : (Nat → Int32)} {a_rowCount : (Nat → Int32)} {a_slotSeq : (Nat → Int32)} {a_slotFlags : (Nat → Int32)} {a_slotAck : (Nat → Int32)} {a_slotWindow : (Nat → Int32)} {a_slotSize : (Nat → Int32)} {a_slotBytes : (Nat → Int32)} {p : Int32} {r : Int} (hp : vp_in p 2) (hr : a_unread p.toNatClampNeg = zi_n r) (h : P (zi_n (24 - r))) : wpX_ownWindow P (f_now, f_sent, a_stateOf, a_error, a_iss, a_una, a_nxt, a_max, a_writtenTo, a_kept, a_keptBytes, a_rcv, a_unread, a_unreadFrom, a_cameBytes, a_held, a_heldFin, a_wnd, a_wndSeq, a_wndAck, a_peak, a_half, a_same, a_rto, a_tries, a_retryAt, a_ackAt, a_waitTill, a_timedAt, a_timedSeq, a_smoothed, a_variance, a_rowCount, a_slotSeq, a_slotFlags, a_slotAck, a_slotWindow, a_slotSize, a_slotBytes) p := by
  unfold wpX_ownWindow
  refine ⟨hp, ?_⟩
  rw [hr, zk_24, zi_sub]; exact h
theorem vn_b0 : vp_nar .boolean 0 = 0 := rfl
theorem vn_b1 : vp_nar .boolean 1 = 1 := rfl
theorem xl_holdNothing {P : SX → Prop} {f_now : Int32} {f_sent : Int32} {a_stateOf : (Nat → Int32)} {a_error : (Nat → Int32)} {a_iss : (Nat → Int32)} {a_una : (Nat → Int32)} {a_nxt : (Nat → Int32)} {a_max : (Nat → Int32)} {a_writtenTo : (Nat → Int32)} {a_kept : (Nat → Int32)} {a_keptBytes : (Nat → Int32)} {a_rcv : (Nat → Int32)} {a_unread : (Nat → Int32)} {a_unreadFrom : (Nat → Int32)} {a_cameBytes : (Nat → Int32)} {a_held : (Nat → Int32)} {a_heldFin : (Nat → Int32)} {a_wnd : (Nat → Int32)} {a_wndSeq : (Nat → Int32)} {a_wndAck : (Nat → Int32)} {a_peak : (Nat → Int32)} {a_half : (Nat → Int32)} {a_same : (Nat → Int32)} {a_rto : (Nat → Int32)} {a_tries : (Nat → Int32)} {a_retryAt : (Nat → Int32)} {a_ackAt : (Nat → Int32)} {a_waitTill : (Nat → Int32)} {a_timedAt : (Nat → Int32)} {a_timedSeq : (Nat → Int32)} {a_smoothed : (Nat → Int32)} {a_variance : (Nat → Int32)} {a_rowCount : (Nat → Int32)} {a_slotSeq : (Nat → Int32)} {a_slotFlags : (Nat → Int32)} {a_slotAck : (Nat → Int32)} {a_slotWindow : (Nat → Int32)} {a_slotSize : (Nat → Int32)} {a_slotBytes : (Nat → Int32)} {p : Int32} (hp : vp_in p 2) (hP : ∀ A : Nat → Int32, (∀ j, j < 32 → A (32 * p.toNatClampNeg + j) = 0) → (∀ j, (j < 32 * p.toNatClampNeg ∨ 32 * p.toNatClampNeg + 32 ≤ j) → A j = a_held j) → P (f_now, f_sent, a_stateOf, a_error, a_iss, a_una, a_nxt, a_max, a_writtenTo, a_kept, a_keptBytes, a_rcv, a_unread, a_unreadFrom, a_cameBytes, A, upd a_heldFin p.toNatClampNeg (-1), a_wnd, a_wndSeq, a_wndAck, a_peak, a_half, a_same, a_rto, a_tries, a_retryAt, a_ackAt, a_waitTill, a_timedAt, a_timedSeq, a_smoothed, a_variance, a_rowCount, a_slotSeq, a_slotFlags, a_slotAck, a_slotWindow, a_slotSize, a_slotBytes)) : wpX_holdNothing P (f_now, f_sent, a_stateOf, a_error, a_iss, a_una, a_nxt, a_max, a_writtenTo, a_kept, a_keptBytes, a_rcv, a_unread, a_unreadFrom, a_cameBytes, a_held, a_heldFin, a_wnd, a_wndSeq, a_wndAck, a_peak, a_half, a_same, a_rto, a_tries, a_retryAt, a_ackAt, a_waitTill, a_timedAt, a_timedSeq, a_smoothed, a_variance, a_rowCount, a_slotSeq, a_slotFlags, a_slotAck, a_slotWindow, a_slotSize, a_slotBytes) p := by
  have hz := pe_z hp
  have hl := pe_lt hp
  have lo : ∀ (n i : Nat) (A H : Nat → Int32), i ≤ 32 → 32 - i < n → (∀ j, j < i → A (32 * p.toNatClampNeg + j) = 0) → (∀ j, (j < 32 * p.toNatClampNeg ∨ 32 * p.toNatClampNeg + 32 ≤ j) → A j = a_held j) → H = upd a_heldFin p.toNatClampNeg (-1) → wX_holdNothing_9 P p f_now f_sent n (nI i) a_stateOf a_error a_iss a_una a_nxt a_max a_writtenTo a_kept a_keptBytes a_rcv a_unread a_unreadFrom a_cameBytes (A) (H) a_wnd a_wndSeq a_wndAck a_peak a_half a_same a_rto a_tries a_retryAt a_ackAt a_waitTill a_timedAt a_timedSeq a_smoothed a_variance a_rowCount a_slotSeq a_slotFlags a_slotAck a_slotWindow a_slotSize a_slotBytes := by
    intro n
    induction n with
    | zero => intro i A H h1 h2; omega
    | succ n ih =>
      intro i A H h1 h2 h3 h4 h5
      by_cases q : i = 32
      · subst q
        refine br_t (by decide) ?_
        rw [h5]
        exact hP A h3 h4
      · have e1 : (p * 32 + nI i) = zi_n (32 * (p.toNatClampNeg : Int) + i) := by
          generalize p.toNatClampNeg = e at *
          rw [hz, zi_nI, zk_32, zi_mul, zi_add]; congr 1; omega
        have e2 : (p * 32 + nI i).toNatClampNeg = 32 * p.toNatClampNeg + i := by
          rw [e1, zi_cl (by omega) (by omega)]; omega
        refine br_f ?_ ⟨?_, nm_e (nm_r (nI_1 i) (ih (i + 1) _ H (by omega) (by omega) ?_ ?_ h5))⟩
        · rw [zk_32, zi_nI, zi_le (by omega) (by omega) (by omega) (by omega)]; omega
        · rw [e1]; exact zi_in (by omega) (by omega) (by omega)
        · intro j hj
          rw [e2]
          by_cases w : j = i
          · rw [w, zu_s]; rfl
          · rw [zu_n (by omega)]; exact h3 j (by omega)
        · intro j hj
          rw [e2, zu_n (by omega)]; exact h4 j hj
  unfold wpX_holdNothing
  exact ⟨hp, nm_e ⟨33, lo 33 0 a_held _ (by omega) (by omega) (fun j hj => by omega) (fun j _ => rfl) rfl⟩⟩
