/-! the two states as pictures of G -/
def vx_S (q : Int) (G : gm_T) (u : SX) : Prop := match u with
  | (f_now, f_sent, a_stateOf, a_error, a_iss, a_una, a_nxt, a_max, a_writtenTo, a_kept, a_keptBytes, a_rcv, a_unread, a_unreadFrom, a_cameBytes, a_held, a_heldFin, a_wnd, a_wndSeq, a_wndAck, a_peak, a_half, a_same, a_rto, a_tries, a_retryAt, a_ackAt, a_waitTill, a_timedAt, a_timedSeq, a_smoothed, a_variance, a_rowCount, a_slotSeq, a_slotFlags, a_slotAck, a_slotWindow, a_slotSize, a_slotBytes) => (f_now = zi_n (gm_N G)) ∧ (f_sent = zi_n (gm_S G + q)) ∧ (∀ e, e < 2 → a_stateOf e = zi_n (G.1 0 e)) ∧ (∀ e, e < 2 → a_error e = zi_n (G.1 1 e)) ∧ (∀ e, e < 2 → a_iss e = zi_n (G.1 2 e)) ∧ (∀ e, e < 2 → a_una e = zi_n ((G.1 2 e + G.1 3 e) % 65536)) ∧ (∀ e, e < 2 → a_nxt e = zi_n ((G.1 2 e + G.1 4 e) % 65536)) ∧ (∀ e, e < 2 → a_max e = zi_n ((G.1 2 e + G.1 5 e) % 65536)) ∧ (∀ e, e < 2 → a_writtenTo e = zi_n ((G.1 2 e + G.1 6 e) % 65536)) ∧ (∀ e, e < 2 → a_kept e = zi_n (G.1 31 e)) ∧ (∀ e, e < 2 → ∀ p : Int, 1 ≤ p → p < G.1 6 e → G.1 6 e - 32 ≤ p → a_keptBytes (32 * e + ((G.1 2 e + p) % 32).toNat) = zi_n (zi_b (gm_W G e p))) ∧ (∀ e, e < 2 → a_rcv e = zi_n ((G.1 7 e + G.1 8 e) % 65536)) ∧ (∀ e, e < 2 → a_unread e = zi_n (G.1 9 e)) ∧ (∀ e, e < 2 → a_unreadFrom e = zi_n ((G.1 7 e + G.1 10 e) % 65536)) ∧ (∀ e, e < 2 → ∀ p : Int, ((G.1 10 e ≤ p ∧ p < G.1 10 e + G.1 9 e) ∨ gm_H G e p = true) → a_cameBytes (32 * e + ((G.1 7 e + p) % 32).toNat) = zi_n (zi_b (gm_B G e p))) ∧ (∀ e, e < 2 → ∀ p : Int, G.1 8 e ≤ p → p < G.1 8 e + 32 → a_held (32 * e + ((G.1 7 e + p) % 32).toNat) = (if gm_H G e p = true then 1 else 0)) ∧ (∀ e, e < 2 → a_heldFin e = zi_n (if G.1 11 e < 0 then -1 else (G.1 7 e + G.1 11 e) % 65536)) ∧ (∀ e, e < 2 → a_wnd e = zi_n (G.1 12 e)) ∧ (∀ e, e < 2 → a_wndSeq e = zi_n (if G.1 13 e = 0 then -1 else G.1 14 e)) ∧ (∀ e, e < 2 → G.1 13 e ≠ 0 → a_wndAck e = zi_n (G.1 15 e)) ∧ (∀ e, e < 2 → a_peak e = zi_n (G.1 16 e)) ∧ (∀ e, e < 2 → a_half e = zi_n (G.1 17 e)) ∧ (∀ e, e < 2 → a_same e = zi_n (G.1 18 e)) ∧ (∀ e, e < 2 → a_rto e = zi_n (G.1 19 e)) ∧ (∀ e, e < 2 → a_tries e = zi_n (G.1 20 e)) ∧ (∀ e, e < 2 → a_retryAt e = zi_n (G.1 21 e)) ∧ (∀ e, e < 2 → a_ackAt e = zi_n (G.1 22 e)) ∧ (∀ e, e < 2 → a_waitTill e = zi_n (G.1 23 e)) ∧ (∀ e, e < 2 → a_timedAt e = zi_n (if G.1 24 e < 0 then -1 else G.1 25 e)) ∧ (∀ e, e < 2 → 0 ≤ G.1 24 e → a_timedSeq e = zi_n ((G.1 2 e + G.1 24 e) % 65536)) ∧ (∀ e, e < 2 → a_smoothed e = zi_n (if G.1 26 e = 0 then -1 else G.1 27 e)) ∧ (∀ e, e < 2 → a_variance e = zi_n (G.1 28 e)) ∧ (∀ e, e < 2 → a_rowCount e = zi_n (G.1 30 e)) ∧ (∀ i, i < 32 → a_slotSeq i = zi_n (gm_L G 0 i)) ∧ (∀ i, i < 32 → a_slotFlags i = zi_n (gm_L G 1 i)) ∧ (∀ i, i < 32 → a_slotAck i = zi_n (gm_L G 2 i)) ∧ (∀ i, i < 32 → a_slotWindow i = zi_n (gm_L G 3 i)) ∧ (∀ i, i < 32 → a_slotSize i = zi_n (gm_L G 4 i)) ∧ (∀ j, j < 256 → a_slotBytes j = zi_n (zi_b (gm_D G j)))
def vy_S (q : Int) (G : gm_T) (u : SY) : Prop := match u with
  | (f_now, f_sent, a_seq, a_flags, a_acked, a_window, a_many, a_data, a_rows, a_state, a_error, a_iss, a_una, a_nxt, a_max, a_last, a_closed, a_written, a_irs, a_unread, a_bytes, a_held, a_rcv, a_finAt, a_marked, a_wnd, a_peak, a_half, a_rto, a_same, a_tries, a_smooth, a_spread, a_byNumber, a_byAck, a_sampled, a_told, a_retry, a_ackAt, a_waitAt, a_timedAt, a_timed) => (f_now = zi_n (gm_N G)) ∧ (f_sent = zi_n (gm_S G + q)) ∧ (∀ i, i < 32 → a_seq i = zi_n (gm_L G 0 i)) ∧ (∀ i, i < 32 → a_flags i = zi_n (gm_L G 1 i)) ∧ (∀ i, i < 32 → a_acked i = zi_n (gm_L G 2 i)) ∧ (∀ i, i < 32 → a_window i = zi_n (gm_L G 3 i)) ∧ (∀ i, i < 32 → a_many i = zi_n (gm_L G 4 i)) ∧ (∀ j, j < 256 → a_data j = zi_n (gm_D G j)) ∧ (∀ e, e < 2 → a_rows e = zi_n (G.1 30 e)) ∧ (∀ e, e < 2 → a_state e = zi_n (G.1 0 e)) ∧ (∀ e, e < 2 → a_error e = zi_n (G.1 1 e)) ∧ (∀ e, e < 2 → a_iss e = zi_n (G.1 2 e)) ∧ (∀ e, e < 2 → a_una e = zl_n (G.1 32 e)) ∧ (∀ e, e < 2 → a_nxt e = zl_n (G.1 4 e)) ∧ (∀ e, e < 2 → a_max e = zl_n (G.1 5 e)) ∧ (∀ e, e < 2 → a_last e = zl_n (G.1 33 e)) ∧ (∀ e, e < 2 → a_closed e = zi_n (G.1 29 e)) ∧ (∀ e, e < 2 → ∀ p : Int, 1 ≤ p → p < G.1 33 e → G.1 33 e - 64 ≤ p → a_written (64 * e + (p % 64).toNat) = zi_n (gm_W G e p)) ∧ (∀ e, e < 2 → a_irs e = zi_n (G.1 7 e)) ∧ (∀ e, e < 2 → a_unread e = zi_n (G.1 9 e)) ∧ (∀ e, e < 2 → ∀ i : Nat, (i : Int) < G.1 9 e → a_bytes (24 * e + i) = zi_n (gm_B G e (G.1 10 e + i))) ∧ (∀ e, e < 2 → ∀ p : Int, gm_H G e p = true → a_held (64 * e + (p % 64).toNat) = zi_n (gm_B G e p)) ∧ (∀ e, e < 2 → a_rcv e = zl_n (G.1 8 e)) ∧ (∀ e, e < 2 → a_finAt e = zl_n (G.1 11 e)) ∧ (∀ e, e < 2 → ∀ p : Int, G.1 8 e ≤ p → p < G.1 8 e + 64 → a_marked (64 * e + (p % 64).toNat) = (if gm_H G e p = true then 1 else 0)) ∧ (∀ e, e < 2 → a_wnd e = zi_n (G.1 12 e)) ∧ (∀ e, e < 2 → a_peak e = zi_n (G.1 16 e)) ∧ (∀ e, e < 2 → a_half e = zi_n (G.1 17 e)) ∧ (∀ e, e < 2 → a_rto e = zi_n (G.1 19 e)) ∧ (∀ e, e < 2 → a_same e = zi_n (G.1 34 e)) ∧ (∀ e, e < 2 → a_tries e = zi_n (G.1 35 e)) ∧ (∀ e, e < 2 → a_smooth e = zi_n (G.1 27 e)) ∧ (∀ e, e < 2 → a_spread e = zi_n (G.1 28 e)) ∧ (∀ e, e < 2 → a_byNumber e = zi_n (G.1 14 e)) ∧ (∀ e, e < 2 → a_byAck e = zi_n (G.1 15 e)) ∧ (∀ e, e < 2 → a_sampled e = zi_n (G.1 26 e)) ∧ (∀ e, e < 2 → a_told e = zi_n (G.1 13 e)) ∧ (∀ e, e < 2 → a_retry e = zi_n (G.1 21 e)) ∧ (∀ e, e < 2 → a_ackAt e = zi_n (G.1 22 e)) ∧ (∀ e, e < 2 → a_waitAt e = zi_n (G.1 23 e)) ∧ (∀ e, e < 2 → a_timedAt e = zi_n (G.1 25 e)) ∧ (∀ e, e < 2 → a_timed e = zl_n (G.1 24 e))
theorem vx_mk {q : Int} {G : gm_T} {f_now : Int32} {f_sent : Int32} {a_stateOf : (Nat → Int32)} {a_error : (Nat → Int32)} {a_iss : (Nat → Int32)} {a_una : (Nat → Int32)} {a_nxt : (Nat → Int32)} {a_max : (Nat → Int32)} {a_writtenTo : (Nat → Int32)} {a_kept : (Nat → Int32)} {a_keptBytes : (Nat → Int32)} {a_rcv : (Nat → Int32)} {a_unread : (Nat → Int32)} {a_unreadFrom : (Nat → Int32)} {a_cameBytes : (Nat → Int32)} {a_held : (Nat → Int32)} {a_heldFin : (Nat → Int32)} {a_wnd : (Nat → Int32)} {a_wndSeq : (Nat → Int32)} {a_wndAck : (Nat → Int32)} {a_peak : (Nat → Int32)} {a_half : (Nat → Int32)} {a_same : (Nat → Int32)} {a_rto : (Nat → Int32)} {a_tries : (Nat → Int32)} {a_retryAt : (Nat → Int32)} {a_ackAt : (Nat → Int32)} {a_waitTill : (Nat → Int32)} {a_timedAt : (Nat → Int32)} {a_timedSeq : (Nat → Int32)} {a_smoothed : (Nat → Int32)} {a_variance : (Nat → Int32)} {a_rowCount : (Nat → Int32)} {a_slotSeq : (Nat → Int32)} {a_slotFlags : (Nat → Int32)} {a_slotAck : (Nat → Int32)} {a_slotWindow : (Nat → Int32)} {a_slotSize : (Nat → Int32)} {a_slotBytes : (Nat → Int32)} (h_now : f_now = zi_n (gm_N G)) (h_sent : f_sent = zi_n (gm_S G + q)) (h_stateOf : ∀ e, e < 2 → a_stateOf e = zi_n (G.1 0 e)) (h_error : ∀ e, e < 2 → a_error e = zi_n (G.1 1 e)) (h_iss : ∀ e, e < 2 → a_iss e = zi_n (G.1 2 e)) (h_una : ∀ e, e < 2 → a_una e = zi_n ((G.1 2 e + G.1 3 e) % 65536)) (h_nxt : ∀ e, e < 2 → a_nxt e = zi_n ((G.1 2 e + G.1 4 e) % 65536)) (h_max : ∀ e, e < 2 → a_max e = zi_n ((G.1 2 e + G.1 5 e) % 65536)) (h_writtenTo : ∀ e, e < 2 → a_writtenTo e = zi_n ((G.1 2 e + G.1 6 e) % 65536)) (h_kept : ∀ e, e < 2 → a_kept e = zi_n (G.1 31 e)) (h_keptBytes : ∀ e, e < 2 → ∀ p : Int, 1 ≤ p → p < G.1 6 e → G.1 6 e - 32 ≤ p → a_keptBytes (32 * e + ((G.1 2 e + p) % 32).toNat) = zi_n (zi_b (gm_W G e p))) (h_rcv : ∀ e, e < 2 → a_rcv e = zi_n ((G.1 7 e + G.1 8 e) % 65536)) (h_unread : ∀ e, e < 2 → a_unread e = zi_n (G.1 9 e)) (h_unreadFrom : ∀ e, e < 2 → a_unreadFrom e = zi_n ((G.1 7 e + G.1 10 e) % 65536)) (h_cameBytes : ∀ e, e < 2 → ∀ p : Int, ((G.1 10 e ≤ p ∧ p < G.1 10 e + G.1 9 e) ∨ gm_H G e p = true) → a_cameBytes (32 * e + ((G.1 7 e + p) % 32).toNat) = zi_n (zi_b (gm_B G e p))) (h_held : ∀ e, e < 2 → ∀ p : Int, G.1 8 e ≤ p → p < G.1 8 e + 32 → a_held (32 * e + ((G.1 7 e + p) % 32).toNat) = (if gm_H G e p = true then 1 else 0)) (h_heldFin : ∀ e, e < 2 → a_heldFin e = zi_n (if G.1 11 e < 0 then -1 else (G.1 7 e + G.1 11 e) % 65536)) (h_wnd : ∀ e, e < 2 → a_wnd e = zi_n (G.1 12 e)) (h_wndSeq : ∀ e, e < 2 → a_wndSeq e = zi_n (if G.1 13 e = 0 then -1 else G.1 14 e)) (h_wndAck : ∀ e, e < 2 → G.1 13 e ≠ 0 → a_wndAck e = zi_n (G.1 15 e)) (h_peak : ∀ e, e < 2 → a_peak e = zi_n (G.1 16 e)) (h_half : ∀ e, e < 2 → a_half e = zi_n (G.1 17 e)) (h_same : ∀ e, e < 2 → a_same e = zi_n (G.1 18 e)) (h_rto : ∀ e, e < 2 → a_rto e = zi_n (G.1 19 e)) (h_tries : ∀ e, e < 2 → a_tries e = zi_n (G.1 20 e)) (h_retryAt : ∀ e, e < 2 → a_retryAt e = zi_n (G.1 21 e)) (h_ackAt : ∀ e, e < 2 → a_ackAt e = zi_n (G.1 22 e)) (h_waitTill : ∀ e, e < 2 → a_waitTill e = zi_n (G.1 23 e)) (h_timedAt : ∀ e, e < 2 → a_timedAt e = zi_n (if G.1 24 e < 0 then -1 else G.1 25 e)) (h_timedSeq : ∀ e, e < 2 → 0 ≤ G.1 24 e → a_timedSeq e = zi_n ((G.1 2 e + G.1 24 e) % 65536)) (h_smoothed : ∀ e, e < 2 → a_smoothed e = zi_n (if G.1 26 e = 0 then -1 else G.1 27 e)) (h_variance : ∀ e, e < 2 → a_variance e = zi_n (G.1 28 e)) (h_rowCount : ∀ e, e < 2 → a_rowCount e = zi_n (G.1 30 e)) (h_slotSeq : ∀ i, i < 32 → a_slotSeq i = zi_n (gm_L G 0 i)) (h_slotFlags : ∀ i, i < 32 → a_slotFlags i = zi_n (gm_L G 1 i)) (h_slotAck : ∀ i, i < 32 → a_slotAck i = zi_n (gm_L G 2 i)) (h_slotWindow : ∀ i, i < 32 → a_slotWindow i = zi_n (gm_L G 3 i)) (h_slotSize : ∀ i, i < 32 → a_slotSize i = zi_n (gm_L G 4 i)) (h_slotBytes : ∀ j, j < 256 → a_slotBytes j = zi_n (zi_b (gm_D G j))) : vx_S q G (f_now, f_sent, a_stateOf, a_error, a_iss, a_una, a_nxt, a_max, a_writtenTo, a_kept, a_keptBytes, a_rcv, a_unread, a_unreadFrom, a_cameBytes, a_held, a_heldFin, a_wnd, a_wndSeq, a_wndAck, a_peak, a_half, a_same, a_rto, a_tries, a_retryAt, a_ackAt, a_waitTill, a_timedAt, a_timedSeq, a_smoothed, a_variance, a_rowCount, a_slotSeq, a_slotFlags, a_slotAck, a_slotWindow, a_slotSize, a_slotBytes) := by
  unfold vx_S
  exact ⟨h_now, h_sent, h_stateOf, h_error, h_iss, h_una, h_nxt, h_max, h_writtenTo, h_kept, h_keptBytes, h_rcv, h_unread, h_unreadFrom, h_cameBytes, h_held, h_heldFin, h_wnd, h_wndSeq, h_wndAck, h_peak, h_half, h_same, h_rto, h_tries, h_retryAt, h_ackAt, h_waitTill, h_timedAt, h_timedSeq, h_smoothed, h_variance, h_rowCount, h_slotSeq, h_slotFlags, h_slotAck, h_slotWindow, h_slotSize, h_slotBytes⟩
theorem vy_mk {q : Int} {G : gm_T} {f_now : Int32} {f_sent : Int32} {a_seq : (Nat → Int32)} {a_flags : (Nat → Int32)} {a_acked : (Nat → Int32)} {a_window : (Nat → Int32)} {a_many : (Nat → Int32)} {a_data : (Nat → Int32)} {a_rows : (Nat → Int32)} {a_state : (Nat → Int32)} {a_error : (Nat → Int32)} {a_iss : (Nat → Int32)} {a_una : (Nat → Int64)} {a_nxt : (Nat → Int64)} {a_max : (Nat → Int64)} {a_last : (Nat → Int64)} {a_closed : (Nat → Int32)} {a_written : (Nat → Int32)} {a_irs : (Nat → Int32)} {a_unread : (Nat → Int32)} {a_bytes : (Nat → Int32)} {a_held : (Nat → Int32)} {a_rcv : (Nat → Int64)} {a_finAt : (Nat → Int64)} {a_marked : (Nat → Int32)} {a_wnd : (Nat → Int32)} {a_peak : (Nat → Int32)} {a_half : (Nat → Int32)} {a_rto : (Nat → Int32)} {a_same : (Nat → Int32)} {a_tries : (Nat → Int32)} {a_smooth : (Nat → Int32)} {a_spread : (Nat → Int32)} {a_byNumber : (Nat → Int32)} {a_byAck : (Nat → Int32)} {a_sampled : (Nat → Int32)} {a_told : (Nat → Int32)} {a_retry : (Nat → Int32)} {a_ackAt : (Nat → Int32)} {a_waitAt : (Nat → Int32)} {a_timedAt : (Nat → Int32)} {a_timed : (Nat → Int64)} (h_now : f_now = zi_n (gm_N G)) (h_sent : f_sent = zi_n (gm_S G + q)) (h_seq : ∀ i, i < 32 → a_seq i = zi_n (gm_L G 0 i)) (h_flags : ∀ i, i < 32 → a_flags i = zi_n (gm_L G 1 i)) (h_acked : ∀ i, i < 32 → a_acked i = zi_n (gm_L G 2 i)) (h_window : ∀ i, i < 32 → a_window i = zi_n (gm_L G 3 i)) (h_many : ∀ i, i < 32 → a_many i = zi_n (gm_L G 4 i)) (h_data : ∀ j, j < 256 → a_data j = zi_n (gm_D G j)) (h_rows : ∀ e, e < 2 → a_rows e = zi_n (G.1 30 e)) (h_state : ∀ e, e < 2 → a_state e = zi_n (G.1 0 e)) (h_error : ∀ e, e < 2 → a_error e = zi_n (G.1 1 e)) (h_iss : ∀ e, e < 2 → a_iss e = zi_n (G.1 2 e)) (h_una : ∀ e, e < 2 → a_una e = zl_n (G.1 32 e)) (h_nxt : ∀ e, e < 2 → a_nxt e = zl_n (G.1 4 e)) (h_max : ∀ e, e < 2 → a_max e = zl_n (G.1 5 e)) (h_last : ∀ e, e < 2 → a_last e = zl_n (G.1 33 e)) (h_closed : ∀ e, e < 2 → a_closed e = zi_n (G.1 29 e)) (h_written : ∀ e, e < 2 → ∀ p : Int, 1 ≤ p → p < G.1 33 e → G.1 33 e - 64 ≤ p → a_written (64 * e + (p % 64).toNat) = zi_n (gm_W G e p)) (h_irs : ∀ e, e < 2 → a_irs e = zi_n (G.1 7 e)) (h_unread : ∀ e, e < 2 → a_unread e = zi_n (G.1 9 e)) (h_bytes : ∀ e, e < 2 → ∀ i : Nat, (i : Int) < G.1 9 e → a_bytes (24 * e + i) = zi_n (gm_B G e (G.1 10 e + i))) (h_held : ∀ e, e < 2 → ∀ p : Int, gm_H G e p = true → a_held (64 * e + (p % 64).toNat) = zi_n (gm_B G e p)) (h_rcv : ∀ e, e < 2 → a_rcv e = zl_n (G.1 8 e)) (h_finAt : ∀ e, e < 2 → a_finAt e = zl_n (G.1 11 e)) (h_marked : ∀ e, e < 2 → ∀ p : Int, G.1 8 e ≤ p → p < G.1 8 e + 64 → a_marked (64 * e + (p % 64).toNat) = (if gm_H G e p = true then 1 else 0)) (h_wnd : ∀ e, e < 2 → a_wnd e = zi_n (G.1 12 e)) (h_peak : ∀ e, e < 2 → a_peak e = zi_n (G.1 16 e)) (h_half : ∀ e, e < 2 → a_half e = zi_n (G.1 17 e)) (h_rto : ∀ e, e < 2 → a_rto e = zi_n (G.1 19 e)) (h_same : ∀ e, e < 2 → a_same e = zi_n (G.1 34 e)) (h_tries : ∀ e, e < 2 → a_tries e = zi_n (G.1 35 e)) (h_smooth : ∀ e, e < 2 → a_smooth e = zi_n (G.1 27 e)) (h_spread : ∀ e, e < 2 → a_spread e = zi_n (G.1 28 e)) (h_byNumber : ∀ e, e < 2 → a_byNumber e = zi_n (G.1 14 e)) (h_byAck : ∀ e, e < 2 → a_byAck e = zi_n (G.1 15 e)) (h_sampled : ∀ e, e < 2 → a_sampled e = zi_n (G.1 26 e)) (h_told : ∀ e, e < 2 → a_told e = zi_n (G.1 13 e)) (h_retry : ∀ e, e < 2 → a_retry e = zi_n (G.1 21 e)) (h_ackAt : ∀ e, e < 2 → a_ackAt e = zi_n (G.1 22 e)) (h_waitAt : ∀ e, e < 2 → a_waitAt e = zi_n (G.1 23 e)) (h_timedAt : ∀ e, e < 2 → a_timedAt e = zi_n (G.1 25 e)) (h_timed : ∀ e, e < 2 → a_timed e = zl_n (G.1 24 e)) : vy_S q G (f_now, f_sent, a_seq, a_flags, a_acked, a_window, a_many, a_data, a_rows, a_state, a_error, a_iss, a_una, a_nxt, a_max, a_last, a_closed, a_written, a_irs, a_unread, a_bytes, a_held, a_rcv, a_finAt, a_marked, a_wnd, a_peak, a_half, a_rto, a_same, a_tries, a_smooth, a_spread, a_byNumber, a_byAck, a_sampled, a_told, a_retry, a_ackAt, a_waitAt, a_timedAt, a_timed) := by
  unfold vy_S
  exact ⟨h_now, h_sent, h_seq, h_flags, h_acked, h_window, h_many, h_data, h_rows, h_state, h_error, h_iss, h_una, h_nxt, h_max, h_last, h_closed, h_written, h_irs, h_unread, h_bytes, h_held, h_rcv, h_finAt, h_marked, h_wnd, h_peak, h_half, h_rto, h_same, h_tries, h_smooth, h_spread, h_byNumber, h_byAck, h_sampled, h_told, h_retry, h_ackAt, h_waitAt, h_timedAt, h_timed⟩
theorem vu_e {a : Nat → Int32} {F F' : Nat → Int} {k : Nat} {x : Int32} (h : ∀ e, e < 2 → a e = zi_n (F e)) (hx : x = zi_n (F' k)) (ho : ∀ e, e ≠ k → F' e = F e) : ∀ e, e < 2 → upd a k x e = zi_n (F' e) := by
  intro e he
  by_cases q : e = k
  · subst q; rw [zu_s]; exact hx
  · rw [zu_n q, h e he, ho e q]
theorem vu_l {a : Nat → Int64} {F F' : Nat → Int} {k : Nat} {x : Int64} (h : ∀ e, e < 2 → a e = zl_n (F e)) (hx : x = zl_n (F' k)) (ho : ∀ e, e ≠ k → F' e = F e) : ∀ e, e < 2 → vp_updL a k x e = zl_n (F' e) := by
  intro e he
  by_cases q : e = k
  · subst q; rw [zv_s]; exact hx
  · rw [zv_n q, h e he, ho e q]
theorem vk_e {a : Nat → Int32} {F F' : Nat → Int} (h : ∀ e, e < 2 → a e = zi_n (F e)) (ho : ∀ e, e < 2 → F' e = F e) : ∀ e, e < 2 → a e = zi_n (F' e) := by
  intro e he
  rw [h e he, ho e he]
theorem vk_l {a : Nat → Int64} {F F' : Nat → Int} (h : ∀ e, e < 2 → a e = zl_n (F e)) (ho : ∀ e, e < 2 → F' e = F e) : ∀ e, e < 2 → a e = zl_n (F' e) := by
  intro e he
  rw [h e he, ho e he]
theorem pe_lt {p : Int32} (hp : vp_in p 2) : p.toNatClampNeg < 2 := by
  obtain ⟨j, hj, rfl⟩ := vp_in_of hp (by decide)
  rw [nI_clamp (by omega)]; exact hj
theorem pe_z {p : Int32} (hp : vp_in p 2) : p = zi_n (p.toNatClampNeg : Int) := by
  obtain ⟨j, hj, rfl⟩ := vp_in_of hp (by decide)
  rw [nI_clamp (by omega)]; exact zi_nI j
theorem zk_0 : (0 : Int32) = zi_n 0 := rfl
theorem zk_1 : (1 : Int32) = zi_n 1 := rfl
theorem zk_2 : (2 : Int32) = zi_n 2 := rfl
theorem zk_3 : (3 : Int32) = zi_n 3 := rfl
theorem zk_4 : (4 : Int32) = zi_n 4 := rfl
theorem zk_5 : (5 : Int32) = zi_n 5 := rfl
theorem zk_6 : (6 : Int32) = zi_n 6 := rfl
theorem zk_7 : (7 : Int32) = zi_n 7 := rfl
theorem zk_8 : (8 : Int32) = zi_n 8 := rfl
theorem zk_9 : (9 : Int32) = zi_n 9 := rfl
theorem zk_10 : (10 : Int32) = zi_n 10 := rfl
theorem zk_13 : (13 : Int32) = zi_n 13 := rfl
theorem zk_15 : (15 : Int32) = zi_n 15 := rfl
theorem zk_16 : (16 : Int32) = zi_n 16 := rfl
theorem zk_20 : (20 : Int32) = zi_n 20 := rfl
theorem zk_24 : (24 : Int32) = zi_n 24 := rfl
theorem zk_32 : (32 : Int32) = zi_n 32 := rfl
theorem zk_64 : (64 : Int32) = zi_n 64 := rfl
theorem zk_m1 : (-1 : Int32) = zi_n (-1) := rfl
theorem zk_255 : (255 : Int32) = zi_n 255 := rfl
theorem zk_1000 : (1000 : Int32) = zi_n 1000 := rfl
theorem zk_65535 : (65535 : Int32) = zi_n 65535 := rfl
theorem zk_l0 : (0 : Int64) = zl_n 0 := rfl
theorem zk_l1 : (1 : Int64) = zl_n 1 := rfl
theorem zk_l8 : (8 : Int64) = zl_n 8 := rfl
theorem zk_lm1 : (-1 : Int64) = zl_n (-1) := rfl
theorem zf_n {f : Int} (h0 : 0 ≤ f) (h1 : f ≤ 15) : ∃ n : Nat, n < 16 ∧ f = (n : Int) := ⟨f.toNat, by omega, by omega⟩
theorem zf_1' : ∀ n : Nat, n < 16 → (zi_n (n : Int) &&& 1) = zi_n ((n : Int) % 2) := by decide +kernel
theorem zf_2' : ∀ n : Nat, n < 16 → (zi_n (n : Int) &&& 2) = zi_n (2 * ((n : Int) / 2 % 2)) := by decide +kernel
theorem zf_4' : ∀ n : Nat, n < 16 → (zi_n (n : Int) &&& 4) = zi_n (4 * ((n : Int) / 4 % 2)) := by decide +kernel
theorem zf_8' : ∀ n : Nat, n < 16 → (zi_n (n : Int) &&& 8) = zi_n (8 * ((n : Int) / 8 % 2)) := by decide +kernel
theorem zf_9' : ∀ n : Nat, n < 16 → (zi_n (n : Int) &&& 9) = zi_n (8 * ((n : Int) / 8 % 2) + (n : Int) % 2) := by decide +kernel
theorem zf_d' : ∀ n : Nat, n < 16 → (zi_n (n : Int) &&& 4) / 4 = zi_n ((n : Int) / 4 % 2) := by decide +kernel
theorem zf_1 {f : Int} (h0 : 0 ≤ f) (h1 : f ≤ 15) : (zi_n f &&& 1) = zi_n (f % 2) := by obtain ⟨n, hn, rfl⟩ := zf_n h0 h1; exact zf_1' n hn
theorem zf_2 {f : Int} (h0 : 0 ≤ f) (h1 : f ≤ 15) : (zi_n f &&& 2) = zi_n (2 * (f / 2 % 2)) := by obtain ⟨n, hn, rfl⟩ := zf_n h0 h1; exact zf_2' n hn
theorem zf_4 {f : Int} (h0 : 0 ≤ f) (h1 : f ≤ 15) : (zi_n f &&& 4) = zi_n (4 * (f / 4 % 2)) := by obtain ⟨n, hn, rfl⟩ := zf_n h0 h1; exact zf_4' n hn
theorem zf_8 {f : Int} (h0 : 0 ≤ f) (h1 : f ≤ 15) : (zi_n f &&& 8) = zi_n (8 * (f / 8 % 2)) := by obtain ⟨n, hn, rfl⟩ := zf_n h0 h1; exact zf_8' n hn
theorem zf_9 {f : Int} (h0 : 0 ≤ f) (h1 : f ≤ 15) : (zi_n f &&& 9) = zi_n (8 * (f / 8 % 2) + f % 2) := by obtain ⟨n, hn, rfl⟩ := zf_n h0 h1; exact zf_9' n hn
theorem zf_d {f : Int} (h0 : 0 ≤ f) (h1 : f ≤ 15) : (zi_n f &&& 4) / 4 = zi_n (f / 4 % 2) := by obtain ⟨n, hn, rfl⟩ := zf_n h0 h1; exact zf_d' n hn
theorem zf_o {f : Int} (h : f = 0 ∨ f = 1 ∨ f = 4) : (zi_n f ||| 2) = zi_n (f + 2) := by
  rcases h with rfl | rfl | rfl <;> decide +kernel
/-- stores into a slot of the link -/
theorem vs_0 {a : Nat → Int32} {l : Nat → Nat → Int} {k : Nat} {x : Int32} {a0 a1 a2 a3 a4 : Int} (h : ∀ i, i < 32 → a i = zi_n (l 0 i)) (hx : x = zi_n a0) : ∀ i, i < 32 → upd a k x i = zi_n (gm_l l k a0 a1 a2 a3 a4 0 i) := by
  intro i hi
  unfold upd gm_l
  split
  · exact hx
  · exact h i hi
theorem vs_1 {a : Nat → Int32} {l : Nat → Nat → Int} {k : Nat} {x : Int32} {a0 a1 a2 a3 a4 : Int} (h : ∀ i, i < 32 → a i = zi_n (l 1 i)) (hx : x = zi_n a1) : ∀ i, i < 32 → upd a k x i = zi_n (gm_l l k a0 a1 a2 a3 a4 1 i) := by
  intro i hi
  unfold upd gm_l
  split
  · exact hx
  · exact h i hi
theorem vs_2 {a : Nat → Int32} {l : Nat → Nat → Int} {k : Nat} {x : Int32} {a0 a1 a2 a3 a4 : Int} (h : ∀ i, i < 32 → a i = zi_n (l 2 i)) (hx : x = zi_n a2) : ∀ i, i < 32 → upd a k x i = zi_n (gm_l l k a0 a1 a2 a3 a4 2 i) := by
  intro i hi
  unfold upd gm_l
  split
  · exact hx
  · exact h i hi
theorem vs_3 {a : Nat → Int32} {l : Nat → Nat → Int} {k : Nat} {x : Int32} {a0 a1 a2 a3 a4 : Int} (h : ∀ i, i < 32 → a i = zi_n (l 3 i)) (hx : x = zi_n a3) : ∀ i, i < 32 → upd a k x i = zi_n (gm_l l k a0 a1 a2 a3 a4 3 i) := by
  intro i hi
  unfold upd gm_l
  split
  · exact hx
  · exact h i hi
theorem vs_4 {a : Nat → Int32} {l : Nat → Nat → Int} {k : Nat} {x : Int32} {a0 a1 a2 a3 a4 : Int} (h : ∀ i, i < 32 → a i = zi_n (l 4 i)) (hx : x = zi_n a4) : ∀ i, i < 32 → upd a k x i = zi_n (gm_l l k a0 a1 a2 a3 a4 4 i) := by
  intro i hi
  unfold upd gm_l
  split
  · exact hx
  · exact h i hi
/-- a store beyond the slots of the two rows -/
theorem vs_x {a : Nat → Int32} {F : Nat → Int} {k : Nat} {x : Int32} (h : ∀ i, i < 32 → a i = zi_n (F i)) (hk : 32 ≤ k) : ∀ i, i < 32 → upd a k x i = zi_n (F i) := by
  intro i hi
  rw [zu_n (by omega)]; exact h i hi
