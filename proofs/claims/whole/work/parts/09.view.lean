/-! the two states as pictures of G -/
def vx_S (q : Int) (G : gm_T) (u : SX) : Prop := match u with
  | (f_now, f_sent, a_stateOf, a_error, a_iss, a_una, a_nxt, a_max, a_writtenTo, a_kept, a_keptBytes, a_rcv, a_unread, a_unreadFrom, a_cameBytes, a_held, a_heldFin, a_wnd, a_wndSeq, a_wndAck, a_peak, a_half, a_same, a_rto, a_tries, a_retryAt, a_ackAt, a_waitTill, a_timedAt, a_timedSeq, a_smoothed, a_variance, a_rowCount, a_slotSeq, a_slotFlags, a_slotAck, a_slotWindow, a_slotSize, a_slotBytes) => (f_now = zi_n (gm_N G)) ∧ (f_sent = zi_n (gm_S G + q)) ∧ (∀ e, e < 2 → a_stateOf e = zi_n (G.1 0 e)) ∧ (∀ e, e < 2 → a_error e = zi_n (G.1 1 e)) ∧ (∀ e, e < 2 → a_iss e = zi_n (G.1 2 e)) ∧ (∀ e, e < 2 → a_una e = zi_n ((G.1 2 e + G.1 3 e) % 65536)) ∧ (∀ e, e < 2 → a_nxt e = zi_n ((G.1 2 e + G.1 4 e) % 65536)) ∧ (∀ e, e < 2 → a_max e = zi_n ((G.1 2 e + G.1 5 e) % 65536)) ∧ (∀ e, e < 2 → a_writtenTo e = zi_n ((G.1 2 e + G.1 6 e) % 65536)) ∧ (∀ e, e < 2 → a_kept e = zi_n (G.1 31 e)) ∧ (∀ e, e < 2 → ∀ p : Int, 1 ≤ p → p < G.1 6 e → G.1 6 e - 32 ≤ p → a_keptBytes (32 * e + ((G.1 2 e + p) % 32).toNat) = zi_n (zi_b (gm_W G e p))) ∧ (∀ e, e < 2 → a_rcv e = zi_n ((G.1 7 e + G.1 8 e) % 65536)) ∧ (∀ e, e < 2 → a_unread e = zi_n (G.1 9 e)) ∧ (∀ e, e < 2 → a_unreadFrom e = zi_n ((G.1 7 e + G.1 10 e) % 65536)) ∧ (∀ e, e < 2 → ∀ p : Int, ((G.1 10 e ≤ p ∧ p < G.1 10 e + G.1 9 e) ∨ gm_H G e p = true) → a_cameBytes (32 * e + ((G.1 7 e + p) % 32).toNat) = zi_n (zi_b (gm_B G e p))) ∧ (∀ e, e < 2 → ∀ p : Int, G.1 8 e ≤ p → p < G.1 8 e + 32 → a_held (32 * e + ((G.1 7 e + p) % 32).toNat) = (if gm_H G e p = true then 1 else 0)) ∧ (∀ e, e < 2 → a_heldFin e = zi_n (if G.1 11 e < 0 then -1 else (G.1 7 e + G.1 11 e) % 65536)) ∧ (∀ e, e < 2 → a_wnd e = zi_n (G.1 12 e)) ∧ (∀ e, e < 2 → a_wndSeq e = zi_n (if G.1 13 e = 0 then -1 else G.1 14 e)) ∧ (∀ e, e < 2 → G.1 13 e ≠ 0 → a_wndAck e = zi_n (G.1 15 e)) ∧ (∀ e, e < 2 → a_peak e = zi_n (G.1 16 e)) ∧ (∀ e, e < 2 → a_half e = zi_n (G.1 17 e)) ∧ (∀ e, e < 2 → a_same e = zi_n (G.1 18 e)) ∧ (∀ e, e < 2 → a_rto e = zi_n (G.1 19 e)) ∧ (∀ e, e < 2 → a_tries e = zi_n (G.1 20 e)) ∧ (∀ e, e < 2 → a_retryAt e = zi_n (G.1 21 e)) ∧ (∀ e, e < 2 → a_ackAt e = zi_n (G.1 22 e)) ∧ (∀ e, e < 2 → a_waitTill e = zi_n (G.1 23 e)) ∧ (∀ e, e < 2 → a_timedAt e = zi_n (if G.1 24 e < 0 then -1 else G.1 25 e)) ∧ (∀ e, e < 2 → 0 ≤ G.1 24 e → a_timedSeq e = zi_n ((G.1 2 e + G.1 24 e) % 65536)) ∧ (∀ e, e < 2 → a_smoothed e = zi_n (if G.1 26 e = 0 then -1 else G.1 27 e)) ∧ (∀ e, e < 2 → a_variance e = zi_n (G.1 28 e)) ∧ (∀ e, e < 2 → a_rowCount e = zi_n (G.1 30 e)) ∧ (∀ i, i < 32 → a_slotSeq i = zi_n (gm_L G 0 i)) ∧ (∀ i, i < 32 → a_slotFlags i = zi_n (gm_L G 1 i)) ∧ (∀ i, i < 32 → a_slotAck i = zi_n (gm_L G 2 i)) ∧ (∀ i, i < 32 → a_slotWindow i = zi_n (gm_L G 3 i)) ∧ (∀ i, i < 32 → a_slotSize i = zi_n (gm_L G 4 i)) ∧ (∀ j, j < 256 → a_slotBytes j = zi_n (zi_b (gm_D G j)))
def vy_S (q : Int) (G : gm_T) (u : SY) : Prop := match u with
  | (f_now, f_sent, a_seq, a_flags, a_acked, a_window, a_many, a_data, a_rows, a_state, a_error, a_iss, a_una, a_nxt, a_max, a_last, a_closed, a_written, a_irs, a_unread, a_bytes, a_held, a_rcv, a_finAt, a_marked, a_wnd, a_peak, a_half, a_rto, a_same, a_tries, a_smooth, a_spread, a_byNumber, a_byAck, a_sampled, a_told, a_retry, a_ackAt, a_waitAt, a_timedAt, a_timed) => (f_now = zi_n (gm_N G)) ∧ (f_sent = zi_n (gm_S G + q)) ∧ (∀ i, i < 32 → a_seq i = zi_n (gm_L G 0 i)) ∧ (∀ i, i < 32 → a_flags i = zi_n (gm_L G 1 i)) ∧ (∀ i, i < 32 → a_acked i = zi_n (gm_L G 2 i)) ∧ (∀ i, i < 32 → a_window i = zi_n (gm_L G 3 i)) ∧ (∀ i, i < 32 → a_many i = zi_n (gm_L G 4 i)) ∧ (∀ j, j < 256 → a_data j = zi_n (gm_D G j)) ∧ (∀ e, e < 2 → a_rows e = zi_n (G.1 30 e)) ∧ (∀ e, e < 2 → a_state e = zi_n (G.1 0 e)) ∧ (∀ e, e < 2 → a_error e = zi_n (G.1 1 e)) ∧ (∀ e, e < 2 → a_iss e = zi_n (G.1 2 e)) ∧ (∀ e, e < 2 → a_una e = zl_n (G.1 32 e)) ∧ (∀ e, e < 2 → a_nxt e = zl_n (G.1 4 e)) ∧ (∀ e, e < 2 → a_max e = zl_n (G.1 5 e)) ∧ (∀ e, e < 2 → a_last e = zl_n (G.1 33 e)) ∧ (∀ e, e < 2 → a_closed e = zi_n (G.1 29 e)) ∧ (∀ e, e < 2 → ∀ p : Int, 1 ≤ p → p < G.1 33 e → G.1 33 e - 64 ≤ p → a_written (64 * e + (p % 64).toNat) = zi_n (gm_W G e p)) ∧ (∀ e, e < 2 → a_irs e = zi_n (G.1 7 e)) ∧ (∀ e, e < 2 → a_unread e = zi_n (G.1 9 e)) ∧ (∀ e, e < 2 → ∀ i : Nat, (i : Int) < G.1 9 e → a_bytes (24 * e + i) = zi_n (gm_B G e (G.1 10 e + i))) ∧ (∀ e, e < 2 → ∀ p : Int, gm_H G e p = true → a_held (64 * e + (p % 64).toNat) = zi_n (gm_B G e p)) ∧ (∀ e, e < 2 → a_rcv e = zl_n (G.1 8 e)) ∧ (∀ e, e < 2 → a_finAt e = zl_n (G.1 11 e)) ∧ (∀ e, e < 2 → ∀ p : Int, G.1 8 e ≤ p → p < G.1 8 e + 64 → a_marked (64 * e + (p % 64).toNat) = (if gm_H G e p = true then 1 else 0)) ∧ (∀ e, e < 2 → a_wnd e = zi_n (G.1 12 e)) ∧ (∀ e, e < 2 → a_peak e = zi_n (G.1 16 e)) ∧ (∀ e, e < 2 → a_half e = zi_n (G.1 17 e)) ∧ (∀ e, e < 2 → a_rto e = zi_n (G.1 19 e)) ∧ (∀ e, e < 2 → a_same e = zi_n (G.1 34 e)) ∧ (∀ e, e < 2 → a_tries e = zi_n (G.1 35 e)) ∧ (∀ e, e < 2 → a_smooth e = zi_n (G.1 27 e)) ∧ (∀ e, e < 2 → a_spread e = zi_n (G.1 28 e)) ∧ (∀ e, e < 2 → a_byNumber e = zi_n (G.1 14 e)) ∧ (∀ e, e < 2 → a_byAck e = zi_n (G.1 15 e)) ∧ (∀ e, e < 2 → a_sampled e = zi_n (G.1 26 e)) ∧ (∀ e, e < 2 → a_told e = zi_n (G.1 13 e)) ∧ (∀ e, e < 2 → a_retry e = zi_n (G.1 21 e)) ∧ (∀ e, e < 2 → a_ackAt e = zi_n (G.1 22 e)) ∧ (∀ e, e < 2 → a_waitAt e = zi_n (G.1 23 e)) ∧ (∀ e, e < 2 → a_timedAt e = zi_n (G.1 25 e)) ∧ (∀ e, e < 2 → a_timed e = zl_n (G.1 24 e))
theorem vu_e {a : Nat → Int32} {F F' : Nat → Int} {k : Nat} {x : Int32} (h : ∀ e, e < 2 → a e = zi_n (F e)) (hx : x = zi_n (F' k)) (ho : ∀ e, e ≠ k → F' e = F e) : ∀ e, e < 2 → upd a k x e = zi_n (F' e) := by
  intro e he
  by_cases q : e = k
  · subst q; rw [zu_s]; exact hx
  · rw [zu_n q, h e he, ho e q]
theorem vu_l {a : Nat → Int64} {F F' : Nat → Int} {k : Nat} {x : Int64} (h : ∀ e, e < 2 → a e = zl_n (F e)) (hx : x = zl_n (F' k)) (ho : ∀ e, e ≠ k → F' e = F e) : ∀ e, e < 2 → vp_updL a k x e = zl_n (F' e) := by
  intro e he
  by_cases q : e = k
  · subst q; rw [zv_s]; exact hx
  · rw [zv_n q, h e he, ho e q]
theorem vk_e {a : Nat → Int32} {F F' : Nat → Int} (h : ∀ e, e < 2 → a e = zi_n (F e)) (ho : ∀ e, e < 2 → F' e = F e) : ∀ e, e < 2 → a e = zi_n (F' e) := by
  intro e he
  rw [h e he, ho e he]
theorem vk_l {a : Nat → Int64} {F F' : Nat → Int} (h : ∀ e, e < 2 → a e = zl_n (F e)) (ho : ∀ e, e < 2 → F' e = F e) : ∀ e, e < 2 → a e = zl_n (F' e) := by
  intro e he
  rw [h e he, ho e he]
theorem pe_lt {p : Int32} (hp : vp_in p 2) : p.toNatClampNeg < 2 := by
  obtain ⟨j, hj, rfl⟩ := vp_in_of hp (by decide)
  rw [nI_clamp (by omega)]; exact hj
theorem pe_z {p : Int32} (hp : vp_in p 2) : p = zi_n (p.toNatClampNeg : Int) := by
  obtain ⟨j, hj, rfl⟩ := vp_in_of hp (by decide)
  rw [nI_clamp (by omega)]; exact zi_nI j
theorem zk_0 : (0 : Int32) = zi_n 0 := rfl
theorem zk_1 : (1 : Int32) = zi_n 1 := rfl
theorem zk_2 : (2 : Int32) = zi_n 2 := rfl
theorem zk_3 : (3 : Int32) = zi_n 3 := rfl
theorem zk_4 : (4 : Int32) = zi_n 4 := rfl
theorem zk_5 : (5 : Int32) = zi_n 5 := rfl
theorem zk_6 : (6 : Int32) = zi_n 6 := rfl
theorem zk_7 : (7 : Int32) = zi_n 7 := rfl
theorem zk_8 : (8 : Int32) = zi_n 8 := rfl
theorem zk_9 : (9 : Int32) = zi_n 9 := rfl
theorem zk_10 : (10 : Int32) = zi_n 10 := rfl
theorem zk_13 : (13 : Int32) = zi_n 13 := rfl
theorem zk_15 : (15 : Int32) = zi_n 15 := rfl
theorem zk_16 : (16 : Int32) = zi_n 16 := rfl
theorem zk_20 : (20 : Int32) = zi_n 20 := rfl
theorem zk_24 : (24 : Int32) = zi_n 24 := rfl
theorem zk_32 : (32 : Int32) = zi_n 32 := rfl
theorem zk_64 : (64 : Int32) = zi_n 64 := rfl
theorem zk_m1 : (-1 : Int32) = zi_n (-1) := rfl
theorem zk_255 : (255 : Int32) = zi_n 255 := rfl
theorem zk_1000 : (1000 : Int32) = zi_n 1000 := rfl
theorem zk_65535 : (65535 : Int32) = zi_n 65535 := rfl
theorem zk_l0 : (0 : Int64) = zl_n 0 := rfl
theorem zk_l1 : (1 : Int64) = zl_n 1 := rfl
theorem zk_l8 : (8 : Int64) = zl_n 8 := rfl
theorem zk_lm1 : (-1 : Int64) = zl_n (-1) := rfl
