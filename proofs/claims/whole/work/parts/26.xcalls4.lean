/-! the class: wire, write, read -/
/-- what wire answers of slot s -/
def gi_w (G : gm_T) (s : Nat) (w : Int) : Int :=
  if w = 0 then gm_L G 0 s else if w = 1 then gm_L G 1 s else if w = 2 then gm_L G 2 s else if w = 3 then gm_L G 3 s else if w = 4 then gm_L G 4 s
  else if 5 ≤ w ∧ w - 5 < gm_L G 4 s then gm_D G (8 * s + (w - 5).toNat) else -1
theorem xl_wire {q K : Int} {G : gm_T} {u : SX} {P : Int32 → Prop} {x y z : Int32} {k w : Int} (hv : vx_S q G u) (hI : gv_I K G) (hy : y = zi_n k) (h0 : -2147483648 ≤ k) (h1 : k < 2147483648) (hz : z = zi_n w) (w0 : -2147483648 ≤ w) (w1 : w < 2147483648) (hA : ¬ vp_in x 2 → P (-1)) (hC : vp_in x 2 → w = -1 → P (zi_n (G.1 30 x.toNatClampNeg))) (hD : vp_in x 2 → w ≠ -1 → ¬ (0 ≤ k ∧ k < G.1 30 x.toNatClampNeg) → P (-1)) (hB : vp_in x 2 → w ≠ -1 → 0 ≤ k → k < G.1 30 x.toNatClampNeg → P (zi_n (gi_w G (16 * x.toNatClampNeg + k.toNat) w))) : wpX_wire P u x y z := by
  obtain ⟨f_now, f_sent, a_stateOf, a_error, a_iss, a_una, a_nxt, a_max, a_writtenTo, a_kept, a_keptBytes, a_rcv, a_unread, a_unreadFrom, a_cameBytes, a_held, a_heldFin, a_wnd, a_wndSeq, a_wndAck, a_peak, a_half, a_same, a_rto, a_tries, a_retryAt, a_ackAt, a_waitTill, a_timedAt, a_timedSeq, a_smoothed, a_variance, a_rowCount, a_slotSeq, a_slotFlags, a_slotAck, a_slotWindow, a_slotSize, a_slotBytes⟩ := u
  have hv0 := hv
  obtain ⟨h_now, h_sent, h_stateOf, h_error, h_iss, h_una, h_nxt, h_max, h_writtenTo, h_kept, h_keptBytes, h_rcv, h_unread, h_unreadFrom, h_cameBytes, h_held, h_heldFin, h_wnd, h_wndSeq, h_wndAck, h_peak, h_half, h_same, h_rto, h_tries, h_retryAt, h_ackAt, h_waitTill, h_timedAt, h_timedSeq, h_smoothed, h_variance, h_rowCount, h_slotSeq, h_slotFlags, h_slotAck, h_slotWindow, h_slotSize, h_slotBytes⟩ := hv0
  unfold wpX_wire
  refine xl_isEnd (fun hp => ?_) (fun hp => br_t rfl (hA hp))
  have he := pe_lt hp
  have hz2 := pe_z hp
  subst hz
  refine br_f (by decide) ?_
  by_cases c0 : w = -1
  · refine br_t (by rw [c0]; rfl) ⟨hp, ?_⟩
    rw [h_rowCount _ he]; exact hC hp c0
  refine br_f (by rw [zk_m1, zi_eq w0 w1 (by omega) (by omega)]; exact c0) ?_
  refine xl_isSegment hv hI hy h0 h1 (fun _ k0 k1 => ?_) (fun h => br_t rfl (hD hp c0 (fun t => h ⟨hp, t.1, t.2⟩)))
  obtain ⟨b1, b2, b3, b4, b5, b6⟩ := hI.2.2.2.2.1 _ he
  unfold gv_a at b1
  have hb := hB hp c0 k0 k1
  have kk : 16 * x.toNatClampNeg + k.toNat < 32 := by omega
  have e3 : x * 16 + y = zi_n ((16 * x.toNatClampNeg + k.toNat : Nat) : Int) := by
    generalize x.toNatClampNeg = e at hz2 he
    rw [hz2, hy, zk_16, zi_mul, zi_add]; congr 1; omega
  have l1 := hI.2.2.2.2.2.1.1 _ kk
  have l2 := hI.2.2.2.2.2.1.2
  generalize 16 * x.toNatClampNeg + k.toNat = s at *
  have hin := sl_in kk
  have hc := sl_c (k := s) (by omega)
  refine br_f (by decide) (nm_r e3 ?_)
  rw [hc]
  unfold gi_w at hb
  have kbig : ¬ (0 ≤ w ∧ w ≤ 4) → ((zi_n w < 5 → (P (-1))) ∧ (¬ zi_n w < 5 → (vp_in (zi_n (s : Int)) 33 ∧ ((zi_n w < (5 + (a_slotSize s)) → (vp_in (((zi_n (s : Int) * 8) + zi_n w) - 5) 264 ∧ (P ((a_slotBytes (((zi_n (s : Int) * 8) + zi_n w) - 5).toNatClampNeg) &&& 255)))) ∧ (¬ zi_n w < (5 + (a_slotSize s)) → (P (-1))))))) := by
    intro hn
    rw [if_neg (by omega), if_neg (by omega), if_neg (by omega), if_neg (by omega), if_neg (by omega)] at hb
    by_cases c1 : w < 5
    · rw [if_neg (by omega)] at hb
      exact br_t (by rw [zk_5, zi_lt w0 w1 (by omega) (by omega)]; exact c1) hb
    · refine br_f (by rw [zk_5, zi_lt w0 w1 (by omega) (by omega)]; exact c1) ⟨hin, ?_⟩
      have es : 5 + a_slotSize s = zi_n (5 + gm_L G 4 s) := by rw [h_slotSize s kk, zk_5, zi_add]
      by_cases c2 : w - 5 < gm_L G 4 s
      · rw [if_pos ⟨by omega, c2⟩] at hb
        have ei : (zi_n (s : Int) * 8 + zi_n w) - 5 = zi_n (8 * (s : Int) + (w - 5)) := by rw [zk_8, zk_5, zi_mul, zi_add, zi_sub]; congr 1; omega
        have ec : ((zi_n (s : Int) * 8 + zi_n w) - 5).toNatClampNeg = 8 * s + (w - 5).toNat := by rw [ei, zi_cl (by omega) (by omega)]; omega
        refine br_t (by rw [es, zi_lt w0 w1 (by omega) (by omega)]; omega) ⟨by rw [ei]; exact zi_in (by omega) (by omega) (by omega), ?_⟩
        have ld := l2 (8 * s + (w - 5).toNat) (by omega)
        rw [ec, h_slotBytes _ (by omega), zi_a8, show zi_b (gm_D G (8 * s + (w - 5).toNat)) % 256 = gm_D G (8 * s + (w - 5).toNat) from by rw [zi_b_e]; omega]
        exact hb
      · rw [if_neg (fun t => c2 t.2)] at hb
        exact br_f (by rw [es, zi_lt w0 w1 (by omega) (by omega)]; omega) hb
  by_cases c3 : w < 0
  · exact br_t (by rw [zk_0, zi_lt w0 w1 (by omega) (by omega)]; exact c3) (kbig (by omega))
  refine br_f (by rw [zk_0, zi_lt w0 w1 (by omega) (by omega)]; exact c3) ?_
  by_cases c4 : 4 < w
  · exact br_t (by rw [zk_4, zi_lt (by omega) (by omega) w0 w1]; exact c4) (kbig (by omega))
  refine br_f (by rw [zk_4, zi_lt (by omega) (by omega) w0 w1]; exact c4) ?_
  have hcs : w = 0 ∨ w = 1 ∨ w = 2 ∨ w = 3 ∨ w = 4 := by omega
  rcases hcs with rfl | rfl | rfl | rfl | rfl
  · refine br_t (by decide) ⟨hin, ?_⟩
    rw [h_slotSeq s kk]; exact hb
  · refine br_f (by decide) (br_t (by decide) ⟨hin, ?_⟩)
    rw [h_slotFlags s kk]; exact hb
  · refine br_f (by decide) (br_f (by decide) (br_t (by decide) ⟨hin, ?_⟩))
    rw [h_slotAck s kk]; exact hb
  · refine br_f (by decide) (br_f (by decide) (br_f (by decide) (br_t (by decide) ⟨hin, ?_⟩)))
    rw [h_slotWindow s kk]; exact hb
  · refine br_f (by decide) (br_f (by decide) (br_f (by decide) (br_f (by decide) (br_t (by decide) ⟨hin, ?_⟩))))
    rw [h_slotSize s kk]; exact hb
