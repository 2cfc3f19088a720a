/-! the class: an end ends and begins; what it sends -/
theorem vh_none {A a : Nat → Int32} {h : Nat → Int → Bool} {e : Nat} {I R I' R' : Nat → Int} (hA1 : ∀ j, j < 32 → A (32 * e + j) = 0) (hA2 : ∀ j, (j < 32 * e ∨ 32 * e + 32 ≤ j) → A j = a j) (hh : ∀ e', e' < 2 → e' ≠ e → ∀ p : Int, R e' ≤ p → p < R e' + 32 → a (32 * e' + ((I e' + p) % 32).toNat) = (if h e' p = true then 1 else 0)) (hI : ∀ e', e' ≠ e → I' e' = I e') (hR : ∀ e', e' ≠ e → R' e' = R e') : ∀ e', e' < 2 → ∀ p : Int, R' e' ≤ p → p < R' e' + 32 → A (32 * e' + ((I' e' + p) % 32).toNat) = (if gp_none h e e' p = true then 1 else 0) := by
  intro e' he' p h1 h2
  by_cases q : e' = e
  · subst q
    rw [hA1 _ (by omega), nn_e]; rfl
  · rw [hA2 _ (by omega), nn_o q, hI e' q]
    rw [hR e' q] at h1 h2
    exact hh e' he' q p h1 h2
theorem vx_ext {q : Int} {G G' : gm_T} {u : SX} (hc : ∀ e, e < 2 → ∀ f, G'.1 f e = G.1 f e) (hr : G'.2 = G.2) (h : vx_S q G u) : vx_S q G' u := by
  obtain ⟨c, r⟩ := G
  obtain ⟨c', r'⟩ := G'
  obtain rfl : r' = r := hr
  obtain ⟨f_now, f_sent, a_stateOf, a_error, a_iss, a_una, a_nxt, a_max, a_writtenTo, a_kept, a_keptBytes, a_rcv, a_unread, a_unreadFrom, a_cameBytes, a_held, a_heldFin, a_wnd, a_wndSeq, a_wndAck, a_peak, a_half, a_same, a_rto, a_tries, a_retryAt, a_ackAt, a_waitTill, a_timedAt, a_timedSeq, a_smoothed, a_variance, a_rowCount, a_slotSeq, a_slotFlags, a_slotAck, a_slotWindow, a_slotSize, a_slotBytes⟩ := u
  obtain ⟨h_now, h_sent, h_stateOf, h_error, h_iss, h_una, h_nxt, h_max, h_writtenTo, h_kept, h_keptBytes, h_rcv, h_unread, h_unreadFrom, h_cameBytes, h_held, h_heldFin, h_wnd, h_wndSeq, h_wndAck, h_peak, h_half, h_same, h_rto, h_tries, h_retryAt, h_ackAt, h_waitTill, h_timedAt, h_timedSeq, h_smoothed, h_variance, h_rowCount, h_slotSeq, h_slotFlags, h_slotAck, h_slotWindow, h_slotSize, h_slotBytes⟩ := h
  replace hc : ∀ e, e < 2 → ∀ f, c' f e = c f e := hc
  exact (vx_mk h_now h_sent (fun e he => by simp only [hc e he]; exact h_stateOf e he) (fun e he => by simp only [hc e he]; exact h_error e he) (fun e he => by simp only [hc e he]; exact h_iss e he) (fun e he => by simp only [hc e he]; exact h_una e he) (fun e he => by simp only [hc e he]; exact h_nxt e he) (fun e he => by simp only [hc e he]; exact h_max e he) (fun e he => by simp only [hc e he]; exact h_writtenTo e he) (fun e he => by simp only [hc e he]; exact h_kept e he) (fun e he => by simp only [hc e he]; exact h_keptBytes e he) (fun e he => by simp only [hc e he]; exact h_rcv e he) (fun e he => by simp only [hc e he]; exact h_unread e he) (fun e he => by simp only [hc e he]; exact h_unreadFrom e he) (fun e he => by simp only [hc e he]; exact h_cameBytes e he) (fun e he => by simp only [hc e he]; exact h_held e he) (fun e he => by simp only [hc e he]; exact h_heldFin e he) (fun e he => by simp only [hc e he]; exact h_wnd e he) (fun e he => by simp only [hc e he]; exact h_wndSeq e he) (fun e he => by simp only [hc e he]; exact h_wndAck e he) (fun e he => by simp only [hc e he]; exact h_peak e he) (fun e he => by simp only [hc e he]; exact h_half e he) (fun e he => by simp only [hc e he]; exact h_same e he) (fun e he => by simp only [hc e he]; exact h_rto e he) (fun e he => by simp only [hc e he]; exact h_tries e he) (fun e he => by simp only [hc e he]; exact h_retryAt e he) (fun e he => by simp only [hc e he]; exact h_ackAt e he) (fun e he => by simp only [hc e he]; exact h_waitTill e he) (fun e he => by simp only [hc e he]; exact h_timedAt e he) (fun e he => by simp only [hc e he]; exact h_timedSeq e he) (fun e he => by simp only [hc e he]; exact h_smoothed e he) (fun e he => by simp only [hc e he]; exact h_variance e he) (fun e he => by simp only [hc e he]; exact h_rowCount e he) h_slotSeq h_slotFlags h_slotAck h_slotWindow h_slotSize h_slotBytes)
theorem xl_endAll {q : Int} {G : gm_T} {u : SX} {p : Int32} {P : SX → Prop} (hv : vx_S q G u) (hp : vp_in p 2) (hP : ∀ u', vx_S q (gp_over G p.toNatClampNeg (G.1 1 p.toNatClampNeg)) u' → P u') : wpX_endAll P u p := by
  obtain ⟨f_now, f_sent, a_stateOf, a_error, a_iss, a_una, a_nxt, a_max, a_writtenTo, a_kept, a_keptBytes, a_rcv, a_unread, a_unreadFrom, a_cameBytes, a_held, a_heldFin, a_wnd, a_wndSeq, a_wndAck, a_peak, a_half, a_same, a_rto, a_tries, a_retryAt, a_ackAt, a_waitTill, a_timedAt, a_timedSeq, a_smoothed, a_variance, a_rowCount, a_slotSeq, a_slotFlags, a_slotAck, a_slotWindow, a_slotSize, a_slotBytes⟩ := u
  obtain ⟨h_now, h_sent, h_stateOf, h_error, h_iss, h_una, h_nxt, h_max, h_writtenTo, h_kept, h_keptBytes, h_rcv, h_unread, h_unreadFrom, h_cameBytes, h_held, h_heldFin, h_wnd, h_wndSeq, h_wndAck, h_peak, h_half, h_same, h_rto, h_tries, h_retryAt, h_ackAt, h_waitTill, h_timedAt, h_timedSeq, h_smoothed, h_variance, h_rowCount, h_slotSeq, h_slotFlags, h_slotAck, h_slotWindow, h_slotSize, h_slotBytes⟩ := hv
  unfold wpX_endAll
  refine ⟨hp, nm_e ⟨hp, nm_e (xl_holdNothing hp fun A hA1 hA2 => ⟨hp, nm_e ⟨hp, nm_e ⟨hp, nm_e ⟨hp, nm_e (hP _ ?_)⟩⟩⟩⟩)⟩⟩
  generalize p.toNatClampNeg = e at *
  have vl : ∀ f z, (gp_over G e (G.1 1 e)).1 f e = z → (gp_over G e (G.1 1 e)).1 f e = z := fun _ _ h => h
  refine (vx_mk h_now h_sent (vu_e h_stateOf ?a1 (fun e' q => ov_o q _)) (vk_e h_error (fun e' he' => ?a2)) h_iss h_una h_nxt h_max h_writtenTo (vu_e h_kept ?a3 (fun e' q => ov_o q _)) h_keptBytes h_rcv h_unread h_unreadFrom (fun e' he' p w => h_cameBytes e' he' p (w.imp id nn_H)) (vh_none hA1 hA2 (fun e' he' _ => h_held e' he') (fun e' q => ov_o q _) (fun e' q => ov_o q _)) (vu_e h_heldFin ?a4 (fun e' q => ?a5)) h_wnd h_wndSeq h_wndAck h_peak h_half h_same h_rto h_tries (vu_e h_retryAt ?a6 (fun e' q => ov_o q _)) (vu_e h_ackAt ?a7 (fun e' q => ov_o q _)) (vu_e h_waitTill ?a8 (fun e' q => ov_o q _)) (vu_e h_timedAt ?a9 (fun e' q => ?b1)) (fun e' he' w => ?b2) h_smoothed h_variance h_rowCount h_slotSeq h_slotFlags h_slotAck h_slotWindow h_slotSize h_slotBytes)
  case a1 => simp +decide only [gp_over, gs_s, gs_f] <;> rfl
  case a2 =>
    by_cases q : e' = e
    · subst q; simp +decide only [gp_over, gs_s, gs_f]
    · exact ov_o q _
  case a3 => simp +decide only [gp_over, gs_s, gs_f] <;> rfl
  case a4 => simp +decide only [gp_over, gs_s, gs_f] <;> rfl
  case a5 => simp only [ov_o q]
  case a6 => simp +decide only [gp_over, gs_s, gs_f] <;> rfl
  case a7 => simp +decide only [gp_over, gs_s, gs_f] <;> rfl
  case a8 => simp +decide only [gp_over, gs_s, gs_f] <;> rfl
  case a9 => simp +decide only [gp_over, gs_s, gs_f] <;> rfl
  case b1 => simp only [ov_o q]
  case b2 =>
    by_cases q : e' = e
    · subst q; simp +decide only [gp_over, gs_s, gs_f] at w <;> omega
    · simp only [ov_o q] at w ⊢; exact h_timedSeq e' he' w
theorem vh_all {a : Nat → Int32} {e : Nat} {I R : Int} (h : ∀ p : Int, R ≤ p → p < R + 32 → a (32 * e + ((I + p) % 32).toNat) = 0) : ∀ j, j < 32 → a (32 * e + j) = 0 := by
  intro j hj
  have := h (R + ((j : Int) - I - R) % 32) (by omega) (by omega)
  rw [show ((I + (R + ((j : Int) - I - R) % 32)) % 32).toNat = j from by omega] at this
  exact this
theorem xl_begin {q : Int} {G : gm_T} {u : SX} {p x : Int32} {P : SX → Prop} {iss : Int} (hv : vx_S q G u) (hp : vp_in p 2) (hx : x = zi_n iss) (h0 : 0 ≤ iss) (h1 : iss ≤ 65535) (hP : ∀ u', vx_S q (gp_begin G p.toNatClampNeg iss) u' → P u') : wpX_begin P u p x := by
  obtain ⟨f_now, f_sent, a_stateOf, a_error, a_iss, a_una, a_nxt, a_max, a_writtenTo, a_kept, a_keptBytes, a_rcv, a_unread, a_unreadFrom, a_cameBytes, a_held, a_heldFin, a_wnd, a_wndSeq, a_wndAck, a_peak, a_half, a_same, a_rto, a_tries, a_retryAt, a_ackAt, a_waitTill, a_timedAt, a_timedSeq, a_smoothed, a_variance, a_rowCount, a_slotSeq, a_slotFlags, a_slotAck, a_slotWindow, a_slotSize, a_slotBytes⟩ := u
  unfold wpX_begin
  refine xl_endAll hv hp fun u1 hv1 => ?_
  clear hv
  obtain ⟨f_now, f_sent, a_stateOf, a_error, a_iss, a_una, a_nxt, a_max, a_writtenTo, a_kept, a_keptBytes, a_rcv, a_unread, a_unreadFrom, a_cameBytes, a_held, a_heldFin, a_wnd, a_wndSeq, a_wndAck, a_peak, a_half, a_same, a_rto, a_tries, a_retryAt, a_ackAt, a_waitTill, a_timedAt, a_timedSeq, a_smoothed, a_variance, a_rowCount, a_slotSeq, a_slotFlags, a_slotAck, a_slotWindow, a_slotSize, a_slotBytes⟩ := u1
  obtain ⟨h_now, h_sent, h_stateOf, h_error, h_iss, h_una, h_nxt, h_max, h_writtenTo, h_kept, h_keptBytes, h_rcv, h_unread, h_unreadFrom, h_cameBytes, h_held, h_heldFin, h_wnd, h_wndSeq, h_wndAck, h_peak, h_half, h_same, h_rto, h_tries, h_retryAt, h_ackAt, h_waitTill, h_timedAt, h_timedSeq, h_smoothed, h_variance, h_rowCount, h_slotSeq, h_slotFlags, h_slotAck, h_slotWindow, h_slotSize, h_slotBytes⟩ := hv1
  refine ⟨hp, nm_e ⟨hp, nm_e ⟨hp, nm_e ⟨hp, nm_e ⟨hp, nm_e (xl_behind hx zk_1 ⟨hp, nm_e ⟨hp, nm_e ⟨hp, nm_e ⟨hp, nm_e ⟨hp, nm_e ⟨hp, nm_e ⟨hp, nm_e ⟨hp, nm_e ⟨hp, nm_e ⟨hp, nm_e ⟨hp, nm_e ⟨hp, nm_e ⟨hp, nm_e ⟨hp, nm_e ⟨hp, nm_e (hP _ ?_)⟩⟩⟩⟩⟩⟩⟩⟩⟩⟩⟩⟩⟩⟩⟩)⟩⟩⟩⟩⟩
  have hl := pe_lt hp
  generalize p.toNatClampNeg = e at *
  have o1 : ∀ e' f, e' ≠ e → (gp_begin G e iss).1 f e' = (gp_over G e (G.1 1 e)).1 f e' := fun e' f q => by rw [bg_o q, ov_o q]
  have m1 : iss % 65536 = iss := by omega
  refine (vx_mk h_now h_sent (vk_e h_stateOf (fun e' he' => ?k1)) (vu_e h_error ?v1 (fun e' q => o1 _ _ q)) (vu_e h_iss ?v2 (fun e' q => o1 _ _ q)) (vu_e h_una ?v3 (fun e' q => by rw [o1 _ _ q, o1 _ _ q])) (vu_e h_nxt ?v4 (fun e' q => by rw [o1 _ _ q, o1 _ _ q])) (vu_e h_max ?v5 (fun e' q => by rw [o1 _ _ q, o1 _ _ q])) (vu_e h_writtenTo ?v6 (fun e' q => by rw [o1 _ _ q, o1 _ _ q])) (vk_e h_kept (fun e' he' => ?k2)) (fun e' he' => ?b1) (vu_e h_rcv ?v7 (fun e' q => by rw [o1 _ _ q, o1 _ _ q])) (vu_e h_unread ?v8 (fun e' q => o1 _ _ q)) (vu_e h_unreadFrom ?v9 (fun e' q => by rw [o1 _ _ q, o1 _ _ q])) (fun e' he' => ?b2) (?b3) (vk_e h_heldFin (fun e' he' => ?k3)) (vu_e h_wnd ?w1 (fun e' q => o1 _ _ q)) (vu_e h_wndSeq ?w2 (fun e' q => by rw [o1 _ _ q, o1 _ _ q])) (fun e' he' => ?b4) (vu_e h_peak ?w3 (fun e' q => o1 _ _ q)) (vu_e h_half ?w4 (fun e' q => o1 _ _ q)) (vu_e h_same ?w5 (fun e' q => o1 _ _ q)) (vu_e h_rto ?w6 (fun e' q => o1 _ _ q)) (vu_e h_tries ?w7 (fun e' q => o1 _ _ q)) (vk_e h_retryAt (fun e' he' => ?k4)) (vk_e h_ackAt (fun e' he' => ?k5)) (vk_e h_waitTill (fun e' he' => ?k6)) (vk_e h_timedAt (fun e' he' => ?k7)) (fun e' he' => ?b5) (vu_e h_smoothed ?w8 (fun e' q => by rw [o1 _ _ q, o1 _ _ q])) (vu_e h_variance ?w9 (fun e' q => o1 _ _ q)) (vk_e h_rowCount (fun e' he' => ?k8)) h_slotSeq h_slotFlags h_slotAck h_slotWindow h_slotSize h_slotBytes)
  case k1 =>
    by_cases q : e' = e
    · subst q; simp +decide only [gp_begin, gp_over, gs_s, gs_f, ↓reduceIte]
    · exact o1 _ _ q
  case k2 =>
    by_cases q : e' = e
    · subst q; simp +decide only [gp_begin, gp_over, gs_s, gs_f, ↓reduceIte]
    · exact o1 _ _ q
  case k4 =>
    by_cases q : e' = e
    · subst q; simp +decide only [gp_begin, gp_over, gs_s, gs_f, ↓reduceIte]
    · exact o1 _ _ q
  case k5 =>
    by_cases q : e' = e
    · subst q; simp +decide only [gp_begin, gp_over, gs_s, gs_f, ↓reduceIte]
    · exact o1 _ _ q
  case k6 =>
    by_cases q : e' = e
    · subst q; simp +decide only [gp_begin, gp_over, gs_s, gs_f, ↓reduceIte]
    · exact o1 _ _ q
  case k8 =>
    by_cases q : e' = e
    · subst q; simp +decide only [gp_begin, gp_over, gs_s, gs_f, ↓reduceIte]
    · exact o1 _ _ q
  case k3 =>
    by_cases q : e' = e
    · subst q; simp +decide only [gp_begin, gp_over, gs_s, gs_f, ↓reduceIte]
    · simp only [o1 _ _ q]
  case k7 =>
    by_cases q : e' = e
    · subst q; simp +decide only [gp_begin, gp_over, gs_s, gs_f, ↓reduceIte]
    · simp only [o1 _ _ q]
  case v1 => simp +decide only [gp_begin, ↓reduceIte] <;> rfl
  case v2 => simp +decide only [gp_begin, ↓reduceIte]; exact hx
  case v3 => simp +decide only [gp_begin, ↓reduceIte]; rw [Int.add_zero, m1]; exact hx
  case v4 => simp +decide only [gp_begin, ↓reduceIte]; rw [Int.add_zero, m1]; exact hx
  case v5 => simp +decide only [gp_begin, ↓reduceIte]; rw [Int.add_zero, m1]; exact hx
  case v6 => simp +decide only [gp_begin, ↓reduceIte]
  case v7 => simp +decide only [gp_begin, ↓reduceIte] <;> rfl
  case v8 => simp +decide only [gp_begin, ↓reduceIte] <;> rfl
  case v9 => simp +decide only [gp_begin, ↓reduceIte] <;> rfl
  case w1 => simp +decide only [gp_begin, ↓reduceIte] <;> rfl
  case w2 => simp +decide only [gp_begin, ↓reduceIte] <;> rfl
  case w3 => simp +decide only [gp_begin, ↓reduceIte] <;> rfl
  case w4 => simp +decide only [gp_begin, ↓reduceIte] <;> rfl
  case w5 => simp +decide only [gp_begin, ↓reduceIte] <;> rfl
  case w6 => simp +decide only [gp_begin, ↓reduceIte] <;> rfl
  case w7 => simp +decide only [gp_begin, ↓reduceIte] <;> rfl
  case w8 => simp +decide only [gp_begin, ↓reduceIte] <;> rfl
  case w9 => simp +decide only [gp_begin, ↓reduceIte] <;> rfl
  case b1 =>
    intro p' z1 z2 z3
    by_cases q : e' = e
    · subst q; simp +decide only [gp_begin, ↓reduceIte] at z2; omega
    · simp only [o1 _ _ q] at z2 z3 ⊢; exact h_keptBytes e' he' p' z1 z2 z3
  case b2 =>
    intro p' w
    by_cases q : e' = e
    · subst q
      rcases w with w | w
      · simp +decide only [gp_begin, ↓reduceIte] at w
        omega
      · have w' : gp_none (gm_H G) e' e' p' = true := w
        rw [nn_e] at w'
        cases w'
    · simp only [o1 _ _ q] at w ⊢
      exact h_cameBytes e' he' p' w
  case b3 =>
    refine vh_none (a := a_held) (I := (gp_over G e (G.1 1 e)).1 7) (R := (gp_over G e (G.1 1 e)).1 8) (vh_all (I := (gp_over G e (G.1 1 e)).1 7 e) (R := (gp_over G e (G.1 1 e)).1 8 e) fun p' z1 z2 => ?_) (fun j _ => rfl) (fun e' he' q p' z1 z2 => ?_) (fun e' q => o1 _ _ q) (fun e' q => o1 _ _ q)
    · rw [h_held e hl p' z1 z2]
      show (if gp_none (gm_H G) e e p' = true then (1 : Int32) else 0) = 0
      rw [nn_e]; rfl
    · rw [h_held e' he' p' z1 z2]
      show (if gp_none (gm_H G) e e' p' = true then (1 : Int32) else 0) = _
      rw [nn_o q]
  case b4 =>
    intro w
    by_cases q : e' = e
    · subst q; simp +decide only [gp_begin, ↓reduceIte] at w <;> omega
    · rw [zu_n q]; simp only [o1 _ _ q] at w ⊢; exact h_wndAck e' he' w
  case b5 =>
    intro w
    by_cases q : e' = e
    · subst q; simp +decide only [gp_begin, ↓reduceIte] at w <;> omega
    · rw [zu_n q]; simp only [o1 _ _ q] at w ⊢; exact h_timedSeq e' he' w
/-- a segment into a slot -/
theorem po_L {G : gm_T} {e : Nat} {num flag ack win n : Int} {g : Int → Int} (h : G.1 30 e < 16) : gm_L (gp_post G e num flag ack win n g) = gm_l (gm_L G) (16 * e + (G.1 30 e).toNat) num flag ack win n := if_pos h
theorem po_D {G : gm_T} {e : Nat} {num flag ack win n : Int} {g : Int → Int} (h : G.1 30 e < 16) : gm_D (gp_post G e num flag ack win n g) = gm_d (gm_D G) (16 * e + (G.1 30 e).toNat) n g := if_pos h
theorem po_Ln {G : gm_T} {e : Nat} {num flag ack win n : Int} {g : Int → Int} (h : ¬ G.1 30 e < 16) : gm_L (gp_post G e num flag ack win n g) = gm_L G := if_neg h
theorem po_Dn {G : gm_T} {e : Nat} {num flag ack win n : Int} {g : Int → Int} (h : ¬ G.1 30 e < 16) : gm_D (gp_post G e num flag ack win n g) = gm_D G := if_neg h
/-- the class's arrays behind a segment that was put into slot k (32: lost) -/
theorem vx_post {q : Int} {G : gm_T} {f_now : Int32} {f_sent : Int32} {a_stateOf : (Nat → Int32)} {a_error : (Nat → Int32)} {a_iss : (Nat → Int32)} {a_una : (Nat → Int32)} {a_nxt : (Nat → Int32)} {a_max : (Nat → Int32)} {a_writtenTo : (Nat → Int32)} {a_kept : (Nat → Int32)} {a_keptBytes : (Nat → Int32)} {a_rcv : (Nat → Int32)} {a_unread : (Nat → Int32)} {a_unreadFrom : (Nat → Int32)} {a_cameBytes : (Nat → Int32)} {a_held : (Nat → Int32)} {a_heldFin : (Nat → Int32)} {a_wnd : (Nat → Int32)} {a_wndSeq : (Nat → Int32)} {a_wndAck : (Nat → Int32)} {a_peak : (Nat → Int32)} {a_half : (Nat → Int32)} {a_same : (Nat → Int32)} {a_rto : (Nat → Int32)} {a_tries : (Nat → Int32)} {a_retryAt : (Nat → Int32)} {a_ackAt : (Nat → Int32)} {a_waitTill : (Nat → Int32)} {a_timedAt : (Nat → Int32)} {a_timedSeq : (Nat → Int32)} {a_smoothed : (Nat → Int32)} {a_variance : (Nat → Int32)} {a_rowCount : (Nat → Int32)} {a_slotSeq : (Nat → Int32)} {a_slotFlags : (Nat → Int32)} {a_slotAck : (Nat → Int32)} {a_slotWindow : (Nat → Int32)} {a_slotSize : (Nat → Int32)} {a_slotBytes : (Nat → Int32)} {e : Nat} {num flag ack win n : Int} {g : Int → Int} {R S1 S2 S3 S4 S5 SB : Nat → Int32} {k : Nat} (hv : vx_S q G (f_now, f_sent, a_stateOf, a_error, a_iss, a_una, a_nxt, a_max, a_writtenTo, a_kept, a_keptBytes, a_rcv, a_unread, a_unreadFrom, a_cameBytes, a_held, a_heldFin, a_wnd, a_wndSeq, a_wndAck, a_peak, a_half, a_same, a_rto, a_tries, a_retryAt, a_ackAt, a_waitTill, a_timedAt, a_timedSeq, a_smoothed, a_variance, a_rowCount, a_slotSeq, a_slotFlags, a_slotAck, a_slotWindow, a_slotSize, a_slotBytes)) (he : e < 2) (h0 : 0 ≤ G.1 30 e) (h16 : G.1 30 e ≤ 16) (hk : (G.1 30 e < 16 ∧ k = 16 * e + (G.1 30 e).toNat ∧ R = upd a_rowCount e (zi_n (G.1 30 e + 1))) ∨ (G.1 30 e = 16 ∧ k = 32 ∧ R = a_rowCount)) (h1 : S1 = upd a_slotSeq k (zi_n num)) (h2 : S2 = upd a_slotFlags k (zi_n flag)) (h3 : S3 = upd a_slotAck k (zi_n ack)) (h4 : S4 = upd a_slotWindow k (zi_n win)) (h5 : S5 = upd a_slotSize k (zi_n n)) (hb : ∀ j, SB j = if 8 * (k : Int) ≤ j ∧ (j : Int) < 8 * (k : Int) + n then zi_n (zi_b (g ((j : Int) - 8 * (k : Int)))) else a_slotBytes j) : vx_S (q - 1) (gp_post G e num flag ack win n g) (f_now, f_sent, a_stateOf, a_error, a_iss, a_una, a_nxt, a_max, a_writtenTo, a_kept, a_keptBytes, a_rcv, a_unread, a_unreadFrom, a_cameBytes, a_held, a_heldFin, a_wnd, a_wndSeq, a_wndAck, a_peak, a_half, a_same, a_rto, a_tries, a_retryAt, a_ackAt, a_waitTill, a_timedAt, a_timedSeq, a_smoothed, a_variance, R, S1, S2, S3, S4, S5, SB) := by
  obtain ⟨h_now, h_sent, h_stateOf, h_error, h_iss, h_una, h_nxt, h_max, h_writtenTo, h_kept, h_keptBytes, h_rcv, h_unread, h_unreadFrom, h_cameBytes, h_held, h_heldFin, h_wnd, h_wndSeq, h_wndAck, h_peak, h_half, h_same, h_rto, h_tries, h_retryAt, h_ackAt, h_waitTill, h_timedAt, h_timedSeq, h_smoothed, h_variance, h_rowCount, h_slotSeq, h_slotFlags, h_slotAck, h_slotWindow, h_slotSize, h_slotBytes⟩ := hv
  have hs : f_sent = zi_n (gm_S (gp_post G e num flag ack win n g) + (q - 1)) := by
    rw [h_sent]; show zi_n _ = zi_n (gm_S G + 1 + (q - 1)); congr 1; omega
  subst h1 h2 h3 h4 h5
  rcases hk with ⟨hr, rfl, rfl⟩ | ⟨hr, rfl, rfl⟩
  · refine (vx_mk h_now (hs) h_stateOf h_error h_iss h_una h_nxt h_max h_writtenTo h_kept h_keptBytes h_rcv h_unread h_unreadFrom h_cameBytes h_held h_heldFin h_wnd h_wndSeq h_wndAck h_peak h_half h_same h_rto h_tries h_retryAt h_ackAt h_waitTill h_timedAt h_timedSeq h_smoothed h_variance (vu_e h_rowCount ?_ (fun e' q => gs_e q)) ((by rw [po_L hr]; exact vs_0 h_slotSeq rfl)) ((by rw [po_L hr]; exact vs_1 h_slotFlags rfl)) ((by rw [po_L hr]; exact vs_2 h_slotAck rfl)) ((by rw [po_L hr]; exact vs_3 h_slotWindow rfl)) ((by rw [po_L hr]; exact vs_4 h_slotSize rfl)) (?_))
    · show zi_n _ = zi_n (gs_c G.1 30 e (if G.1 30 e < 16 then G.1 30 e + 1 else G.1 30 e) 30 e)
      rw [gs_s, if_pos hr]
    · intro j hj
      rw [po_D hr, hb]
      unfold gm_d
      split
      · rfl
      · exact h_slotBytes j hj
  · have hr' : ¬ G.1 30 e < 16 := by omega
    refine (vx_mk h_now (hs) h_stateOf h_error h_iss h_una h_nxt h_max h_writtenTo h_kept h_keptBytes h_rcv h_unread h_unreadFrom h_cameBytes h_held h_heldFin h_wnd h_wndSeq h_wndAck h_peak h_half h_same h_rto h_tries h_retryAt h_ackAt h_waitTill h_timedAt h_timedSeq h_smoothed h_variance (vk_e h_rowCount (fun e' _ => ?_)) ((by rw [po_Ln hr']; exact vs_x h_slotSeq (by omega))) ((by rw [po_Ln hr']; exact vs_x h_slotFlags (by omega))) ((by rw [po_Ln hr']; exact vs_x h_slotAck (by omega))) ((by rw [po_Ln hr']; exact vs_x h_slotWindow (by omega))) ((by rw [po_Ln hr']; exact vs_x h_slotSize (by omega))) (?_))
    · show gs_c G.1 30 e (if G.1 30 e < 16 then G.1 30 e + 1 else G.1 30 e) 30 e' = _
      by_cases w : e' = e
      · subst w; rw [gs_s, if_neg hr']
      · exact gs_e w
    · intro j hj
      rw [po_Dn hr', hb, if_neg (by omega)]
      exact h_slotBytes j hj
theorem sl_k {e : Nat} {r : Int} (he : e < 2) (h0 : 0 ≤ r) (h1 : r < 16) : (zi_n (16 * (e : Int) + r)).toNatClampNeg = 16 * e + r.toNat := by
  rw [zi_cl (by omega) (by omega)]; omega
theorem sl_32 : (zi_n 32).toNatClampNeg = 32 := by decide +kernel
theorem xl_sendReset {q : Int} {G : gm_T} {u : SX} {p x1 x2 x3 : Int32} {P : SX → Prop} {num flag ack : Int} (hv : vx_S q G u) (hp : vp_in p 2) (h0 : 0 ≤ G.1 30 p.toNatClampNeg) (h16 : G.1 30 p.toNatClampNeg ≤ 16) (h1 : x1 = zi_n num) (h2 : x2 = zi_n flag) (h3 : x3 = zi_n ack) (hP : ∀ u', vx_S q (gp_rst G p.toNatClampNeg num flag ack) u' → P u') : wpX_sendReset P u p x1 x2 x3 := by
  obtain ⟨f_now, f_sent, a_stateOf, a_error, a_iss, a_una, a_nxt, a_max, a_writtenTo, a_kept, a_keptBytes, a_rcv, a_unread, a_unreadFrom, a_cameBytes, a_held, a_heldFin, a_wnd, a_wndSeq, a_wndAck, a_peak, a_half, a_same, a_rto, a_tries, a_retryAt, a_ackAt, a_waitTill, a_timedAt, a_timedSeq, a_smoothed, a_variance, a_rowCount, a_slotSeq, a_slotFlags, a_slotAck, a_slotWindow, a_slotSize, a_slotBytes⟩ := u
  have hr : a_rowCount p.toNatClampNeg = zi_n (G.1 30 p.toNatClampNeg) := by obtain ⟨h_now, h_sent, h_stateOf, h_error, h_iss, h_una, h_nxt, h_max, h_writtenTo, h_kept, h_keptBytes, h_rcv, h_unread, h_unreadFrom, h_cameBytes, h_held, h_heldFin, h_wnd, h_wndSeq, h_wndAck, h_peak, h_half, h_same, h_rto, h_tries, h_retryAt, h_ackAt, h_waitTill, h_timedAt, h_timedSeq, h_smoothed, h_variance, h_rowCount, h_slotSeq, h_slotFlags, h_slotAck, h_slotWindow, h_slotSize, h_slotBytes⟩ := hv; exact h_rowCount _ (pe_lt hp)
  have he := pe_lt hp
  have fin : ∀ (k : Nat) (R : Nat → Int32), ((G.1 30 p.toNatClampNeg < 16 ∧ k = 16 * p.toNatClampNeg + (G.1 30 p.toNatClampNeg).toNat ∧ R = upd a_rowCount p.toNatClampNeg (zi_n (G.1 30 p.toNatClampNeg + 1))) ∨ (G.1 30 p.toNatClampNeg = 16 ∧ k = 32 ∧ R = a_rowCount)) → P (f_now, f_sent + 1, a_stateOf, a_error, a_iss, a_una, a_nxt, a_max, a_writtenTo, a_kept, a_keptBytes, a_rcv, a_unread, a_unreadFrom, a_cameBytes, a_held, a_heldFin, a_wnd, a_wndSeq, a_wndAck, a_peak, a_half, a_same, a_rto, a_tries, a_retryAt, a_ackAt, a_waitTill, a_timedAt, a_timedSeq, a_smoothed, a_variance, R, upd a_slotSeq k x1, upd a_slotFlags k x2, upd a_slotAck k x3, upd a_slotWindow k 0, upd a_slotSize k 0, a_slotBytes) := by
    intro k R hk
    refine hP _ ?_
    have h := vx_post (num := num) (flag := flag) (ack := ack) (win := 0) (n := 0) (g := fun _ => 0) (SB := a_slotBytes) hv he h0 h16 hk rfl rfl rfl rfl rfl (fun j => by rw [if_neg (by omega)])
    obtain ⟨h_now, h_sent, h_stateOf, h_error, h_iss, h_una, h_nxt, h_max, h_writtenTo, h_kept, h_keptBytes, h_rcv, h_unread, h_unreadFrom, h_cameBytes, h_held, h_heldFin, h_wnd, h_wndSeq, h_wndAck, h_peak, h_half, h_same, h_rto, h_tries, h_retryAt, h_ackAt, h_waitTill, h_timedAt, h_timedSeq, h_smoothed, h_variance, h_rowCount, h_slotSeq, h_slotFlags, h_slotAck, h_slotWindow, h_slotSize, h_slotBytes⟩ := h
    rw [h1, h2, h3]
    refine (vx_mk h_now (?hs) h_stateOf h_error h_iss h_una h_nxt h_max h_writtenTo h_kept h_keptBytes h_rcv h_unread h_unreadFrom h_cameBytes h_held h_heldFin h_wnd h_wndSeq h_wndAck h_peak h_half h_same h_rto h_tries h_retryAt h_ackAt h_waitTill h_timedAt h_timedSeq h_smoothed h_variance h_rowCount h_slotSeq h_slotFlags h_slotAck h_slotWindow h_slotSize h_slotBytes)
    case hs =>
      rw [h_sent, zk_1, zi_add]
      show zi_n (gm_S G + 1 + (q - 1) + 1) = zi_n (gm_S G + 1 + q)
      congr 1; omega
  unfold wpX_sendReset
  refine xl_nextSlot hp hr h0 h16 (fun hlt => ?_) (fun h => ?_)
  · have hin : vp_in (zi_n (16 * (p.toNatClampNeg : Int) + G.1 30 p.toNatClampNeg)) 33 := zi_in (by omega) (by omega) (by omega)
    refine ⟨hin, nm_e ⟨hin, nm_e ⟨hin, nm_e ⟨hin, nm_e ⟨hin, nm_e (nm_e ?_)⟩⟩⟩⟩⟩
    rw [sl_k he h0 hlt]
    exact fin _ _ (Or.inl ⟨hlt, rfl, rfl⟩)
  · have hin : vp_in (zi_n 32) 33 := zi_in (by omega) (by omega) (by omega)
    refine ⟨hin, nm_e ⟨hin, nm_e ⟨hin, nm_e ⟨hin, nm_e ⟨hin, nm_e (nm_e ?_)⟩⟩⟩⟩⟩
    rw [sl_32]
    exact fin _ _ (Or.inr ⟨h, rfl, rfl⟩)
