/-! the class: bytes go on, content -/
theorem xl_takeFin {q : Int} {G : gm_T} {u : SX} {p : Int32} {P : SX → Prop} (hv : vx_S q G u) (hp : vp_in p 2) (h4 : 4 ≤ G.1 0 p.toNatClampNeg) (h6 : G.1 0 p.toNatClampNeg ≤ 6) (hP : ∀ u', vx_S q (gp_gst G p.toNatClampNeg) u' → P u') : wpX_takeFin P u p := by
  obtain ⟨f_now, f_sent, a_stateOf, a_error, a_iss, a_una, a_nxt, a_max, a_writtenTo, a_kept, a_keptBytes, a_rcv, a_unread, a_unreadFrom, a_cameBytes, a_held, a_heldFin, a_wnd, a_wndSeq, a_wndAck, a_peak, a_half, a_same, a_rto, a_tries, a_retryAt, a_ackAt, a_waitTill, a_timedAt, a_timedSeq, a_smoothed, a_variance, a_rowCount, a_slotSeq, a_slotFlags, a_slotAck, a_slotWindow, a_slotSize, a_slotBytes⟩ := u
  have hv0 := hv
  obtain ⟨h_now, h_sent, h_stateOf, h_error, h_iss, h_una, h_nxt, h_max, h_writtenTo, h_kept, h_keptBytes, h_rcv, h_unread, h_unreadFrom, h_cameBytes, h_held, h_heldFin, h_wnd, h_wndSeq, h_wndAck, h_peak, h_half, h_same, h_rto, h_tries, h_retryAt, h_ackAt, h_waitTill, h_timedAt, h_timedSeq, h_smoothed, h_variance, h_rowCount, h_slotSeq, h_slotFlags, h_slotAck, h_slotWindow, h_slotSize, h_slotBytes⟩ := hv0
  have he := pe_lt hp
  have hs := h_stateOf _ he
  unfold wpX_takeFin
  have h3 : G.1 0 p.toNatClampNeg = 4 ∨ G.1 0 p.toNatClampNeg = 5 ∨ G.1 0 p.toNatClampNeg = 6 := by omega
  unfold gp_gst at hP
  rcases h3 with w | w | w
  · rw [w] at hP hs
    exact ⟨hp, nm_r (e' := zi_n 4) hs (br_t (by decide) ⟨hp, nm_e (hP _ (vx_put hv rfl))⟩)⟩
  · rw [w] at hP hs
    exact ⟨hp, nm_r (e' := zi_n 5) hs (br_f (by decide) (br_t (by decide) ⟨hp, nm_e (hP _ (vx_put hv rfl))⟩))⟩
  · rw [w] at hP hs
    exact ⟨hp, nm_r (e' := zi_n 6) hs (br_f (by decide) (br_f (by decide) ⟨hp, nm_e ⟨hp, nm_e (hP _ (vx_wait hv))⟩⟩))⟩
theorem xg_fin {B K : Int} {G : gm_T} {e : Nat} {x y : Int32} (hI : gw_I B K G e) (hx : x = zi_n ((G.1 7 e + G.1 8 e) % 65536)) (hy : y = zi_n (if G.1 11 e < 0 then -1 else (G.1 7 e + G.1 11 e) % 65536)) : x = y ↔ G.1 8 e = G.1 11 e := by
  obtain ⟨a1, a2, a3, a4, a5, a9, b6, a6, a7, a8⟩ := hI
  obtain ⟨q1, q2, q3, q4, q5, q6, q7, q8, q9, qa, qb, qc, qd⟩ := b6
  rw [hx, hy]
  by_cases w : G.1 11 e < 0
  · rw [if_pos w, zi_eq (by omega) (by omega) (by omega) (by omega)]; omega
  · have := qc (by omega)
    rw [if_neg w, zi_eq (by omega) (by omega) (by omega) (by omega)]; omega
theorem xg_89 {q B K : Int} {G : gm_T} {f_now : Int32} {f_sent : Int32} {a_stateOf : (Nat → Int32)} {a_error : (Nat → Int32)} {a_iss : (Nat → Int32)} {a_una : (Nat → Int32)} {a_nxt : (Nat → Int32)} {a_max : (Nat → Int32)} {a_writtenTo : (Nat → Int32)} {a_kept : (Nat → Int32)} {a_keptBytes : (Nat → Int32)} {a_rcv : (Nat → Int32)} {a_unread : (Nat → Int32)} {a_unreadFrom : (Nat → Int32)} {a_cameBytes : (Nat → Int32)} {a_held : (Nat → Int32)} {a_heldFin : (Nat → Int32)} {a_wnd : (Nat → Int32)} {a_wndSeq : (Nat → Int32)} {a_wndAck : (Nat → Int32)} {a_peak : (Nat → Int32)} {a_half : (Nat → Int32)} {a_same : (Nat → Int32)} {a_rto : (Nat → Int32)} {a_tries : (Nat → Int32)} {a_retryAt : (Nat → Int32)} {a_ackAt : (Nat → Int32)} {a_waitTill : (Nat → Int32)} {a_timedAt : (Nat → Int32)} {a_timedSeq : (Nat → Int32)} {a_smoothed : (Nat → Int32)} {a_variance : (Nat → Int32)} {a_rowCount : (Nat → Int32)} {a_slotSeq : (Nat → Int32)} {a_slotFlags : (Nat → Int32)} {a_slotAck : (Nat → Int32)} {a_slotWindow : (Nat → Int32)} {a_slotSize : (Nat → Int32)} {a_slotBytes : (Nat → Int32)} {p : Int32} {P : SX → Prop} (hv : vx_S q G (f_now, f_sent, a_stateOf, a_error, a_iss, a_una, a_nxt, a_max, a_writtenTo, a_kept, a_keptBytes, a_rcv, a_unread, a_unreadFrom, a_cameBytes, a_held, a_heldFin, a_wnd, a_wndSeq, a_wndAck, a_peak, a_half, a_same, a_rto, a_tries, a_retryAt, a_ackAt, a_waitTill, a_timedAt, a_timedSeq, a_smoothed, a_variance, a_rowCount, a_slotSeq, a_slotFlags, a_slotAck, a_slotWindow, a_slotSize, a_slotBytes)) (hI : gw_I B K G p.toNatClampNeg) (hp : vp_in p 2) (hP : ∀ u', vx_S q (gp_gfin G p.toNatClampNeg) u' → P u') : wX_goOn_89 P p f_now f_sent a_stateOf a_error a_iss a_una a_nxt a_max a_writtenTo a_kept a_keptBytes a_rcv a_unread a_unreadFrom a_cameBytes a_held a_heldFin a_wnd a_wndSeq a_wndAck a_peak a_half a_same a_rto a_tries a_retryAt a_ackAt a_waitTill a_timedAt a_timedSeq a_smoothed a_variance a_rowCount a_slotSeq a_slotFlags a_slotAck a_slotWindow a_slotSize a_slotBytes := by
  have hv0 := hv
  obtain ⟨h_now, h_sent, h_stateOf, h_error, h_iss, h_una, h_nxt, h_max, h_writtenTo, h_kept, h_keptBytes, h_rcv, h_unread, h_unreadFrom, h_cameBytes, h_held, h_heldFin, h_wnd, h_wndSeq, h_wndAck, h_peak, h_half, h_same, h_rto, h_tries, h_retryAt, h_ackAt, h_waitTill, h_timedAt, h_timedSeq, h_smoothed, h_variance, h_rowCount, h_slotSeq, h_slotFlags, h_slotAck, h_slotWindow, h_slotSize, h_slotBytes⟩ := hv0
  have he := pe_lt hp
  have hfin := xg_fin hI (h_rcv _ he) (h_heldFin _ he)
  obtain ⟨a1, a2, a3, a4, a5, a9, b6, a6, a7, a8⟩ := hI
  obtain ⟨q1, q2, q3, q4, q5, q6, q7, q8, q9, qa, qb, qc, qd⟩ := b6
  unfold wX_goOn_89
  refine ⟨hp, hp, ?_⟩
  by_cases w : G.1 8 p.toNatClampNeg = G.1 11 p.toNatClampNeg
  · have e1 : gp_gfin G p.toNatClampNeg = gp_gst (gp_gend G p.toNatClampNeg) p.toNatClampNeg := if_pos w
    rw [e1] at hP
    refine br_t (hfin.mpr w) ⟨hp, xl_behind (h_rcv _ he) zk_1 ⟨hp, nm_e (xl_holdNothing hp fun A hA1 hA2 => ?_)⟩⟩
    have hst : (gp_gend G p.toNatClampNeg).1 0 p.toNatClampNeg = G.1 0 p.toNatClampNeg := by simp +decide only [gp_gend, gs_f]
    refine xl_takeFin (G := gp_gend G p.toNatClampNeg) ?_ hp (by rw [hst]; exact q8) (by rw [hst]; exact q9) hP
    generalize p.toNatClampNeg = e at *
    have o : ∀ e' f, e' ≠ e → (gp_gend G e).1 f e' = G.1 f e' := fun e' f y => by simp only [gp_gend, gs_e y]
    refine (vx_mk h_now h_sent h_stateOf h_error h_iss h_una h_nxt h_max h_writtenTo h_kept h_keptBytes (vu_e h_rcv ?a1 (fun e' y => by rw [o _ _ y, o _ _ y])) h_unread h_unreadFrom (fun e' he' p' z => ?a2) (vh_none hA1 hA2 (fun e' he' _ => h_held e' he') (fun e' y => o _ _ y) (fun e' y => o _ _ y)) (vu_e h_heldFin ?a3 (fun e' y => by simp only [o _ _ y])) h_wnd h_wndSeq h_wndAck h_peak h_half h_same h_rto h_tries h_retryAt h_ackAt h_waitTill h_timedAt h_timedSeq h_smoothed h_variance h_rowCount h_slotSeq h_slotFlags h_slotAck h_slotWindow h_slotSize h_slotBytes)
    case a1 => simp +decide only [gp_gend, gs_s, gs_f]; congr 1; omega
    case a2 =>
      refine h_cameBytes e' he' p' ?_
      rcases z with z | z
      · exact Or.inl z
      · exact Or.inr (nn_H z)
    case a3 => simp +decide only [gp_gend, gs_s, gs_f] <;> rfl
  · have e1 : gp_gfin G p.toNatClampNeg = G := if_neg w
    rw [e1] at hP
    exact br_f (fun z => w (hfin.mp z)) (hP _ hv)
theorem vx_gstep {q B K : Int} {G : gm_T} {f_now : Int32} {f_sent : Int32} {a_stateOf : (Nat → Int32)} {a_error : (Nat → Int32)} {a_iss : (Nat → Int32)} {a_una : (Nat → Int32)} {a_nxt : (Nat → Int32)} {a_max : (Nat → Int32)} {a_writtenTo : (Nat → Int32)} {a_kept : (Nat → Int32)} {a_keptBytes : (Nat → Int32)} {a_rcv : (Nat → Int32)} {a_unread : (Nat → Int32)} {a_unreadFrom : (Nat → Int32)} {a_cameBytes : (Nat → Int32)} {a_held : (Nat → Int32)} {a_heldFin : (Nat → Int32)} {a_wnd : (Nat → Int32)} {a_wndSeq : (Nat → Int32)} {a_wndAck : (Nat → Int32)} {a_peak : (Nat → Int32)} {a_half : (Nat → Int32)} {a_same : (Nat → Int32)} {a_rto : (Nat → Int32)} {a_tries : (Nat → Int32)} {a_retryAt : (Nat → Int32)} {a_ackAt : (Nat → Int32)} {a_waitTill : (Nat → Int32)} {a_timedAt : (Nat → Int32)} {a_timedSeq : (Nat → Int32)} {a_smoothed : (Nat → Int32)} {a_variance : (Nat → Int32)} {a_rowCount : (Nat → Int32)} {a_slotSeq : (Nat → Int32)} {a_slotFlags : (Nat → Int32)} {a_slotAck : (Nat → Int32)} {a_slotWindow : (Nat → Int32)} {a_slotSize : (Nat → Int32)} {a_slotBytes : (Nat → Int32)} {e : Nat} (hv : vx_S q G (f_now, f_sent, a_stateOf, a_error, a_iss, a_una, a_nxt, a_max, a_writtenTo, a_kept, a_keptBytes, a_rcv, a_unread, a_unreadFrom, a_cameBytes, a_held, a_heldFin, a_wnd, a_wndSeq, a_wndAck, a_peak, a_half, a_same, a_rto, a_tries, a_retryAt, a_ackAt, a_waitTill, a_timedAt, a_timedSeq, a_smoothed, a_variance, a_rowCount, a_slotSeq, a_slotFlags, a_slotAck, a_slotWindow, a_slotSize, a_slotBytes)) (hI : gw_I B K G e) (he : e < 2) (hh : gm_H G e (G.1 8 e) = true) : vx_S q (gp_gstep G e) (f_now, f_sent, a_stateOf, a_error, a_iss, a_una, a_nxt, a_max, a_writtenTo, a_kept, a_keptBytes, upd a_rcv e (zi_n (((G.1 7 e + G.1 8 e) % 65536 + 1) % 65536)), upd a_unread e (zi_n (G.1 9 e + 1)), a_unreadFrom, a_cameBytes, upd a_held (32 * e + ((G.1 7 e + G.1 8 e) % 32).toNat) 0, a_heldFin, a_wnd, a_wndSeq, a_wndAck, a_peak, a_half, a_same, a_rto, a_tries, a_retryAt, a_ackAt, a_waitTill, a_timedAt, a_timedSeq, a_smoothed, a_variance, a_rowCount, a_slotSeq, a_slotFlags, a_slotAck, a_slotWindow, a_slotSize, a_slotBytes) := by
  obtain ⟨h_now, h_sent, h_stateOf, h_error, h_iss, h_una, h_nxt, h_max, h_writtenTo, h_kept, h_keptBytes, h_rcv, h_unread, h_unreadFrom, h_cameBytes, h_held, h_heldFin, h_wnd, h_wndSeq, h_wndAck, h_peak, h_half, h_same, h_rto, h_tries, h_retryAt, h_ackAt, h_waitTill, h_timedAt, h_timedSeq, h_smoothed, h_variance, h_rowCount, h_slotSeq, h_slotFlags, h_slotAck, h_slotWindow, h_slotSize, h_slotBytes⟩ := hv
  obtain ⟨a1, a2, a3, a4, a5, a9, b6, a6, a7, a8⟩ := hI
  obtain ⟨q1, q2, q3, q4, q5, q6, q7, q8, q9, qa, qb, qc, qd⟩ := b6
  have o : ∀ e' f, e' ≠ e → (gp_gstep G e).1 f e' = G.1 f e' := fun e' f y => by simp only [gp_gstep, gs_e y]
  have vR : (gp_gstep G e).1 8 e = G.1 8 e + 1 := by simp +decide only [gp_gstep, gs_s, gs_f]
  have vU : (gp_gstep G e).1 9 e = G.1 9 e + 1 := by simp +decide only [gp_gstep, gs_s, gs_f]
  have vI : ∀ e', (gp_gstep G e).1 7 e' = G.1 7 e' := fun e' => gs_st (by decide) (by decide) e'
  have vF : ∀ e', (gp_gstep G e).1 10 e' = G.1 10 e' := fun e' => gs_st (by decide) (by decide) e'
  have hHe : gm_H (gp_gstep G e) e = fun p => if p = G.1 8 e then false else gm_H G e p := hh_E
  have hHo : ∀ e', e' ≠ e → gm_H (gp_gstep G e) e' = gm_H G e' := fun e' y => hh_O y
  have hBB : gm_B (gp_gstep G e) = gm_B G := rfl
  refine (vx_mk h_now h_sent h_stateOf h_error h_iss h_una h_nxt h_max h_writtenTo h_kept h_keptBytes (vu_e h_rcv ?a1 (fun e' y => by rw [o _ _ y, o _ _ y])) (vu_e h_unread ?a2 (fun e' y => o _ _ y)) (vk_e h_unreadFrom (fun e' _ => by rw [vI, vF])) (fun e' he' p' z => ?a3) (fun e' he' p' z1 z2 => ?a4) h_heldFin h_wnd h_wndSeq h_wndAck h_peak h_half h_same h_rto h_tries h_retryAt h_ackAt h_waitTill h_timedAt h_timedSeq h_smoothed h_variance h_rowCount h_slotSeq h_slotFlags h_slotAck h_slotWindow h_slotSize h_slotBytes)
  case a1 => rw [vI, vR]; congr 1; omega
  case a2 => rw [vU]
  case a3 =>
    rw [vI, hBB]
    refine h_cameBytes e' he' p' ?_
    by_cases y : e' = e
    · subst y
      rw [vF, vU, hHe] at z
      rcases z with z | z
      · by_cases y2 : p' = G.1 8 e'
        · rw [y2]; exact Or.inr hh
        · exact Or.inl (by omega)
      · dsimp only at z
        split at z
        · cases z
        · exact Or.inr z
    · rw [vF, o _ _ y, hHo e' y] at z
      exact z
  case a4 =>
    rw [vI]
    by_cases y : e' = e
    · subst y
      rw [vR] at z1 z2
      rw [hHe]
      by_cases y2 : p' = G.1 8 e' + 32
      · subst y2
        rw [show ((G.1 7 e' + (G.1 8 e' + 32)) % 32).toNat = ((G.1 7 e' + G.1 8 e') % 32).toNat from by omega, zu_s]
        dsimp only
        have e1 : (if G.1 8 e' + 32 = G.1 8 e' then false else gm_H G e' (G.1 8 e' + 32)) = gm_H G e' (G.1 8 e' + 32) := if_neg (by omega)
        have : ¬ gm_H G e' (G.1 8 e' + 32) = true := fun w => by have := qd _ w; omega
        simp only [e1, if_neg this]
      · dsimp only
        have e1 : (if p' = G.1 8 e' then false else gm_H G e' p') = gm_H G e' p' := if_neg (by omega)
        rw [zu_n (by omega)]
        simp only [e1]
        exact h_held e' he' p' (by omega) (by omega)
    · rw [o _ _ y] at z1 z2
      rw [zu_n (by omega), hHo e' y]
      exact h_held e' he' p' z1 z2
theorem xg_2 {q B K : Int} {p : Int32} {P : SX → Prop} (hp : vp_in p 2) : ∀ (k f r : Nat) (G : gm_T) (f_now : Int32) (f_sent : Int32) (a_stateOf : (Nat → Int32)) (a_error : (Nat → Int32)) (a_iss : (Nat → Int32)) (a_una : (Nat → Int32)) (a_nxt : (Nat → Int32)) (a_max : (Nat → Int32)) (a_writtenTo : (Nat → Int32)) (a_kept : (Nat → Int32)) (a_keptBytes : (Nat → Int32)) (a_rcv : (Nat → Int32)) (a_unread : (Nat → Int32)) (a_unreadFrom : (Nat → Int32)) (a_cameBytes : (Nat → Int32)) (a_held : (Nat → Int32)) (a_heldFin : (Nat → Int32)) (a_wnd : (Nat → Int32)) (a_wndSeq : (Nat → Int32)) (a_wndAck : (Nat → Int32)) (a_peak : (Nat → Int32)) (a_half : (Nat → Int32)) (a_same : (Nat → Int32)) (a_rto : (Nat → Int32)) (a_tries : (Nat → Int32)) (a_retryAt : (Nat → Int32)) (a_ackAt : (Nat → Int32)) (a_waitTill : (Nat → Int32)) (a_timedAt : (Nat → Int32)) (a_timedSeq : (Nat → Int32)) (a_smoothed : (Nat → Int32)) (a_variance : (Nat → Int32)) (a_rowCount : (Nat → Int32)) (a_slotSeq : (Nat → Int32)) (a_slotFlags : (Nat → Int32)) (a_slotAck : (Nat → Int32)) (a_slotWindow : (Nat → Int32)) (a_slotSize : (Nat → Int32)) (a_slotBytes : (Nat → Int32)), r + k = 24 → k < f → vx_S q G (f_now, f_sent, a_stateOf, a_error, a_iss, a_una, a_nxt, a_max, a_writtenTo, a_kept, a_keptBytes, a_rcv, a_unread, a_unreadFrom, a_cameBytes, a_held, a_heldFin, a_wnd, a_wndSeq, a_wndAck, a_peak, a_half, a_same, a_rto, a_tries, a_retryAt, a_ackAt, a_waitTill, a_timedAt, a_timedSeq, a_smoothed, a_variance, a_rowCount, a_slotSeq, a_slotFlags, a_slotAck, a_slotWindow, a_slotSize, a_slotBytes) → gw_I B K G p.toNatClampNeg → (∀ u', vx_S q (gp_gfin (gp_gloop k G p.toNatClampNeg) p.toNatClampNeg) u' → P u') → wX_goOn_2 P p f_now f_sent f (nI r) a_stateOf a_error a_iss a_una a_nxt a_max a_writtenTo a_kept a_keptBytes a_rcv a_unread a_unreadFrom a_cameBytes a_held a_heldFin a_wnd a_wndSeq a_wndAck a_peak a_half a_same a_rto a_tries a_retryAt a_ackAt a_waitTill a_timedAt a_timedSeq a_smoothed a_variance a_rowCount a_slotSeq a_slotFlags a_slotAck a_slotWindow a_slotSize a_slotBytes := by
  have he := pe_lt hp
  have hz := pe_z hp
  intro k
  induction k with
  | zero =>
    intro f r G f_now f_sent a_stateOf a_error a_iss a_una a_nxt a_max a_writtenTo a_kept a_keptBytes a_rcv a_unread a_unreadFrom a_cameBytes a_held a_heldFin a_wnd a_wndSeq a_wndAck a_peak a_half a_same a_rto a_tries a_retryAt a_ackAt a_waitTill a_timedAt a_timedSeq a_smoothed a_variance a_rowCount a_slotSeq a_slotFlags a_slotAck a_slotWindow a_slotSize a_slotBytes hr hf hv hI hP
    obtain ⟨f, rfl⟩ : ∃ g, f = g + 1 := ⟨f - 1, by omega⟩
    obtain rfl : r = 24 := by omega
    exact br_t (by decide) (xg_89 hv hI hp hP)
  | succ k ih =>
    intro f r G f_now f_sent a_stateOf a_error a_iss a_una a_nxt a_max a_writtenTo a_kept a_keptBytes a_rcv a_unread a_unreadFrom a_cameBytes a_held a_heldFin a_wnd a_wndSeq a_wndAck a_peak a_half a_same a_rto a_tries a_retryAt a_ackAt a_waitTill a_timedAt a_timedSeq a_smoothed a_variance a_rowCount a_slotSeq a_slotFlags a_slotAck a_slotWindow a_slotSize a_slotBytes hr hf hv hI hP
    obtain ⟨f, rfl⟩ : ∃ g, f = g + 1 := ⟨f - 1, by omega⟩
    have hv0 := hv
    obtain ⟨h_now, h_sent, h_stateOf, h_error, h_iss, h_una, h_nxt, h_max, h_writtenTo, h_kept, h_keptBytes, h_rcv, h_unread, h_unreadFrom, h_cameBytes, h_held, h_heldFin, h_wnd, h_wndSeq, h_wndAck, h_peak, h_half, h_same, h_rto, h_tries, h_retryAt, h_ackAt, h_waitTill, h_timedAt, h_timedSeq, h_smoothed, h_variance, h_rowCount, h_slotSeq, h_slotFlags, h_slotAck, h_slotWindow, h_slotSize, h_slotBytes⟩ := hv0
    have hI0 := hI
    have hfin := xg_fin hI (h_rcv _ he) (h_heldFin _ he)
    obtain ⟨a1, a2, a3, a4, a5, a9, b6, a6, a7, a8⟩ := hI
    obtain ⟨q1, q2, q3, q4, q5, q6, q7, q8, q9, qa, qb, qc, qd⟩ := b6
    have i1 : (p * 32 + (a_rcv p.toNatClampNeg &&& 31)) = zi_n (32 * (p.toNatClampNeg : Int) + (G.1 7 p.toNatClampNeg + G.1 8 p.toNatClampNeg) % 32) := by
      rw [h_rcv _ he]
      generalize p.toNatClampNeg = e at *
      rw [hz, zk_32, zi_mul, zi_a5, zi_add]; congr 1; omega
    have i2 : (zi_n (32 * (p.toNatClampNeg : Int) + (G.1 7 p.toNatClampNeg + G.1 8 p.toNatClampNeg) % 32)).toNatClampNeg = 32 * p.toNatClampNeg + ((G.1 7 p.toNatClampNeg + G.1 8 p.toNatClampNeg) % 32).toNat := by
      rw [zi_cl (by omega) (by omega)]; omega
    have hin6 : vp_in (zi_n (32 * (p.toNatClampNeg : Int) + (G.1 7 p.toNatClampNeg + G.1 8 p.toNatClampNeg) % 32)) 64 := zi_in (by omega) (by omega) (by omega)
    have hcell := h_held _ he (G.1 8 p.toNatClampNeg) (by omega) (by omega)
    refine br_f (by rw [zk_24, zi_nI, zi_le (by omega) (by omega) (by omega) (by omega)]; omega) ⟨hp, nm_r i1 ⟨hin6, ?_⟩⟩
    rw [i2]
    have stop : ¬ (gm_H G p.toNatClampNeg (G.1 8 p.toNatClampNeg) = true ∧ G.1 8 p.toNatClampNeg ≠ G.1 11 p.toNatClampNeg) → wX_goOn_89 P p f_now f_sent a_stateOf a_error a_iss a_una a_nxt a_max a_writtenTo a_kept a_keptBytes a_rcv a_unread a_unreadFrom a_cameBytes a_held a_heldFin a_wnd a_wndSeq a_wndAck a_peak a_half a_same a_rto a_tries a_retryAt a_ackAt a_waitTill a_timedAt a_timedSeq a_smoothed a_variance a_rowCount a_slotSeq a_slotFlags a_slotAck a_slotWindow a_slotSize a_slotBytes := by
      intro z
      have e1 : gp_gloop (k + 1) G p.toNatClampNeg = G := if_neg z
      rw [e1] at hP
      exact xg_89 hv hI0 hp hP
    by_cases w : gm_H G p.toNatClampNeg (G.1 8 p.toNatClampNeg) = true
    · rw [if_pos w] at hcell
      refine br_f (by rw [hcell]; decide) ⟨hp, hp, ?_⟩
      by_cases w2 : G.1 8 p.toNatClampNeg = G.1 11 p.toNatClampNeg
      · exact br_t (hfin.mpr w2) (stop (fun z => z.2 w2))
      · have e1 : gp_gloop (k + 1) G p.toNatClampNeg = gp_gloop k (gp_gstep G p.toNatClampNeg) p.toNatClampNeg := if_pos ⟨w, w2⟩
        rw [e1] at hP
        refine br_f (fun z => w2 (hfin.mp z)) ⟨hin6, nm_e ⟨hp, hp, nm_e ⟨hp, xl_behind (h_rcv _ he) zk_1 ⟨hp, nm_e (nm_r (nI_1 r) ?_)⟩⟩⟩⟩
        rw [h_unread _ he, zk_1, zi_add]
        exact ih f (r + 1) (gp_gstep G p.toNatClampNeg) f_now f_sent a_stateOf a_error a_iss a_una a_nxt a_max a_writtenTo a_kept a_keptBytes (upd a_rcv p.toNatClampNeg (zi_n (((G.1 7 p.toNatClampNeg + G.1 8 p.toNatClampNeg) % 65536 + 1) % 65536))) (upd a_unread p.toNatClampNeg (zi_n (G.1 9 p.toNatClampNeg + 1))) a_unreadFrom a_cameBytes (upd a_held (32 * p.toNatClampNeg + ((G.1 7 p.toNatClampNeg + G.1 8 p.toNatClampNeg) % 32).toNat) 0) a_heldFin a_wnd a_wndSeq a_wndAck a_peak a_half a_same a_rto a_tries a_retryAt a_ackAt a_waitTill a_timedAt a_timedSeq a_smoothed a_variance a_rowCount a_slotSeq a_slotFlags a_slotAck a_slotWindow a_slotSize a_slotBytes (by omega) (by omega) (vx_gstep hv hI0 he w) (iv_gstep hI0 w w2) hP
    · rw [if_neg w] at hcell
      exact br_t hcell (stop (fun z => w z.1))
theorem xl_goOn {q B K : Int} {G : gm_T} {u : SX} {p : Int32} {P : SX → Prop} (hv : vx_S q G u) (hI : gw_I B K G p.toNatClampNeg) (hp : vp_in p 2) (hP : ∀ u', vx_S q (gp_goOn G p.toNatClampNeg) u' → P u') : wpX_goOn P u p := by
  obtain ⟨f_now, f_sent, a_stateOf, a_error, a_iss, a_una, a_nxt, a_max, a_writtenTo, a_kept, a_keptBytes, a_rcv, a_unread, a_unreadFrom, a_cameBytes, a_held, a_heldFin, a_wnd, a_wndSeq, a_wndAck, a_peak, a_half, a_same, a_rto, a_tries, a_retryAt, a_ackAt, a_waitTill, a_timedAt, a_timedSeq, a_smoothed, a_variance, a_rowCount, a_slotSeq, a_slotFlags, a_slotAck, a_slotWindow, a_slotSize, a_slotBytes⟩ := u
  unfold wpX_goOn
  exact ⟨25, xg_2 hp 24 25 0 G f_now f_sent a_stateOf a_error a_iss a_una a_nxt a_max a_writtenTo a_kept a_keptBytes a_rcv a_unread a_unreadFrom a_cameBytes a_held a_heldFin a_wnd a_wndSeq a_wndAck a_peak a_half a_same a_rto a_tries a_retryAt a_ackAt a_waitTill a_timedAt a_timedSeq a_smoothed a_variance a_rowCount a_slotSeq a_slotFlags a_slotAck a_slotWindow a_slotSize a_slotBytes rfl (by omega) hv hI hP⟩
theorem gl_rv {e : Nat} : ∀ (k : Nat) (G : gm_T), G.1 8 e ≤ (gp_gloop k G e).1 8 e ∧ (gp_gloop k G e).1 8 e ≤ G.1 8 e + k := by
  intro k
  induction k with
  | zero => intro G; exact ⟨Int.le_refl _, by show G.1 8 e ≤ G.1 8 e + ((0 : Nat) : Int); omega⟩
  | succ k ih =>
    intro G
    unfold gp_gloop
    split
    · have h := ih (gp_gstep G e)
      have vR : (gp_gstep G e).1 8 e = G.1 8 e + 1 := by simp +decide only [gp_gstep, gs_s, gs_f]
      omega
    · omega
theorem tk_rv {G : gm_T} {e k : Nat} {o : Int} : G.1 8 e ≤ (gp_take G e k o).1 8 e ∧ (gp_take G e k o).1 8 e ≤ G.1 8 e + 25 := by
  unfold gp_take
  split
  · have h := gl_rv (e := e) 24 (gp_hold G e k o)
    have v0 : (gp_hold G e k o).1 8 e = G.1 8 e := by simp +decide only [gp_hold, gp_hold1, gp_put, gs_f]
    unfold gp_goOn gp_gfin
    split
    · have v1 : (gp_gst (gp_gend (gp_gloop 24 (gp_hold G e k o) e) e) e).1 8 e = (gp_gloop 24 (gp_hold G e k o) e).1 8 e + 1 := by
        unfold gp_gst
        split
        · rw [pu_f (by decide)]; simp +decide only [gp_gend, gs_s, gs_f]
        · split
          · rw [pu_f (by decide)]; simp +decide only [gp_gend, gs_s, gs_f]
          · simp +decide only [gp_wait, gp_gend, gs_s, gs_f]
      omega
    · omega
  · omega
theorem tk_f {G : gm_T} {e k e' : Nat} {o : Int} {f : Nat} (h1 : f ≠ 9) (h2 : f ≠ 8) (h3 : f ≠ 11) (h4 : f ≠ 0) (h5 : f ≠ 23) : (gp_take G e k o).1 f e' = G.1 f e' := by
  unfold gp_take
  split
  · have v0 : (gp_gloop 24 (gp_hold G e k o) e).1 f e' = G.1 f e' := by rw [gl_f h1 h2]; simp only [gp_hold, gp_hold1, gp_put, gs_f h3]
    unfold gp_goOn gp_gfin
    split
    · unfold gp_gst
      split
      · rw [pu_f h4]; simp only [gp_gend, gs_f h2, gs_f h3]; exact v0
      · split
        · rw [pu_f h4]; simp only [gp_gend, gs_f h2, gs_f h3]; exact v0
        · simp only [gp_wait, gp_gend, gs_f h2, gs_f h3, gs_f h4, gs_f h5]; exact v0
    · exact v0
  · rfl
theorem xl_takesBytes {P : Int32 → Prop} {x : Int32} {s : Int} (hx : x = zi_n s) (h0 : 0 ≤ s) (h1 : s ≤ 10) (ht : (3 < s ∧ s < 7) → P 1) (hf : ¬ (3 < s ∧ s < 7) → P 0) : wpX_takesBytes P x := by
  unfold wpX_takesBytes
  rw [hx, zk_4, zk_5, zk_6]
  simp only [zi_eq (a := s) (b := 4) (by omega) (by omega) (by omega) (by omega), zi_eq (a := s) (b := 5) (by omega) (by omega) (by omega) (by omega), zi_eq (a := s) (b := 6) (by omega) (by omega) (by omega) (by omega)]
  refine ⟨fun h => ht (by omega), fun _ => ⟨fun h => ht (by omega), fun _ => ⟨fun h => ht (by omega), fun _ => hf (by omega)⟩⟩⟩
theorem xl_takeContent {q K : Int} {G : gm_T} {u : SX} {p x y : Int32} {P : SX → Prop} {k : Nat} {o : Int} (hv : vx_S q G u) (hI : gv_I K G) (hp : vp_in p 2) (hk : k < 32) (hK : K + 7 ≤ 5000) (hx : x = zi_n (k : Int)) (h4 : 4 ≤ G.1 0 p.toNatClampNeg) (ho : gp_o G p.toNatClampNeg k = o) (ho0 : -100 ≤ o) (ho1 : o ≤ 100) (hy : y = zi_n (gp_slen G k)) (hP : ∀ u', vx_S q (gp_content G p.toNatClampNeg k o) u' → P u') : wpX_takeContent P u p x y := by
  obtain ⟨f_now, f_sent, a_stateOf, a_error, a_iss, a_una, a_nxt, a_max, a_writtenTo, a_kept, a_keptBytes, a_rcv, a_unread, a_unreadFrom, a_cameBytes, a_held, a_heldFin, a_wnd, a_wndSeq, a_wndAck, a_peak, a_half, a_same, a_rto, a_tries, a_retryAt, a_ackAt, a_waitTill, a_timedAt, a_timedSeq, a_smoothed, a_variance, a_rowCount, a_slotSeq, a_slotFlags, a_slotAck, a_slotWindow, a_slotSize, a_slotBytes⟩ := u
  have hv0 := hv
  obtain ⟨h_now, h_sent, h_stateOf, h_error, h_iss, h_una, h_nxt, h_max, h_writtenTo, h_kept, h_keptBytes, h_rcv, h_unread, h_unreadFrom, h_cameBytes, h_held, h_heldFin, h_wnd, h_wndSeq, h_wndAck, h_peak, h_half, h_same, h_rto, h_tries, h_retryAt, h_ackAt, h_waitTill, h_timedAt, h_timedSeq, h_smoothed, h_variance, h_rowCount, h_slotSeq, h_slotFlags, h_slotAck, h_slotWindow, h_slotSize, h_slotBytes⟩ := hv0
  have he := pe_lt hp
  have l1 := hI.2.2.2.2.2.1.1 k hk
  have hlen : 0 ≤ gp_slen G k ∧ gp_slen G k ≤ 10 := by unfold gp_slen gp_len; omega
  obtain ⟨b1, b2, b3, b4, b5, b6⟩ := hI.2.2.2.2.1 _ he
  have n2 := hI.2.1
  have n3 := hI.2.2.1
  have n4 := hI.2.2.2.1
  unfold gv_a at b1
  unfold gv_d at b4
  have hr := hI.2.2.2.2.1 _ he
  unfold wpX_takeContent
  by_cases w0 : gp_slen G k = 0
  · have e0 : gp_content G p.toNatClampNeg k o = G := if_pos w0
    rw [e0] at hP
    exact br_t (by rw [hy, w0]; rfl) (hP _ hv)
  · refine br_f (by rw [hy, zk_0, zi_eq (by omega) (by omega) (by omega) (by omega)]; exact w0) ⟨hp, nm_r (h_rcv _ he) ?_⟩
    have e0 : gp_content G p.toNatClampNeg k o = if 6 < (gp_take G p.toNatClampNeg k o).1 0 p.toNatClampNeg ∨ (gp_take G p.toNatClampNeg k o).1 8 p.toNatClampNeg = G.1 8 p.toNatClampNeg ∨ gp_any G p.toNatClampNeg = true ∨ gp_any (gp_take G p.toNatClampNeg k o) p.toNatClampNeg = true ∨ 0 ≤ (gp_take G p.toNatClampNeg k o).1 22 p.toNatClampNeg then gp_ack (gp_take G p.toNatClampNeg k o) p.toNatClampNeg else gp_put (gp_take G p.toNatClampNeg k o) 22 p.toNatClampNeg (gm_N G + 2) := if_neg w0
    rw [e0] at hP
    have hIt := iv_take (o := o) hI he hk hK
    have hst := tk_ST (k := k) (o := o) h4
    have hrv := tk_rv (G := G) (e := p.toNatClampNeg) (k := k) (o := o)
    have hir : (gp_take G p.toNatClampNeg k o).1 7 p.toNatClampNeg = G.1 7 p.toNatClampNeg := tk_f (by decide) (by decide) (by decide) (by decide) (by decide)
    have hnn : gm_N (gp_take G p.toNatClampNeg k o) = gm_N G := tk_N
    -- behind the bytes
    have k43 : ∀ (x5 : Int32) (u1 : SX), ((gp_any G p.toNatClampNeg = true ∧ x5 = 1) ∨ (gp_any G p.toNatClampNeg = false ∧ x5 = 0)) → vx_S q (gp_take G p.toNatClampNeg k o) u1 → (match u1 with | (f_now, f_sent, a_stateOf, a_error, a_iss, a_una, a_nxt, a_max, a_writtenTo, a_kept, a_keptBytes, a_rcv, a_unread, a_unreadFrom, a_cameBytes, a_held, a_heldFin, a_wnd, a_wndSeq, a_wndAck, a_peak, a_half, a_same, a_rto, a_tries, a_retryAt, a_ackAt, a_waitTill, a_timedAt, a_timedSeq, a_smoothed, a_variance, a_rowCount, a_slotSeq, a_slotFlags, a_slotAck, a_slotWindow, a_slotSize, a_slotBytes) => wX_takeContent_43 P p (zi_n ((G.1 7 p.toNatClampNeg + G.1 8 p.toNatClampNeg) % 65536)) x5 f_now f_sent a_stateOf a_error a_iss a_una a_nxt a_max a_writtenTo a_kept a_keptBytes a_rcv a_unread a_unreadFrom a_cameBytes a_held a_heldFin a_wnd a_wndSeq a_wndAck a_peak a_half a_same a_rto a_tries a_retryAt a_ackAt a_waitTill a_timedAt a_timedSeq a_smoothed a_variance a_rowCount a_slotSeq a_slotFlags a_slotAck a_slotWindow a_slotSize a_slotBytes) := by
      intro x5 u1 hx5 hv1
      generalize gp_take G p.toNatClampNeg k o = G1 at *
      obtain ⟨f_now, f_sent, a_stateOf, a_error, a_iss, a_una, a_nxt, a_max, a_writtenTo, a_kept, a_keptBytes, a_rcv, a_unread, a_unreadFrom, a_cameBytes, a_held, a_heldFin, a_wnd, a_wndSeq, a_wndAck, a_peak, a_half, a_same, a_rto, a_tries, a_retryAt, a_ackAt, a_waitTill, a_timedAt, a_timedSeq, a_smoothed, a_variance, a_rowCount, a_slotSeq, a_slotFlags, a_slotAck, a_slotWindow, a_slotSize, a_slotBytes⟩ := u1
      show wX_takeContent_43 P p _ x5 f_now f_sent a_stateOf a_error a_iss a_una a_nxt a_max a_writtenTo a_kept a_keptBytes a_rcv a_unread a_unreadFrom a_cameBytes a_held a_heldFin a_wnd a_wndSeq a_wndAck a_peak a_half a_same a_rto a_tries a_retryAt a_ackAt a_waitTill a_timedAt a_timedSeq a_smoothed a_variance a_rowCount a_slotSeq a_slotFlags a_slotAck a_slotWindow a_slotSize a_slotBytes
      have hv2 := hv1
      clear h_stateOf h_rcv h_ackAt h_now
      obtain ⟨h_now, h_sent, h_stateOf, h_error, h_iss, h_una, h_nxt, h_max, h_writtenTo, h_kept, h_keptBytes, h_rcv, h_unread, h_unreadFrom, h_cameBytes, h_held, h_heldFin, h_wnd, h_wndSeq, h_wndAck, h_peak, h_half, h_same, h_rto, h_tries, h_retryAt, h_ackAt, h_waitTill, h_timedAt, h_timedSeq, h_smoothed, h_variance, h_rowCount, h_slotSeq, h_slotFlags, h_slotAck, h_slotWindow, h_slotSize, h_slotBytes⟩ := hv2
      obtain ⟨c1, c2, c3, c4, c5, c6⟩ := hIt.2.2.2.2.1 _ he
      unfold gv_a at c1
      unfold gv_p at c2
      unfold gv_d at c4
      have c7 := c2.2.2.2.2.1 hst
      have k100 : (6 < G1.1 0 p.toNatClampNeg ∨ G1.1 8 p.toNatClampNeg = G.1 8 p.toNatClampNeg ∨ gp_any G p.toNatClampNeg = true ∨ gp_any G1 p.toNatClampNeg = true ∨ 0 ≤ G1.1 22 p.toNatClampNeg) → wX_takeContent_100 P p f_now f_sent a_stateOf a_error a_iss a_una a_nxt a_max a_writtenTo a_kept a_keptBytes a_rcv a_unread a_unreadFrom a_cameBytes a_held a_heldFin a_wnd a_wndSeq a_wndAck a_peak a_half a_same a_rto a_tries a_retryAt a_ackAt a_waitTill a_timedAt a_timedSeq a_smoothed a_variance a_rowCount a_slotSeq a_slotFlags a_slotAck a_slotWindow a_slotSize a_slotBytes := by
        intro z
        rw [if_pos z] at hP
        unfold wX_takeContent_100
        exact xl_sendAck hv1 hp (sk_of hIt he (by omega) (Or.inl rfl) (by omega) (by omega) (by omega) (by omega) (by omega)) hP
      have k61 : ∀ z0 : Int32, (z0 = 0 ↔ ¬ (gp_any G p.toNatClampNeg = true ∨ gp_any G1 p.toNatClampNeg = true)) → wX_takeContent_61 P p (zi_n ((G.1 7 p.toNatClampNeg + G.1 8 p.toNatClampNeg) % 65536)) z0 f_now f_sent a_stateOf a_error a_iss a_una a_nxt a_max a_writtenTo a_kept a_keptBytes a_rcv a_unread a_unreadFrom a_cameBytes a_held a_heldFin a_wnd a_wndSeq a_wndAck a_peak a_half a_same a_rto a_tries a_retryAt a_ackAt a_waitTill a_timedAt a_timedSeq a_smoothed a_variance a_rowCount a_slotSeq a_slotFlags a_slotAck a_slotWindow a_slotSize a_slotBytes := by
        intro z0 hz0
        unfold wX_takeContent_61
        refine ⟨hp, ?_⟩
        by_cases w1 : 6 < G1.1 0 p.toNatClampNeg
        · exact br_t (by rw [h_stateOf _ he, zk_6, zi_lt (by omega) (by omega) (by omega) (by omega)]; exact w1) (k100 (Or.inl w1))
        · refine br_f (by rw [h_stateOf _ he, zk_6, zi_lt (by omega) (by omega) (by omega) (by omega)]; exact w1) ⟨hp, ?_⟩
          by_cases w2 : G1.1 8 p.toNatClampNeg = G.1 8 p.toNatClampNeg
          · exact br_t (by rw [h_rcv _ he, hir, w2]) (k100 (Or.inr (Or.inl w2)))
          · refine br_f (by rw [h_rcv _ he, hir, zi_eq (by omega) (by omega) (by omega) (by omega)]; omega) ?_
            by_cases w3 : z0 = 0
            · have w3' := hz0.mp w3
              refine br_t w3 ⟨hp, ?_⟩
              by_cases w4 : G1.1 22 p.toNatClampNeg < 0
              · refine br_t (by rw [h_ackAt _ he, zk_m1]; congr 1; omega) ⟨hp, nm_e ?_⟩
                have hc : ¬ (6 < G1.1 0 p.toNatClampNeg ∨ G1.1 8 p.toNatClampNeg = G.1 8 p.toNatClampNeg ∨ gp_any G p.toNatClampNeg = true ∨ gp_any G1 p.toNatClampNeg = true ∨ 0 ≤ G1.1 22 p.toNatClampNeg) := by
                  rintro (h | h | h | h | h)
                  · exact w1 h
                  · exact w2 h
                  · exact w3' (Or.inl h)
                  · exact w3' (Or.inr h)
                  · omega
                rw [if_neg hc] at hP
                refine hP _ ?_
                refine (vx_mk h_now h_sent h_stateOf h_error h_iss h_una h_nxt h_max h_writtenTo h_kept h_keptBytes h_rcv h_unread h_unreadFrom h_cameBytes h_held h_heldFin h_wnd h_wndSeq h_wndAck h_peak h_half h_same h_rto h_tries h_retryAt (vu_e h_ackAt ?_ (fun e' y => pu_o y _)) h_waitTill h_timedAt h_timedSeq h_smoothed h_variance h_rowCount h_slotSeq h_slotFlags h_slotAck h_slotWindow h_slotSize h_slotBytes)
                rw [pu_s, h_now, zk_2, zi_add, hnn]
              · exact br_f (by rw [h_ackAt _ he, zk_m1, zi_eq (by omega) (by omega) (by omega) (by omega)]; omega) (k100 (Or.inr (Or.inr (Or.inr (Or.inr (by omega))))))
            · refine br_f w3 (k100 ?_)
              have : gp_any G p.toNatClampNeg = true ∨ gp_any G1 p.toNatClampNeg = true := Classical.byContradiction (fun h => w3 (hz0.mpr h))
              rcases this with h | h
              · exact Or.inr (Or.inr (Or.inl h))
              · exact Or.inr (Or.inr (Or.inr (Or.inl h)))
      unfold wX_takeContent_43
      rcases hx5 with ⟨h, rfl⟩ | ⟨h, rfl⟩
      · refine br_f (by decide) ?_
        unfold wX_takeContent_56
        exact k61 1 ⟨fun z => absurd z (by decide), fun z => absurd (Or.inl h) z⟩
      · refine br_t rfl (xl_holdsAny hv1 hIt hp (fun z => ?_) (fun z => ?_))
        · refine br_f (by decide) ?_
          unfold wX_takeContent_56
          exact k61 1 ⟨fun z => absurd z (by decide), fun y => absurd (Or.inr z) y⟩
        · refine br_t rfl (k61 0 ⟨fun _ => ?_, fun _ => rfl⟩)
          rw [h, z]; rintro (y | y) <;> cases y
    have kk : ∀ x5 : Int32, ((gp_any G p.toNatClampNeg = true ∧ x5 = 1) ∨ (gp_any G p.toNatClampNeg = false ∧ x5 = 0)) → wpX_takesBytes (fun r_45 => (((r_45 = 0 → (wX_takeContent_43 P p (zi_n ((G.1 7 p.toNatClampNeg + G.1 8 p.toNatClampNeg) % 65536)) x5 f_now f_sent a_stateOf a_error a_iss a_una a_nxt a_max a_writtenTo a_kept a_keptBytes a_rcv a_unread a_unreadFrom a_cameBytes a_held a_heldFin a_wnd a_wndSeq a_wndAck a_peak a_half a_same a_rto a_tries a_retryAt a_ackAt a_waitTill a_timedAt a_timedSeq a_smoothed a_variance a_rowCount a_slotSeq a_slotFlags a_slotAck a_slotWindow a_slotSize a_slotBytes)) ∧ (¬ r_45 = 0 → (wpX_hold (fun u => match u with | (f_now, f_sent, a_stateOf, a_error, a_iss, a_una, a_nxt, a_max, a_writtenTo, a_kept, a_keptBytes, a_rcv, a_unread, a_unreadFrom, a_cameBytes, a_held, a_heldFin, a_wnd, a_wndSeq, a_wndAck, a_peak, a_half, a_same, a_rto, a_tries, a_retryAt, a_ackAt, a_waitTill, a_timedAt, a_timedSeq, a_smoothed, a_variance, a_rowCount, a_slotSeq, a_slotFlags, a_slotAck, a_slotWindow, a_slotSize, a_slotBytes) => (wpX_goOn (fun u => match u with | (f_now, f_sent, a_stateOf, a_error, a_iss, a_una, a_nxt, a_max, a_writtenTo, a_kept, a_keptBytes, a_rcv, a_unread, a_unreadFrom, a_cameBytes, a_held, a_heldFin, a_wnd, a_wndSeq, a_wndAck, a_peak, a_half, a_same, a_rto, a_tries, a_retryAt, a_ackAt, a_waitTill, a_timedAt, a_timedSeq, a_smoothed, a_variance, a_rowCount, a_slotSeq, a_slotFlags, a_slotAck, a_slotWindow, a_slotSize, a_slotBytes) => (wX_takeContent_43 P p (zi_n ((G.1 7 p.toNatClampNeg + G.1 8 p.toNatClampNeg) % 65536)) x5 f_now f_sent a_stateOf a_error a_iss a_una a_nxt a_max a_writtenTo a_kept a_keptBytes a_rcv a_unread a_unreadFrom a_cameBytes a_held a_heldFin a_wnd a_wndSeq a_wndAck a_peak a_half a_same a_rto a_tries a_retryAt a_ackAt a_waitTill a_timedAt a_timedSeq a_smoothed a_variance a_rowCount a_slotSeq a_slotFlags a_slotAck a_slotWindow a_slotSize a_slotBytes)) (f_now, f_sent, a_stateOf, a_error, a_iss, a_una, a_nxt, a_max, a_writtenTo, a_kept, a_keptBytes, a_rcv, a_unread, a_unreadFrom, a_cameBytes, a_held, a_heldFin, a_wnd, a_wndSeq, a_wndAck, a_peak, a_half, a_same, a_rto, a_tries, a_retryAt, a_ackAt, a_waitTill, a_timedAt, a_timedSeq, a_smoothed, a_variance, a_rowCount, a_slotSeq, a_slotFlags, a_slotAck, a_slotWindow, a_slotSize, a_slotBytes) p)) (f_now, f_sent, a_stateOf, a_error, a_iss, a_una, a_nxt, a_max, a_writtenTo, a_kept, a_keptBytes, a_rcv, a_unread, a_unreadFrom, a_cameBytes, a_held, a_heldFin, a_wnd, a_wndSeq, a_wndAck, a_peak, a_half, a_same, a_rto, a_tries, a_retryAt, a_ackAt, a_waitTill, a_timedAt, a_timedSeq, a_smoothed, a_variance, a_rowCount, a_slotSeq, a_slotFlags, a_slotAck, a_slotWindow, a_slotSize, a_slotBytes) p x))))) (a_stateOf p.toNatClampNeg) := by
      intro x5 hx5
      refine xl_takesBytes (h_stateOf _ he) (by omega) (by omega) (fun w => ?_) (fun w => ?_)
      · have e2 : gp_take G p.toNatClampNeg k o = gp_goOn (gp_hold G p.toNatClampNeg k o) p.toNatClampNeg := if_pos w
        refine br_f (by decide) (xl_hold hv hI hp hk hx (by omega) (by omega) (by rw [ho]; exact ho0) (by rw [ho]; exact ho1) fun u1 hv1 => ?_)
        rw [ho] at hv1
        obtain ⟨f_now, f_sent, a_stateOf, a_error, a_iss, a_una, a_nxt, a_max, a_writtenTo, a_kept, a_keptBytes, a_rcv, a_unread, a_unreadFrom, a_cameBytes, a_held, a_heldFin, a_wnd, a_wndSeq, a_wndAck, a_peak, a_half, a_same, a_rto, a_tries, a_retryAt, a_ackAt, a_waitTill, a_timedAt, a_timedSeq, a_smoothed, a_variance, a_rowCount, a_slotSeq, a_slotFlags, a_slotAck, a_slotWindow, a_slotSize, a_slotBytes⟩ := u1
        exact xl_goOn hv1 (iv_hold hI he hk hK (by omega) (by omega)) hp fun u2 hv2 => k43 x5 u2 hx5 (by rw [e2]; exact hv2)
      · have e2 : gp_take G p.toNatClampNeg k o = G := if_neg w
        exact br_t rfl (k43 x5 (f_now, f_sent, a_stateOf, a_error, a_iss, a_una, a_nxt, a_max, a_writtenTo, a_kept, a_keptBytes, a_rcv, a_unread, a_unreadFrom, a_cameBytes, a_held, a_heldFin, a_wnd, a_wndSeq, a_wndAck, a_peak, a_half, a_same, a_rto, a_tries, a_retryAt, a_ackAt, a_waitTill, a_timedAt, a_timedSeq, a_smoothed, a_variance, a_rowCount, a_slotSeq, a_slotFlags, a_slotAck, a_slotWindow, a_slotSize, a_slotBytes) hx5 (by rw [e2]; exact hv))
    refine xl_holdsAny hv hI hp (fun z => ⟨hp, kk 1 (Or.inl ⟨z, rfl⟩)⟩) (fun z => ⟨hp, kk 0 (Or.inr ⟨z, rfl⟩)⟩)
