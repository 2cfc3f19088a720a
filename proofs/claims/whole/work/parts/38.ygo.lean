/-! the reference: bytes go on, content -/
theorem yg_fin {B K : Int} {G : gm_T} {e : Nat} {x y : Int64} (hI : gw_I B K G e) (hB : B ≤ 1000000) (hx : x = zl_n (G.1 8 e)) (hy : y = zl_n (G.1 11 e)) : x = y ↔ G.1 8 e = G.1 11 e := by
  obtain ⟨a1, a2, a3, a4, a5, a9, b6, a6, a7, a8⟩ := hI
  obtain ⟨q1, q2, q3, q4, q5, q6, q7, q8, q9, qa, qb, qc, qd⟩ := b6
  have hf : G.1 11 e ≤ 1000000 := by
    by_cases w : 0 ≤ G.1 11 e
    · have := qc w; omega
    · omega
  rw [hx, hy, zl_eq (by omega) (by omega) (by omega) (by omega)]
theorem yg_94 {q B K : Int} {G : gm_T} {f_now : Int32} {f_sent : Int32} {a_seq : (Nat → Int32)} {a_flags : (Nat → Int32)} {a_acked : (Nat → Int32)} {a_window : (Nat → Int32)} {a_many : (Nat → Int32)} {a_data : (Nat → Int32)} {a_rows : (Nat → Int32)} {a_state : (Nat → Int32)} {a_error : (Nat → Int32)} {a_iss : (Nat → Int32)} {a_una : (Nat → Int64)} {a_nxt : (Nat → Int64)} {a_max : (Nat → Int64)} {a_last : (Nat → Int64)} {a_closed : (Nat → Int32)} {a_written : (Nat → Int32)} {a_irs : (Nat → Int32)} {a_unread : (Nat → Int32)} {a_bytes : (Nat → Int32)} {a_held : (Nat → Int32)} {a_rcv : (Nat → Int64)} {a_finAt : (Nat → Int64)} {a_marked : (Nat → Int32)} {a_wnd : (Nat → Int32)} {a_peak : (Nat → Int32)} {a_half : (Nat → Int32)} {a_rto : (Nat → Int32)} {a_same : (Nat → Int32)} {a_tries : (Nat → Int32)} {a_smooth : (Nat → Int32)} {a_spread : (Nat → Int32)} {a_byNumber : (Nat → Int32)} {a_byAck : (Nat → Int32)} {a_sampled : (Nat → Int32)} {a_told : (Nat → Int32)} {a_retry : (Nat → Int32)} {a_ackAt : (Nat → Int32)} {a_waitAt : (Nat → Int32)} {a_timedAt : (Nat → Int32)} {a_timed : (Nat → Int64)} {p : Int32} {P : SY → Prop} (hv : vy_S q G (f_now, f_sent, a_seq, a_flags, a_acked, a_window, a_many, a_data, a_rows, a_state, a_error, a_iss, a_una, a_nxt, a_max, a_last, a_closed, a_written, a_irs, a_unread, a_bytes, a_held, a_rcv, a_finAt, a_marked, a_wnd, a_peak, a_half, a_rto, a_same, a_tries, a_smooth, a_spread, a_byNumber, a_byAck, a_sampled, a_told, a_retry, a_ackAt, a_waitAt, a_timedAt, a_timed)) (hI : gw_I B K G p.toNatClampNeg) (hB : B ≤ 1000000) (hp : vp_in p 2) (hP : ∀ u', vy_S q (gp_gfin G p.toNatClampNeg) u' → P u') : wY_goOn_94 P p f_now f_sent a_seq a_flags a_acked a_window a_many a_data a_rows a_state a_error a_iss a_una a_nxt a_max a_last a_closed a_written a_irs a_unread a_bytes a_held a_rcv a_finAt a_marked a_wnd a_peak a_half a_rto a_same a_tries a_smooth a_spread a_byNumber a_byAck a_sampled a_told a_retry a_ackAt a_waitAt a_timedAt a_timed := by
  have hv0 := hv
  obtain ⟨h_now, h_sent, h_seq, h_flags, h_acked, h_window, h_many, h_data, h_rows, h_state, h_error, h_iss, h_una, h_nxt, h_max, h_last, h_closed, h_written, h_irs, h_unread, h_bytes, h_held, h_rcv, h_finAt, h_marked, h_wnd, h_peak, h_half, h_rto, h_same, h_tries, h_smooth, h_spread, h_byNumber, h_byAck, h_sampled, h_told, h_retry, h_ackAt, h_waitAt, h_timedAt, h_timed⟩ := hv0
  have he := pe_lt hp
  have hz := pe_z hp
  have hfin := yg_fin hI hB (h_rcv _ he) (h_finAt _ he)
  obtain ⟨a1, a2, a3, a4, a5, a9, b6, a6, a7, a8⟩ := hI
  obtain ⟨q1, q2, q3, q4, q5, q6, q7, q8, q9, qa, qb, qc, qd⟩ := b6
  have e64 : 64 * p + 64 = zi_n (64 * (p.toNatClampNeg : Int) + 64) := by
    generalize p.toNatClampNeg = e at *
    rw [hz, zk_64, zi_mul, zi_add]
  have e0 : 64 * p = zi_n (64 * (p.toNatClampNeg : Int) + ((0 : Nat) : Int)) := by
    generalize p.toNatClampNeg = e at *
    rw [hz, zk_64, zi_mul]; congr 1
  unfold wY_goOn_94
  refine ⟨hp, hp, ?_⟩
  by_cases w : G.1 8 p.toNatClampNeg = G.1 11 p.toNatClampNeg
  · have e1 : gp_gfin G p.toNatClampNeg = gp_gst (gp_gend G p.toNatClampNeg) p.toNatClampNeg := if_pos w
    rw [e1] at hP
    have hst : (gp_gend G p.toNatClampNeg).1 0 p.toNatClampNeg = G.1 0 p.toNatClampNeg := by simp +decide only [gp_gend, gs_f]
    have lo : ∀ (n i : Nat) (A : Nat → Int32) (RA FI : Nat → Int64), i ≤ 64 → 64 - i < n → (∀ j, j < i → A (64 * p.toNatClampNeg + j) = 0) → (∀ j, (j < 64 * p.toNatClampNeg ∨ 64 * p.toNatClampNeg + 64 ≤ j) → A j = a_marked j) → RA = vp_updL a_rcv p.toNatClampNeg (zl_n (G.1 8 p.toNatClampNeg + 1)) → FI = vp_updL a_finAt p.toNatClampNeg (-1) → wY_goOn_135 P p f_now f_sent n (zi_n (64 * (p.toNatClampNeg : Int) + i)) a_seq a_flags a_acked a_window a_many a_data a_rows a_state a_error a_iss a_una a_nxt a_max a_last a_closed a_written a_irs a_unread a_bytes a_held (RA) (FI) (A) a_wnd a_peak a_half a_rto a_same a_tries a_smooth a_spread a_byNumber a_byAck a_sampled a_told a_retry a_ackAt a_waitAt a_timedAt a_timed := by
      intro n
      induction n with
      | zero => intro i A RA FI h1 h2; omega
      | succ n ih =>
        intro i A RA FI h1 h2 h3 h4 h5 h6
        by_cases qi : i = 64
        · subst qi
          subst h5 h6
          have hv2 : vy_S q (gp_gend G p.toNatClampNeg) (f_now, f_sent, a_seq, a_flags, a_acked, a_window, a_many, a_data, a_rows, a_state, a_error, a_iss, a_una, a_nxt, a_max, a_last, a_closed, a_written, a_irs, a_unread, a_bytes, a_held, vp_updL a_rcv p.toNatClampNeg (zl_n (G.1 8 p.toNatClampNeg + 1)), vp_updL a_finAt p.toNatClampNeg (-1), A, a_wnd, a_peak, a_half, a_rto, a_same, a_tries, a_smooth, a_spread, a_byNumber, a_byAck, a_sampled, a_told, a_retry, a_ackAt, a_waitAt, a_timedAt, a_timed) := by
            clear ih hP e1 hfin
            generalize p.toNatClampNeg = e at *
            have o : ∀ e' f, e' ≠ e → (gp_gend G e).1 f e' = G.1 f e' := fun e' f y => by simp only [gp_gend, gs_e y]
            refine (vy_mk h_now h_sent h_seq h_flags h_acked h_window h_many h_data h_rows h_state h_error h_iss h_una h_nxt h_max h_last h_closed h_written h_irs h_unread h_bytes (fun e' he' p' z => h_held e' he' p' (nn_H z)) (vu_l h_rcv ?a1 (fun e' y => o _ _ y)) (vu_l h_finAt ?a3 (fun e' y => o _ _ y)) (vm_none h3 h4 (fun e' he' _ => h_marked e' he') (fun e' y => o _ _ y)) h_wnd h_peak h_half h_rto h_same h_tries h_smooth h_spread h_byNumber h_byAck h_sampled h_told h_retry h_ackAt h_waitAt h_timedAt h_timed)
            case a1 => simp +decide only [gp_gend, gs_s, gs_f]
            case a3 => simp +decide only [gp_gend, gs_s, gs_f] <;> rfl
          have h456 : G.1 0 p.toNatClampNeg = 4 ∨ G.1 0 p.toNatClampNeg = 5 ∨ G.1 0 p.toNatClampNeg = 6 := by omega
          have hs := h_state _ he
          unfold gp_gst at hP
          rw [hst] at hP
          refine br_t (by rw [e64]; exact Int32.le_refl _) ⟨hp, ?_⟩
          rcases h456 with w | w | w
          · rw [w] at hP hs
            exact br_t (by rw [hs]; rfl) ⟨hp, nm_e (hP _ (vy_put hv2 rfl))⟩
          · rw [w] at hP hs
            exact br_f (by rw [hs]; decide) ⟨hp, br_t (by rw [hs]; rfl) ⟨hp, nm_e (hP _ (vy_put hv2 rfl))⟩⟩
          · rw [w] at hP hs
            refine br_f (by rw [hs]; decide) ⟨hp, br_f (by rw [hs]; decide) (yl_linger hv2 hp fun u1 hv1 => ?_)⟩
            have := hP u1 hv1
            obtain ⟨f_now, f_sent, a_seq, a_flags, a_acked, a_window, a_many, a_data, a_rows, a_state, a_error, a_iss, a_una, a_nxt, a_max, a_last, a_closed, a_written, a_irs, a_unread, a_bytes, a_held, a_rcv, a_finAt, a_marked, a_wnd, a_peak, a_half, a_rto, a_same, a_tries, a_smooth, a_spread, a_byNumber, a_byAck, a_sampled, a_told, a_retry, a_ackAt, a_waitAt, a_timedAt, a_timed⟩ := u1
            exact this
        · have e2 : (zi_n (64 * (p.toNatClampNeg : Int) + i)).toNatClampNeg = 64 * p.toNatClampNeg + i := by
            rw [zi_cl (by omega) (by omega)]; omega
          refine br_f ?_ ⟨?_, nm_e (nm_r (e' := zi_n (64 * (p.toNatClampNeg : Int) + ((i + 1 : Nat) : Int))) ?_ (ih (i + 1) _ RA FI (by omega) (by omega) ?_ ?_ h5 h6))⟩
          · rw [e64, zi_le (by omega) (by omega) (by omega) (by omega)]; omega
          · exact zi_in (by omega) (by omega) (by omega)
          · rw [zk_1, zi_add]; congr 1
          · intro j hj
            rw [e2]
            by_cases w : j = i
            · rw [w, zu_s]; rfl
            · rw [zu_n (by omega)]; exact h3 j (by omega)
          · intro j hj
            rw [e2, zu_n (by omega)]; exact h4 j hj
    exact br_t (hfin.mpr w) ⟨hp, hp, nm_e ⟨hp, nm_e (nm_r e0 ⟨65, lo 65 0 a_marked _ _ (by omega) (by omega) (fun j hj => by omega) (fun j _ => rfl) (by rw [h_rcv _ he, zk_l1, zl_add]) rfl⟩)⟩⟩
  · have e1 : gp_gfin G p.toNatClampNeg = G := if_neg w
    rw [e1] at hP
    exact br_f (fun z => w (hfin.mp z)) (hP _ hv)
theorem vy_gstep {q B K : Int} {G : gm_T} {f_now : Int32} {f_sent : Int32} {a_seq : (Nat → Int32)} {a_flags : (Nat → Int32)} {a_acked : (Nat → Int32)} {a_window : (Nat → Int32)} {a_many : (Nat → Int32)} {a_data : (Nat → Int32)} {a_rows : (Nat → Int32)} {a_state : (Nat → Int32)} {a_error : (Nat → Int32)} {a_iss : (Nat → Int32)} {a_una : (Nat → Int64)} {a_nxt : (Nat → Int64)} {a_max : (Nat → Int64)} {a_last : (Nat → Int64)} {a_closed : (Nat → Int32)} {a_written : (Nat → Int32)} {a_irs : (Nat → Int32)} {a_unread : (Nat → Int32)} {a_bytes : (Nat → Int32)} {a_held : (Nat → Int32)} {a_rcv : (Nat → Int64)} {a_finAt : (Nat → Int64)} {a_marked : (Nat → Int32)} {a_wnd : (Nat → Int32)} {a_peak : (Nat → Int32)} {a_half : (Nat → Int32)} {a_rto : (Nat → Int32)} {a_same : (Nat → Int32)} {a_tries : (Nat → Int32)} {a_smooth : (Nat → Int32)} {a_spread : (Nat → Int32)} {a_byNumber : (Nat → Int32)} {a_byAck : (Nat → Int32)} {a_sampled : (Nat → Int32)} {a_told : (Nat → Int32)} {a_retry : (Nat → Int32)} {a_ackAt : (Nat → Int32)} {a_waitAt : (Nat → Int32)} {a_timedAt : (Nat → Int32)} {a_timed : (Nat → Int64)} {e : Nat} {y : Int32} (hv : vy_S q G (f_now, f_sent, a_seq, a_flags, a_acked, a_window, a_many, a_data, a_rows, a_state, a_error, a_iss, a_una, a_nxt, a_max, a_last, a_closed, a_written, a_irs, a_unread, a_bytes, a_held, a_rcv, a_finAt, a_marked, a_wnd, a_peak, a_half, a_rto, a_same, a_tries, a_smooth, a_spread, a_byNumber, a_byAck, a_sampled, a_told, a_retry, a_ackAt, a_waitAt, a_timedAt, a_timed)) (hI : gw_I B K G e) (he : e < 2) (hh : gm_H G e (G.1 8 e) = true) (hy : y = 0) : vy_S q (gp_gstep G e) (f_now, f_sent, a_seq, a_flags, a_acked, a_window, a_many, a_data, a_rows, a_state, a_error, a_iss, a_una, a_nxt, a_max, a_last, a_closed, a_written, a_irs, upd a_unread e (zi_n (G.1 9 e + 1)), upd a_bytes (24 * e + (G.1 9 e).toNat) (a_held (64 * e + (G.1 8 e % 64).toNat)), a_held, vp_updL a_rcv e (zl_n (G.1 8 e + 1)), a_finAt, upd a_marked (64 * e + (G.1 8 e % 64).toNat) y, a_wnd, a_peak, a_half, a_rto, a_same, a_tries, a_smooth, a_spread, a_byNumber, a_byAck, a_sampled, a_told, a_retry, a_ackAt, a_waitAt, a_timedAt, a_timed) := by
  obtain ⟨h_now, h_sent, h_seq, h_flags, h_acked, h_window, h_many, h_data, h_rows, h_state, h_error, h_iss, h_una, h_nxt, h_max, h_last, h_closed, h_written, h_irs, h_unread, h_bytes, h_held, h_rcv, h_finAt, h_marked, h_wnd, h_peak, h_half, h_rto, h_same, h_tries, h_smooth, h_spread, h_byNumber, h_byAck, h_sampled, h_told, h_retry, h_ackAt, h_waitAt, h_timedAt, h_timed⟩ := hv
  subst hy
  obtain ⟨a1, a2, a3, a4, a5, a9, b6, a6, a7, a8⟩ := hI
  obtain ⟨q1, q2, q3, q4, q5, q6, q7, q8, q9, qa, qb, qc, qd⟩ := b6
  have hlt := qd _ hh
  have o : ∀ e' f, e' ≠ e → (gp_gstep G e).1 f e' = G.1 f e' := fun e' f y => by simp only [gp_gstep, gs_e y]
  have vR : (gp_gstep G e).1 8 e = G.1 8 e + 1 := by simp +decide only [gp_gstep, gs_s, gs_f]
  have vU : (gp_gstep G e).1 9 e = G.1 9 e + 1 := by simp +decide only [gp_gstep, gs_s, gs_f]
  have vF : ∀ e', (gp_gstep G e).1 10 e' = G.1 10 e' := fun e' => gs_st (by decide) (by decide) e'
  have hHe : gm_H (gp_gstep G e) e = fun p => if p = G.1 8 e then false else gm_H G e p := hh_E
  have hHo : ∀ e', e' ≠ e → gm_H (gp_gstep G e) e' = gm_H G e' := fun e' y => hh_O y
  have hBB : gm_B (gp_gstep G e) = gm_B G := rfl
  refine (vy_mk h_now h_sent h_seq h_flags h_acked h_window h_many h_data h_rows h_state h_error h_iss h_una h_nxt h_max h_last h_closed h_written h_irs (vu_e h_unread ?a2 (fun e' y => o _ _ y)) (fun e' he' i z => ?a3) (fun e' he' p' z => ?a4) (vu_l h_rcv ?a1 (fun e' y => o _ _ y)) h_finAt (fun e' he' p' z1 z2 => ?a5) h_wnd h_peak h_half h_rto h_same h_tries h_smooth h_spread h_byNumber h_byAck h_sampled h_told h_retry h_ackAt h_waitAt h_timedAt h_timed)
  case a1 => rw [vR]
  case a2 => rw [vU]
  case a3 =>
    rw [vF, hBB]
    by_cases y : e' = e
    · subst y
      rw [vU] at z
      by_cases y2 : i = (G.1 9 e').toNat
      · subst y2
        rw [zu_s, h_held e' he' _ hh]
        congr 2; omega
      · rw [zu_n (by omega)]
        exact h_bytes e' he' i (by omega)
    · rw [o _ _ y] at z
      have hu := (a5 e' he' y).2.2.2.2.2
      unfold gv_r at hu
      rw [zu_n (by omega)]
      exact h_bytes e' he' i z
  case a4 =>
    rw [hBB]
    refine h_held e' he' p' ?_
    by_cases y : e' = e
    · subst y
      rw [hHe] at z
      dsimp only at z
      split at z
      · cases z
      · exact z
    · rw [hHo e' y] at z; exact z
  case a5 =>
    by_cases y : e' = e
    · subst y
      rw [vR] at z1 z2
      rw [hHe]
      by_cases y2 : p' = G.1 8 e' + 64
      · subst y2
        rw [show ((G.1 8 e' + 64) % 64).toNat = (G.1 8 e' % 64).toNat from by omega, zu_s]
        dsimp only
        have e1 : (if G.1 8 e' + 64 = G.1 8 e' then false else gm_H G e' (G.1 8 e' + 64)) = gm_H G e' (G.1 8 e' + 64) := if_neg (by omega)
        have : ¬ gm_H G e' (G.1 8 e' + 64) = true := fun w => by have := qd _ w; omega
        simp only [e1, if_neg this]
      · dsimp only
        have e1 : (if p' = G.1 8 e' then false else gm_H G e' p') = gm_H G e' p' := if_neg (by omega)
        rw [zu_n (by omega)]
        simp only [e1]
        exact h_marked e' he' p' (by omega) (by omega)
    · rw [o _ _ y] at z1 z2
      rw [zu_n (by omega), hHo e' y]
      exact h_marked e' he' p' z1 z2
theorem yg_11 {q B K : Int} {p : Int32} {P : SY → Prop} (hp : vp_in p 2) (hB : B ≤ 1000000) : ∀ (k f : Nat) (G : gm_T) (f_now : Int32) (f_sent : Int32) (a_seq : (Nat → Int32)) (a_flags : (Nat → Int32)) (a_acked : (Nat → Int32)) (a_window : (Nat → Int32)) (a_many : (Nat → Int32)) (a_data : (Nat → Int32)) (a_rows : (Nat → Int32)) (a_state : (Nat → Int32)) (a_error : (Nat → Int32)) (a_iss : (Nat → Int32)) (a_una : (Nat → Int64)) (a_nxt : (Nat → Int64)) (a_max : (Nat → Int64)) (a_last : (Nat → Int64)) (a_closed : (Nat → Int32)) (a_written : (Nat → Int32)) (a_irs : (Nat → Int32)) (a_unread : (Nat → Int32)) (a_bytes : (Nat → Int32)) (a_held : (Nat → Int32)) (a_rcv : (Nat → Int64)) (a_finAt : (Nat → Int64)) (a_marked : (Nat → Int32)) (a_wnd : (Nat → Int32)) (a_peak : (Nat → Int32)) (a_half : (Nat → Int32)) (a_rto : (Nat → Int32)) (a_same : (Nat → Int32)) (a_tries : (Nat → Int32)) (a_smooth : (Nat → Int32)) (a_spread : (Nat → Int32)) (a_byNumber : (Nat → Int32)) (a_byAck : (Nat → Int32)) (a_sampled : (Nat → Int32)) (a_told : (Nat → Int32)) (a_retry : (Nat → Int32)) (a_ackAt : (Nat → Int32)) (a_waitAt : (Nat → Int32)) (a_timedAt : (Nat → Int32)) (a_timed : (Nat → Int64)), 24 - G.1 9 p.toNatClampNeg ≤ k → k < f → vy_S q G (f_now, f_sent, a_seq, a_flags, a_acked, a_window, a_many, a_data, a_rows, a_state, a_error, a_iss, a_una, a_nxt, a_max, a_last, a_closed, a_written, a_irs, a_unread, a_bytes, a_held, a_rcv, a_finAt, a_marked, a_wnd, a_peak, a_half, a_rto, a_same, a_tries, a_smooth, a_spread, a_byNumber, a_byAck, a_sampled, a_told, a_retry, a_ackAt, a_waitAt, a_timedAt, a_timed) → gw_I B K G p.toNatClampNeg → (∀ u', vy_S q (gp_gfin (gp_gloop k G p.toNatClampNeg) p.toNatClampNeg) u' → P u') → wY_goOn_11 P p f_now f_sent f (zi_n (64 * (p.toNatClampNeg : Int) + G.1 8 p.toNatClampNeg % 64)) a_seq a_flags a_acked a_window a_many a_data a_rows a_state a_error a_iss a_una a_nxt a_max a_last a_closed a_written a_irs a_unread a_bytes a_held a_rcv a_finAt a_marked a_wnd a_peak a_half a_rto a_same a_tries a_smooth a_spread a_byNumber a_byAck a_sampled a_told a_retry a_ackAt a_waitAt a_timedAt a_timed := by
  have he := pe_lt hp
  have hz := pe_z hp
  intro k
  induction k with
  | zero =>
    intro f G f_now f_sent a_seq a_flags a_acked a_window a_many a_data a_rows a_state a_error a_iss a_una a_nxt a_max a_last a_closed a_written a_irs a_unread a_bytes a_held a_rcv a_finAt a_marked a_wnd a_peak a_half a_rto a_same a_tries a_smooth a_spread a_byNumber a_byAck a_sampled a_told a_retry a_ackAt a_waitAt a_timedAt a_timed hr hf hv hI hP
    obtain ⟨f, rfl⟩ : ∃ g, f = g + 1 := ⟨f - 1, by omega⟩
    have hv0 := hv
    obtain ⟨h_now, h_sent, h_seq, h_flags, h_acked, h_window, h_many, h_data, h_rows, h_state, h_error, h_iss, h_una, h_nxt, h_max, h_last, h_closed, h_written, h_irs, h_unread, h_bytes, h_held, h_rcv, h_finAt, h_marked, h_wnd, h_peak, h_half, h_rto, h_same, h_tries, h_smooth, h_spread, h_byNumber, h_byAck, h_sampled, h_told, h_retry, h_ackAt, h_waitAt, h_timedAt, h_timed⟩ := hv0
    have hI0 := hI
    obtain ⟨a1, a2, a3, a4, a5, a9, b6, a6, a7, a8⟩ := hI
    obtain ⟨q1, q2, q3, q4, q5, q6, q7, q8, q9, qa, qb, qc, qd⟩ := b6
    have i2 : (zi_n (64 * (p.toNatClampNeg : Int) + G.1 8 p.toNatClampNeg % 64)).toNatClampNeg = 64 * p.toNatClampNeg + (G.1 8 p.toNatClampNeg % 64).toNat := by
      rw [zi_cl (by omega) (by omega)]; omega
    have w : ¬ gm_H G p.toNatClampNeg (G.1 8 p.toNatClampNeg) = true := fun h => by have := qd _ h; omega
    have hcell := h_marked _ he (G.1 8 p.toNatClampNeg) (by omega) (by omega)
    rw [if_neg w] at hcell
    refine ⟨zi_in (by omega) (by omega) (by omega), ?_⟩
    rw [i2]
    exact br_t hcell (yg_94 hv hI0 hB hp hP)
  | succ k ih =>
    intro f G f_now f_sent a_seq a_flags a_acked a_window a_many a_data a_rows a_state a_error a_iss a_una a_nxt a_max a_last a_closed a_written a_irs a_unread a_bytes a_held a_rcv a_finAt a_marked a_wnd a_peak a_half a_rto a_same a_tries a_smooth a_spread a_byNumber a_byAck a_sampled a_told a_retry a_ackAt a_waitAt a_timedAt a_timed hr hf hv hI hP
    obtain ⟨f, rfl⟩ : ∃ g, f = g + 1 := ⟨f - 1, by omega⟩
    have hv0 := hv
    obtain ⟨h_now, h_sent, h_seq, h_flags, h_acked, h_window, h_many, h_data, h_rows, h_state, h_error, h_iss, h_una, h_nxt, h_max, h_last, h_closed, h_written, h_irs, h_unread, h_bytes, h_held, h_rcv, h_finAt, h_marked, h_wnd, h_peak, h_half, h_rto, h_same, h_tries, h_smooth, h_spread, h_byNumber, h_byAck, h_sampled, h_told, h_retry, h_ackAt, h_waitAt, h_timedAt, h_timed⟩ := hv0
    have hI0 := hI
    have hfin := yg_fin hI hB (h_rcv _ he) (h_finAt _ he)
    obtain ⟨a1, a2, a3, a4, a5, a9, b6, a6, a7, a8⟩ := hI
    obtain ⟨q1, q2, q3, q4, q5, q6, q7, q8, q9, qa, qb, qc, qd⟩ := b6
    have i2 : (zi_n (64 * (p.toNatClampNeg : Int) + G.1 8 p.toNatClampNeg % 64)).toNatClampNeg = 64 * p.toNatClampNeg + (G.1 8 p.toNatClampNeg % 64).toNat := by
      rw [zi_cl (by omega) (by omega)]; omega
    have hin6 : vp_in (zi_n (64 * (p.toNatClampNeg : Int) + G.1 8 p.toNatClampNeg % 64)) 128 := zi_in (by omega) (by omega) (by omega)
    have hcell := h_marked _ he (G.1 8 p.toNatClampNeg) (by omega) (by omega)
    refine ⟨hin6, ?_⟩
    rw [i2]
    have stop : ¬ (gm_H G p.toNatClampNeg (G.1 8 p.toNatClampNeg) = true ∧ G.1 8 p.toNatClampNeg ≠ G.1 11 p.toNatClampNeg) → wY_goOn_94 P p f_now f_sent a_seq a_flags a_acked a_window a_many a_data a_rows a_state a_error a_iss a_una a_nxt a_max a_last a_closed a_written a_irs a_unread a_bytes a_held a_rcv a_finAt a_marked a_wnd a_peak a_half a_rto a_same a_tries a_smooth a_spread a_byNumber a_byAck a_sampled a_told a_retry a_ackAt a_waitAt a_timedAt a_timed := by
      intro z
      have e1 : gp_gloop (k + 1) G p.toNatClampNeg = G := if_neg z
      rw [e1] at hP
      exact yg_94 hv hI0 hB hp hP
    by_cases w : gm_H G p.toNatClampNeg (G.1 8 p.toNatClampNeg) = true
    · have hlt := qd _ w
      rw [if_pos w] at hcell
      refine br_f (by rw [hcell]; decide) ⟨hp, hp, ?_⟩
      by_cases w2 : G.1 8 p.toNatClampNeg = G.1 11 p.toNatClampNeg
      · exact br_t (hfin.mpr w2) (stop (fun z => z.2 w2))
      · have e1 : gp_gloop (k + 1) G p.toNatClampNeg = gp_gloop k (gp_gstep G p.toNatClampNeg) p.toNatClampNeg := if_pos ⟨w, w2⟩
        rw [e1] at hP
        have i3 : 24 * p + a_unread p.toNatClampNeg = zi_n (24 * (p.toNatClampNeg : Int) + G.1 9 p.toNatClampNeg) := by
          rw [h_unread _ he]
          generalize p.toNatClampNeg = e at *
          rw [hz, zk_24, zi_mul, zi_add]
        have i4 : (24 * p + a_unread p.toNatClampNeg).toNatClampNeg = 24 * p.toNatClampNeg + (G.1 9 p.toNatClampNeg).toNat := by
          rw [i3, zi_cl (by omega) (by omega)]; omega
        refine br_f (fun z => w2 (hfin.mp z)) ⟨hin6, nm_e ⟨hp, hp, nm_r (e' := upd a_unread p.toNatClampNeg (zi_n (G.1 9 p.toNatClampNeg + 1))) (by rw [h_unread _ he, zk_1, zi_add]) ⟨hin6, by rw [i3]; exact zi_in (by omega) (by omega) (by omega), nm_r (e' := upd a_bytes (24 * p.toNatClampNeg + (G.1 9 p.toNatClampNeg).toNat) (a_held (64 * p.toNatClampNeg + (G.1 8 p.toNatClampNeg % 64).toNat))) (by rw [i4]) ⟨hp, hp, nm_r (e' := vp_updL a_rcv p.toNatClampNeg (zl_n (G.1 8 p.toNatClampNeg + 1))) (by rw [h_rcv _ he, zk_l1, zl_add]) ⟨hp, ?_⟩⟩⟩⟩⟩
        have vR : (gp_gstep G p.toNatClampNeg).1 8 p.toNatClampNeg = G.1 8 p.toNatClampNeg + 1 := by simp +decide only [gp_gstep, gs_s, gs_f]
        have vU : (gp_gstep G p.toNatClampNeg).1 9 p.toNatClampNeg = G.1 9 p.toNatClampNeg + 1 := by simp +decide only [gp_gstep, gs_s, gs_f]
        refine yl_at hp (a := (gp_gstep G p.toNatClampNeg).1 8 p.toNatClampNeg) (by rw [zv_s, vR]) ?_
        exact ih f (gp_gstep G p.toNatClampNeg) f_now f_sent a_seq a_flags a_acked a_window a_many a_data a_rows a_state a_error a_iss a_una a_nxt a_max a_last a_closed a_written a_irs (upd a_unread p.toNatClampNeg (zi_n (G.1 9 p.toNatClampNeg + 1))) (upd a_bytes (24 * p.toNatClampNeg + (G.1 9 p.toNatClampNeg).toNat) (a_held (64 * p.toNatClampNeg + (G.1 8 p.toNatClampNeg % 64).toNat))) a_held (vp_updL a_rcv p.toNatClampNeg (zl_n (G.1 8 p.toNatClampNeg + 1))) a_finAt (upd a_marked (64 * p.toNatClampNeg + (G.1 8 p.toNatClampNeg % 64).toNat) 0) a_wnd a_peak a_half a_rto a_same a_tries a_smooth a_spread a_byNumber a_byAck a_sampled a_told a_retry a_ackAt a_waitAt a_timedAt a_timed (by rw [vU]; omega) (by omega) (vy_gstep hv hI0 he w rfl) (iv_gstep hI0 w w2) hP
    · rw [if_neg w] at hcell
      exact br_t hcell (stop (fun z => w z.1))
theorem yl_goOn {q B K : Int} {G : gm_T} {u : SY} {p : Int32} {P : SY → Prop} (hv : vy_S q G u) (hI : gw_I B K G p.toNatClampNeg) (hB : B ≤ 1000000) (hp : vp_in p 2) (hP : ∀ u', vy_S q (gp_goOn G p.toNatClampNeg) u' → P u') : wpY_goOn P u p := by
  obtain ⟨f_now, f_sent, a_seq, a_flags, a_acked, a_window, a_many, a_data, a_rows, a_state, a_error, a_iss, a_una, a_nxt, a_max, a_last, a_closed, a_written, a_irs, a_unread, a_bytes, a_held, a_rcv, a_finAt, a_marked, a_wnd, a_peak, a_half, a_rto, a_same, a_tries, a_smooth, a_spread, a_byNumber, a_byAck, a_sampled, a_told, a_retry, a_ackAt, a_waitAt, a_timedAt, a_timed⟩ := u
  have hr : a_rcv p.toNatClampNeg = zl_n (G.1 8 p.toNatClampNeg) := by obtain ⟨h_now, h_sent, h_seq, h_flags, h_acked, h_window, h_many, h_data, h_rows, h_state, h_error, h_iss, h_una, h_nxt, h_max, h_last, h_closed, h_written, h_irs, h_unread, h_bytes, h_held, h_rcv, h_finAt, h_marked, h_wnd, h_peak, h_half, h_rto, h_same, h_tries, h_smooth, h_spread, h_byNumber, h_byAck, h_sampled, h_told, h_retry, h_ackAt, h_waitAt, h_timedAt, h_timed⟩ := hv; exact h_rcv _ (pe_lt hp)
  have hu : 0 ≤ G.1 9 p.toNatClampNeg := hI.2.2.2.2.2.2.1.2.2.2.2.1
  unfold wpY_goOn
  exact ⟨hp, yl_at hp hr ⟨25, yg_11 hp hB 24 25 G f_now f_sent a_seq a_flags a_acked a_window a_many a_data a_rows a_state a_error a_iss a_una a_nxt a_max a_last a_closed a_written a_irs a_unread a_bytes a_held a_rcv a_finAt a_marked a_wnd a_peak a_half a_rto a_same a_tries a_smooth a_spread a_byNumber a_byAck a_sampled a_told a_retry a_ackAt a_waitAt a_timedAt a_timed (by omega) (by omega) hv hI hP⟩⟩
theorem tk_zero {K : Int} {G : gm_T} {e k : Nat} {o : Int} (hI : gv_I K G) (he : e < 2) (hk : k < 32) (h : gp_slen G k = 0) : gp_take G e k o = G := by
  have l1 := hI.2.2.2.2.2.1.1 k hk
  obtain ⟨b1, b2, b3, b4, b5, b6⟩ := hI.2.2.2.2.1 _ he
  unfold gv_r at b6
  obtain ⟨q1, q2, q3, q4, q5, q6, q7, q8, q9, qa, qb, qc⟩ := b6
  unfold gp_slen gp_len at h
  have h4 : gm_L G 4 k = 0 := by omega
  have h1 : gp_hold G e k o = G := by
    rw [ho_n (by omega), h4, ho_0]
  unfold gp_take
  split
  · rw [h1]
    have e1 : gp_gloop 24 G e = G := if_neg (fun z => by have := qc _ z.1; omega)
    unfold gp_goOn
    rw [e1]
    refine if_neg (fun z => ?_)
    have := qb (by omega)
    omega
  · rfl
theorem yl_text {q K : Int} {G : gm_T} {u : SY} {p x y z : Int32} {P : SY → Prop} {k : Nat} {o : Int} (hv : vy_S q G u) (hI : gv_I K G) (hp : vp_in p 2) (hk : k < 32) (hK : K + 7 ≤ 5000) (hx : x = zi_n (k : Int)) (h4 : 4 ≤ G.1 0 p.toNatClampNeg) (hy : y = zi_n o) (ho0 : -100 ≤ o) (ho1 : o ≤ 100) (hz : z = zi_n (gp_slen G k)) (hP : ∀ u', vy_S q (gp_flow (gp_content G p.toNatClampNeg k o) p.toNatClampNeg) u' → P u') : wpY_text P u p x y z := by
  obtain ⟨f_now, f_sent, a_seq, a_flags, a_acked, a_window, a_many, a_data, a_rows, a_state, a_error, a_iss, a_una, a_nxt, a_max, a_last, a_closed, a_written, a_irs, a_unread, a_bytes, a_held, a_rcv, a_finAt, a_marked, a_wnd, a_peak, a_half, a_rto, a_same, a_tries, a_smooth, a_spread, a_byNumber, a_byAck, a_sampled, a_told, a_retry, a_ackAt, a_waitAt, a_timedAt, a_timed⟩ := u
  have hv0 := hv
  obtain ⟨h_now, h_sent, h_seq, h_flags, h_acked, h_window, h_many, h_data, h_rows, h_state, h_error, h_iss, h_una, h_nxt, h_max, h_last, h_closed, h_written, h_irs, h_unread, h_bytes, h_held, h_rcv, h_finAt, h_marked, h_wnd, h_peak, h_half, h_rto, h_same, h_tries, h_smooth, h_spread, h_byNumber, h_byAck, h_sampled, h_told, h_retry, h_ackAt, h_waitAt, h_timedAt, h_timed⟩ := hv0
  have he := pe_lt hp
  have l1 := hI.2.2.2.2.2.1.1 k hk
  have hlen : 0 ≤ gp_slen G k ∧ gp_slen G k ≤ 10 := by unfold gp_slen gp_len; omega
  obtain ⟨b1, b2, b3, b4, b5, b6⟩ := hI.2.2.2.2.1 _ he
  have n2 := hI.2.1
  have n3 := hI.2.2.1
  have n4 := hI.2.2.2.1
  unfold gv_a at b1
  unfold gv_d at b4
  unfold gv_r at b6
  subst hz
  have hIt := iv_take (o := o) hI he hk hK
  have hIc := iv_content (o := o) hI he hk hK h4
  have hst := tk_ST (k := k) (o := o) h4
  have hrv := tk_rv (G := G) (e := p.toNatClampNeg) (k := k) (o := o)
  have hnn : gm_N (gp_take G p.toNatClampNeg k o) = gm_N G := tk_N
  have h0 : gp_slen G k = 0 → gp_content G p.toNatClampNeg k o = gp_take G p.toNatClampNeg k o := fun w => by
    rw [tk_zero hI he hk w]; exact if_pos w
  have hn : ¬ gp_slen G k = 0 → gp_content G p.toNatClampNeg k o = if 6 < (gp_take G p.toNatClampNeg k o).1 0 p.toNatClampNeg ∨ (gp_take G p.toNatClampNeg k o).1 8 p.toNatClampNeg = G.1 8 p.toNatClampNeg ∨ gp_any G p.toNatClampNeg = true ∨ gp_any (gp_take G p.toNatClampNeg k o) p.toNatClampNeg = true ∨ 0 ≤ (gp_take G p.toNatClampNeg k o).1 22 p.toNatClampNeg then gp_ack (gp_take G p.toNatClampNeg k o) p.toNatClampNeg else gp_put (gp_take G p.toNatClampNeg k o) 22 p.toNatClampNeg (gm_N G + 2) := fun w => if_neg w
  have k130 : ∀ u2, vy_S q (gp_content G p.toNatClampNeg k o) u2 → (match u2 with | (f_now, f_sent, a_seq, a_flags, a_acked, a_window, a_many, a_data, a_rows, a_state, a_error, a_iss, a_una, a_nxt, a_max, a_last, a_closed, a_written, a_irs, a_unread, a_bytes, a_held, a_rcv, a_finAt, a_marked, a_wnd, a_peak, a_half, a_rto, a_same, a_tries, a_smooth, a_spread, a_byNumber, a_byAck, a_sampled, a_told, a_retry, a_ackAt, a_waitAt, a_timedAt, a_timed) => wY_text_130 P p f_now f_sent a_seq a_flags a_acked a_window a_many a_data a_rows a_state a_error a_iss a_una a_nxt a_max a_last a_closed a_written a_irs a_unread a_bytes a_held a_rcv a_finAt a_marked a_wnd a_peak a_half a_rto a_same a_tries a_smooth a_spread a_byNumber a_byAck a_sampled a_told a_retry a_ackAt a_waitAt a_timedAt a_timed) := by
    intro u2 hv2
    obtain ⟨f_now, f_sent, a_seq, a_flags, a_acked, a_window, a_many, a_data, a_rows, a_state, a_error, a_iss, a_una, a_nxt, a_max, a_last, a_closed, a_written, a_irs, a_unread, a_bytes, a_held, a_rcv, a_finAt, a_marked, a_wnd, a_peak, a_half, a_rto, a_same, a_tries, a_smooth, a_spread, a_byNumber, a_byAck, a_sampled, a_told, a_retry, a_ackAt, a_waitAt, a_timedAt, a_timed⟩ := u2
    show wY_text_130 P p f_now f_sent a_seq a_flags a_acked a_window a_many a_data a_rows a_state a_error a_iss a_una a_nxt a_max a_last a_closed a_written a_irs a_unread a_bytes a_held a_rcv a_finAt a_marked a_wnd a_peak a_half a_rto a_same a_tries a_smooth a_spread a_byNumber a_byAck a_sampled a_told a_retry a_ackAt a_waitAt a_timedAt a_timed
    unfold wY_text_130
    refine yl_flow hv2 hIc hp fun u3 hv3 => ?_
    have := hP u3 hv3
    obtain ⟨f_now, f_sent, a_seq, a_flags, a_acked, a_window, a_many, a_data, a_rows, a_state, a_error, a_iss, a_una, a_nxt, a_max, a_last, a_closed, a_written, a_irs, a_unread, a_bytes, a_held, a_rcv, a_finAt, a_marked, a_wnd, a_peak, a_half, a_rto, a_same, a_tries, a_smooth, a_spread, a_byNumber, a_byAck, a_sampled, a_told, a_retry, a_ackAt, a_waitAt, a_timedAt, a_timed⟩ := u3
    exact this
  have k48 : ∀ (x5 : Int32) (u1 : SY), ((gp_any G p.toNatClampNeg = true ∧ x5 = 1) ∨ (gp_any G p.toNatClampNeg = false ∧ x5 = 0)) → vy_S q (gp_take G p.toNatClampNeg k o) u1 → (match u1 with | (f_now, f_sent, a_seq, a_flags, a_acked, a_window, a_many, a_data, a_rows, a_state, a_error, a_iss, a_una, a_nxt, a_max, a_last, a_closed, a_written, a_irs, a_unread, a_bytes, a_held, a_rcv, a_finAt, a_marked, a_wnd, a_peak, a_half, a_rto, a_same, a_tries, a_smooth, a_spread, a_byNumber, a_byAck, a_sampled, a_told, a_retry, a_ackAt, a_waitAt, a_timedAt, a_timed) => wY_text_48 P p (zi_n (gp_slen G k)) x5 (zl_n (G.1 8 p.toNatClampNeg)) f_now f_sent a_seq a_flags a_acked a_window a_many a_data a_rows a_state a_error a_iss a_una a_nxt a_max a_last a_closed a_written a_irs a_unread a_bytes a_held a_rcv a_finAt a_marked a_wnd a_peak a_half a_rto a_same a_tries a_smooth a_spread a_byNumber a_byAck a_sampled a_told a_retry a_ackAt a_waitAt a_timedAt a_timed) := by
    intro x5 u1 hx5 hv1
    generalize gp_take G p.toNatClampNeg k o = G1 at *
    generalize gp_content G p.toNatClampNeg k o = G2 at *
    obtain ⟨f_now, f_sent, a_seq, a_flags, a_acked, a_window, a_many, a_data, a_rows, a_state, a_error, a_iss, a_una, a_nxt, a_max, a_last, a_closed, a_written, a_irs, a_unread, a_bytes, a_held, a_rcv, a_finAt, a_marked, a_wnd, a_peak, a_half, a_rto, a_same, a_tries, a_smooth, a_spread, a_byNumber, a_byAck, a_sampled, a_told, a_retry, a_ackAt, a_waitAt, a_timedAt, a_timed⟩ := u1
    show wY_text_48 P p _ x5 _ f_now f_sent a_seq a_flags a_acked a_window a_many a_data a_rows a_state a_error a_iss a_una a_nxt a_max a_last a_closed a_written a_irs a_unread a_bytes a_held a_rcv a_finAt a_marked a_wnd a_peak a_half a_rto a_same a_tries a_smooth a_spread a_byNumber a_byAck a_sampled a_told a_retry a_ackAt a_waitAt a_timedAt a_timed
    have hv2 := hv1
    clear h_state h_rcv h_ackAt h_now
    obtain ⟨h_now, h_sent, h_seq, h_flags, h_acked, h_window, h_many, h_data, h_rows, h_state, h_error, h_iss, h_una, h_nxt, h_max, h_last, h_closed, h_written, h_irs, h_unread, h_bytes, h_held, h_rcv, h_finAt, h_marked, h_wnd, h_peak, h_half, h_rto, h_same, h_tries, h_smooth, h_spread, h_byNumber, h_byAck, h_sampled, h_told, h_retry, h_ackAt, h_waitAt, h_timedAt, h_timed⟩ := hv2
    obtain ⟨c1, c2, c3, c4, c5, c6⟩ := hIt.2.2.2.2.1 _ he
    unfold gv_a at c1
    unfold gv_p at c2
    unfold gv_d at c4
    unfold wY_text_48
    by_cases w0 : gp_slen G k = 0
    · refine br_t (by rw [w0]; decide) ?_
      have := h0 w0
      exact k130 (f_now, f_sent, a_seq, a_flags, a_acked, a_window, a_many, a_data, a_rows, a_state, a_error, a_iss, a_una, a_nxt, a_max, a_last, a_closed, a_written, a_irs, a_unread, a_bytes, a_held, a_rcv, a_finAt, a_marked, a_wnd, a_peak, a_half, a_rto, a_same, a_tries, a_smooth, a_spread, a_byNumber, a_byAck, a_sampled, a_told, a_retry, a_ackAt, a_waitAt, a_timedAt, a_timed) (by rw [this]; exact hv1)
    · have hc := hn w0
      refine br_f (by rw [zk_0, zi_le (by omega) (by omega) (by omega) (by omega)]; omega) ⟨hp, ?_⟩
      have k98 : (6 < G1.1 0 p.toNatClampNeg ∨ G1.1 8 p.toNatClampNeg = G.1 8 p.toNatClampNeg ∨ gp_any G p.toNatClampNeg = true ∨ gp_any G1 p.toNatClampNeg = true ∨ 0 ≤ G1.1 22 p.toNatClampNeg) → wY_text_98 P p f_now f_sent a_seq a_flags a_acked a_window a_many a_data a_rows a_state a_error a_iss a_una a_nxt a_max a_last a_closed a_written a_irs a_unread a_bytes a_held a_rcv a_finAt a_marked a_wnd a_peak a_half a_rto a_same a_tries a_smooth a_spread a_byNumber a_byAck a_sampled a_told a_retry a_ackAt a_waitAt a_timedAt a_timed := by
        intro z
        rw [if_pos z] at hc
        rw [hc] at k130
        unfold wY_text_98 wY_text_103
        exact br_f (by decide) (yl_ack hv1 hIt hp (by omega) fun u3 hv3 => k130 u3 hv3)
      by_cases w1 : 6 < G1.1 0 p.toNatClampNeg
      · exact br_t (by rw [h_state _ he, zk_6, zi_lt (by omega) (by omega) (by omega) (by omega)]; exact w1) (k98 (Or.inl w1))
      · refine br_f (by rw [h_state _ he, zk_6, zi_lt (by omega) (by omega) (by omega) (by omega)]; exact w1) ⟨hp, ?_⟩
        by_cases w2 : G1.1 8 p.toNatClampNeg = G.1 8 p.toNatClampNeg
        · exact br_t (by rw [h_rcv _ he, w2]) (k98 (Or.inr (Or.inl w2)))
        · refine br_f (by rw [h_rcv _ he, zl_eq (by omega) (by omega) (by omega) (by omega)]; exact w2) ?_
          rcases hx5 with ⟨h, rfl⟩ | ⟨h, rfl⟩
          · exact br_f (by decide) (k98 (Or.inr (Or.inr (Or.inl h))))
          · refine br_t rfl (yl_holds hv1 hIt hp (fun w => ?_) (fun w => ?_))
            · exact br_f (by decide) (k98 (Or.inr (Or.inr (Or.inr (Or.inl w)))))
            · refine br_t rfl ⟨hp, ?_⟩
              by_cases w4 : G1.1 22 p.toNatClampNeg < 0
              · refine br_t (by rw [h_ackAt _ he, zk_0, zi_lt (by omega) (by omega) (by omega) (by omega)]; exact w4) ?_
                have hcc : ¬ (6 < G1.1 0 p.toNatClampNeg ∨ G1.1 8 p.toNatClampNeg = G.1 8 p.toNatClampNeg ∨ gp_any G p.toNatClampNeg = true ∨ gp_any G1 p.toNatClampNeg = true ∨ 0 ≤ G1.1 22 p.toNatClampNeg) := by
                  rw [h, w]
                  rintro (y | y | y | y | y)
                  · exact w1 y
                  · exact w2 y
                  · cases y
                  · cases y
                  · omega
                rw [if_neg hcc] at hc
                rw [hc] at k130
                unfold wY_text_103
                refine br_t rfl ⟨hp, nm_e (k130 (f_now, f_sent, a_seq, a_flags, a_acked, a_window, a_many, a_data, a_rows, a_state, a_error, a_iss, a_una, a_nxt, a_max, a_last, a_closed, a_written, a_irs, a_unread, a_bytes, a_held, a_rcv, a_finAt, a_marked, a_wnd, a_peak, a_half, a_rto, a_same, a_tries, a_smooth, a_spread, a_byNumber, a_byAck, a_sampled, a_told, a_retry, upd a_ackAt p.toNatClampNeg (f_now + 2), a_waitAt, a_timedAt, a_timed) ?_)⟩
                refine (vy_mk h_now h_sent h_seq h_flags h_acked h_window h_many h_data h_rows h_state h_error h_iss h_una h_nxt h_max h_last h_closed h_written h_irs h_unread h_bytes h_held h_rcv h_finAt h_marked h_wnd h_peak h_half h_rto h_same h_tries h_smooth h_spread h_byNumber h_byAck h_sampled h_told h_retry (vu_e h_ackAt ?_ (fun e' y => pu_o y _)) h_waitAt h_timedAt h_timed)
                rw [pu_s, h_now, zk_2, zi_add, hnn]
              · exact br_f (by rw [h_ackAt _ he, zk_0, zi_lt (by omega) (by omega) (by omega) (by omega)]; exact w4) (k98 (Or.inr (Or.inr (Or.inr (Or.inr (by omega))))))
  have kk : ∀ x5 : Int32, ((gp_any G p.toNatClampNeg = true ∧ x5 = 1) ∨ (gp_any G p.toNatClampNeg = false ∧ x5 = 0)) → (vp_in p 2 ∧ ((a_state p.toNatClampNeg ≤ 3 → wY_text_48 P p (zi_n (gp_slen G k)) x5 (zl_n (G.1 8 p.toNatClampNeg)) f_now f_sent a_seq a_flags a_acked a_window a_many a_data a_rows a_state a_error a_iss a_una a_nxt a_max a_last a_closed a_written a_irs a_unread a_bytes a_held a_rcv a_finAt a_marked a_wnd a_peak a_half a_rto a_same a_tries a_smooth a_spread a_byNumber a_byAck a_sampled a_told a_retry a_ackAt a_waitAt a_timedAt a_timed) ∧ (¬ a_state p.toNatClampNeg ≤ 3 → vp_in p 2 ∧ ((7 ≤ a_state p.toNatClampNeg → wY_text_48 P p (zi_n (gp_slen G k)) x5 (zl_n (G.1 8 p.toNatClampNeg)) f_now f_sent a_seq a_flags a_acked a_window a_many a_data a_rows a_state a_error a_iss a_una a_nxt a_max a_last a_closed a_written a_irs a_unread a_bytes a_held a_rcv a_finAt a_marked a_wnd a_peak a_half a_rto a_same a_tries a_smooth a_spread a_byNumber a_byAck a_sampled a_told a_retry a_ackAt a_waitAt a_timedAt a_timed) ∧ (¬ 7 ≤ a_state p.toNatClampNeg → wpY_hold (fun u => match u with | (f_now, f_sent, a_seq, a_flags, a_acked, a_window, a_many, a_data, a_rows, a_state, a_error, a_iss, a_una, a_nxt, a_max, a_last, a_closed, a_written, a_irs, a_unread, a_bytes, a_held, a_rcv, a_finAt, a_marked, a_wnd, a_peak, a_half, a_rto, a_same, a_tries, a_smooth, a_spread, a_byNumber, a_byAck, a_sampled, a_told, a_retry, a_ackAt, a_waitAt, a_timedAt, a_timed) => (wpY_goOn (fun u => match u with | (f_now, f_sent, a_seq, a_flags, a_acked, a_window, a_many, a_data, a_rows, a_state, a_error, a_iss, a_una, a_nxt, a_max, a_last, a_closed, a_written, a_irs, a_unread, a_bytes, a_held, a_rcv, a_finAt, a_marked, a_wnd, a_peak, a_half, a_rto, a_same, a_tries, a_smooth, a_spread, a_byNumber, a_byAck, a_sampled, a_told, a_retry, a_ackAt, a_waitAt, a_timedAt, a_timed) => (wY_text_48 P p (zi_n (gp_slen G k)) x5 (zl_n (G.1 8 p.toNatClampNeg)) f_now f_sent a_seq a_flags a_acked a_window a_many a_data a_rows a_state a_error a_iss a_una a_nxt a_max a_last a_closed a_written a_irs a_unread a_bytes a_held a_rcv a_finAt a_marked a_wnd a_peak a_half a_rto a_same a_tries a_smooth a_spread a_byNumber a_byAck a_sampled a_told a_retry a_ackAt a_waitAt a_timedAt a_timed)) (f_now, f_sent, a_seq, a_flags, a_acked, a_window, a_many, a_data, a_rows, a_state, a_error, a_iss, a_una, a_nxt, a_max, a_last, a_closed, a_written, a_irs, a_unread, a_bytes, a_held, a_rcv, a_finAt, a_marked, a_wnd, a_peak, a_half, a_rto, a_same, a_tries, a_smooth, a_spread, a_byNumber, a_byAck, a_sampled, a_told, a_retry, a_ackAt, a_waitAt, a_timedAt, a_timed) p)) (f_now, f_sent, a_seq, a_flags, a_acked, a_window, a_many, a_data, a_rows, a_state, a_error, a_iss, a_una, a_nxt, a_max, a_last, a_closed, a_written, a_irs, a_unread, a_bytes, a_held, a_rcv, a_finAt, a_marked, a_wnd, a_peak, a_half, a_rto, a_same, a_tries, a_smooth, a_spread, a_byNumber, a_byAck, a_sampled, a_told, a_retry, a_ackAt, a_waitAt, a_timedAt, a_timed) p x y))))) := by
    intro x5 hx5
    refine ⟨hp, br_f (by rw [h_state _ he, zk_3, zi_le (by omega) (by omega) (by omega) (by omega)]; omega) ⟨hp, ?_⟩⟩
    by_cases w : G.1 0 p.toNatClampNeg < 7
    · have e2 : gp_take G p.toNatClampNeg k o = gp_goOn (gp_hold G p.toNatClampNeg k o) p.toNatClampNeg := if_pos ⟨by omega, w⟩
      refine br_f (by rw [h_state _ he, zk_7, zi_le (by omega) (by omega) (by omega) (by omega)]; omega) (yl_hold hv hI hp hk hx hy h4 (by omega) ho0 ho1 fun u1 hv1 => ?_)
      obtain ⟨f_now, f_sent, a_seq, a_flags, a_acked, a_window, a_many, a_data, a_rows, a_state, a_error, a_iss, a_una, a_nxt, a_max, a_last, a_closed, a_written, a_irs, a_unread, a_bytes, a_held, a_rcv, a_finAt, a_marked, a_wnd, a_peak, a_half, a_rto, a_same, a_tries, a_smooth, a_spread, a_byNumber, a_byAck, a_sampled, a_told, a_retry, a_ackAt, a_waitAt, a_timedAt, a_timed⟩ := u1
      exact yl_goOn hv1 (iv_hold hI he hk hK (by omega) (by omega)) (by omega) hp fun u2 hv2 => k48 x5 u2 hx5 (by rw [e2]; exact hv2)
    · have e2 : gp_take G p.toNatClampNeg k o = G := if_neg (fun z => w z.2)
      exact br_t (by rw [h_state _ he, zk_7, zi_le (by omega) (by omega) (by omega) (by omega)]; omega) (k48 x5 (f_now, f_sent, a_seq, a_flags, a_acked, a_window, a_many, a_data, a_rows, a_state, a_error, a_iss, a_una, a_nxt, a_max, a_last, a_closed, a_written, a_irs, a_unread, a_bytes, a_held, a_rcv, a_finAt, a_marked, a_wnd, a_peak, a_half, a_rto, a_same, a_tries, a_smooth, a_spread, a_byNumber, a_byAck, a_sampled, a_told, a_retry, a_ackAt, a_waitAt, a_timedAt, a_timed) hx5 (by rw [e2]; exact hv))
  unfold wpY_text
  refine yl_holds hv hI hp (fun w => ⟨hp, nm_r (h_rcv _ he) (kk 1 (Or.inl ⟨w, rfl⟩))⟩) (fun w => ⟨hp, nm_r (h_rcv _ he) (kk 0 (Or.inr ⟨w, rfl⟩))⟩)
