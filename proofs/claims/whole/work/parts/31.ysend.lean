/-! the reference: an end ends and begins; what it sends -/
theorem yl_quiet {P : SY → Prop} {f_now : Int32} {f_sent : Int32} {a_seq : (Nat → Int32)} {a_flags : (Nat → Int32)} {a_acked : (Nat → Int32)} {a_window : (Nat → Int32)} {a_many : (Nat → Int32)} {a_data : (Nat → Int32)} {a_rows : (Nat → Int32)} {a_state : (Nat → Int32)} {a_error : (Nat → Int32)} {a_iss : (Nat → Int32)} {a_una : (Nat → Int64)} {a_nxt : (Nat → Int64)} {a_max : (Nat → Int64)} {a_last : (Nat → Int64)} {a_closed : (Nat → Int32)} {a_written : (Nat → Int32)} {a_irs : (Nat → Int32)} {a_unread : (Nat → Int32)} {a_bytes : (Nat → Int32)} {a_held : (Nat → Int32)} {a_rcv : (Nat → Int64)} {a_finAt : (Nat → Int64)} {a_marked : (Nat → Int32)} {a_wnd : (Nat → Int32)} {a_peak : (Nat → Int32)} {a_half : (Nat → Int32)} {a_rto : (Nat → Int32)} {a_same : (Nat → Int32)} {a_tries : (Nat → Int32)} {a_smooth : (Nat → Int32)} {a_spread : (Nat → Int32)} {a_byNumber : (Nat → Int32)} {a_byAck : (Nat → Int32)} {a_sampled : (Nat → Int32)} {a_told : (Nat → Int32)} {a_retry : (Nat → Int32)} {a_ackAt : (Nat → Int32)} {a_waitAt : (Nat → Int32)} {a_timedAt : (Nat → Int32)} {a_timed : (Nat → Int64)} {p : Int32} (hp : vp_in p 2) (hP : ∀ A : Nat → Int32, (∀ j, j < 64 → A (64 * p.toNatClampNeg + j) = 0) → (∀ j, (j < 64 * p.toNatClampNeg ∨ 64 * p.toNatClampNeg + 64 ≤ j) → A j = a_marked j) → P (f_now, f_sent, a_seq, a_flags, a_acked, a_window, a_many, a_data, a_rows, a_state, a_error, a_iss, a_una, a_nxt, a_max, vp_updL a_last p.toNatClampNeg 1, upd a_closed p.toNatClampNeg 0, a_written, a_irs, a_unread, a_bytes, a_held, a_rcv, vp_updL a_finAt p.toNatClampNeg (-1), A, a_wnd, a_peak, a_half, a_rto, upd a_same p.toNatClampNeg 0, upd a_tries p.toNatClampNeg 0, a_smooth, a_spread, a_byNumber, a_byAck, a_sampled, a_told, upd a_retry p.toNatClampNeg (-1), upd a_ackAt p.toNatClampNeg (-1), upd a_waitAt p.toNatClampNeg (-1), a_timedAt, vp_updL a_timed p.toNatClampNeg (-1))) : wpY_quiet P (f_now, f_sent, a_seq, a_flags, a_acked, a_window, a_many, a_data, a_rows, a_state, a_error, a_iss, a_una, a_nxt, a_max, a_last, a_closed, a_written, a_irs, a_unread, a_bytes, a_held, a_rcv, a_finAt, a_marked, a_wnd, a_peak, a_half, a_rto, a_same, a_tries, a_smooth, a_spread, a_byNumber, a_byAck, a_sampled, a_told, a_retry, a_ackAt, a_waitAt, a_timedAt, a_timed) p := by
  have hz := pe_z hp
  have hl := pe_lt hp
  have e64 : 64 * p + 64 = zi_n (64 * (p.toNatClampNeg : Int) + 64) := by
    generalize p.toNatClampNeg = e at *
    rw [hz, zk_64, zi_mul, zi_add]
  have lo : ∀ (n i : Nat) (A LA FA : _) (CA : Nat → Int32), i ≤ 64 → 64 - i < n → (∀ j, j < i → A (64 * p.toNatClampNeg + j) = 0) → (∀ j, (j < 64 * p.toNatClampNeg ∨ 64 * p.toNatClampNeg + 64 ≤ j) → A j = a_marked j) → LA = vp_updL a_last p.toNatClampNeg 1 → FA = vp_updL a_finAt p.toNatClampNeg (-1) → CA = upd a_closed p.toNatClampNeg 0 → wY_quiet_28 P p f_now f_sent n (zi_n (64 * (p.toNatClampNeg : Int) + i)) a_seq a_flags a_acked a_window a_many a_data a_rows a_state a_error a_iss a_una a_nxt a_max (LA) (CA) a_written a_irs a_unread a_bytes a_held a_rcv (FA) (A) a_wnd a_peak a_half a_rto a_same a_tries a_smooth a_spread a_byNumber a_byAck a_sampled a_told a_retry a_ackAt a_waitAt a_timedAt a_timed := by
    intro n
    induction n with
    | zero => intro i A LA FA CA h1 h2; omega
    | succ n ih =>
      intro i A LA FA CA h1 h2 h3 h4 h5 h6 h7
      by_cases q : i = 64
      · subst q
        refine br_t (by rw [e64]; exact Int32.le_refl _) ⟨hp, nm_e ⟨hp, nm_e ⟨hp, nm_e ⟨hp, nm_e ⟨hp, nm_e ⟨hp, nm_e ?_⟩⟩⟩⟩⟩⟩
        subst h5 h6 h7
        exact hP A h3 h4
      · have e2 : (zi_n (64 * (p.toNatClampNeg : Int) + i)).toNatClampNeg = 64 * p.toNatClampNeg + i := by
          rw [zi_cl (by omega) (by omega)]; omega
        refine br_f ?_ ⟨?_, nm_e (nm_r (e' := zi_n (64 * (p.toNatClampNeg : Int) + ((i + 1 : Nat) : Int))) ?_ (ih (i + 1) _ LA FA CA (by omega) (by omega) ?_ ?_ h5 h6 h7))⟩
        · rw [e64, zi_le (by omega) (by omega) (by omega) (by omega)]; omega
        · exact zi_in (by omega) (by omega) (by omega)
        · rw [zk_1, zi_add]; congr 1
        · intro j hj
          rw [e2]
          by_cases w : j = i
          · rw [w, zu_s]; rfl
          · rw [zu_n (by omega)]; exact h3 j (by omega)
        · intro j hj
          rw [e2, zu_n (by omega)]; exact h4 j hj
  unfold wpY_quiet
  refine ⟨hp, nm_e ⟨hp, nm_e ⟨hp, nm_e (nm_r (e' := zi_n (64 * (p.toNatClampNeg : Int) + ((0 : Nat) : Int))) ?_ ⟨65, lo 65 0 a_marked _ _ _ (by omega) (by omega) (fun j hj => by omega) (fun j _ => rfl) rfl rfl rfl⟩)⟩⟩⟩
  generalize p.toNatClampNeg = e at *
  rw [hz, zk_64, zi_mul]; congr 1
theorem vm_none {A a : Nat → Int32} {h : Nat → Int → Bool} {e : Nat} {R R' : Nat → Int} (hA1 : ∀ j, j < 64 → A (64 * e + j) = 0) (hA2 : ∀ j, (j < 64 * e ∨ 64 * e + 64 ≤ j) → A j = a j) (hh : ∀ e', e' < 2 → e' ≠ e → ∀ p : Int, R e' ≤ p → p < R e' + 64 → a (64 * e' + (p % 64).toNat) = (if h e' p = true then 1 else 0)) (hR : ∀ e', e' ≠ e → R' e' = R e') : ∀ e', e' < 2 → ∀ p : Int, R' e' ≤ p → p < R' e' + 64 → A (64 * e' + (p % 64).toNat) = (if gp_none h e e' p = true then 1 else 0) := by
  intro e' he' p h1 h2
  by_cases q : e' = e
  · subst q
    rw [hA1 _ (by omega), nn_e]; rfl
  · rw [hA2 _ (by omega), nn_o q]
    rw [hR e' q] at h1 h2
    exact hh e' he' q p h1 h2
theorem yl_over {q : Int} {G : gm_T} {u : SY} {p x : Int32} {P : SY → Prop} {code : Int} (hv : vy_S q G u) (hp : vp_in p 2) (hx : x = zi_n code) (hP : ∀ u', vy_S q (gp_over G p.toNatClampNeg code) u' → P u') : wpY_over P u p x := by
  obtain ⟨f_now, f_sent, a_seq, a_flags, a_acked, a_window, a_many, a_data, a_rows, a_state, a_error, a_iss, a_una, a_nxt, a_max, a_last, a_closed, a_written, a_irs, a_unread, a_bytes, a_held, a_rcv, a_finAt, a_marked, a_wnd, a_peak, a_half, a_rto, a_same, a_tries, a_smooth, a_spread, a_byNumber, a_byAck, a_sampled, a_told, a_retry, a_ackAt, a_waitAt, a_timedAt, a_timed⟩ := u
  obtain ⟨h_now, h_sent, h_seq, h_flags, h_acked, h_window, h_many, h_data, h_rows, h_state, h_error, h_iss, h_una, h_nxt, h_max, h_last, h_closed, h_written, h_irs, h_unread, h_bytes, h_held, h_rcv, h_finAt, h_marked, h_wnd, h_peak, h_half, h_rto, h_same, h_tries, h_smooth, h_spread, h_byNumber, h_byAck, h_sampled, h_told, h_retry, h_ackAt, h_waitAt, h_timedAt, h_timed⟩ := hv
  unfold wpY_over
  refine ⟨hp, nm_e ⟨hp, nm_e ⟨hp, nm_e (yl_quiet hp fun A hA1 hA2 => hP _ ?_)⟩⟩⟩
  generalize p.toNatClampNeg = e at *
  refine (vy_mk h_now h_sent h_seq h_flags h_acked h_window h_many h_data h_rows (vu_e h_state ?a1 (fun e' y => ov_o y _)) (vu_e h_error ?a2 (fun e' y => ov_o y _)) h_iss (vu_l h_una ?a3 (fun e' y => ov_o y _)) h_nxt h_max (vu_l h_last ?a4 (fun e' y => ov_o y _)) (vu_e h_closed ?a5 (fun e' y => ov_o y _)) (fun e' he' p' z1 z2 z3 => ?a6) h_irs h_unread h_bytes (fun e' he' p' z => h_held e' he' p' (nn_H z)) h_rcv (vu_l h_finAt ?a7 (fun e' y => ov_o y _)) (vm_none hA1 hA2 (fun e' he' _ => h_marked e' he') (fun e' y => ov_o y _)) h_wnd h_peak h_half h_rto (vu_e h_same ?a8 (fun e' y => ov_o y _)) (vu_e h_tries ?a9 (fun e' y => ov_o y _)) h_smooth h_spread h_byNumber h_byAck h_sampled h_told (vu_e h_retry ?b1 (fun e' y => ov_o y _)) (vu_e h_ackAt ?b2 (fun e' y => ov_o y _)) (vu_e h_waitAt ?b3 (fun e' y => ov_o y _)) h_timedAt (vu_l h_timed ?b4 (fun e' y => ov_o y _)))
  case a1 => simp +decide only [gp_over, gs_s, gs_f] <;> rfl
  case a2 => simp +decide only [gp_over, gs_s, gs_f]; exact hx
  case a3 => simp +decide only [gp_over, gs_s, gs_f] <;> rfl
  case a4 => simp +decide only [gp_over, gs_s, gs_f] <;> rfl
  case a5 => simp +decide only [gp_over, gs_s, gs_f] <;> rfl
  case a6 =>
    by_cases y : e' = e
    · subst y; simp +decide only [gp_over, gs_s, gs_f] at z2 <;> omega
    · simp only [ov_o y] at z2 z3; exact h_written e' he' p' z1 z2 z3
  case a7 => simp +decide only [gp_over, gs_s, gs_f] <;> rfl
  case a8 => simp +decide only [gp_over, gs_s, gs_f] <;> rfl
  case a9 => simp +decide only [gp_over, gs_s, gs_f] <;> rfl
  case b1 => simp +decide only [gp_over, gs_s, gs_f] <;> rfl
  case b2 => simp +decide only [gp_over, gs_s, gs_f] <;> rfl
  case b3 => simp +decide only [gp_over, gs_s, gs_f] <;> rfl
  case b4 => simp +decide only [gp_over, gs_s, gs_f] <;> rfl
theorem yl_reset {q : Int} {G : gm_T} {u : SY} {p : Int32} {P : SY → Prop} (hv : vy_S q G u) (hp : vp_in p 2) (h0 : 0 ≤ G.1 0 p.toNatClampNeg) (h10 : G.1 0 p.toNatClampNeg ≤ 10) (hP : ∀ u', vy_S q (gp_reset G p.toNatClampNeg) u' → P u') : wpY_reset P u p := by
  obtain ⟨f_now, f_sent, a_seq, a_flags, a_acked, a_window, a_many, a_data, a_rows, a_state, a_error, a_iss, a_una, a_nxt, a_max, a_last, a_closed, a_written, a_irs, a_unread, a_bytes, a_held, a_rcv, a_finAt, a_marked, a_wnd, a_peak, a_half, a_rto, a_same, a_tries, a_smooth, a_spread, a_byNumber, a_byAck, a_sampled, a_told, a_retry, a_ackAt, a_waitAt, a_timedAt, a_timed⟩ := u
  have hs : a_state p.toNatClampNeg = zi_n (G.1 0 p.toNatClampNeg) := by obtain ⟨h_now, h_sent, h_seq, h_flags, h_acked, h_window, h_many, h_data, h_rows, h_state, h_error, h_iss, h_una, h_nxt, h_max, h_last, h_closed, h_written, h_irs, h_unread, h_bytes, h_held, h_rcv, h_finAt, h_marked, h_wnd, h_peak, h_half, h_rto, h_same, h_tries, h_smooth, h_spread, h_byNumber, h_byAck, h_sampled, h_told, h_retry, h_ackAt, h_waitAt, h_timedAt, h_timed⟩ := hv; exact h_state _ (pe_lt hp)
  unfold gp_reset at hP
  unfold wpY_reset
  refine ⟨hp, ?_⟩
  have fin : ∀ x : Int32, x = zi_n (if G.1 0 p.toNatClampNeg > 7 then 0 else 1) → wY_reset_18 P x p f_now f_sent a_seq a_flags a_acked a_window a_many a_data a_rows a_state a_error a_iss a_una a_nxt a_max a_last a_closed a_written a_irs a_unread a_bytes a_held a_rcv a_finAt a_marked a_wnd a_peak a_half a_rto a_same a_tries a_smooth a_spread a_byNumber a_byAck a_sampled a_told a_retry a_ackAt a_waitAt a_timedAt a_timed := by
    intro x hx
    unfold wY_reset_18
    refine yl_over hv hp hx fun u1 hv1 => ?_
    have := hP u1 hv1
    obtain ⟨f_now, f_sent, a_seq, a_flags, a_acked, a_window, a_many, a_data, a_rows, a_state, a_error, a_iss, a_una, a_nxt, a_max, a_last, a_closed, a_written, a_irs, a_unread, a_bytes, a_held, a_rcv, a_finAt, a_marked, a_wnd, a_peak, a_half, a_rto, a_same, a_tries, a_smooth, a_spread, a_byNumber, a_byAck, a_sampled, a_told, a_retry, a_ackAt, a_waitAt, a_timedAt, a_timed⟩ := u1
    exact this
  by_cases w : G.1 0 p.toNatClampNeg ≤ 7
  · exact br_t (by rw [hs, zk_7, zi_le (by omega) (by omega) (by omega) (by omega)]; exact w) (fin 1 (by rw [if_neg (by omega)]; rfl))
  · exact br_f (by rw [hs, zk_7, zi_le (by omega) (by omega) (by omega) (by omega)]; exact w) (fin 0 (by rw [if_pos (by omega)]; rfl))
theorem yl_first {q : Int} {G : gm_T} {u : SY} {p x : Int32} {P : SY → Prop} {iss : Int} (hv : vy_S q G u) (hp : vp_in p 2) (hx : x = zi_n iss) (hP : ∀ u', vy_S q (gp_begin G p.toNatClampNeg iss) u' → P u') : wpY_first P u p x := by
  obtain ⟨f_now, f_sent, a_seq, a_flags, a_acked, a_window, a_many, a_data, a_rows, a_state, a_error, a_iss, a_una, a_nxt, a_max, a_last, a_closed, a_written, a_irs, a_unread, a_bytes, a_held, a_rcv, a_finAt, a_marked, a_wnd, a_peak, a_half, a_rto, a_same, a_tries, a_smooth, a_spread, a_byNumber, a_byAck, a_sampled, a_told, a_retry, a_ackAt, a_waitAt, a_timedAt, a_timed⟩ := u
  obtain ⟨h_now, h_sent, h_seq, h_flags, h_acked, h_window, h_many, h_data, h_rows, h_state, h_error, h_iss, h_una, h_nxt, h_max, h_last, h_closed, h_written, h_irs, h_unread, h_bytes, h_held, h_rcv, h_finAt, h_marked, h_wnd, h_peak, h_half, h_rto, h_same, h_tries, h_smooth, h_spread, h_byNumber, h_byAck, h_sampled, h_told, h_retry, h_ackAt, h_waitAt, h_timedAt, h_timed⟩ := hv
  unfold wpY_first
  refine ⟨hp, nm_e ⟨hp, nm_e ⟨hp, nm_e ⟨hp, nm_e ⟨hp, nm_e ⟨hp, nm_e ⟨hp, nm_e ⟨hp, nm_e ⟨hp, nm_e ⟨hp, nm_e ⟨hp, nm_e ⟨hp, nm_e ⟨hp, nm_e ⟨hp, nm_e ⟨hp, nm_e ⟨hp, nm_e ⟨hp, nm_e (yl_quiet hp fun A hA1 hA2 => hP _ ?_)⟩⟩⟩⟩⟩⟩⟩⟩⟩⟩⟩⟩⟩⟩⟩⟩⟩
  generalize p.toNatClampNeg = e at *
  refine (vy_mk h_now h_sent h_seq h_flags h_acked h_window h_many h_data (vk_e h_rows (fun e' _ => ?k1)) (vu_e h_state ?a1 (fun e' y => bg_o y _)) (vu_e h_error ?a2 (fun e' y => bg_o y _)) (vu_e h_iss ?a3 (fun e' y => bg_o y _)) (vu_l h_una ?a6 (fun e' y => bg_o y _)) (vu_l h_nxt ?a7 (fun e' y => bg_o y _)) (vu_l h_max ?a8 (fun e' y => bg_o y _)) (vu_l h_last ?c1 (fun e' y => bg_o y _)) (vu_e h_closed ?c2 (fun e' y => bg_o y _)) (fun e' he' p' z1 z2 z3 => ?c4) (vu_e h_irs ?a4 (fun e' y => bg_o y _)) (vu_e h_unread ?a5 (fun e' y => bg_o y _)) (fun e' he' i z => ?c5) (fun e' he' p' z => ?c6) (vu_l h_rcv ?a9 (fun e' y => bg_o y _)) (vu_l h_finAt ?c3 (fun e' y => bg_o y _)) (vm_none hA1 hA2 (fun e' he' _ => h_marked e' he') (fun e' y => bg_o y _)) (vu_e h_wnd ?b1 (fun e' y => bg_o y _)) (vu_e h_peak ?b2 (fun e' y => bg_o y _)) (vu_e h_half ?b3 (fun e' y => bg_o y _)) (vu_e h_rto ?b4 (fun e' y => bg_o y _)) (vu_e h_same ?c8 (fun e' y => bg_o y _)) (vu_e h_tries ?c9 (fun e' y => bg_o y _)) (vu_e h_smooth ?b5 (fun e' y => bg_o y _)) (vu_e h_spread ?b6 (fun e' y => bg_o y _)) (vk_e h_byNumber (fun e' _ => ?k2)) (vk_e h_byAck (fun e' _ => ?k3)) (vu_e h_sampled ?b7 (fun e' y => bg_o y _)) (vu_e h_told ?b8 (fun e' y => bg_o y _)) (vu_e h_retry ?d1 (fun e' y => bg_o y _)) (vu_e h_ackAt ?d2 (fun e' y => bg_o y _)) (vu_e h_waitAt ?d3 (fun e' y => bg_o y _)) (vk_e h_timedAt (fun e' _ => ?k4)) (vu_l h_timed ?d4 (fun e' y => bg_o y _)))
  case a3 => simp +decide only [gp_begin, ↓reduceIte]; exact hx
  case c4 =>
    by_cases y : e' = e
    · subst y; simp +decide only [gp_begin, ↓reduceIte] at z2 <;> omega
    · simp only [bg_o y] at z2 z3; exact h_written e' he' p' z1 z2 z3
  case c5 =>
    by_cases y : e' = e
    · subst y; simp +decide only [gp_begin, ↓reduceIte] at z <;> omega
    · simp only [bg_o y] at z ⊢; exact h_bytes e' he' i z
  case c6 => exact h_held e' he' p' (nn_H z)
  case k1 => by_cases y : e' = e <;> (first | (subst y; simp +decide only [gp_begin, ↓reduceIte]) | exact bg_o y _)
  case k2 => by_cases y : e' = e <;> (first | (subst y; simp +decide only [gp_begin, ↓reduceIte]) | exact bg_o y _)
  case k3 => by_cases y : e' = e <;> (first | (subst y; simp +decide only [gp_begin, ↓reduceIte]) | exact bg_o y _)
  case k4 => by_cases y : e' = e <;> (first | (subst y; simp +decide only [gp_begin, ↓reduceIte]) | exact bg_o y _)
  all_goals (simp +decide only [gp_begin, ↓reduceIte] <;> rfl)
