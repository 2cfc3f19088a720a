/-! the reference: read, a new object -/
theorem yr_153 {q K : Int} {G : gm_T} {f_now : Int32} {f_sent : Int32} {a_seq : (Nat → Int32)} {a_flags : (Nat → Int32)} {a_acked : (Nat → Int32)} {a_window : (Nat → Int32)} {a_many : (Nat → Int32)} {a_data : (Nat → Int32)} {a_rows : (Nat → Int32)} {a_state : (Nat → Int32)} {a_error : (Nat → Int32)} {a_iss : (Nat → Int32)} {a_una : (Nat → Int64)} {a_nxt : (Nat → Int64)} {a_max : (Nat → Int64)} {a_last : (Nat → Int64)} {a_closed : (Nat → Int32)} {a_written : (Nat → Int32)} {a_irs : (Nat → Int32)} {a_unread : (Nat → Int32)} {a_bytes : (Nat → Int32)} {a_held : (Nat → Int32)} {a_rcv : (Nat → Int64)} {a_finAt : (Nat → Int64)} {a_marked : (Nat → Int32)} {a_wnd : (Nat → Int32)} {a_peak : (Nat → Int32)} {a_half : (Nat → Int32)} {a_rto : (Nat → Int32)} {a_same : (Nat → Int32)} {a_tries : (Nat → Int32)} {a_smooth : (Nat → Int32)} {a_spread : (Nat → Int32)} {a_byNumber : (Nat → Int32)} {a_byAck : (Nat → Int32)} {a_sampled : (Nat → Int32)} {a_told : (Nat → Int32)} {a_retry : (Nat → Int32)} {a_ackAt : (Nat → Int32)} {a_waitAt : (Nat → Int32)} {a_timedAt : (Nat → Int32)} {a_timed : (Nat → Int64)} {P : Int64 → SY → Prop} {p x3 x4 : Int32} {x5 : Int64} {m : Int} (hv : vy_S q G (f_now, f_sent, a_seq, a_flags, a_acked, a_window, a_many, a_data, a_rows, a_state, a_error, a_iss, a_una, a_nxt, a_max, a_last, a_closed, a_written, a_irs, a_unread, a_bytes, a_held, a_rcv, a_finAt, a_marked, a_wnd, a_peak, a_half, a_rto, a_same, a_tries, a_smooth, a_spread, a_byNumber, a_byAck, a_sampled, a_told, a_retry, a_ackAt, a_waitAt, a_timedAt, a_timed)) (hI : gv_I K G) (hp : vp_in p 2) (hx3 : x3 = zi_n (24 - G.1 9 p.toNatClampNeg)) (hx4 : x4 = zi_n m) (hm0 : 1 ≤ m) (hmu : m ≤ G.1 9 p.toNatClampNeg) (hP : ∀ u', vy_S q (gp_read G p.toNatClampNeg m) u' → P x5 u') :
    ∀ (f j : Nat) (BY : Nat → Int32), (j : Int) ≤ G.1 9 p.toNatClampNeg - m → G.1 9 p.toNatClampNeg - m - j < f → (∀ i, i < j → BY (24 * p.toNatClampNeg + i) = a_bytes (24 * p.toNatClampNeg + i + m.toNat)) → (∀ i, (i < 24 * p.toNatClampNeg ∨ 24 * p.toNatClampNeg + j ≤ i) → BY i = a_bytes i) → wY_read_153 P p x3 x4 x5 f_now f_sent f (zi_n (24 * (p.toNatClampNeg : Int) + j)) a_seq a_flags a_acked a_window a_many a_data a_rows a_state a_error a_iss a_una a_nxt a_max a_last a_closed a_written a_irs (upd a_unread p.toNatClampNeg (zi_n (G.1 9 p.toNatClampNeg - m))) (BY) a_held a_rcv a_finAt a_marked a_wnd a_peak a_half a_rto a_same a_tries a_smooth a_spread a_byNumber a_byAck a_sampled a_told a_retry a_ackAt a_waitAt a_timedAt a_timed := by
  have he := pe_lt hp
  have hz := pe_z hp
  have hv0 := hv
  obtain ⟨h_now, h_sent, h_seq, h_flags, h_acked, h_window, h_many, h_data, h_rows, h_state, h_error, h_iss, h_una, h_nxt, h_max, h_last, h_closed, h_written, h_irs, h_unread, h_bytes, h_held, h_rcv, h_finAt, h_marked, h_wnd, h_peak, h_half, h_rto, h_same, h_tries, h_smooth, h_spread, h_byNumber, h_byAck, h_sampled, h_told, h_retry, h_ackAt, h_waitAt, h_timedAt, h_timed⟩ := hv0
  obtain ⟨b1, b2, b3, b4, b5, b6⟩ := hI.2.2.2.2.1 _ he
  unfold gv_a at b1
  have hur : 0 ≤ G.1 9 p.toNatClampNeg ∧ G.1 9 p.toNatClampNeg ≤ 24 := by unfold gv_r at b6; omega
  have hura : ∀ e', e' < 2 → G.1 9 e' ≤ 24 := fun e' he' => by
    have := (hI.2.2.2.2.1 e' he').2.2.2.2.2
    unfold gv_r at this; omega
  have e24 : 24 * p + zi_n (G.1 9 p.toNatClampNeg - m) = zi_n (24 * (p.toNatClampNeg : Int) + (G.1 9 p.toNatClampNeg - m)) := by
    generalize p.toNatClampNeg = e at *
    rw [hz, zk_24, zi_mul, zi_add]
  intro f
  induction f with
  | zero => intro j BY h1 h2; omega
  | succ f ih =>
    intro j BY h1 h2 h3 h4
    refine ⟨hp, ?_⟩
    rw [zu_s, e24]
    by_cases w : (j : Int) = G.1 9 p.toNatClampNeg - m
    · refine br_t (by rw [w]; exact Int32.le_refl _) ?_
      have hvr : vy_S q (gp_rd G p.toNatClampNeg m) (f_now, f_sent, a_seq, a_flags, a_acked, a_window, a_many, a_data, a_rows, a_state, a_error, a_iss, a_una, a_nxt, a_max, a_last, a_closed, a_written, a_irs, upd a_unread p.toNatClampNeg (zi_n (G.1 9 p.toNatClampNeg - m)), BY, a_held, a_rcv, a_finAt, a_marked, a_wnd, a_peak, a_half, a_rto, a_same, a_tries, a_smooth, a_spread, a_byNumber, a_byAck, a_sampled, a_told, a_retry, a_ackAt, a_waitAt, a_timedAt, a_timed) := by
        clear ih hP e24 hx3
        generalize p.toNatClampNeg = e at *
        have o : ∀ e' f, e' ≠ e → (gp_rd G e m).1 f e' = G.1 f e' := fun e' f y => by simp only [gp_rd, gs_e y]
        have vF : (gp_rd G e m).1 10 e = G.1 10 e + m := by simp +decide only [gp_rd, gs_s, gs_f]
        have vU : (gp_rd G e m).1 9 e = G.1 9 e - m := by simp +decide only [gp_rd, gs_s, gs_f]
        refine (vy_mk h_now h_sent h_seq h_flags h_acked h_window h_many h_data h_rows h_state h_error h_iss h_una h_nxt h_max h_last h_closed h_written h_irs (vu_e h_unread ?a1 (fun e' y => o e' 9 y)) (fun e' he' i z => ?a2) h_held h_rcv h_finAt h_marked h_wnd h_peak h_half h_rto h_same h_tries h_smooth h_spread h_byNumber h_byAck h_sampled h_told h_retry h_ackAt h_waitAt h_timedAt h_timed)
        case a1 => rw [vU]
        case a2 =>
          by_cases y : e' = e
          · subst y
            rw [vU] at z
            rw [vF, h3 i (by omega), Nat.add_assoc, h_bytes e' he' (i + m.toNat) (by omega), show G.1 10 e' + ((i + m.toNat : Nat) : Int) = G.1 10 e' + m + i from by omega]
            rfl
          · rw [o _ _ y] at z
            have := hura e' he'
            rw [o _ _ y, h4 _ (by omega)]
            exact h_bytes e' he' i z
      have hno : ¬ (24 - G.1 9 p.toNatClampNeg < 8 ∧ 7 < 24 - (G.1 9 p.toNatClampNeg - m) ∧ 3 < G.1 0 p.toNatClampNeg ∧ G.1 0 p.toNatClampNeg < 7) → P x5 (f_now, f_sent, a_seq, a_flags, a_acked, a_window, a_many, a_data, a_rows, a_state, a_error, a_iss, a_una, a_nxt, a_max, a_last, a_closed, a_written, a_irs, upd a_unread p.toNatClampNeg (zi_n (G.1 9 p.toNatClampNeg - m)), BY, a_held, a_rcv, a_finAt, a_marked, a_wnd, a_peak, a_half, a_rto, a_same, a_tries, a_smooth, a_spread, a_byNumber, a_byAck, a_sampled, a_told, a_retry, a_ackAt, a_waitAt, a_timedAt, a_timed) := by
        intro z
        refine hP _ ?_
        have : gp_read G p.toNatClampNeg m = gp_rd G p.toNatClampNeg m := if_neg z
        rw [this]; exact hvr
      by_cases c1 : 8 ≤ 24 - G.1 9 p.toNatClampNeg
      · exact br_t (by rw [hx3, zk_8, zi_le (by omega) (by omega) (by omega) (by omega)]; exact c1) (hno (by omega))
      · refine br_f (by rw [hx3, zk_8, zi_le (by omega) (by omega) (by omega) (by omega)]; exact c1) (yl_own hp zu_s ?_)
        by_cases c2 : 24 - (G.1 9 p.toNatClampNeg - m) ≤ 7
        · exact br_t (by rw [zk_7, zi_le (by omega) (by omega) (by omega) (by omega)]; exact c2) (hno (by omega))
        · refine br_f (by rw [zk_7, zi_le (by omega) (by omega) (by omega) (by omega)]; exact c2) ⟨hp, ?_⟩
          by_cases c3 : G.1 0 p.toNatClampNeg ≤ 3
          · exact br_t (by rw [h_state _ he, zk_3, zi_le (by omega) (by omega) (by omega) (by omega)]; exact c3) (hno (by omega))
          · refine br_f (by rw [h_state _ he, zk_3, zi_le (by omega) (by omega) (by omega) (by omega)]; exact c3) ⟨hp, ?_⟩
            by_cases c4 : 7 ≤ G.1 0 p.toNatClampNeg
            · exact br_t (by rw [h_state _ he, zk_7, zi_le (by omega) (by omega) (by omega) (by omega)]; exact c4) (hno (by omega))
            · have hr : gp_read G p.toNatClampNeg m = gp_ack (gp_rd G p.toNatClampNeg m) p.toNatClampNeg := if_pos ⟨by omega, by omega, by omega, by omega⟩
              have hIr := iv_rd (m := m) hI he (by omega) hmu
              have sT : (gp_rd G p.toNatClampNeg m).1 0 p.toNatClampNeg = G.1 0 p.toNatClampNeg := by simp +decide only [gp_rd, gs_f]
              refine br_f (by rw [h_state _ he, zk_7, zi_le (by omega) (by omega) (by omega) (by omega)]; exact c4) (yl_ack hvr hIr hp (by rw [sT]; omega) fun u1 hv1 => ?_)
              rw [← hr] at hv1
              have := hP u1 hv1
              obtain ⟨f_now, f_sent, a_seq, a_flags, a_acked, a_window, a_many, a_data, a_rows, a_state, a_error, a_iss, a_una, a_nxt, a_max, a_last, a_closed, a_written, a_irs, a_unread, a_bytes, a_held, a_rcv, a_finAt, a_marked, a_wnd, a_peak, a_half, a_rto, a_same, a_tries, a_smooth, a_spread, a_byNumber, a_byAck, a_sampled, a_told, a_retry, a_ackAt, a_waitAt, a_timedAt, a_timed⟩ := u1
              exact this
    · have i1 : zi_n (24 * (p.toNatClampNeg : Int) + j) + x4 = zi_n (24 * (p.toNatClampNeg : Int) + j + m) := by rw [hx4, zi_add]
      have i2 : (zi_n (24 * (p.toNatClampNeg : Int) + j)).toNatClampNeg = 24 * p.toNatClampNeg + j := by rw [zi_cl (by omega) (by omega)]; omega
      have i3 : (zi_n (24 * (p.toNatClampNeg : Int) + j + m)).toNatClampNeg = 24 * p.toNatClampNeg + j + m.toNat := by rw [zi_cl (by omega) (by omega)]; omega
      refine br_f (by rw [zi_le (by omega) (by omega) (by omega) (by omega)]; omega) ?_
      rw [i1, i2, i3]
      refine ⟨zi_in (by omega) (by omega) (by omega), zi_in (by omega) (by omega) (by omega), nm_e (nm_r (e' := zi_n (24 * (p.toNatClampNeg : Int) + ((j + 1 : Nat) : Int))) (by rw [zk_1, zi_add]; congr 1 <;> omega) (ih (j + 1) _ (by omega) (by omega) ?_ ?_))⟩
      · intro i hi
        by_cases y : i = j
        · rw [y, zu_s, h4 _ (by omega)]
        · rw [zu_n (by omega)]; exact h3 i (by omega)
      · intro i hi
        rw [zu_n (by omega)]; exact h4 i (by omega)
theorem yr_99 {q K : Int} {G : gm_T} {f_now : Int32} {f_sent : Int32} {a_seq : (Nat → Int32)} {a_flags : (Nat → Int32)} {a_acked : (Nat → Int32)} {a_window : (Nat → Int32)} {a_many : (Nat → Int32)} {a_data : (Nat → Int32)} {a_rows : (Nat → Int32)} {a_state : (Nat → Int32)} {a_error : (Nat → Int32)} {a_iss : (Nat → Int32)} {a_una : (Nat → Int64)} {a_nxt : (Nat → Int64)} {a_max : (Nat → Int64)} {a_last : (Nat → Int64)} {a_closed : (Nat → Int32)} {a_written : (Nat → Int32)} {a_irs : (Nat → Int32)} {a_unread : (Nat → Int32)} {a_bytes : (Nat → Int32)} {a_held : (Nat → Int32)} {a_rcv : (Nat → Int64)} {a_finAt : (Nat → Int64)} {a_marked : (Nat → Int32)} {a_wnd : (Nat → Int32)} {a_peak : (Nat → Int32)} {a_half : (Nat → Int32)} {a_rto : (Nat → Int32)} {a_same : (Nat → Int32)} {a_tries : (Nat → Int32)} {a_smooth : (Nat → Int32)} {a_spread : (Nat → Int32)} {a_byNumber : (Nat → Int32)} {a_byAck : (Nat → Int32)} {a_sampled : (Nat → Int32)} {a_told : (Nat → Int32)} {a_retry : (Nat → Int32)} {a_ackAt : (Nat → Int32)} {a_waitAt : (Nat → Int32)} {a_timedAt : (Nat → Int32)} {a_timed : (Nat → Int64)} {P : Int64 → SY → Prop} {p x3 x4 : Int32} {m : Int} (hv : vy_S q G (f_now, f_sent, a_seq, a_flags, a_acked, a_window, a_many, a_data, a_rows, a_state, a_error, a_iss, a_una, a_nxt, a_max, a_last, a_closed, a_written, a_irs, a_unread, a_bytes, a_held, a_rcv, a_finAt, a_marked, a_wnd, a_peak, a_half, a_rto, a_same, a_tries, a_smooth, a_spread, a_byNumber, a_byAck, a_sampled, a_told, a_retry, a_ackAt, a_waitAt, a_timedAt, a_timed)) (hI : gv_I K G) (hp : vp_in p 2) (hx3 : x3 = zi_n (24 - G.1 9 p.toNatClampNeg)) (hx4 : x4 = zi_n m) (hm0 : 1 ≤ m) (hm7 : m ≤ 7) (hmu : m ≤ G.1 9 p.toNatClampNeg) (hP : ∀ u', vy_S q (gp_read G p.toNatClampNeg m) u' → P (gr_v G p.toNatClampNeg m m.toNat) u') :
    ∀ (f i : Nat), (i : Int) ≤ m → m - i < f → wY_read_99 P p x3 x4 f_now f_sent a_seq a_flags a_acked a_window a_many a_data a_rows a_state a_error a_iss a_una a_nxt a_max a_last a_closed a_written a_irs a_unread a_bytes a_held a_rcv a_finAt a_marked a_wnd a_peak a_half a_rto a_same a_tries a_smooth a_spread a_byNumber a_byAck a_sampled a_told a_retry a_ackAt a_waitAt a_timedAt a_timed f (gr_v G p.toNatClampNeg m i) (nI i) := by
  have he := pe_lt hp
  have hz := pe_z hp
  have hv0 := hv
  obtain ⟨h_now, h_sent, h_seq, h_flags, h_acked, h_window, h_many, h_data, h_rows, h_state, h_error, h_iss, h_una, h_nxt, h_max, h_last, h_closed, h_written, h_irs, h_unread, h_bytes, h_held, h_rcv, h_finAt, h_marked, h_wnd, h_peak, h_half, h_rto, h_same, h_tries, h_smooth, h_spread, h_byNumber, h_byAck, h_sampled, h_told, h_retry, h_ackAt, h_waitAt, h_timedAt, h_timed⟩ := hv0
  obtain ⟨b1, b2, b3, b4, b5, b6⟩ := hI.2.2.2.2.1 _ he
  have hur : 0 ≤ G.1 9 p.toNatClampNeg ∧ G.1 9 p.toNatClampNeg ≤ 24 := by unfold gv_r at b6; omega
  intro f
  induction f with
  | zero => intro i h1 h2; omega
  | succ f ih =>
    intro i h1 h2
    by_cases w : (i : Int) = m
    · obtain rfl : i = m.toNat := by omega
      refine br_t (by rw [hx4, zi_nI, w]; exact Int32.le_refl _) ⟨hp, hp, nm_r (e' := upd a_unread p.toNatClampNeg (zi_n (G.1 9 p.toNatClampNeg - m))) (by rw [h_unread _ he, hx4, zi_sub]) (nm_r (e' := zi_n (24 * (p.toNatClampNeg : Int) + ((0 : Nat) : Int))) ?_ ⟨25, ?_⟩)⟩
      · generalize p.toNatClampNeg = e at *
        rw [hz, zk_24, zi_mul]; congr 1
      · exact yr_153 hv hI hp hx3 hx4 hm0 hmu hP 25 0 a_bytes (by omega) (by omega) (fun i hi => by omega) (fun i _ => rfl)
    · have i1 : 24 * p + nI i = zi_n (24 * (p.toNatClampNeg : Int) + i) := by
        generalize p.toNatClampNeg = e at *
        rw [hz, zi_nI, zk_24, zi_mul, zi_add]
      have i2 : (24 * p + nI i).toNatClampNeg = 24 * p.toNatClampNeg + i := by rw [i1, zi_cl (by omega) (by omega)]; omega
      have ev : a_bytes (24 * p + nI i).toNatClampNeg = zi_n (gm_B G p.toNatClampNeg (G.1 10 p.toNatClampNeg + i)) := by rw [i2]; exact h_bytes _ he i (by omega)
      refine br_f (by rw [hx4, zi_nI, zi_le (by omega) (by omega) (by omega) (by omega)]; omega) ⟨by rw [i1]; exact zi_in (by omega) (by omega) (by omega), nm_r (e' := gr_v G p.toNatClampNeg m (i + 1)) ?_ (nm_r (nI_1 i) (ih (i + 1) (by omega) (by omega)))⟩
      rw [ev]; rfl
theorem yl_read {q K : Int} {G : gm_T} {u : SY} {P : Int64 → SY → Prop} {x y : Int32} {n : Int} (hv : vy_S q G u) (hI : gv_I K G) (hy : y = zi_n n) (h0 : -2147483648 ≤ n) (h1 : n < 2147483648) (hA : ¬ (vp_in x 2 ∧ (1 ≤ n ∧ n ≤ 7)) → P (-1) u) (hC : vp_in x 2 → (1 ≤ n ∧ n ≤ 7) → G.1 9 x.toNatClampNeg = 0 → P (if G.1 0 x.toNatClampNeg = 0 ∨ 6 < G.1 0 x.toNatClampNeg then -1 else 0) u) (hB : vp_in x 2 → (1 ≤ n ∧ n ≤ 7) → G.1 9 x.toNatClampNeg ≠ 0 → ∀ u', vy_S q (gp_read G x.toNatClampNeg (min n (G.1 9 x.toNatClampNeg))) u' → P (gr_v G x.toNatClampNeg (min n (G.1 9 x.toNatClampNeg)) (min n (G.1 9 x.toNatClampNeg)).toNat) u') : wpY_read P u x y := by
  obtain ⟨f_now, f_sent, a_seq, a_flags, a_acked, a_window, a_many, a_data, a_rows, a_state, a_error, a_iss, a_una, a_nxt, a_max, a_last, a_closed, a_written, a_irs, a_unread, a_bytes, a_held, a_rcv, a_finAt, a_marked, a_wnd, a_peak, a_half, a_rto, a_same, a_tries, a_smooth, a_spread, a_byNumber, a_byAck, a_sampled, a_told, a_retry, a_ackAt, a_waitAt, a_timedAt, a_timed⟩ := u
  have hv0 := hv
  obtain ⟨h_now, h_sent, h_seq, h_flags, h_acked, h_window, h_many, h_data, h_rows, h_state, h_error, h_iss, h_una, h_nxt, h_max, h_last, h_closed, h_written, h_irs, h_unread, h_bytes, h_held, h_rcv, h_finAt, h_marked, h_wnd, h_peak, h_half, h_rto, h_same, h_tries, h_smooth, h_spread, h_byNumber, h_byAck, h_sampled, h_told, h_retry, h_ackAt, h_waitAt, h_timedAt, h_timed⟩ := hv0
  unfold wpY_read
  refine yl_end (fun hp => ?_) (fun hp => br_f (by decide) (hA (fun w => hp w.1)))
  have he := pe_lt hp
  obtain ⟨b1, b2, b3, b4, b5, b6⟩ := hI.2.2.2.2.1 _ he
  unfold gv_a at b1
  have hur : 0 ≤ G.1 9 x.toNatClampNeg ∧ G.1 9 x.toNatClampNeg ≤ 24 := by unfold gv_r at b6; omega
  refine br_t rfl (yl_no hy zk_1 zk_7 h0 h1 (by omega) (by omega) (by omega) (by omega) (fun c1 c2 => ?_) (fun c => br_f (by decide) (hA (fun w => c w.2))))
  subst hy
  refine br_t rfl ⟨hp, ?_⟩
  by_cases c3 : G.1 9 x.toNatClampNeg = 0
  · have hc := hC hp ⟨c1, c2⟩ c3
    refine br_t (by rw [h_unread _ he, c3]; rfl) ⟨hp, ?_⟩
    by_cases c4 : G.1 0 x.toNatClampNeg = 0
    · rw [if_pos (Or.inl c4)] at hc
      exact br_t (by rw [h_state _ he, c4]; rfl) hc
    · refine br_f (by rw [h_state _ he, zk_0, zi_eq (by omega) (by omega) (by omega) (by omega)]; exact c4) ⟨hp, ?_⟩
      by_cases c5 : G.1 0 x.toNatClampNeg ≤ 6
      · rw [if_neg (by omega)] at hc
        exact br_t (by rw [h_state _ he, zk_6, zi_le (by omega) (by omega) (by omega) (by omega)]; exact c5) hc
      · rw [if_pos (by omega)] at hc
        exact br_f (by rw [h_state _ he, zk_6, zi_le (by omega) (by omega) (by omega) (by omega)]; exact c5) hc
  · have hb := hB hp ⟨c1, c2⟩ c3
    have k86 : ∀ z0 : Int32, z0 = zi_n (min n (G.1 9 x.toNatClampNeg)) → wY_read_86 P x (zi_n (24 - G.1 9 x.toNatClampNeg)) z0 f_now f_sent a_seq a_flags a_acked a_window a_many a_data a_rows a_state a_error a_iss a_una a_nxt a_max a_last a_closed a_written a_irs a_unread a_bytes a_held a_rcv a_finAt a_marked a_wnd a_peak a_half a_rto a_same a_tries a_smooth a_spread a_byNumber a_byAck a_sampled a_told a_retry a_ackAt a_waitAt a_timedAt a_timed := by
      intro z0 hz0
      unfold wY_read_86
      rw [hz0]
      exact nm_e ⟨9, yr_99 hv hI hp rfl rfl (by omega) (by omega) (by omega) hb 9 0 (by omega) (by omega)⟩
    refine br_f (by rw [h_unread _ he, zk_0, zi_eq (by omega) (by omega) (by omega) (by omega)]; exact c3) (yl_own hp (h_unread _ he) ⟨hp, ?_⟩)
    by_cases c4 : n ≤ G.1 9 x.toNatClampNeg
    · exact br_t (by rw [h_unread _ he, zi_le h0 h1 (by omega) (by omega)]; exact c4) (k86 _ (by congr 1; omega))
    · exact br_f (by rw [h_unread _ he, zi_le h0 h1 (by omega) (by omega)]; exact c4) ⟨hp, k86 _ (by rw [h_unread _ he]; congr 1; omega)⟩
/-- a new object -/
def gy_0 : gm_T := (fun _ _ => 0, fun _ _ => 0, fun _ _ => 0, fun _ _ => false, fun _ _ => 0, fun _ => 0, 0, 0)
theorem gy_x : gp_begin (gp_begin gy_0 0 0) 1 0 = gp_begin (gp_begin gx_0 0 0) 1 0 := by
  refine Prod.ext ?_ rfl
  funext f e
  by_cases hf : f = 13 ∨ f = 26
  · by_cases h1 : e = 1
    · subst h1
      rcases hf with rfl | rfl <;> simp +decide only [gp_begin, ↓reduceIte]
    · by_cases h0 : e = 0
      · subst h0
        rcases hf with rfl | rfl <;> simp +decide only [gp_begin, ↓reduceIte]
      · have hx : gx_0.1 f e = 0 := if_neg (fun z => by omega)
        have hy : gy_0.1 f e = 0 := rfl
        simp only [gp_begin, h1, h0, ↓reduceIte, hx, hy]
  · have hx : ∀ e', gx_0.1 f e' = gy_0.1 f e' := fun e' => if_neg (fun z => hf z.1)
    simp only [gp_begin, hx]
theorem yl_init {P : SY → Prop} (hP : ∀ u', vy_S 0 (gp_begin (gp_begin gx_0 0 0) 1 0) u' → P u') : wpY_init P := by
  have p0 : vp_in 0 2 := zi_in (a := 0) (by omega) (by omega) (by omega)
  have p1 : vp_in 1 2 := zi_in (a := 1) (by omega) (by omega) (by omega)
  have c0 : (0 : Int32).toNatClampNeg = 0 := by decide
  have c1 : (1 : Int32).toNatClampNeg = 1 := by decide
  have hv : vy_S 0 gy_0 (0, 0, (fun _ => 0), (fun _ => 0), (fun _ => 0), (fun _ => 0), (fun _ => 0), (fun _ => 0), (fun _ => 0), (fun _ => 0), (fun _ => 0), (fun _ => 0), (fun _ => 0), (fun _ => 0), (fun _ => 0), (fun _ => 0), (fun _ => 0), (fun _ => 0), (fun _ => 0), (fun _ => 0), (fun _ => 0), (fun _ => 0), (fun _ => 0), (fun _ => 0), (fun _ => 0), (fun _ => 0), (fun _ => 0), (fun _ => 0), (fun _ => 0), (fun _ => 0), (fun _ => 0), (fun _ => 0), (fun _ => 0), (fun _ => 0), (fun _ => 0), (fun _ => 0), (fun _ => 0), (fun _ => 0), (fun _ => 0), (fun _ => 0), (fun _ => 0), (fun _ => 0)) := by
    have i0 : ∀ i : Nat, i < 32 → (fun _ : Nat => (0 : Int32)) i = zi_n 0 := fun _ _ => rfl
    have e0 : ∀ i : Nat, i < 2 → (fun _ : Nat => (0 : Int32)) i = zi_n 0 := fun _ _ => rfl
    have l0 : ∀ i : Nat, i < 2 → (fun _ : Nat => (0 : Int64)) i = zl_n 0 := fun _ _ => rfl
    refine vy_mk rfl rfl i0 i0 i0 i0 i0 (fun _ _ => rfl) e0 e0 e0 e0 l0 l0 l0 l0 e0 (fun e he p h1 h2 h3 => ?_) e0 e0 (fun e he i h => ?_) (fun e he p h => ?_) l0 l0 (fun e he p h1 h2 => rfl) e0 e0 e0 e0 e0 e0 e0 e0 e0 e0 e0 e0 e0 e0 e0 e0 l0
    · have h2' : p < 0 := h2
      omega
    · have h' : (i : Int) < 0 := h
      omega
    · cases h
  unfold wpY_init
  refine yl_first hv p0 zk_0 fun u1 hv1 => ?_
  rw [c0] at hv1
  obtain ⟨f_now, f_sent, a_seq, a_flags, a_acked, a_window, a_many, a_data, a_rows, a_state, a_error, a_iss, a_una, a_nxt, a_max, a_last, a_closed, a_written, a_irs, a_unread, a_bytes, a_held, a_rcv, a_finAt, a_marked, a_wnd, a_peak, a_half, a_rto, a_same, a_tries, a_smooth, a_spread, a_byNumber, a_byAck, a_sampled, a_told, a_retry, a_ackAt, a_waitAt, a_timedAt, a_timed⟩ := u1
  refine yl_first hv1 p1 zk_0 fun u2 hv2 => ?_
  rw [c1, gy_x] at hv2
  have := hP u2 hv2
  obtain ⟨f_now, f_sent, a_seq, a_flags, a_acked, a_window, a_many, a_data, a_rows, a_state, a_error, a_iss, a_una, a_nxt, a_max, a_last, a_closed, a_written, a_irs, a_unread, a_bytes, a_held, a_rcv, a_finAt, a_marked, a_wnd, a_peak, a_half, a_rto, a_same, a_tries, a_smooth, a_spread, a_byNumber, a_byAck, a_sampled, a_told, a_retry, a_ackAt, a_waitAt, a_timedAt, a_timed⟩ := u2
  exact this
