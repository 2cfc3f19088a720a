/-! the reference: bytes put in order -/
theorem yl_at {P : Int32 → Prop} {p : Int32} {x : Int64} {a : Int} (hp : vp_in p 2) (hx : x = zl_n a) (h : P (zi_n (64 * (p.toNatClampNeg : Int) + a % 64))) : wpY_at P p x := by
  have hz := pe_z hp
  unfold wpY_at
  have e1 : 64 * p + (x &&& 63).toInt32 = zi_n (64 * (p.toNatClampNeg : Int) + a % 64) := by
    rw [hx, zl_a6, zl_i]
    generalize p.toNatClampNeg = e at *
    rw [hz, zk_64, zi_mul, zi_add]
  rw [e1]; exact h
theorem yh_22 {P : Int32 → Prop} {f_now : Int32} {f_sent : Int32} {a_seq : (Nat → Int32)} {a_flags : (Nat → Int32)} {a_acked : (Nat → Int32)} {a_window : (Nat → Int32)} {a_many : (Nat → Int32)} {a_data : (Nat → Int32)} {a_rows : (Nat → Int32)} {a_state : (Nat → Int32)} {a_error : (Nat → Int32)} {a_iss : (Nat → Int32)} {a_una : (Nat → Int64)} {a_nxt : (Nat → Int64)} {a_max : (Nat → Int64)} {a_last : (Nat → Int64)} {a_closed : (Nat → Int32)} {a_written : (Nat → Int32)} {a_irs : (Nat → Int32)} {a_unread : (Nat → Int32)} {a_bytes : (Nat → Int32)} {a_held : (Nat → Int32)} {a_rcv : (Nat → Int64)} {a_finAt : (Nat → Int64)} {a_marked : (Nat → Int32)} {a_wnd : (Nat → Int32)} {a_peak : (Nat → Int32)} {a_half : (Nat → Int32)} {a_rto : (Nat → Int32)} {a_same : (Nat → Int32)} {a_tries : (Nat → Int32)} {a_smooth : (Nat → Int32)} {a_spread : (Nat → Int32)} {a_byNumber : (Nat → Int32)} {a_byAck : (Nat → Int32)} {a_sampled : (Nat → Int32)} {a_told : (Nat → Int32)} {a_retry : (Nat → Int32)} {a_ackAt : (Nat → Int32)} {a_waitAt : (Nat → Int32)} {a_timedAt : (Nat → Int32)} {a_timed : (Nat → Int64)} {p : Int32} (hp : vp_in p 2) (hc : ∀ j, j < 64 → a_marked (64 * p.toNatClampNeg + j) = 0 ∨ a_marked (64 * p.toNatClampNeg + j) = 1) : ∀ (f i : Nat) (b : Int32), i ≤ 64 → 64 - i < f → (b = 0 ∨ b = 1) → ((b = 1 ∨ ∃ j, i ≤ j ∧ j < 64 ∧ ¬ a_marked (64 * p.toNatClampNeg + j) = 0) → P 1) → (¬ (b = 1 ∨ ∃ j, i ≤ j ∧ j < 64 ∧ ¬ a_marked (64 * p.toNatClampNeg + j) = 0) → P 0) → wY_holds_22 P p f_now f_sent a_seq a_flags a_acked a_window a_many a_data a_rows a_state a_error a_iss a_una a_nxt a_max a_last a_closed a_written a_irs a_unread a_bytes a_held a_rcv a_finAt a_marked a_wnd a_peak a_half a_rto a_same a_tries a_smooth a_spread a_byNumber a_byAck a_sampled a_told a_retry a_ackAt a_waitAt a_timedAt a_timed f b (zi_n (64 * (p.toNatClampNeg : Int) + i)) := by
  have hz := pe_z hp
  have hl := pe_lt hp
  have e64 : 64 * p + 64 = zi_n (64 * (p.toNatClampNeg : Int) + 64) := by
    generalize p.toNatClampNeg = e at *
    rw [hz, zk_64, zi_mul, zi_add]
  intro f
  induction f with
  | zero => intro i b h1 h2; omega
  | succ f ih =>
    intro i b h1 h2 hb ht hf
    by_cases q : i = 64
    · subst q
      refine br_t (by rw [e64]; exact Int32.le_refl _) ?_
      rcases hb with rfl | rfl
      · exact ⟨rfl, hf (by intro z; rcases z with h | ⟨j, h3, h4, _⟩; exact absurd h (by decide); omega)⟩
      · exact ⟨rfl, ht (Or.inl rfl)⟩
    · have e2 : (zi_n (64 * (p.toNatClampNeg : Int) + i)).toNatClampNeg = 64 * p.toNatClampNeg + i := by
        rw [zi_cl (by omega) (by omega)]; omega
      refine br_f (by rw [e64, zi_le (by omega) (by omega) (by omega) (by omega)]; omega) ⟨zi_in (by omega) (by omega) (by omega), ?_⟩
      have nx : zi_n (64 * (p.toNatClampNeg : Int) + i) + 1 = zi_n (64 * (p.toNatClampNeg : Int) + ((i + 1 : Nat) : Int)) := by
        rw [zk_1, zi_add]; congr 1
      rw [e2]
      rcases hb with rfl | rfl
      · rcases hc i (by omega) with w | w
        · refine nm_r (e' := 0) (by rw [w]; decide) (nm_r nx (ih (i + 1) 0 (by omega) (by omega) (Or.inl rfl) (fun z => ht ?_) (fun z => hf ?_)))
          · rcases z with z | ⟨j, z1, z2, z3⟩
            · exact Or.inl z
            · exact Or.inr ⟨j, by omega, z2, z3⟩
          · intro y
            apply z
            rcases y with y | ⟨j, z1, z2, z3⟩
            · exact Or.inl y
            · refine Or.inr ⟨j, ?_, z2, z3⟩
              have : j ≠ i := fun h => z3 (h ▸ w)
              omega
        · refine nm_r (e' := 1) (by rw [w]; decide) (nm_r nx (ih (i + 1) 1 (by omega) (by omega) (Or.inr rfl) (fun _ => ht (Or.inr ⟨i, Nat.le_refl i, by omega, by rw [w]; decide⟩)) (fun z => absurd (Or.inl rfl) z)))
      · refine nm_r (e' := 1) (by rcases hc i (by omega) with w | w <;> rw [w] <;> decide) (nm_r nx (ih (i + 1) 1 (by omega) (by omega) (Or.inr rfl) (fun _ => ht (Or.inl rfl)) (fun z => absurd (Or.inl rfl) z)))
theorem yl_holds {q K : Int} {G : gm_T} {u : SY} {p : Int32} {P : Int32 → Prop} (hv : vy_S q G u) (hI : gv_I K G) (hp : vp_in p 2) (ht : gp_any G p.toNatClampNeg = true → P 1) (hf : gp_any G p.toNatClampNeg = false → P 0) : wpY_holds P u p := by
  obtain ⟨f_now, f_sent, a_seq, a_flags, a_acked, a_window, a_many, a_data, a_rows, a_state, a_error, a_iss, a_una, a_nxt, a_max, a_last, a_closed, a_written, a_irs, a_unread, a_bytes, a_held, a_rcv, a_finAt, a_marked, a_wnd, a_peak, a_half, a_rto, a_same, a_tries, a_smooth, a_spread, a_byNumber, a_byAck, a_sampled, a_told, a_retry, a_ackAt, a_waitAt, a_timedAt, a_timed⟩ := u
  obtain ⟨h_now, h_sent, h_seq, h_flags, h_acked, h_window, h_many, h_data, h_rows, h_state, h_error, h_iss, h_una, h_nxt, h_max, h_last, h_closed, h_written, h_irs, h_unread, h_bytes, h_held, h_rcv, h_finAt, h_marked, h_wnd, h_peak, h_half, h_rto, h_same, h_tries, h_smooth, h_spread, h_byNumber, h_byAck, h_sampled, h_told, h_retry, h_ackAt, h_waitAt, h_timedAt, h_timed⟩ := hv
  have he := pe_lt hp
  have hz := pe_z hp
  obtain ⟨b1, b2, b3, b4, b5, b6⟩ := hI.2.2.2.2.1 _ he
  unfold gv_r at b6
  obtain ⟨q1, q2, q3, q4, q5, q6, q7, q8, q9, qa, qb, qc⟩ := b6
  have hK := hI.2.1
  have cell : ∀ j : Nat, j < 64 → a_marked (64 * p.toNatClampNeg + j) = (if gm_H G p.toNatClampNeg (G.1 8 p.toNatClampNeg + ((j : Int) - G.1 8 p.toNatClampNeg) % 64) = true then 1 else 0) := by
    intro j hj
    have h := h_marked _ he (G.1 8 p.toNatClampNeg + ((j : Int) - G.1 8 p.toNatClampNeg) % 64) (by omega) (by omega)
    rw [show ((G.1 8 p.toNatClampNeg + ((j : Int) - G.1 8 p.toNatClampNeg) % 64) % 64).toNat = j from by omega] at h
    exact h
  have hc : ∀ j, j < 64 → a_marked (64 * p.toNatClampNeg + j) = 0 ∨ a_marked (64 * p.toNatClampNeg + j) = 1 := by
    intro j hj
    rw [cell j hj]
    split
    · exact Or.inr rfl
    · exact Or.inl rfl
  have ex : (∃ j, 0 ≤ j ∧ j < 64 ∧ ¬ a_marked (64 * p.toNatClampNeg + j) = 0) ↔ ∃ p', G.1 8 p.toNatClampNeg ≤ p' ∧ p' < G.1 8 p.toNatClampNeg + 24 ∧ gm_H G p.toNatClampNeg p' = true := by
    constructor
    · rintro ⟨j, _, hj, hn⟩
      rw [cell j hj] at hn
      by_cases w : gm_H G p.toNatClampNeg (G.1 8 p.toNatClampNeg + ((j : Int) - G.1 8 p.toNatClampNeg) % 64) = true
      · have := qc _ w
        exact ⟨_, by omega, by omega, w⟩
      · rw [if_neg w] at hn; exact absurd rfl hn
    · rintro ⟨p', h1, h2, h3⟩
      have h := h_marked _ he p' h1 (by omega)
      rw [if_pos h3] at h
      refine ⟨(p' % 64).toNat, by omega, by omega, ?_⟩
      rw [h]; decide
  have e0 : 64 * p = zi_n (64 * (p.toNatClampNeg : Int) + ((0 : Nat) : Int)) := by
    generalize p.toNatClampNeg = e at *
    rw [hz, zk_64, zi_mul]; congr 1
  unfold wpY_holds
  refine ⟨hp, ?_⟩
  by_cases w : G.1 11 p.toNatClampNeg < 0
  · refine br_t (by rw [h_finAt _ he, zk_l0, zl_lt (by omega) (by omega) (by omega) (by omega)]; exact w) (nm_r e0 ⟨65, ?_⟩)
    refine yh_22 hp hc 65 0 0 (by omega) (by omega) (Or.inl rfl) (fun z => ht ?_) (fun z => hf ?_)
    · rw [an_iff]
      rcases z with z | z
      · exact absurd z (by decide)
      · exact Or.inr (ex.mp z)
    · rw [← Bool.not_eq_true, an_iff]
      rintro (y | y)
      · omega
      · exact z (Or.inr (ex.mpr y))
  · have := qb (by omega)
    refine br_f (by rw [h_finAt _ he, zk_l0, zl_lt (by omega) (by omega) (by omega) (by omega)]; exact w) (nm_r e0 ⟨65, ?_⟩)
    exact yh_22 hp hc 65 0 1 (by omega) (by omega) (Or.inr rfl) (fun _ => ht (an_iff.mpr (Or.inl (by omega)))) (fun z => absurd (Or.inl rfl) z)
theorem ho_keep {G : gm_T} {e k : Nat} {o i : Int} (h : ∀ p, gp_new G e k o (i + 1) p = true → gp_new G e k o i p = true ∨ gm_H G e p = true) : gp_hold1 G e k o (i + 1) = gp_hold1 G e k o i := by
  have m1 : ∀ p, gp_new G e k o i p = true → gp_new G e k o (i + 1) p = true := fun p z => by rw [nw_e] at *; omega
  have hH : gm_H (gp_hold1 G e k o (i + 1)) = gm_H (gp_hold1 G e k o i) := by
    show gm_h _ _ _ = gm_h _ _ _
    congr 1
    funext p
    cases h1 : gm_H G e p
    · cases h2 : gp_new G e k o i p
      · cases h3 : gp_new G e k o (i + 1) p
        · rfl
        · have := h p h3; rw [h1, h2] at this; rcases this with z | z <;> cases z
      · rw [m1 p h2]
    · rfl
  have hB : gm_B (gp_hold1 G e k o (i + 1)) = gm_B (gp_hold1 G e k o i) := by
    show gm_b _ _ _ = gm_b _ _ _
    congr 1
    funext p
    by_cases h1 : gm_H G e p = false ∧ gp_new G e k o i p = true
    · rw [if_pos h1, if_pos ⟨h1.1, m1 p h1.2⟩]
    · rw [if_neg h1, if_neg]
      intro z
      apply h1
      refine ⟨z.1, ?_⟩
      rcases h p z.2 with y | y
      · exact y
      · rw [z.1] at y; cases y
  show (G.1, gm_W G, gm_B (gp_hold1 G e k o (i + 1)), gm_H (gp_hold1 G e k o (i + 1)), gm_L G, gm_D G, gm_N G, gm_S G) = (G.1, gm_W G, gm_B (gp_hold1 G e k o i), gm_H (gp_hold1 G e k o i), gm_L G, gm_D G, gm_N G, gm_S G)
  rw [hH, hB]
theorem ho_0 {G : gm_T} {e k : Nat} {o : Int} : gp_hold1 G e k o 0 = G := by
  have e0 : ∀ p', gp_new G e k o 0 p' = false := fun p' => by rw [← Bool.not_eq_true, nw_e]; omega
  have hH : gm_H (gp_hold1 G e k o 0) = gm_H G := by
    funext e' p'
    have t : gm_H (gp_hold1 G e k o 0) e' p' = if e' = e then (gm_H G e p' || gp_new G e k o 0 p') else gm_H G e' p' := rfl
    rw [t]
    split
    · rename_i h; rw [h, e0, Bool.or_false]
    · rfl
  have hB : gm_B (gp_hold1 G e k o 0) = gm_B G := by
    funext e' p'
    have t : gm_B (gp_hold1 G e k o 0) e' p' = if e' = e then (if gm_H G e p' = false ∧ gp_new G e k o 0 p' = true then gm_D G (8 * k + (p' - G.1 8 e - o).toNat) else gm_B G e p') else gm_B G e' p' := rfl
    rw [t]
    split
    · rename_i h; rw [h, if_neg (fun z => by have := z.2; rw [e0] at this; cases this)]
    · rfl
  show (G.1, gm_W G, gm_B (gp_hold1 G e k o 0), gm_H (gp_hold1 G e k o 0), gm_L G, gm_D G, gm_N G, gm_S G) = G
  rw [hH, hB]
theorem vy_hset {q : Int} {G : gm_T} {f_now : Int32} {f_sent : Int32} {a_seq : (Nat → Int32)} {a_flags : (Nat → Int32)} {a_acked : (Nat → Int32)} {a_window : (Nat → Int32)} {a_many : (Nat → Int32)} {a_data : (Nat → Int32)} {a_rows : (Nat → Int32)} {a_state : (Nat → Int32)} {a_error : (Nat → Int32)} {a_iss : (Nat → Int32)} {a_una : (Nat → Int64)} {a_nxt : (Nat → Int64)} {a_max : (Nat → Int64)} {a_last : (Nat → Int64)} {a_closed : (Nat → Int32)} {a_written : (Nat → Int32)} {a_irs : (Nat → Int32)} {a_unread : (Nat → Int32)} {a_bytes : (Nat → Int32)} {a_held : (Nat → Int32)} {a_rcv : (Nat → Int64)} {a_finAt : (Nat → Int64)} {a_marked : (Nat → Int32)} {a_wnd : (Nat → Int32)} {a_peak : (Nat → Int32)} {a_half : (Nat → Int32)} {a_rto : (Nat → Int32)} {a_same : (Nat → Int32)} {a_tries : (Nat → Int32)} {a_smooth : (Nat → Int32)} {a_spread : (Nat → Int32)} {a_byNumber : (Nat → Int32)} {a_byAck : (Nat → Int32)} {a_sampled : (Nat → Int32)} {a_told : (Nat → Int32)} {a_retry : (Nat → Int32)} {a_ackAt : (Nat → Int32)} {a_waitAt : (Nat → Int32)} {a_timedAt : (Nat → Int32)} {a_timed : (Nat → Int64)} {e k i : Nat} {o : Int} {y : Int32} (hv : vy_S q (gp_hold1 G e k o (i : Int)) (f_now, f_sent, a_seq, a_flags, a_acked, a_window, a_many, a_data, a_rows, a_state, a_error, a_iss, a_una, a_nxt, a_max, a_last, a_closed, a_written, a_irs, a_unread, a_bytes, a_held, a_rcv, a_finAt, a_marked, a_wnd, a_peak, a_half, a_rto, a_same, a_tries, a_smooth, a_spread, a_byNumber, a_byAck, a_sampled, a_told, a_retry, a_ackAt, a_waitAt, a_timedAt, a_timed)) (he : e < 2) (hk : k < 32) (hi : i < 8) (hur0 : 0 ≤ G.1 9 e) (huf : G.1 10 e + G.1 9 e = G.1 8 e) (hH : ∀ p, gm_H G e p = true → G.1 8 e ≤ p ∧ p < G.1 8 e + 24 - G.1 9 e) (h0 : 0 ≤ o + i) (h1 : o + i < 24 - G.1 9 e) (hfa : G.1 11 e < 0 ∨ G.1 8 e + o + i < G.1 11 e) (hn : gm_H G e (G.1 8 e + o + i) = false) (hy : y = 1) : vy_S q (gp_hold1 G e k o ((i : Int) + 1)) (f_now, f_sent, a_seq, a_flags, a_acked, a_window, a_many, a_data, a_rows, a_state, a_error, a_iss, a_una, a_nxt, a_max, a_last, a_closed, a_written, a_irs, a_unread, a_bytes, upd a_held (64 * e + ((G.1 8 e + o + i) % 64).toNat) (zi_n (gm_D G (8 * k + i))), a_rcv, a_finAt, upd a_marked (64 * e + ((G.1 8 e + o + i) % 64).toNat) y, a_wnd, a_peak, a_half, a_rto, a_same, a_tries, a_smooth, a_spread, a_byNumber, a_byAck, a_sampled, a_told, a_retry, a_ackAt, a_waitAt, a_timedAt, a_timed) := by
  obtain ⟨h_now, h_sent, h_seq, h_flags, h_acked, h_window, h_many, h_data, h_rows, h_state, h_error, h_iss, h_una, h_nxt, h_max, h_last, h_closed, h_written, h_irs, h_unread, h_bytes, h_held, h_rcv, h_finAt, h_marked, h_wnd, h_peak, h_half, h_rto, h_same, h_tries, h_smooth, h_spread, h_byNumber, h_byAck, h_sampled, h_told, h_retry, h_ackAt, h_waitAt, h_timedAt, h_timed⟩ := hv
  subst hy
  have new_i : gp_new G e k o ((i : Int) + 1) (G.1 8 e + o + i) = true := by rw [nw_e]; omega
  have new_o : ∀ p, p ≠ G.1 8 e + o + i → gp_new G e k o ((i : Int) + 1) p = gp_new G e k o i p := by
    intro p z
    have : gp_new G e k o ((i : Int) + 1) p = true ↔ gp_new G e k o i p = true := by rw [nw_e, nw_e]; omega
    exact Bool.eq_iff_iff.mpr this
  have hH' : ∀ p, gm_H (gp_hold1 G e k o ((i : Int) + 1)) e p = true → G.1 8 e ≤ p ∧ p < G.1 8 e + 24 - G.1 9 e := by
    intro p z
    have z' : gm_h (gm_H G) e (fun p => gm_H G e p || gp_new G e k o ((i : Int) + 1) p) e p = true := z
    rw [hh_E] at z'
    rw [Bool.or_eq_true, nw_e] at z'
    rcases z' with y | y
    · exact hH p y
    · omega
  refine (vy_mk h_now h_sent h_seq h_flags h_acked h_window h_many h_data h_rows h_state h_error h_iss h_una h_nxt h_max h_last h_closed h_written h_irs h_unread (fun e' he' i' z => ?a0) (fun e' he' p' z => ?a1) h_rcv h_finAt (fun e' he' p' z1 z2 => ?a2) h_wnd h_peak h_half h_rto h_same h_tries h_smooth h_spread h_byNumber h_byAck h_sampled h_told h_retry h_ackAt h_waitAt h_timedAt h_timed)
  case a0 =>
    have z' : (i' : Int) < G.1 9 e' := z
    have hold : a_bytes (24 * e' + i') = zi_n (gm_b (gm_B G) e (fun p => if gm_H G e p = false ∧ gp_new G e k o i p = true then gm_D G (8 * k + (p - G.1 8 e - o).toNat) else gm_B G e p) e' (G.1 10 e' + i')) := h_bytes e' he' i' z'
    show a_bytes (24 * e' + i') = zi_n (gm_b (gm_B G) e (fun p => if gm_H G e p = false ∧ gp_new G e k o ((i : Int) + 1) p = true then gm_D G (8 * k + (p - G.1 8 e - o).toNat) else gm_B G e p) e' (G.1 10 e' + i'))
    rw [hold]
    by_cases y : e' = e
    · subst y
      rw [bb_E, bb_E, new_o _ (by omega)]
    · rw [bb_O y, bb_O y]
  case a1 =>
    have hold : gm_H (gp_hold1 G e k o i) e' p' = true → a_held (64 * e' + (p' % 64).toNat) = zi_n (gm_b (gm_B G) e (fun p => if gm_H G e p = false ∧ gp_new G e k o i p = true then gm_D G (8 * k + (p - G.1 8 e - o).toNat) else gm_B G e p) e' p') := h_held e' he' p'
    show upd _ _ _ (64 * e' + (p' % 64).toNat) = zi_n (gm_b (gm_B G) e (fun p => if gm_H G e p = false ∧ gp_new G e k o ((i : Int) + 1) p = true then gm_D G (8 * k + (p - G.1 8 e - o).toNat) else gm_B G e p) e' p')
    by_cases y : e' = e
    · subst y
      by_cases y2 : p' = G.1 8 e' + o + i
      · subst y2
        rw [zu_s, bb_E, if_pos ⟨hn, new_i⟩]
        congr 3; omega
      · have hw := hH' p' z
        rw [zu_n (by omega), hold ?_, bb_E, bb_E, new_o p' y2]
        have z' : gm_h (gm_H G) e' (fun p => gm_H G e' p || gp_new G e' k o ((i : Int) + 1) p) e' p' = true := z
        show gm_h (gm_H G) e' (fun p => gm_H G e' p || gp_new G e' k o i p) e' p' = true
        rw [hh_E] at z' ⊢
        rw [← new_o p' y2]; exact z'
    · rw [zu_n (by omega), hold ?_, bb_O y, bb_O y]
      have z' : gm_h (gm_H G) e (fun p => gm_H G e p || gp_new G e k o ((i : Int) + 1) p) e' p' = true := z
      show gm_h (gm_H G) e (fun p => gm_H G e p || gp_new G e k o i p) e' p' = true
      rw [hh_O y] at z' ⊢
      exact z'
  case a2 =>
    have z1' : G.1 8 e' ≤ p' := z1
    have z2' : p' < G.1 8 e' + 64 := z2
    show upd _ _ _ (64 * e' + (p' % 64).toNat) = if gm_h (gm_H G) e (fun p => gm_H G e p || gp_new G e k o ((i : Int) + 1) p) e' p' = true then 1 else 0
    by_cases y : e' = e
    · subst y
      rw [hh_E]
      by_cases y2 : p' = G.1 8 e' + o + i
      · subst y2
        rw [zu_s, new_i, Bool.or_true]; rfl
      · have hold' : a_marked (64 * e' + (p' % 64).toNat) = if gm_h (gm_H G) e' (fun p => gm_H G e' p || gp_new G e' k o i p) e' p' = true then 1 else 0 := h_marked e' he' p' z1 z2
        rw [hh_E] at hold'
        rw [zu_n (by omega), hold', new_o p' y2]
    · rw [zu_n (by omega), hh_O y]
      have hold' : a_marked (64 * e' + (p' % 64).toNat) = if gm_h (gm_H G) e (fun p => gm_H G e p || gp_new G e k o i p) e' p' = true then 1 else 0 := h_marked e' he' p' z1 z2
      rw [hh_O y] at hold'
      exact hold'
theorem yl_hold {q K : Int} {G : gm_T} {u : SY} {p x y : Int32} {P : SY → Prop} {k : Nat} {o : Int} (hv : vy_S q G u) (hI : gv_I K G) (hp : vp_in p 2) (hk : k < 32) (hx : x = zi_n (k : Int)) (hy : y = zi_n o) (h4 : 4 ≤ G.1 0 p.toNatClampNeg) (h6 : G.1 0 p.toNatClampNeg ≤ 6) (ho0 : -100 ≤ o) (ho1 : o ≤ 100) (hP : ∀ u', vy_S q (gp_hold G p.toNatClampNeg k o) u' → P u') : wpY_hold P u p x y := by
  obtain ⟨f_now, f_sent, a_seq, a_flags, a_acked, a_window, a_many, a_data, a_rows, a_state, a_error, a_iss, a_una, a_nxt, a_max, a_last, a_closed, a_written, a_irs, a_unread, a_bytes, a_held, a_rcv, a_finAt, a_marked, a_wnd, a_peak, a_half, a_rto, a_same, a_tries, a_smooth, a_spread, a_byNumber, a_byAck, a_sampled, a_told, a_retry, a_ackAt, a_waitAt, a_timedAt, a_timed⟩ := u
  have hv0 := hv
  obtain ⟨h_now, h_sent, h_seq, h_flags, h_acked, h_window, h_many, h_data, h_rows, h_state, h_error, h_iss, h_una, h_nxt, h_max, h_last, h_closed, h_written, h_irs, h_unread, h_bytes, h_held, h_rcv, h_finAt, h_marked, h_wnd, h_peak, h_half, h_rto, h_same, h_tries, h_smooth, h_spread, h_byNumber, h_byAck, h_sampled, h_told, h_retry, h_ackAt, h_waitAt, h_timedAt, h_timed⟩ := hv0
  subst hy
  have he := pe_lt hp
  have hz := pe_z hp
  have l1 := hI.2.2.2.2.2.1.1 k hk
  have hin : vp_in x 32 := by rw [hx]; exact yk_in hk
  have hxk : x.toNatClampNeg = k := by rw [hx]; exact sl_c (by omega)
  have hK := hI.2.1
  obtain ⟨b1, b2, b3, b4, b5, b6⟩ := hI.2.2.2.2.1 _ he
  unfold gv_r at b6
  obtain ⟨q1, q2, q3, q4, q5, q6, q7, q8, q9, qa, qb, qc⟩ := b6
  have huf := q9 (by omega) h6
  have lo : ∀ (f i : Nat) (HD MK : Nat → Int32), (i : Int) ≤ gm_L G 4 k → gm_L G 4 k - i < f → vy_S q (gp_hold1 G p.toNatClampNeg k o (i : Int)) (f_now, f_sent, a_seq, a_flags, a_acked, a_window, a_many, a_data, a_rows, a_state, a_error, a_iss, a_una, a_nxt, a_max, a_last, a_closed, a_written, a_irs, a_unread, a_bytes, HD, a_rcv, a_finAt, MK, a_wnd, a_peak, a_half, a_rto, a_same, a_tries, a_smooth, a_spread, a_byNumber, a_byAck, a_sampled, a_told, a_retry, a_ackAt, a_waitAt, a_timedAt, a_timed) → wY_hold_10 P p x (zi_n o) (zi_n (24 - G.1 9 p.toNatClampNeg)) f_now f_sent f (nI i) a_seq a_flags a_acked a_window a_many a_data a_rows a_state a_error a_iss a_una a_nxt a_max a_last a_closed a_written a_irs a_unread a_bytes (HD) a_rcv a_finAt (MK) a_wnd a_peak a_half a_rto a_same a_tries a_smooth a_spread a_byNumber a_byAck a_sampled a_told a_retry a_ackAt a_waitAt a_timedAt a_timed := by
    intro f
    induction f with
    | zero => intro i HD MK h1 h2; omega
    | succ f ih =>
      intro i HD MK hi1 hi2 hvi
      refine ⟨hin, ?_⟩
      rw [hxk]
      by_cases w : (i : Int) = gm_L G 4 k
      · rw [w] at hvi
        refine br_t (by rw [h_many k hk, zi_nI, w]; exact Int32.le_refl _) ⟨hin, nm_r (e' := zi_n (o + gm_L G 4 k)) (by rw [h_many k hk, zi_add]) ⟨hin, ?_⟩⟩
        have hno : ¬ (gm_L G 1 k / 4 % 2 = 1 ∧ G.1 11 p.toNatClampNeg < 0 ∧ 0 ≤ o + gm_L G 4 k ∧ o + gm_L G 4 k < 24 - G.1 9 p.toNatClampNeg) → P (f_now, f_sent, a_seq, a_flags, a_acked, a_window, a_many, a_data, a_rows, a_state, a_error, a_iss, a_una, a_nxt, a_max, a_last, a_closed, a_written, a_irs, a_unread, a_bytes, HD, a_rcv, a_finAt, MK, a_wnd, a_peak, a_half, a_rto, a_same, a_tries, a_smooth, a_spread, a_byNumber, a_byAck, a_sampled, a_told, a_retry, a_ackAt, a_waitAt, a_timedAt, a_timed) := by
          intro z
          refine hP _ ?_
          rw [ho_n z]; exact hvi
        by_cases w1 : gm_L G 1 k / 4 % 2 = 1
        · refine br_f (by rw [h_flags k hk, zf_4 (by omega) (by omega), zk_0, zi_eq (by omega) (by omega) (by omega) (by omega)]; omega) ?_
          by_cases w3 : o + gm_L G 4 k < 0
          · exact br_t (by rw [zk_0, zi_lt (by omega) (by omega) (by omega) (by omega)]; omega) (hno (by omega))
          · refine br_f (by rw [zk_0, zi_lt (by omega) (by omega) (by omega) (by omega)]; omega) ?_
            by_cases w4 : 24 - G.1 9 p.toNatClampNeg ≤ o + gm_L G 4 k
            · exact br_t (by rw [zi_le (by omega) (by omega) (by omega) (by omega)]; omega) (hno (by omega))
            · refine br_f (by rw [zi_le (by omega) (by omega) (by omega) (by omega)]; omega) ⟨hp, ?_⟩
              by_cases w2 : G.1 11 p.toNatClampNeg < 0
              · refine br_f (by rw [h_finAt _ he, zk_l0, zl_le (by omega) (by omega) (by omega) (by omega)]; omega) ⟨hp, hp, nm_e (hP _ ?_)⟩
                clear h_finAt h_rcv
                obtain ⟨h_now, h_sent, h_seq, h_flags, h_acked, h_window, h_many, h_data, h_rows, h_state, h_error, h_iss, h_una, h_nxt, h_max, h_last, h_closed, h_written, h_irs, h_unread, h_bytes, h_held, h_rcv, h_finAt, h_marked, h_wnd, h_peak, h_half, h_rto, h_same, h_tries, h_smooth, h_spread, h_byNumber, h_byAck, h_sampled, h_told, h_retry, h_ackAt, h_waitAt, h_timedAt, h_timed⟩ := hvi
                refine (vy_mk h_now h_sent h_seq h_flags h_acked h_window h_many h_data h_rows h_state h_error h_iss h_una h_nxt h_max h_last h_closed h_written h_irs h_unread h_bytes h_held h_rcv (vu_l h_finAt ?a1 (fun e' q => ?a2)) h_marked h_wnd h_peak h_half h_rto h_same h_tries h_smooth h_spread h_byNumber h_byAck h_sampled h_told h_retry h_ackAt h_waitAt h_timedAt h_timed)
                case a1 =>
                  have hr : a_rcv p.toNatClampNeg = zl_n (G.1 8 p.toNatClampNeg) := h_rcv _ he
                  rw [ho_p ⟨w1, w2, by omega, by omega⟩, hr, zi_l (by omega) (by omega), zl_add]
                  congr 1; omega
                case a2 =>
                  rw [ho_o q]; rfl
              · have := qb (by omega)
                exact br_t (by rw [h_finAt _ he, zk_l0, zl_le (by omega) (by omega) (by omega) (by omega)]; omega) (hno (by omega))
        · exact br_t (by rw [h_flags k hk, zf_4 (by omega) (by omega), zk_0, zi_eq (by omega) (by omega) (by omega) (by omega)]; omega) (hno (by omega))
      · have i8 : i < 8 := by omega
        refine br_f (by rw [h_many k hk, zi_nI, zi_le (by omega) (by omega) (by omega) (by omega)]; omega) ⟨hp, nm_r (e' := zl_n (G.1 8 p.toNatClampNeg + o + i)) (by rw [h_rcv _ he, zi_nI, zi_l (by omega) (by omega), zi_l (by omega) (by omega), zl_add, zl_add]) ?_⟩
        have hoi : zi_n o + nI i = zi_n (o + i) := by rw [zi_nI, zi_add]
        have i2 : (zi_n (64 * (p.toNatClampNeg : Int) + (G.1 8 p.toNatClampNeg + o + i) % 64)).toNatClampNeg = 64 * p.toNatClampNeg + ((G.1 8 p.toNatClampNeg + o + i) % 64).toNat := by
          rw [zi_cl (by omega) (by omega)]; omega
        have ii : ((i + 1 : Nat) : Int) = (i : Int) + 1 := by omega
        have skip : ¬ (0 ≤ o + i ∧ o + i < 24 - G.1 9 p.toNatClampNeg ∧ (G.1 11 p.toNatClampNeg < 0 ∨ G.1 8 p.toNatClampNeg + o + i < G.1 11 p.toNatClampNeg)) → wY_hold_10 P p x (zi_n o) (zi_n (24 - G.1 9 p.toNatClampNeg)) f_now f_sent f (nI (i + 1)) a_seq a_flags a_acked a_window a_many a_data a_rows a_state a_error a_iss a_una a_nxt a_max a_last a_closed a_written a_irs a_unread a_bytes (HD) a_rcv a_finAt (MK) a_wnd a_peak a_half a_rto a_same a_tries a_smooth a_spread a_byNumber a_byAck a_sampled a_told a_retry a_ackAt a_waitAt a_timedAt a_timed := by
          intro z
          refine ih (i + 1) HD MK (by omega) (by omega) ?_
          rw [ii, ho_keep (fun p' y => Or.inl ?_)]
          · exact hvi
          · rw [nw_e] at y ⊢
            have : p' ≠ G.1 8 p.toNatClampNeg + o + i := fun h => z (by rw [h] at y; omega)
            omega
        have k78 : (0 ≤ o + i ∧ o + i < 24 - G.1 9 p.toNatClampNeg ∧ (G.1 11 p.toNatClampNeg < 0 ∨ G.1 8 p.toNatClampNeg + o + i < G.1 11 p.toNatClampNeg)) → wY_hold_78 P (wY_hold_10 P p x (zi_n o) (zi_n (24 - G.1 9 p.toNatClampNeg)) f_now f_sent f) p x (zi_n o) (zi_n (24 - G.1 9 p.toNatClampNeg)) (nI i) (zl_n (G.1 8 p.toNatClampNeg + o + i)) f_now f_sent a_seq a_flags a_acked a_window a_many a_data a_rows a_state a_error a_iss a_una a_nxt a_max a_last a_closed a_written a_irs a_unread a_bytes (HD) a_rcv a_finAt (MK) a_wnd a_peak a_half a_rto a_same a_tries a_smooth a_spread a_byNumber a_byAck a_sampled a_told a_retry a_ackAt a_waitAt a_timedAt a_timed := by
          intro z
          unfold wY_hold_78
          have hin6 : vp_in (zi_n (64 * (p.toNatClampNeg : Int) + (G.1 8 p.toNatClampNeg + o + i) % 64)) 128 := zi_in (by omega) (by omega) (by omega)
          refine yl_at hp rfl ⟨hin6, ?_⟩
          rw [i2]
          have hcell : MK (64 * p.toNatClampNeg + ((G.1 8 p.toNatClampNeg + o + i) % 64).toNat) = if gm_h (gm_H G) p.toNatClampNeg (fun p' => gm_H G p.toNatClampNeg p' || gp_new G p.toNatClampNeg k o i p') p.toNatClampNeg (G.1 8 p.toNatClampNeg + o + i) = true then 1 else 0 := by
            clear h_marked
            obtain ⟨h_now, h_sent, h_seq, h_flags, h_acked, h_window, h_many, h_data, h_rows, h_state, h_error, h_iss, h_una, h_nxt, h_max, h_last, h_closed, h_written, h_irs, h_unread, h_bytes, h_held, h_rcv, h_finAt, h_marked, h_wnd, h_peak, h_half, h_rto, h_same, h_tries, h_smooth, h_spread, h_byNumber, h_byAck, h_sampled, h_told, h_retry, h_ackAt, h_waitAt, h_timedAt, h_timed⟩ := hvi
            exact h_marked _ he (G.1 8 p.toNatClampNeg + o + i) (show G.1 8 p.toNatClampNeg ≤ _ from by omega) (show _ < G.1 8 p.toNatClampNeg + 64 from by omega)
          rw [hh_E] at hcell
          have hnn : gp_new G p.toNatClampNeg k o i (G.1 8 p.toNatClampNeg + o + i) = false := by
            rw [← Bool.not_eq_true, nw_e]; omega
          rw [hnn, Bool.or_false] at hcell
          cases hc : gm_H G p.toNatClampNeg (G.1 8 p.toNatClampNeg + o + i)
          · rw [hc] at hcell
            have hin8 : 8 * x + nI i = zi_n (8 * (k : Int) + i) := by rw [hx, zi_nI, zk_8, zi_mul, zi_add]
            have hin9 : (8 * x + nI i).toNatClampNeg = 8 * k + i := by rw [hin8, zi_cl (by omega) (by omega)]; omega
            refine br_t hcell ⟨by rw [hin8]; exact zi_in (by omega) (by omega) (by omega), hin6, nm_e ⟨hin6, nm_e (nm_r (nI_1 i) (ih (i + 1) _ _ (by omega) (by omega) ?_))⟩⟩
            rw [ii, hin9, h_data (8 * k + i) (by omega)]
            exact vy_hset hvi he hk i8 q5 huf (fun p' y => by have := qc p' y; omega) z.1 z.2.1 z.2.2 hc rfl
          · rw [hc] at hcell
            have same : upd MK (64 * p.toNatClampNeg + ((G.1 8 p.toNatClampNeg + o + i) % 64).toNat) 1 = MK := by
              funext j
              unfold upd
              split
              · rename_i h; rw [h, hcell]; rfl
              · rfl
            refine br_f (by rw [hcell]; decide) ⟨hin6, nm_r same (nm_r (nI_1 i) (ih (i + 1) HD MK (by omega) (by omega) ?_))⟩
            rw [ii, ho_keep (fun p' y => ?_)]
            · exact hvi
            · rw [nw_e] at y
              by_cases w5 : p' = G.1 8 p.toNatClampNeg + o + i
              · rw [w5]; exact Or.inr hc
              · refine Or.inl ?_
                rw [nw_e]; omega
        by_cases w1 : o + (i : Int) < 0
        · exact br_t (by rw [hoi, zk_0, zi_lt (by omega) (by omega) (by omega) (by omega)]; omega) (nm_r (nI_1 i) (skip (by omega)))
        · refine br_f (by rw [hoi, zk_0, zi_lt (by omega) (by omega) (by omega) (by omega)]; omega) ?_
          by_cases w2 : 24 - G.1 9 p.toNatClampNeg ≤ o + (i : Int)
          · exact br_t (by rw [hoi, zi_le (by omega) (by omega) (by omega) (by omega)]; omega) (nm_r (nI_1 i) (skip (by omega)))
          · refine br_f (by rw [hoi, zi_le (by omega) (by omega) (by omega) (by omega)]; omega) ⟨hp, ?_⟩
            by_cases w3 : G.1 11 p.toNatClampNeg < 0
            · exact br_t (by rw [h_finAt _ he, zk_l0, zl_lt (by omega) (by omega) (by omega) (by omega)]; exact w3) (k78 (by omega))
            · have qb' := qb (by omega)
              refine br_f (by rw [h_finAt _ he, zk_l0, zl_lt (by omega) (by omega) (by omega) (by omega)]; exact w3) ⟨hp, ?_⟩
              by_cases w4 : G.1 8 p.toNatClampNeg + o + i < G.1 11 p.toNatClampNeg
              · exact br_t (by rw [h_finAt _ he, zl_lt (by omega) (by omega) (by omega) (by omega)]; exact w4) (k78 (by omega))
              · exact br_f (by rw [h_finAt _ he, zl_lt (by omega) (by omega) (by omega) (by omega)]; exact w4) (nm_r (nI_1 i) (skip (by omega)))
  unfold wpY_hold
  refine yl_own hp (h_unread _ he) ⟨10, lo 10 0 a_held a_marked (by omega) (by omega) ?_⟩
  rw [show ((0 : Nat) : Int) = 0 from rfl, ho_0]; exact hv
