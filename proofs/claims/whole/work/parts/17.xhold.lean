/-! the class: bytes put in order -/
theorem an_iff {G : gm_T} {e : Nat} : gp_any G e = true ↔ (0 ≤ G.1 11 e ∨ ∃ p, G.1 8 e ≤ p ∧ p < G.1 8 e + 24 ∧ gm_H G e p = true) := by
  unfold gp_any
  rw [Bool.or_eq_true, decide_eq_true_iff, List.any_eq_true]
  constructor
  · rintro (h | ⟨i, h1, h2⟩)
    · exact Or.inl h
    · rw [List.mem_range] at h1
      exact Or.inr ⟨_, by omega, by omega, h2⟩
  · rintro (h | ⟨p, h1, h2, h3⟩)
    · exact Or.inl h
    · refine Or.inr ⟨(p - G.1 8 e).toNat, by rw [List.mem_range]; omega, ?_⟩
      rw [show G.1 8 e + ((p - G.1 8 e).toNat : Int) = p from by omega]; exact h3
theorem xl_isAcceptable {P : Int32 → Prop} {f_now : Int32} {f_sent : Int32} {a_stateOf : (Nat → Int32)} {a_error : (Nat → Int32)} {a_iss : (Nat → Int32)} {a_una : (Nat → Int32)} {a_nxt : (Nat → Int32)} {a_max : (Nat → Int32)} {a_writtenTo : (Nat → Int32)} {a_kept : (Nat → Int32)} {a_keptBytes : (Nat → Int32)} {a_rcv : (Nat → Int32)} {a_unread : (Nat → Int32)} {a_unreadFrom : (Nat → Int32)} {a_cameBytes : (Nat → Int32)} {a_held : (Nat → Int32)} {a_heldFin : (Nat → Int32)} {a_wnd : (Nat → Int32)} {a_wndSeq : (Nat → Int32)} {a_wndAck : (Nat → Int32)} {a_peak : (Nat → Int32)} {a_half : (Nat → Int32)} {a_same : (Nat → Int32)} {a_rto : (Nat → Int32)} {a_tries : (Nat → Int32)} {a_retryAt : (Nat → Int32)} {a_ackAt : (Nat → Int32)} {a_waitTill : (Nat → Int32)} {a_timedAt : (Nat → Int32)} {a_timedSeq : (Nat → Int32)} {a_smoothed : (Nat → Int32)} {a_variance : (Nat → Int32)} {a_rowCount : (Nat → Int32)} {a_slotSeq : (Nat → Int32)} {a_slotFlags : (Nat → Int32)} {a_slotAck : (Nat → Int32)} {a_slotWindow : (Nat → Int32)} {a_slotSize : (Nat → Int32)} {a_slotBytes : (Nat → Int32)} {p x1 x2 : Int32} {ur o len : Int} (hp : vp_in p 2) (hr : a_unread p.toNatClampNeg = zi_n ur) (h0 : 0 ≤ ur) (h1 : ur ≤ 24) (hx1 : x1 = zi_n o) (hx2 : x2 = zi_n len) (ho0 : -32768 ≤ o) (ho1 : o < 32768) (hl0 : 0 ≤ len) (hl1 : len ≤ 20) (ht : gp_ok (24 - ur) o len → P 1) (hf : ¬ gp_ok (24 - ur) o len → P 0) : wpX_isAcceptable P (f_now, f_sent, a_stateOf, a_error, a_iss, a_una, a_nxt, a_max, a_writtenTo, a_kept, a_keptBytes, a_rcv, a_unread, a_unreadFrom, a_cameBytes, a_held, a_heldFin, a_wnd, a_wndSeq, a_wndAck, a_peak, a_half, a_same, a_rto, a_tries, a_retryAt, a_ackAt, a_waitTill, a_timedAt, a_timedSeq, a_smoothed, a_variance, a_rowCount, a_slotSeq, a_slotFlags, a_slotAck, a_slotWindow, a_slotSize, a_slotBytes) p x1 x2 := by
  unfold wpX_isAcceptable
  refine xl_ownWindow hp hr ?_
  subst hx1 hx2
  have k44 : ¬ (0 ≤ o ∧ o < 24 - ur) → ¬ len = 0 → wX_isAcceptable_44 P (zi_n (24 - ur)) (zi_n (o + len - 1)) f_now f_sent a_stateOf a_error a_iss a_una a_nxt a_max a_writtenTo a_kept a_keptBytes a_rcv a_unread a_unreadFrom a_cameBytes a_held a_heldFin a_wnd a_wndSeq a_wndAck a_peak a_half a_same a_rto a_tries a_retryAt a_ackAt a_waitTill a_timedAt a_timedSeq a_smoothed a_variance a_rowCount a_slotSeq a_slotFlags a_slotAck a_slotWindow a_slotSize a_slotBytes := by
    intro w1 w2
    unfold wX_isAcceptable_44
    by_cases w : o + len - 1 < 0
    · exact br_t (by rw [zk_0, zi_lt (by omega) (by omega) (by omega) (by omega)]; exact w) (hf (by unfold gp_ok; omega))
    · refine br_f (by rw [zk_0, zi_lt (by omega) (by omega) (by omega) (by omega)]; exact w) ?_
      by_cases w3 : 24 - ur ≤ o + len - 1
      · exact br_t (by rw [zi_le (by omega) (by omega) (by omega) (by omega)]; exact w3) (hf (by unfold gp_ok; omega))
      · exact br_f (by rw [zi_le (by omega) (by omega) (by omega) (by omega)]; exact w3) (ht (by unfold gp_ok; omega))
  by_cases w : len = 0
  · refine br_t (by rw [w]; rfl) ?_
    by_cases w2 : o < 0
    · exact br_t (by rw [zk_0, zi_lt (by omega) (by omega) (by omega) (by omega)]; exact w2) (hf (by unfold gp_ok; omega))
    · refine br_f (by rw [zk_0, zi_lt (by omega) (by omega) (by omega) (by omega)]; exact w2) ?_
      by_cases w3 : 24 - ur < o
      · exact br_t (by rw [zi_lt (by omega) (by omega) (by omega) (by omega)]; exact w3) (hf (by unfold gp_ok; omega))
      · exact br_f (by rw [zi_lt (by omega) (by omega) (by omega) (by omega)]; exact w3) (ht (by unfold gp_ok; omega))
  · refine br_f (by rw [zk_0, zi_eq (by omega) (by omega) (by omega) (by omega)]; exact w) (nm_r (e' := zi_n (o + len - 1)) (by rw [zi_add, zk_1, zi_sub]) ?_)
    by_cases w2 : o < 0
    · exact br_t (by rw [zk_0, zi_lt (by omega) (by omega) (by omega) (by omega)]; exact w2) (k44 (by omega) w)
    · refine br_f (by rw [zk_0, zi_lt (by omega) (by omega) (by omega) (by omega)]; exact w2) ?_
      by_cases w3 : o < 24 - ur
      · exact br_t (by rw [zi_lt (by omega) (by omega) (by omega) (by omega)]; exact w3) (ht (by unfold gp_ok; omega))
      · exact br_f (by rw [zi_lt (by omega) (by omega) (by omega) (by omega)]; exact w3) (k44 (by omega) w)
theorem xh_18 {P : Int32 → Prop} {f_now : Int32} {f_sent : Int32} {a_stateOf : (Nat → Int32)} {a_error : (Nat → Int32)} {a_iss : (Nat → Int32)} {a_una : (Nat → Int32)} {a_nxt : (Nat → Int32)} {a_max : (Nat → Int32)} {a_writtenTo : (Nat → Int32)} {a_kept : (Nat → Int32)} {a_keptBytes : (Nat → Int32)} {a_rcv : (Nat → Int32)} {a_unread : (Nat → Int32)} {a_unreadFrom : (Nat → Int32)} {a_cameBytes : (Nat → Int32)} {a_held : (Nat → Int32)} {a_heldFin : (Nat → Int32)} {a_wnd : (Nat → Int32)} {a_wndSeq : (Nat → Int32)} {a_wndAck : (Nat → Int32)} {a_peak : (Nat → Int32)} {a_half : (Nat → Int32)} {a_same : (Nat → Int32)} {a_rto : (Nat → Int32)} {a_tries : (Nat → Int32)} {a_retryAt : (Nat → Int32)} {a_ackAt : (Nat → Int32)} {a_waitTill : (Nat → Int32)} {a_timedAt : (Nat → Int32)} {a_timedSeq : (Nat → Int32)} {a_smoothed : (Nat → Int32)} {a_variance : (Nat → Int32)} {a_rowCount : (Nat → Int32)} {a_slotSeq : (Nat → Int32)} {a_slotFlags : (Nat → Int32)} {a_slotAck : (Nat → Int32)} {a_slotWindow : (Nat → Int32)} {a_slotSize : (Nat → Int32)} {a_slotBytes : (Nat → Int32)} {p : Int32} (hp : vp_in p 2) : ∀ (f i : Nat) (b : Int32), i ≤ 32 → 32 - i < f → (b = 0 ∨ b = 1) → ((b = 1 ∨ ∃ j, i ≤ j ∧ j < 32 ∧ ¬ a_held (32 * p.toNatClampNeg + j) = 0) → P 1) → (¬ (b = 1 ∨ ∃ j, i ≤ j ∧ j < 32 ∧ ¬ a_held (32 * p.toNatClampNeg + j) = 0) → P 0) → wX_holdsAny_18 P p f_now f_sent a_stateOf a_error a_iss a_una a_nxt a_max a_writtenTo a_kept a_keptBytes a_rcv a_unread a_unreadFrom a_cameBytes a_held a_heldFin a_wnd a_wndSeq a_wndAck a_peak a_half a_same a_rto a_tries a_retryAt a_ackAt a_waitTill a_timedAt a_timedSeq a_smoothed a_variance a_rowCount a_slotSeq a_slotFlags a_slotAck a_slotWindow a_slotSize a_slotBytes f b (nI i) := by
  have hz := pe_z hp
  have hl := pe_lt hp
  intro f
  induction f with
  | zero => intro i b h1 h2; omega
  | succ f ih =>
    intro i b h1 h2 hb ht hf
    by_cases q : i = 32
    · subst q
      refine br_t (by decide) ?_
      rcases hb with rfl | rfl
      · exact ⟨rfl, hf (by intro z; rcases z with h | ⟨j, h3, h4, _⟩; exact absurd h (by decide); omega)⟩
      · exact ⟨rfl, ht (Or.inl rfl)⟩
    · refine br_f (by rw [zk_32, zi_nI, zi_le (by omega) (by omega) (by omega) (by omega)]; omega) ?_
      have e1 : (p * 32 + nI i) = zi_n (32 * (p.toNatClampNeg : Int) + i) := by
        generalize p.toNatClampNeg = e at *
        rw [hz, zi_nI, zk_32, zi_mul, zi_add]; congr 1; omega
      have e2 : (p * 32 + nI i).toNatClampNeg = 32 * p.toNatClampNeg + i := by
        rw [e1, zi_cl (by omega) (by omega)]; omega
      rcases hb with rfl | rfl
      · refine br_t rfl ⟨by rw [e1]; exact zi_in (by omega) (by omega) (by omega), ?_⟩
        rw [e2]
        by_cases w : a_held (32 * p.toNatClampNeg + i) = 0
        · refine br_t w (nm_r (nI_1 i) (ih (i + 1) 0 (by omega) (by omega) (Or.inl rfl) (fun z => ht ?_) (fun z => hf ?_)))
          · rcases z with z | ⟨j, z1, z2, z3⟩
            · exact Or.inl z
            · exact Or.inr ⟨j, by omega, z2, z3⟩
          · intro y
            apply z
            rcases y with y | ⟨j, z1, z2, z3⟩
            · exact Or.inl y
            · refine Or.inr ⟨j, ?_, z2, z3⟩
              have : j ≠ i := fun h => z3 (h ▸ w)
              omega
        · refine br_f w (nm_r (nI_1 i) (ih (i + 1) 1 (by omega) (by omega) (Or.inr rfl) (fun _ => ht (Or.inr ⟨i, Nat.le_refl i, by omega, w⟩)) (fun z => absurd (Or.inl rfl) z)))
      · refine br_f (by decide) (nm_r (nI_1 i) (ih (i + 1) 1 (by omega) (by omega) (Or.inr rfl) (fun _ => ht (Or.inl rfl)) (fun z => absurd (Or.inl rfl) z)))
theorem xl_holdsAny {q K : Int} {G : gm_T} {u : SX} {p : Int32} {P : Int32 → Prop} (hv : vx_S q G u) (hI : gv_I K G) (hp : vp_in p 2) (ht : gp_any G p.toNatClampNeg = true → P 1) (hf : gp_any G p.toNatClampNeg = false → P 0) : wpX_holdsAny P u p := by
  obtain ⟨f_now, f_sent, a_stateOf, a_error, a_iss, a_una, a_nxt, a_max, a_writtenTo, a_kept, a_keptBytes, a_rcv, a_unread, a_unreadFrom, a_cameBytes, a_held, a_heldFin, a_wnd, a_wndSeq, a_wndAck, a_peak, a_half, a_same, a_rto, a_tries, a_retryAt, a_ackAt, a_waitTill, a_timedAt, a_timedSeq, a_smoothed, a_variance, a_rowCount, a_slotSeq, a_slotFlags, a_slotAck, a_slotWindow, a_slotSize, a_slotBytes⟩ := u
  obtain ⟨h_now, h_sent, h_stateOf, h_error, h_iss, h_una, h_nxt, h_max, h_writtenTo, h_kept, h_keptBytes, h_rcv, h_unread, h_unreadFrom, h_cameBytes, h_held, h_heldFin, h_wnd, h_wndSeq, h_wndAck, h_peak, h_half, h_same, h_rto, h_tries, h_retryAt, h_ackAt, h_waitTill, h_timedAt, h_timedSeq, h_smoothed, h_variance, h_rowCount, h_slotSeq, h_slotFlags, h_slotAck, h_slotWindow, h_slotSize, h_slotBytes⟩ := hv
  have he := pe_lt hp
  obtain ⟨b1, b2, b3, b4, b5, b6⟩ := hI.2.2.2.2.1 _ he
  unfold gv_r at b6
  obtain ⟨q1, q2, q3, q4, q5, q6, q7, q8, q9, qa, qb, qc⟩ := b6
  have hK := hI.2.1
  have ex : (∃ j, 0 ≤ j ∧ j < 32 ∧ ¬ a_held (32 * p.toNatClampNeg + j) = 0) ↔ ∃ p', G.1 8 p.toNatClampNeg ≤ p' ∧ p' < G.1 8 p.toNatClampNeg + 24 ∧ gm_H G p.toNatClampNeg p' = true := by
    constructor
    · rintro ⟨j, _, hj, hn⟩
      have h := h_held _ he (G.1 8 p.toNatClampNeg + ((j : Int) - G.1 7 p.toNatClampNeg - G.1 8 p.toNatClampNeg) % 32) (by omega) (by omega)
      rw [show ((G.1 7 p.toNatClampNeg + (G.1 8 p.toNatClampNeg + ((j : Int) - G.1 7 p.toNatClampNeg - G.1 8 p.toNatClampNeg) % 32)) % 32).toNat = j from by omega] at h
      by_cases w : gm_H G p.toNatClampNeg (G.1 8 p.toNatClampNeg + ((j : Int) - G.1 7 p.toNatClampNeg - G.1 8 p.toNatClampNeg) % 32) = true
      · have := qc _ w
        exact ⟨_, by omega, by omega, w⟩
      · rw [if_neg w] at h; exact absurd h hn
    · rintro ⟨p', h1, h2, h3⟩
      have h := h_held _ he p' h1 (by omega)
      rw [if_pos h3] at h
      refine ⟨((G.1 7 p.toNatClampNeg + p') % 32).toNat, by omega, by omega, ?_⟩
      rw [h]; decide
  unfold wpX_holdsAny
  refine ⟨hp, ?_⟩
  by_cases w : G.1 11 p.toNatClampNeg < 0
  · refine br_t (by rw [h_heldFin _ he, if_pos w]; rfl) ⟨33, ?_⟩
    refine xh_18 hp 33 0 0 (by omega) (by omega) (Or.inl rfl) (fun z => ht ?_) (fun z => hf ?_)
    · rw [an_iff]
      rcases z with z | z
      · exact absurd z (by decide)
      · exact Or.inr (ex.mp z)
    · rw [← Bool.not_eq_true, an_iff]
      rintro (y | y)
      · omega
      · exact z (Or.inr (ex.mpr y))
  · refine br_f (by rw [h_heldFin _ he, if_neg w, zk_m1, zi_eq (by omega) (by omega) (by omega) (by omega)]; omega) ⟨33, ?_⟩
    exact xh_18 hp 33 0 1 (by omega) (by omega) (Or.inr rfl) (fun _ => ht (an_iff.mpr (Or.inl (by omega)))) (fun z => absurd (Or.inl rfl) z)
theorem bb_E {b : Nat → Int → Int} {e : Nat} {g : Int → Int} {p : Int} : gm_b b e g e p = g p := if_pos rfl
theorem bb_O {b : Nat → Int → Int} {e e' : Nat} {g : Int → Int} {p : Int} (q : e' ≠ e) : gm_b b e g e' p = b e' p := if_neg q
theorem ho_p {G : gm_T} {e k : Nat} {o : Int} (h : gm_L G 1 k / 4 % 2 = 1 ∧ G.1 11 e < 0 ∧ 0 ≤ o + gm_L G 4 k ∧ o + gm_L G 4 k < 24 - G.1 9 e) : (gp_hold G e k o).1 11 e = G.1 8 e + o + gm_L G 4 k := by
  unfold gp_hold; rw [pu_s]; exact if_pos h
theorem ho_f {G : gm_T} {e k f e' : Nat} {o : Int} (h : f ≠ 11) : (gp_hold G e k o).1 f e' = G.1 f e' := by
  unfold gp_hold; rw [pu_f h]; rfl
theorem ho_o {G : gm_T} {e k f e' : Nat} {o : Int} (q : e' ≠ e) : (gp_hold G e k o).1 f e' = G.1 f e' := by
  unfold gp_hold; rw [pu_o q]; rfl
theorem ho_n {G : gm_T} {e k : Nat} {o : Int} (h : ¬ (gm_L G 1 k / 4 % 2 = 1 ∧ G.1 11 e < 0 ∧ 0 ≤ o + gm_L G 4 k ∧ o + gm_L G 4 k < 24 - G.1 9 e)) : gp_hold G e k o = gp_hold1 G e k o (gm_L G 4 k) := by
  unfold gp_hold gp_put
  have e1 : gs_c (gp_hold1 G e k o (gm_L G 4 k)).1 11 e (if gm_L G 1 k / 4 % 2 = 1 ∧ G.1 11 e < 0 ∧ 0 ≤ o + gm_L G 4 k ∧ o + gm_L G 4 k < 24 - G.1 9 e then G.1 8 e + o + gm_L G 4 k else G.1 11 e) = (gp_hold1 G e k o (gm_L G 4 k)).1 := gs_id (if_neg h)
  rw [e1]
/-- the class's rings behind a byte that is held -/
theorem vx_hkeep {q : Int} {G : gm_T} {f_now : Int32} {f_sent : Int32} {a_stateOf : (Nat → Int32)} {a_error : (Nat → Int32)} {a_iss : (Nat → Int32)} {a_una : (Nat → Int32)} {a_nxt : (Nat → Int32)} {a_max : (Nat → Int32)} {a_writtenTo : (Nat → Int32)} {a_kept : (Nat → Int32)} {a_keptBytes : (Nat → Int32)} {a_rcv : (Nat → Int32)} {a_unread : (Nat → Int32)} {a_unreadFrom : (Nat → Int32)} {a_cameBytes : (Nat → Int32)} {a_held : (Nat → Int32)} {a_heldFin : (Nat → Int32)} {a_wnd : (Nat → Int32)} {a_wndSeq : (Nat → Int32)} {a_wndAck : (Nat → Int32)} {a_peak : (Nat → Int32)} {a_half : (Nat → Int32)} {a_same : (Nat → Int32)} {a_rto : (Nat → Int32)} {a_tries : (Nat → Int32)} {a_retryAt : (Nat → Int32)} {a_ackAt : (Nat → Int32)} {a_waitTill : (Nat → Int32)} {a_timedAt : (Nat → Int32)} {a_timedSeq : (Nat → Int32)} {a_smoothed : (Nat → Int32)} {a_variance : (Nat → Int32)} {a_rowCount : (Nat → Int32)} {a_slotSeq : (Nat → Int32)} {a_slotFlags : (Nat → Int32)} {a_slotAck : (Nat → Int32)} {a_slotWindow : (Nat → Int32)} {a_slotSize : (Nat → Int32)} {a_slotBytes : (Nat → Int32)} {e k : Nat} {o i : Int} (hv : vx_S q (gp_hold1 G e k o i) (f_now, f_sent, a_stateOf, a_error, a_iss, a_una, a_nxt, a_max, a_writtenTo, a_kept, a_keptBytes, a_rcv, a_unread, a_unreadFrom, a_cameBytes, a_held, a_heldFin, a_wnd, a_wndSeq, a_wndAck, a_peak, a_half, a_same, a_rto, a_tries, a_retryAt, a_ackAt, a_waitTill, a_timedAt, a_timedSeq, a_smoothed, a_variance, a_rowCount, a_slotSeq, a_slotFlags, a_slotAck, a_slotWindow, a_slotSize, a_slotBytes)) (h : ∀ p, gp_new G e k o (i + 1) p = true → gp_new G e k o i p = true ∨ gm_H G e p = true) : vx_S q (gp_hold1 G e k o (i + 1)) (f_now, f_sent, a_stateOf, a_error, a_iss, a_una, a_nxt, a_max, a_writtenTo, a_kept, a_keptBytes, a_rcv, a_unread, a_unreadFrom, a_cameBytes, a_held, a_heldFin, a_wnd, a_wndSeq, a_wndAck, a_peak, a_half, a_same, a_rto, a_tries, a_retryAt, a_ackAt, a_waitTill, a_timedAt, a_timedSeq, a_smoothed, a_variance, a_rowCount, a_slotSeq, a_slotFlags, a_slotAck, a_slotWindow, a_slotSize, a_slotBytes) := by
  have m1 : ∀ p, gp_new G e k o i p = true → gp_new G e k o (i + 1) p = true := fun p z => by rw [nw_e] at *; omega
  have hH : gm_H (gp_hold1 G e k o (i + 1)) = gm_H (gp_hold1 G e k o i) := by
    show gm_h _ _ _ = gm_h _ _ _
    congr 1
    funext p
    cases h1 : gm_H G e p
    · cases h2 : gp_new G e k o i p
      · cases h3 : gp_new G e k o (i + 1) p
        · rfl
        · have := h p h3; rw [h1, h2] at this; rcases this with z | z <;> cases z
      · rw [m1 p h2]
    · rfl
  have hB : gm_B (gp_hold1 G e k o (i + 1)) = gm_B (gp_hold1 G e k o i) := by
    show gm_b _ _ _ = gm_b _ _ _
    congr 1
    funext p
    by_cases h1 : gm_H G e p = false ∧ gp_new G e k o i p = true
    · rw [if_pos h1, if_pos ⟨h1.1, m1 p h1.2⟩]
    · rw [if_neg h1, if_neg]
      intro z
      apply h1
      refine ⟨z.1, ?_⟩
      rcases h p z.2 with y | y
      · exact y
      · rw [z.1] at y; cases y
  have e1 : gp_hold1 G e k o (i + 1) = gp_hold1 G e k o i := by
    show (G.1, gm_W G, gm_B (gp_hold1 G e k o (i + 1)), gm_H (gp_hold1 G e k o (i + 1)), gm_L G, gm_D G, gm_N G, gm_S G) = (G.1, gm_W G, gm_B (gp_hold1 G e k o i), gm_H (gp_hold1 G e k o i), gm_L G, gm_D G, gm_N G, gm_S G)
    rw [hH, hB]
  rw [e1]; exact hv
theorem vx_hset {q : Int} {G : gm_T} {f_now : Int32} {f_sent : Int32} {a_stateOf : (Nat → Int32)} {a_error : (Nat → Int32)} {a_iss : (Nat → Int32)} {a_una : (Nat → Int32)} {a_nxt : (Nat → Int32)} {a_max : (Nat → Int32)} {a_writtenTo : (Nat → Int32)} {a_kept : (Nat → Int32)} {a_keptBytes : (Nat → Int32)} {a_rcv : (Nat → Int32)} {a_unread : (Nat → Int32)} {a_unreadFrom : (Nat → Int32)} {a_cameBytes : (Nat → Int32)} {a_held : (Nat → Int32)} {a_heldFin : (Nat → Int32)} {a_wnd : (Nat → Int32)} {a_wndSeq : (Nat → Int32)} {a_wndAck : (Nat → Int32)} {a_peak : (Nat → Int32)} {a_half : (Nat → Int32)} {a_same : (Nat → Int32)} {a_rto : (Nat → Int32)} {a_tries : (Nat → Int32)} {a_retryAt : (Nat → Int32)} {a_ackAt : (Nat → Int32)} {a_waitTill : (Nat → Int32)} {a_timedAt : (Nat → Int32)} {a_timedSeq : (Nat → Int32)} {a_smoothed : (Nat → Int32)} {a_variance : (Nat → Int32)} {a_rowCount : (Nat → Int32)} {a_slotSeq : (Nat → Int32)} {a_slotFlags : (Nat → Int32)} {a_slotAck : (Nat → Int32)} {a_slotWindow : (Nat → Int32)} {a_slotSize : (Nat → Int32)} {a_slotBytes : (Nat → Int32)} {e k i : Nat} {o : Int} (hv : vx_S q (gp_hold1 G e k o (i : Int)) (f_now, f_sent, a_stateOf, a_error, a_iss, a_una, a_nxt, a_max, a_writtenTo, a_kept, a_keptBytes, a_rcv, a_unread, a_unreadFrom, a_cameBytes, a_held, a_heldFin, a_wnd, a_wndSeq, a_wndAck, a_peak, a_half, a_same, a_rto, a_tries, a_retryAt, a_ackAt, a_waitTill, a_timedAt, a_timedSeq, a_smoothed, a_variance, a_rowCount, a_slotSeq, a_slotFlags, a_slotAck, a_slotWindow, a_slotSize, a_slotBytes)) (he : e < 2) (hk : k < 32) (hi : i < 8) (hur0 : 0 ≤ G.1 9 e) (huf : G.1 10 e + G.1 9 e = G.1 8 e) (hH : ∀ p, gm_H G e p = true → G.1 8 e ≤ p ∧ p < G.1 8 e + 24 - G.1 9 e) (h0 : 0 ≤ o + i) (h1 : o + i < 24 - G.1 9 e) (hfa : G.1 11 e < 0 ∨ G.1 8 e + o + i < G.1 11 e) (hn : gm_H G e (G.1 8 e + o + i) = false) : vx_S q (gp_hold1 G e k o ((i : Int) + 1)) (f_now, f_sent, a_stateOf, a_error, a_iss, a_una, a_nxt, a_max, a_writtenTo, a_kept, a_keptBytes, a_rcv, a_unread, a_unreadFrom, upd a_cameBytes (32 * e + ((G.1 7 e + (G.1 8 e + o + i)) % 32).toNat) (zi_n (zi_b (gm_D G (8 * k + i)))), upd a_held (32 * e + ((G.1 7 e + (G.1 8 e + o + i)) % 32).toNat) 1, a_heldFin, a_wnd, a_wndSeq, a_wndAck, a_peak, a_half, a_same, a_rto, a_tries, a_retryAt, a_ackAt, a_waitTill, a_timedAt, a_timedSeq, a_smoothed, a_variance, a_rowCount, a_slotSeq, a_slotFlags, a_slotAck, a_slotWindow, a_slotSize, a_slotBytes) := by
  obtain ⟨h_now, h_sent, h_stateOf, h_error, h_iss, h_una, h_nxt, h_max, h_writtenTo, h_kept, h_keptBytes, h_rcv, h_unread, h_unreadFrom, h_cameBytes, h_held, h_heldFin, h_wnd, h_wndSeq, h_wndAck, h_peak, h_half, h_same, h_rto, h_tries, h_retryAt, h_ackAt, h_waitTill, h_timedAt, h_timedSeq, h_smoothed, h_variance, h_rowCount, h_slotSeq, h_slotFlags, h_slotAck, h_slotWindow, h_slotSize, h_slotBytes⟩ := hv
  have new_i : gp_new G e k o ((i : Int) + 1) (G.1 8 e + o + i) = true := by rw [nw_e]; omega
  have new_o : ∀ p, p ≠ G.1 8 e + o + i → gp_new G e k o ((i : Int) + 1) p = gp_new G e k o i p := by
    intro p z
    have : gp_new G e k o ((i : Int) + 1) p = true ↔ gp_new G e k o i p = true := by rw [nw_e, nw_e]; omega
    exact Bool.eq_iff_iff.mpr this
  have hH' : ∀ p, gm_H (gp_hold1 G e k o ((i : Int) + 1)) e p = true → G.1 8 e ≤ p ∧ p < G.1 8 e + 24 - G.1 9 e := by
    intro p z
    have z' : gm_h (gm_H G) e (fun p => gm_H G e p || gp_new G e k o ((i : Int) + 1) p) e p = true := z
    rw [hh_E] at z'
    rw [Bool.or_eq_true, nw_e] at z'
    rcases z' with y | y
    · exact hH p y
    · omega
  refine (vx_mk h_now h_sent h_stateOf h_error h_iss h_una h_nxt h_max h_writtenTo h_kept h_keptBytes h_rcv h_unread h_unreadFrom (fun e' he' p' z => ?a2) (fun e' he' p' z1 z2 => ?a1) h_heldFin h_wnd h_wndSeq h_wndAck h_peak h_half h_same h_rto h_tries h_retryAt h_ackAt h_waitTill h_timedAt h_timedSeq h_smoothed h_variance h_rowCount h_slotSeq h_slotFlags h_slotAck h_slotWindow h_slotSize h_slotBytes)
  case a1 =>
    have z1' : G.1 8 e' ≤ p' := z1
    have z2' : p' < G.1 8 e' + 32 := z2
    show upd _ _ _ (32 * e' + ((G.1 7 e' + p') % 32).toNat) = if gm_h (gm_H G) e (fun p => gm_H G e p || gp_new G e k o ((i : Int) + 1) p) e' p' = true then 1 else 0
    by_cases y : e' = e
    · subst y
      rw [hh_E]
      by_cases y2 : p' = G.1 8 e' + o + i
      · subst y2
        rw [zu_s, new_i, Bool.or_true]; rfl
      · have hold := h_held e' he' p' z1 z2
        have hold' : a_held (32 * e' + ((G.1 7 e' + p') % 32).toNat) = if gm_h (gm_H G) e' (fun p => gm_H G e' p || gp_new G e' k o i p) e' p' = true then 1 else 0 := hold
        rw [hh_E] at hold'
        rw [zu_n (by omega), hold', new_o p' y2]
    · rw [zu_n (by omega), hh_O y]
      have hold := h_held e' he' p' z1 z2
      have hold' : a_held (32 * e' + ((G.1 7 e' + p') % 32).toNat) = if gm_h (gm_H G) e (fun p => gm_H G e p || gp_new G e k o i p) e' p' = true then 1 else 0 := hold
      rw [hh_O y] at hold'
      exact hold'
  case a2 =>
    show upd _ _ _ (32 * e' + ((G.1 7 e' + p') % 32).toNat) = zi_n (zi_b (gm_b (gm_B G) e (fun p => if gm_H G e p = false ∧ gp_new G e k o ((i : Int) + 1) p = true then gm_D G (8 * k + (p - G.1 8 e - o).toNat) else gm_B G e p) e' p'))
    have hold : ((G.1 10 e' ≤ p' ∧ p' < G.1 10 e' + G.1 9 e') ∨ gm_H (gp_hold1 G e k o i) e' p' = true) → a_cameBytes (32 * e' + ((G.1 7 e' + p') % 32).toNat) = zi_n (zi_b (gm_b (gm_B G) e (fun p => if gm_H G e p = false ∧ gp_new G e k o i p = true then gm_D G (8 * k + (p - G.1 8 e - o).toNat) else gm_B G e p) e' p')) := h_cameBytes e' he' p'
    by_cases y : e' = e
    · subst y
      by_cases y2 : p' = G.1 8 e' + o + i
      · subst y2
        rw [zu_s, bb_E]
        rw [if_pos ⟨hn, new_i⟩]
        congr 4; omega
      · have hw : G.1 8 e' - G.1 9 e' ≤ p' ∧ p' < G.1 8 e' + 24 - G.1 9 e' := by
          rcases z with z | z
          · have z' : G.1 10 e' ≤ p' ∧ p' < G.1 10 e' + G.1 9 e' := z
            omega
          · have := hH' p' z; omega
        rw [zu_n (by omega)]
        rw [hold ?_]
        · rw [bb_E, bb_E]
          rw [new_o p' y2]
        · rcases z with z | z
          · exact Or.inl z
          · refine Or.inr ?_
            have z' : gm_h (gm_H G) e' (fun p => gm_H G e' p || gp_new G e' k o ((i : Int) + 1) p) e' p' = true := z
            show gm_h (gm_H G) e' (fun p => gm_H G e' p || gp_new G e' k o i p) e' p' = true
            rw [hh_E] at z' ⊢
            rw [← new_o p' y2]; exact z'
    · rw [zu_n (by omega), hold ?_]
      · rw [bb_O y, bb_O y]
      · rcases z with z | z
        · exact Or.inl z
        · refine Or.inr ?_
          have z' : gm_h (gm_H G) e (fun p => gm_H G e p || gp_new G e k o ((i : Int) + 1) p) e' p' = true := z
          show gm_h (gm_H G) e (fun p => gm_H G e p || gp_new G e k o i p) e' p' = true
          rw [hh_O y] at z' ⊢
          exact z'
theorem xl_hold {q K : Int} {G : gm_T} {u : SX} {p x : Int32} {P : SX → Prop} {k : Nat} (hv : vx_S q G u) (hI : gv_I K G) (hp : vp_in p 2) (hk : k < 32) (hx : x = zi_n (k : Int)) (h4 : 4 ≤ G.1 0 p.toNatClampNeg) (h6 : G.1 0 p.toNatClampNeg ≤ 6) (ho0 : -100 ≤ gp_o G p.toNatClampNeg k) (ho1 : gp_o G p.toNatClampNeg k ≤ 100) (hP : ∀ u', vx_S q (gp_hold G p.toNatClampNeg k (gp_o G p.toNatClampNeg k)) u' → P u') : wpX_hold P u p x := by
  obtain ⟨f_now, f_sent, a_stateOf, a_error, a_iss, a_una, a_nxt, a_max, a_writtenTo, a_kept, a_keptBytes, a_rcv, a_unread, a_unreadFrom, a_cameBytes, a_held, a_heldFin, a_wnd, a_wndSeq, a_wndAck, a_peak, a_half, a_same, a_rto, a_tries, a_retryAt, a_ackAt, a_waitTill, a_timedAt, a_timedSeq, a_smoothed, a_variance, a_rowCount, a_slotSeq, a_slotFlags, a_slotAck, a_slotWindow, a_slotSize, a_slotBytes⟩ := u
  have hv0 := hv
  obtain ⟨h_now, h_sent, h_stateOf, h_error, h_iss, h_una, h_nxt, h_max, h_writtenTo, h_kept, h_keptBytes, h_rcv, h_unread, h_unreadFrom, h_cameBytes, h_held, h_heldFin, h_wnd, h_wndSeq, h_wndAck, h_peak, h_half, h_same, h_rto, h_tries, h_retryAt, h_ackAt, h_waitTill, h_timedAt, h_timedSeq, h_smoothed, h_variance, h_rowCount, h_slotSeq, h_slotFlags, h_slotAck, h_slotWindow, h_slotSize, h_slotBytes⟩ := hv0
  have he := pe_lt hp
  have hz := pe_z hp
  have l1 := hI.2.2.2.2.2.1.1 k hk
  have hin : vp_in x 33 := by rw [hx]; exact sl_in hk
  have hxk : x.toNatClampNeg = k := by rw [hx]; exact sl_c (by omega)
  have hK := hI.2.1
  obtain ⟨b1, b2, b3, b4, b5, b6⟩ := hI.2.2.2.2.1 _ he
  unfold gv_r at b6
  obtain ⟨q1, q2, q3, q4, q5, q6, q7, q8, q9, qa, qb, qc⟩ := b6
  have huf := q9 (by omega) h6
  have hsq : gm_L G 0 k = (G.1 7 p.toNatClampNeg + (G.1 8 p.toNatClampNeg + gp_o G p.toNatClampNeg k)) % 65536 := by
    unfold gp_o; rw [zi_s_e]; omega
  generalize gp_o G p.toNatClampNeg k = o at *
  -- the loop
  have lo : ∀ (f i : Nat) (HD CB : Nat → Int32), (i : Int) ≤ gm_L G 4 k → gm_L G 4 k - i < f → vx_S q (gp_hold1 G p.toNatClampNeg k o (i : Int)) (f_now, f_sent, a_stateOf, a_error, a_iss, a_una, a_nxt, a_max, a_writtenTo, a_kept, a_keptBytes, a_rcv, a_unread, a_unreadFrom, CB, HD, a_heldFin, a_wnd, a_wndSeq, a_wndAck, a_peak, a_half, a_same, a_rto, a_tries, a_retryAt, a_ackAt, a_waitTill, a_timedAt, a_timedSeq, a_smoothed, a_variance, a_rowCount, a_slotSeq, a_slotFlags, a_slotAck, a_slotWindow, a_slotSize, a_slotBytes) → wX_hold_17 P p x (zi_n (24 - G.1 9 p.toNatClampNeg)) (zi_n (gm_L G 4 k)) f_now f_sent f (nI i) a_stateOf a_error a_iss a_una a_nxt a_max a_writtenTo a_kept a_keptBytes a_rcv a_unread a_unreadFrom (CB) (HD) a_heldFin a_wnd a_wndSeq a_wndAck a_peak a_half a_same a_rto a_tries a_retryAt a_ackAt a_waitTill a_timedAt a_timedSeq a_smoothed a_variance a_rowCount a_slotSeq a_slotFlags a_slotAck a_slotWindow a_slotSize a_slotBytes := by
    intro f
    induction f with
    | zero => intro i HD CB h1 h2; omega
    | succ f ih =>
      intro i HD CB hi1 hi2 hvi
      by_cases w : (i : Int) = gm_L G 4 k
      · refine br_t (by rw [zi_nI, w]; exact Int32.le_refl _) ⟨hin, ?_⟩
        rw [hxk]
        rw [w] at hvi
        refine xl_behind (h_slotSeq k hk) rfl ⟨hp, ?_⟩
        refine xl_off (i := G.1 7 p.toNatClampNeg) (a := G.1 8 p.toNatClampNeg + o + gm_L G 4 k) (b := G.1 8 p.toNatClampNeg) (by rw [hsq]; congr 1; omega) (h_rcv _ he) (by omega) (by omega) ⟨hin, ?_⟩
        have hno : ¬ (gm_L G 1 k / 4 % 2 = 1 ∧ G.1 11 p.toNatClampNeg < 0 ∧ 0 ≤ o + gm_L G 4 k ∧ o + gm_L G 4 k < 24 - G.1 9 p.toNatClampNeg) → P (f_now, f_sent, a_stateOf, a_error, a_iss, a_una, a_nxt, a_max, a_writtenTo, a_kept, a_keptBytes, a_rcv, a_unread, a_unreadFrom, CB, HD, a_heldFin, a_wnd, a_wndSeq, a_wndAck, a_peak, a_half, a_same, a_rto, a_tries, a_retryAt, a_ackAt, a_waitTill, a_timedAt, a_timedSeq, a_smoothed, a_variance, a_rowCount, a_slotSeq, a_slotFlags, a_slotAck, a_slotWindow, a_slotSize, a_slotBytes) := by
          intro z
          refine hP _ ?_
          rw [ho_n z]; exact hvi
        by_cases w1 : gm_L G 1 k / 4 % 2 = 1
        · refine br_f (by rw [h_slotFlags k hk, zf_4 (by omega) (by omega), zk_0, zi_eq (by omega) (by omega) (by omega) (by omega)]; omega) ⟨hp, ?_⟩
          by_cases w2 : G.1 11 p.toNatClampNeg < 0
          · refine br_t (by rw [h_heldFin _ he, if_pos w2]; rfl) ?_
            by_cases w3 : o + gm_L G 4 k < 0
            · exact br_t (by rw [zk_0, zi_lt (by omega) (by omega) (by omega) (by omega)]; omega) (hno (by omega))
            · refine br_f (by rw [zk_0, zi_lt (by omega) (by omega) (by omega) (by omega)]; omega) ?_
              by_cases w4 : 24 - G.1 9 p.toNatClampNeg ≤ o + gm_L G 4 k
              · exact br_t (by rw [zi_le (by omega) (by omega) (by omega) (by omega)]; omega) (hno (by omega))
              · refine br_f (by rw [zi_le (by omega) (by omega) (by omega) (by omega)]; omega) ⟨hp, nm_e (hP _ ?_)⟩
                clear h_heldFin
                obtain ⟨h_now, h_sent, h_stateOf, h_error, h_iss, h_una, h_nxt, h_max, h_writtenTo, h_kept, h_keptBytes, h_rcv, h_unread, h_unreadFrom, h_cameBytes, h_held, h_heldFin, h_wnd, h_wndSeq, h_wndAck, h_peak, h_half, h_same, h_rto, h_tries, h_retryAt, h_ackAt, h_waitTill, h_timedAt, h_timedSeq, h_smoothed, h_variance, h_rowCount, h_slotSeq, h_slotFlags, h_slotAck, h_slotWindow, h_slotSize, h_slotBytes⟩ := hvi
                refine (vx_mk h_now h_sent h_stateOf h_error h_iss h_una h_nxt h_max h_writtenTo h_kept h_keptBytes h_rcv h_unread h_unreadFrom h_cameBytes h_held (vu_e h_heldFin ?a1 (fun e' q => ?a2)) h_wnd h_wndSeq h_wndAck h_peak h_half h_same h_rto h_tries h_retryAt h_ackAt h_waitTill h_timedAt h_timedSeq h_smoothed h_variance h_rowCount h_slotSeq h_slotFlags h_slotAck h_slotWindow h_slotSize h_slotBytes)
                case a1 =>
                  rw [ho_p ⟨w1, w2, by omega, by omega⟩, ho_f (by decide), if_neg (by omega), hsq]
                  congr 1; omega
                case a2 =>
                  rw [ho_o q, ho_o q]; rfl
          · exact br_f (by rw [h_heldFin _ he, if_neg w2, zk_m1, zi_eq (by omega) (by omega) (by omega) (by omega)]; omega) (hno (by omega))
        · exact br_t (by rw [h_slotFlags k hk, zf_4 (by omega) (by omega), zk_0, zi_eq (by omega) (by omega) (by omega) (by omega)]; omega) (hno (by omega))
      · have i8 : i < 8 := by omega
        refine br_f (by rw [zi_nI, zi_le (by omega) (by omega) (by omega) (by omega)]; omega) ⟨hin, ?_⟩
        rw [hxk]
        refine xl_behind (h_slotSeq k hk) (zi_nI i) ⟨hp, ?_⟩
        have hnum : (gm_L G 0 k + i) % 65536 = (G.1 7 p.toNatClampNeg + (G.1 8 p.toNatClampNeg + o + i)) % 65536 := by rw [hsq]; omega
        rw [hnum]
        refine xl_off (i := G.1 7 p.toNatClampNeg) (a := G.1 8 p.toNatClampNeg + o + i) (b := G.1 8 p.toNatClampNeg) rfl (h_rcv _ he) (by omega) (by omega) ?_
        have i1 : (p * 32 + (zi_n ((G.1 7 p.toNatClampNeg + (G.1 8 p.toNatClampNeg + o + i)) % 65536) &&& 31)) = zi_n (32 * (p.toNatClampNeg : Int) + (G.1 7 p.toNatClampNeg + (G.1 8 p.toNatClampNeg + o + i)) % 32) := by
          generalize p.toNatClampNeg = e at *
          rw [hz, zk_32, zi_mul, zi_a5, zi_add]; congr 1; omega
        have i2 : (zi_n (32 * (p.toNatClampNeg : Int) + (G.1 7 p.toNatClampNeg + (G.1 8 p.toNatClampNeg + o + i)) % 32)).toNatClampNeg = 32 * p.toNatClampNeg + ((G.1 7 p.toNatClampNeg + (G.1 8 p.toNatClampNeg + o + i)) % 32).toNat := by
          rw [zi_cl (by omega) (by omega)]; omega
        have ii : ((i + 1 : Nat) : Int) = (i : Int) + 1 := by omega
        -- not one that fits
        have k89 : ¬ (0 ≤ o + i ∧ o + i < 24 - G.1 9 p.toNatClampNeg ∧ (G.1 11 p.toNatClampNeg < 0 ∨ G.1 8 p.toNatClampNeg + o + i < G.1 11 p.toNatClampNeg)) → wX_hold_89 P (wX_hold_17 P p x (zi_n (24 - G.1 9 p.toNatClampNeg)) (zi_n (gm_L G 4 k)) f_now f_sent f) p x (zi_n (24 - G.1 9 p.toNatClampNeg)) (zi_n (gm_L G 4 k)) (nI i) (zi_n ((G.1 7 p.toNatClampNeg + (G.1 8 p.toNatClampNeg + o + i)) % 65536)) f_now f_sent a_stateOf a_error a_iss a_una a_nxt a_max a_writtenTo a_kept a_keptBytes a_rcv a_unread a_unreadFrom (CB) (HD) a_heldFin a_wnd a_wndSeq a_wndAck a_peak a_half a_same a_rto a_tries a_retryAt a_ackAt a_waitTill a_timedAt a_timedSeq a_smoothed a_variance a_rowCount a_slotSeq a_slotFlags a_slotAck a_slotWindow a_slotSize a_slotBytes := by
          intro z
          unfold wX_hold_89 wX_hold_90
          refine nm_e (br_t rfl (nm_r (nI_1 i) (ih (i + 1) HD CB (by omega) (by omega) ?_)))
          rw [ii]
          refine vx_hkeep hvi (fun p' y => Or.inl ?_)
          rw [nw_e] at y ⊢
          have : p' ≠ G.1 8 p.toNatClampNeg + o + i := fun h => z (by rw [h] at y; omega)
          omega
        have k85 : (0 ≤ o + i ∧ o + i < 24 - G.1 9 p.toNatClampNeg ∧ (G.1 11 p.toNatClampNeg < 0 ∨ G.1 8 p.toNatClampNeg + o + i < G.1 11 p.toNatClampNeg)) → wX_hold_85 P (wX_hold_17 P p x (zi_n (24 - G.1 9 p.toNatClampNeg)) (zi_n (gm_L G 4 k)) f_now f_sent f) p x (zi_n (24 - G.1 9 p.toNatClampNeg)) (zi_n (gm_L G 4 k)) (nI i) (zi_n ((G.1 7 p.toNatClampNeg + (G.1 8 p.toNatClampNeg + o + i)) % 65536)) f_now f_sent a_stateOf a_error a_iss a_una a_nxt a_max a_writtenTo a_kept a_keptBytes a_rcv a_unread a_unreadFrom (CB) (HD) a_heldFin a_wnd a_wndSeq a_wndAck a_peak a_half a_same a_rto a_tries a_retryAt a_ackAt a_waitTill a_timedAt a_timedSeq a_smoothed a_variance a_rowCount a_slotSeq a_slotFlags a_slotAck a_slotWindow a_slotSize a_slotBytes := by
          intro z
          unfold wX_hold_85 wX_hold_90
          have hin6 : vp_in (zi_n (32 * (p.toNatClampNeg : Int) + (G.1 7 p.toNatClampNeg + (G.1 8 p.toNatClampNeg + o + i)) % 32)) 64 := zi_in (by omega) (by omega) (by omega)
          refine nm_r i1 (br_f (by decide) ⟨hin6, ?_⟩)
          rw [i2]
          have hcell : HD (32 * p.toNatClampNeg + ((G.1 7 p.toNatClampNeg + (G.1 8 p.toNatClampNeg + o + i)) % 32).toNat) = if gm_h (gm_H G) p.toNatClampNeg (fun p' => gm_H G p.toNatClampNeg p' || gp_new G p.toNatClampNeg k o i p') p.toNatClampNeg (G.1 8 p.toNatClampNeg + o + i) = true then 1 else 0 := by
            clear h_held
            obtain ⟨h_now, h_sent, h_stateOf, h_error, h_iss, h_una, h_nxt, h_max, h_writtenTo, h_kept, h_keptBytes, h_rcv, h_unread, h_unreadFrom, h_cameBytes, h_held, h_heldFin, h_wnd, h_wndSeq, h_wndAck, h_peak, h_half, h_same, h_rto, h_tries, h_retryAt, h_ackAt, h_waitTill, h_timedAt, h_timedSeq, h_smoothed, h_variance, h_rowCount, h_slotSeq, h_slotFlags, h_slotAck, h_slotWindow, h_slotSize, h_slotBytes⟩ := hvi
            exact h_held _ he (G.1 8 p.toNatClampNeg + o + i) (show G.1 8 p.toNatClampNeg ≤ _ from by omega) (show _ < G.1 8 p.toNatClampNeg + 32 from by omega)
          rw [hh_E] at hcell
          have hnn : gp_new G p.toNatClampNeg k o i (G.1 8 p.toNatClampNeg + o + i) = false := by
            rw [← Bool.not_eq_true, nw_e]; omega
          rw [hnn, Bool.or_false] at hcell
          cases hc : gm_H G p.toNatClampNeg (G.1 8 p.toNatClampNeg + o + i)
          · rw [hc] at hcell
            have hin8 : x * 8 + nI i = zi_n (8 * (k : Int) + i) := by rw [hx, zi_nI, zk_8, zi_mul, zi_add]; congr 1; omega
            have hin9 : (x * 8 + nI i).toNatClampNeg = 8 * k + i := by rw [hin8, zi_cl (by omega) (by omega)]; omega
            refine br_t hcell ⟨hin6, nm_e ⟨by rw [hin8]; exact zi_in (by omega) (by omega) (by omega), hin6, nm_e (nm_r (nI_1 i) (ih (i + 1) _ _ (by omega) (by omega) ?_))⟩⟩
            rw [ii, hin9, h_slotBytes (8 * k + i) (by omega), vn_byte, zb_b]
            exact vx_hset hvi he hk i8 q5 huf (fun p' y => by have := qc p' y; omega) z.1 z.2.1 z.2.2 hc
          · rw [hc] at hcell
            refine br_f (by rw [hcell]; decide) (nm_r (nI_1 i) (ih (i + 1) HD CB (by omega) (by omega) ?_))
            rw [ii]
            refine vx_hkeep hvi (fun p' y => ?_)
            rw [nw_e] at y
            by_cases w5 : p' = G.1 8 p.toNatClampNeg + o + i
            · rw [w5]; exact Or.inr hc
            · refine Or.inl ?_
              rw [nw_e]; omega
        by_cases w1 : o + (i : Int) < 0
        · exact br_t (by rw [zk_0, zi_lt (by omega) (by omega) (by omega) (by omega)]; omega) (k89 (by omega))
        · refine br_f (by rw [zk_0, zi_lt (by omega) (by omega) (by omega) (by omega)]; omega) ?_
          by_cases w2 : 24 - G.1 9 p.toNatClampNeg ≤ o + (i : Int)
          · exact br_t (by rw [zi_le (by omega) (by omega) (by omega) (by omega)]; omega) (k89 (by omega))
          · refine br_f (by rw [zi_le (by omega) (by omega) (by omega) (by omega)]; omega) ⟨hp, ?_⟩
            by_cases w3 : G.1 11 p.toNatClampNeg < 0
            · exact br_t (by rw [h_heldFin _ he, if_pos w3]; rfl) (k85 (by omega))
            · have qb' := qb (by omega)
              refine br_f (by rw [h_heldFin _ he, if_neg w3, zk_m1, zi_eq (by omega) (by omega) (by omega) (by omega)]; omega) ⟨hp, xl_off (i := G.1 7 p.toNatClampNeg) (a := G.1 8 p.toNatClampNeg + o + i) (b := G.1 11 p.toNatClampNeg) rfl (by rw [h_heldFin _ he, if_neg w3]) (by omega) (by omega) ?_⟩
              by_cases w4 : 0 ≤ G.1 8 p.toNatClampNeg + o + i - G.1 11 p.toNatClampNeg
              · exact br_t (by rw [zk_0, zi_le (by omega) (by omega) (by omega) (by omega)]; omega) (k89 (by omega))
              · exact br_f (by rw [zk_0, zi_le (by omega) (by omega) (by omega) (by omega)]; omega) (k85 (by omega))
  unfold wpX_hold
  refine xl_ownWindow hp (h_unread _ he) ⟨hin, ?_⟩
  rw [hxk]
  refine nm_r (h_slotSize k hk) ⟨10, lo 10 0 a_held a_cameBytes (by omega) (by omega) ?_⟩
  have e0 : ∀ p', gp_new G p.toNatClampNeg k o 0 p' = false := fun p' => by rw [← Bool.not_eq_true, nw_e]; omega
  have hH : gm_H (gp_hold1 G p.toNatClampNeg k o ((0 : Nat) : Int)) = gm_H G := by
    funext e' p'
    have t : gm_H (gp_hold1 G p.toNatClampNeg k o ((0 : Nat) : Int)) e' p' = if e' = p.toNatClampNeg then (gm_H G p.toNatClampNeg p' || gp_new G p.toNatClampNeg k o ((0 : Nat) : Int) p') else gm_H G e' p' := rfl
    rw [t]
    split
    · rename_i h; rw [h, show ((0 : Nat) : Int) = 0 from rfl, e0, Bool.or_false]
    · rfl
  have hB : gm_B (gp_hold1 G p.toNatClampNeg k o ((0 : Nat) : Int)) = gm_B G := by
    funext e' p'
    have t : gm_B (gp_hold1 G p.toNatClampNeg k o ((0 : Nat) : Int)) e' p' = if e' = p.toNatClampNeg then (if gm_H G p.toNatClampNeg p' = false ∧ gp_new G p.toNatClampNeg k o ((0 : Nat) : Int) p' = true then gm_D G (8 * k + (p' - G.1 8 p.toNatClampNeg - o).toNat) else gm_B G p.toNatClampNeg p') else gm_B G e' p' := rfl
    rw [t]
    split
    · rename_i h; rw [h, if_neg (fun z => by have := z.2; rw [show ((0 : Nat) : Int) = 0 from rfl, e0] at this; cases this)]
    · rfl
  have e1 : gp_hold1 G p.toNatClampNeg k o ((0 : Nat) : Int) = G := by
    show (G.1, gm_W G, gm_B (gp_hold1 G p.toNatClampNeg k o ((0 : Nat) : Int)), gm_H (gp_hold1 G p.toNatClampNeg k o ((0 : Nat) : Int)), gm_L G, gm_D G, gm_N G, gm_S G) = G
    rw [hH, hB]
  rw [e1]; exact hv
