/-! the class: read, a new object -/
/-- what read answers -/
def gr_v (G : gm_T) (e : Nat) (m : Int) : Nat → Int64
  | 0 => (zi_n m).toInt64 <<< ((56 : Int32).toInt64 &&& 63)
  | i + 1 => gr_v G e m i ||| ((zi_n (gm_B G e (G.1 10 e + (i : Int)))).toInt64 <<< ((8 * nI i).toInt64 &&& 63))
theorem xr_96 {q K : Int} {G : gm_T} {f_now : Int32} {f_sent : Int32} {a_stateOf : (Nat → Int32)} {a_error : (Nat → Int32)} {a_iss : (Nat → Int32)} {a_una : (Nat → Int32)} {a_nxt : (Nat → Int32)} {a_max : (Nat → Int32)} {a_writtenTo : (Nat → Int32)} {a_kept : (Nat → Int32)} {a_keptBytes : (Nat → Int32)} {a_rcv : (Nat → Int32)} {a_unread : (Nat → Int32)} {a_unreadFrom : (Nat → Int32)} {a_cameBytes : (Nat → Int32)} {a_held : (Nat → Int32)} {a_heldFin : (Nat → Int32)} {a_wnd : (Nat → Int32)} {a_wndSeq : (Nat → Int32)} {a_wndAck : (Nat → Int32)} {a_peak : (Nat → Int32)} {a_half : (Nat → Int32)} {a_same : (Nat → Int32)} {a_rto : (Nat → Int32)} {a_tries : (Nat → Int32)} {a_retryAt : (Nat → Int32)} {a_ackAt : (Nat → Int32)} {a_waitTill : (Nat → Int32)} {a_timedAt : (Nat → Int32)} {a_timedSeq : (Nat → Int32)} {a_smoothed : (Nat → Int32)} {a_variance : (Nat → Int32)} {a_rowCount : (Nat → Int32)} {a_slotSeq : (Nat → Int32)} {a_slotFlags : (Nat → Int32)} {a_slotAck : (Nat → Int32)} {a_slotWindow : (Nat → Int32)} {a_slotSize : (Nat → Int32)} {a_slotBytes : (Nat → Int32)} {P : Int64 → SX → Prop} {p x3 x4 x5 : Int32} {m : Int} (hv : vx_S q G (f_now, f_sent, a_stateOf, a_error, a_iss, a_una, a_nxt, a_max, a_writtenTo, a_kept, a_keptBytes, a_rcv, a_unread, a_unreadFrom, a_cameBytes, a_held, a_heldFin, a_wnd, a_wndSeq, a_wndAck, a_peak, a_half, a_same, a_rto, a_tries, a_retryAt, a_ackAt, a_waitTill, a_timedAt, a_timedSeq, a_smoothed, a_variance, a_rowCount, a_slotSeq, a_slotFlags, a_slotAck, a_slotWindow, a_slotSize, a_slotBytes)) (hI : gv_I K G) (hp : vp_in p 2) (hx3 : x3 = zi_n (G.1 0 p.toNatClampNeg)) (hx4 : x4 = zi_n (24 - G.1 9 p.toNatClampNeg)) (hx5 : x5 = zi_n m) (hm0 : 1 ≤ m) (hm7 : m ≤ 7) (hmu : m ≤ G.1 9 p.toNatClampNeg) (hP : ∀ u', vx_S q (gp_read G p.toNatClampNeg m) u' → P (gr_v G p.toNatClampNeg m m.toNat) u') :
    ∀ (f i : Nat) (UFX : Nat → Int32), (i : Int) ≤ m → m - i < f → (∀ e', e' < 2 → UFX e' = zi_n ((G.1 7 e' + (if e' = p.toNatClampNeg then G.1 10 e' + i else G.1 10 e')) % 65536)) → wX_read_96 P p x3 x4 x5 f_now f_sent f (gr_v G p.toNatClampNeg m i) (nI i) a_stateOf a_error a_iss a_una a_nxt a_max a_writtenTo a_kept a_keptBytes a_rcv a_unread (UFX) a_cameBytes a_held a_heldFin a_wnd a_wndSeq a_wndAck a_peak a_half a_same a_rto a_tries a_retryAt a_ackAt a_waitTill a_timedAt a_timedSeq a_smoothed a_variance a_rowCount a_slotSeq a_slotFlags a_slotAck a_slotWindow a_slotSize a_slotBytes := by
  have he := pe_lt hp
  have hz := pe_z hp
  have hv0 := hv
  obtain ⟨h_now, h_sent, h_stateOf, h_error, h_iss, h_una, h_nxt, h_max, h_writtenTo, h_kept, h_keptBytes, h_rcv, h_unread, h_unreadFrom, h_cameBytes, h_held, h_heldFin, h_wnd, h_wndSeq, h_wndAck, h_peak, h_half, h_same, h_rto, h_tries, h_retryAt, h_ackAt, h_waitTill, h_timedAt, h_timedSeq, h_smoothed, h_variance, h_rowCount, h_slotSeq, h_slotFlags, h_slotAck, h_slotWindow, h_slotSize, h_slotBytes⟩ := hv0
  obtain ⟨b1, b2, b3, b4, b5, b6⟩ := hI.2.2.2.2.1 _ he
  unfold gv_a at b1
  have hur : 0 ≤ G.1 9 p.toNatClampNeg ∧ G.1 9 p.toNatClampNeg ≤ 24 := by unfold gv_r at b6; omega
  have hB8 := hI.2.2.2.2.2.2.2
  intro f
  induction f with
  | zero => intro i UFX h1 h2; omega
  | succ f ih =>
    intro i UFX h1 h2 h3
    by_cases w : (i : Int) = m
    · obtain rfl : i = m.toNat := by omega
      refine br_t (by rw [hx5, zi_nI, w]; exact Int32.le_refl _) ⟨hp, hp, nm_r (e' := upd a_unread p.toNatClampNeg (zi_n (G.1 9 p.toNatClampNeg - m))) (by rw [h_unread _ he, hx5, zi_sub]) ?_⟩
      have hvr : vx_S q (gp_rd G p.toNatClampNeg m) (f_now, f_sent, a_stateOf, a_error, a_iss, a_una, a_nxt, a_max, a_writtenTo, a_kept, a_keptBytes, a_rcv, upd a_unread p.toNatClampNeg (zi_n (G.1 9 p.toNatClampNeg - m)), UFX, a_cameBytes, a_held, a_heldFin, a_wnd, a_wndSeq, a_wndAck, a_peak, a_half, a_same, a_rto, a_tries, a_retryAt, a_ackAt, a_waitTill, a_timedAt, a_timedSeq, a_smoothed, a_variance, a_rowCount, a_slotSeq, a_slotFlags, a_slotAck, a_slotWindow, a_slotSize, a_slotBytes) := by
        generalize p.toNatClampNeg = e at *
        have o : ∀ e' f, e' ≠ e → (gp_rd G e m).1 f e' = G.1 f e' := fun e' f y => by simp only [gp_rd, gs_e y]
        have vF : (gp_rd G e m).1 10 e = G.1 10 e + m := by simp +decide only [gp_rd, gs_s, gs_f]
        have vU : (gp_rd G e m).1 9 e = G.1 9 e - m := by simp +decide only [gp_rd, gs_s, gs_f]
        have vI : ∀ e', (gp_rd G e m).1 7 e' = G.1 7 e' := fun e' => by simp +decide only [gp_rd, gs_f]
        refine (vx_mk h_now h_sent h_stateOf h_error h_iss h_una h_nxt h_max h_writtenTo h_kept h_keptBytes h_rcv (vu_e h_unread ?a1 (fun e' y => o _ _ y)) (fun e' he' => ?a2) (fun e' he' p' z => ?a3) h_held h_heldFin h_wnd h_wndSeq h_wndAck h_peak h_half h_same h_rto h_tries h_retryAt h_ackAt h_waitTill h_timedAt h_timedSeq h_smoothed h_variance h_rowCount h_slotSeq h_slotFlags h_slotAck h_slotWindow h_slotSize h_slotBytes)
        case a1 => rw [vU]
        case a2 =>
          rw [h3 e' he', vI]
          by_cases y : e' = e
          · rw [if_pos y, y, vF]; congr 2; omega
          · rw [if_neg y, o _ _ y]
        case a3 =>
          refine h_cameBytes e' he' p' ?_
          by_cases y : e' = e
          · subst y
            rw [vF, vU] at z
            rcases z with z | z
            · exact Or.inl (by omega)
            · exact Or.inr z
          · rw [o _ _ y, o _ _ y] at z; exact z
      have hno : ¬ (24 - G.1 9 p.toNatClampNeg < 8 ∧ 7 < 24 - (G.1 9 p.toNatClampNeg - m) ∧ 3 < G.1 0 p.toNatClampNeg ∧ G.1 0 p.toNatClampNeg < 7) → P (gr_v G p.toNatClampNeg m m.toNat) (f_now, f_sent, a_stateOf, a_error, a_iss, a_una, a_nxt, a_max, a_writtenTo, a_kept, a_keptBytes, a_rcv, upd a_unread p.toNatClampNeg (zi_n (G.1 9 p.toNatClampNeg - m)), UFX, a_cameBytes, a_held, a_heldFin, a_wnd, a_wndSeq, a_wndAck, a_peak, a_half, a_same, a_rto, a_tries, a_retryAt, a_ackAt, a_waitTill, a_timedAt, a_timedSeq, a_smoothed, a_variance, a_rowCount, a_slotSeq, a_slotFlags, a_slotAck, a_slotWindow, a_slotSize, a_slotBytes) := by
        intro z
        refine hP _ ?_
        have : gp_read G p.toNatClampNeg m = gp_rd G p.toNatClampNeg m := if_neg z
        rw [this]; exact hvr
      by_cases c1 : 8 ≤ 24 - G.1 9 p.toNatClampNeg
      · exact br_t (by rw [hx4, zk_8, zi_le (by omega) (by omega) (by omega) (by omega)]; exact c1) (hno (by omega))
      · refine br_f (by rw [hx4, zk_8, zi_le (by omega) (by omega) (by omega) (by omega)]; exact c1) (xl_ownWindow hp zu_s ?_)
        by_cases c2 : 24 - (G.1 9 p.toNatClampNeg - m) < 8
        · exact br_t (by rw [zk_8, zi_lt (by omega) (by omega) (by omega) (by omega)]; exact c2) (hno (by omega))
        · refine br_f (by rw [zk_8, zi_lt (by omega) (by omega) (by omega) (by omega)]; exact c2) (xl_takesBytes hx3 (by omega) (by omega) (fun c3 => ?_) (fun c3 => br_t rfl (hno (by omega))))
          have hr : gp_read G p.toNatClampNeg m = gp_ack (gp_rd G p.toNatClampNeg m) p.toNatClampNeg := if_pos ⟨by omega, by omega, c3.1, c3.2⟩
          have hIr := iv_rd (m := m) hI he (by omega) hmu
          have sT : ∀ f, f = 0 ∨ f = 3 ∨ f = 5 → (gp_rd G p.toNatClampNeg m).1 f p.toNatClampNeg = G.1 f p.toNatClampNeg := by
            intro f hf
            rcases hf with rfl | rfl | rfl <;> simp +decide only [gp_rd, gs_f]
          have b24 := (show _ from b2)
          unfold gv_p at b24
          have b25 := b24.2.2.2.2.1 (by omega)
          refine br_f (by decide) (xl_sendAck hvr hp (sk_of hIr he (by rw [sT _ (by omega)]; omega) (Or.inl rfl) (by omega) (by omega) (by rw [sT _ (by omega), sT _ (by omega)]; omega) (by omega) (by omega)) fun u1 hv1 => ?_)
          rw [← hr] at hv1
          have := hP u1 hv1
          obtain ⟨f_now, f_sent, a_stateOf, a_error, a_iss, a_una, a_nxt, a_max, a_writtenTo, a_kept, a_keptBytes, a_rcv, a_unread, a_unreadFrom, a_cameBytes, a_held, a_heldFin, a_wnd, a_wndSeq, a_wndAck, a_peak, a_half, a_same, a_rto, a_tries, a_retryAt, a_ackAt, a_waitTill, a_timedAt, a_timedSeq, a_smoothed, a_variance, a_rowCount, a_slotSeq, a_slotFlags, a_slotAck, a_slotWindow, a_slotSize, a_slotBytes⟩ := u1
          exact this
    · have hU : UFX p.toNatClampNeg = zi_n ((G.1 7 p.toNatClampNeg + (G.1 10 p.toNatClampNeg + i)) % 65536) := by rw [h3 _ he, if_pos rfl]
      have i1 : (p * 32 + (UFX p.toNatClampNeg &&& 31)) = zi_n (32 * (p.toNatClampNeg : Int) + (G.1 7 p.toNatClampNeg + (G.1 10 p.toNatClampNeg + i)) % 32) := by
        rw [hU]
        generalize p.toNatClampNeg = e at *
        rw [hz, zk_32, zi_mul, zi_a5, zi_add]; congr 1; omega
      have i2 : (p * 32 + (UFX p.toNatClampNeg &&& 31)).toNatClampNeg = 32 * p.toNatClampNeg + ((G.1 7 p.toNatClampNeg + (G.1 10 p.toNatClampNeg + i)) % 32).toNat := by
        rw [i1, zi_cl (by omega) (by omega)]; omega
      have hby := h_cameBytes _ he (G.1 10 p.toNatClampNeg + i) (Or.inl (by omega))
      have hb8 := hB8 _ he (G.1 10 p.toNatClampNeg + i)
      have ev : (a_cameBytes (p * 32 + (UFX p.toNatClampNeg &&& 31)).toNatClampNeg &&& 255) = zi_n (gm_B G p.toNatClampNeg (G.1 10 p.toNatClampNeg + i)) := by
        rw [i2, hby, zi_a8, show zi_b (gm_B G p.toNatClampNeg (G.1 10 p.toNatClampNeg + i)) % 256 = gm_B G p.toNatClampNeg (G.1 10 p.toNatClampNeg + i) from by rw [zi_b_e]; omega]
      refine br_f (by rw [hx5, zi_nI, zi_le (by omega) (by omega) (by omega) (by omega)]; omega) ⟨hp, by rw [i1]; exact zi_in (by omega) (by omega) (by omega), nm_r (congrArg Int32.toInt64 ev) (nm_e ⟨hp, xl_behind hU zk_1 ⟨hp, nm_e (nm_r (nI_1 i) ?_)⟩⟩)⟩
      refine ih (i + 1) _ (by omega) (by omega) (fun e' he' => ?_)
      by_cases y : e' = p.toNatClampNeg
      · subst y; rw [zu_s, if_pos rfl]; congr 1; omega
      · rw [zu_n y, if_neg y, h3 e' he', if_neg y]
theorem xl_read {q K : Int} {G : gm_T} {u : SX} {P : Int64 → SX → Prop} {x y : Int32} {n : Int} (hv : vx_S q G u) (hI : gv_I K G) (hy : y = zi_n n) (h0 : -2147483648 ≤ n) (h1 : n < 2147483648) (hA : ¬ (vp_in x 2 ∧ (1 ≤ n ∧ n ≤ 7)) → P (-1) u) (hC : vp_in x 2 → (1 ≤ n ∧ n ≤ 7) → G.1 9 x.toNatClampNeg = 0 → P (if G.1 0 x.toNatClampNeg = 0 ∨ 6 < G.1 0 x.toNatClampNeg then -1 else 0) u) (hB : vp_in x 2 → (1 ≤ n ∧ n ≤ 7) → G.1 9 x.toNatClampNeg ≠ 0 → ∀ u', vx_S q (gp_read G x.toNatClampNeg (min n (G.1 9 x.toNatClampNeg))) u' → P (gr_v G x.toNatClampNeg (min n (G.1 9 x.toNatClampNeg)) (min n (G.1 9 x.toNatClampNeg)).toNat) u') : wpX_read P u x y := by
  obtain ⟨f_now, f_sent, a_stateOf, a_error, a_iss, a_una, a_nxt, a_max, a_writtenTo, a_kept, a_keptBytes, a_rcv, a_unread, a_unreadFrom, a_cameBytes, a_held, a_heldFin, a_wnd, a_wndSeq, a_wndAck, a_peak, a_half, a_same, a_rto, a_tries, a_retryAt, a_ackAt, a_waitTill, a_timedAt, a_timedSeq, a_smoothed, a_variance, a_rowCount, a_slotSeq, a_slotFlags, a_slotAck, a_slotWindow, a_slotSize, a_slotBytes⟩ := u
  have hv0 := hv
  obtain ⟨h_now, h_sent, h_stateOf, h_error, h_iss, h_una, h_nxt, h_max, h_writtenTo, h_kept, h_keptBytes, h_rcv, h_unread, h_unreadFrom, h_cameBytes, h_held, h_heldFin, h_wnd, h_wndSeq, h_wndAck, h_peak, h_half, h_same, h_rto, h_tries, h_retryAt, h_ackAt, h_waitTill, h_timedAt, h_timedSeq, h_smoothed, h_variance, h_rowCount, h_slotSeq, h_slotFlags, h_slotAck, h_slotWindow, h_slotSize, h_slotBytes⟩ := hv0
  unfold wpX_read
  refine xl_isEnd (fun hp => ?_) (fun hp => br_t rfl (hA (fun w => hp w.1)))
  have he := pe_lt hp
  obtain ⟨b1, b2, b3, b4, b5, b6⟩ := hI.2.2.2.2.1 _ he
  unfold gv_a at b1
  have hur : 0 ≤ G.1 9 x.toNatClampNeg ∧ G.1 9 x.toNatClampNeg ≤ 24 := by unfold gv_r at b6; omega
  subst hy
  refine br_f (by decide) ?_
  by_cases c1 : n < 1
  · exact br_t (by rw [zk_1, zi_lt h0 h1 (by omega) (by omega)]; exact c1) (hA (by omega))
  refine br_f (by rw [zk_1, zi_lt h0 h1 (by omega) (by omega)]; exact c1) ?_
  by_cases c2 : n ≤ 7
  case neg => exact br_f (by rw [zk_7, zi_le h0 h1 (by omega) (by omega)]; exact c2) (hA (by omega))
  refine br_t (by rw [zk_7, zi_le h0 h1 (by omega) (by omega)]; exact c2) ⟨hp, nm_r (h_stateOf _ he) ⟨hp, ?_⟩⟩
  by_cases c3 : G.1 9 x.toNatClampNeg = 0
  · have hc := hC hp (by omega) c3
    refine br_t (by rw [h_unread _ he, c3]; rfl) ?_
    by_cases c4 : G.1 0 x.toNatClampNeg = 0
    · rw [if_pos (Or.inl c4)] at hc
      exact br_t (by rw [c4]; rfl) hc
    · refine br_f (by rw [zk_0, zi_eq (by omega) (by omega) (by omega) (by omega)]; exact c4) ?_
      by_cases c5 : G.1 0 x.toNatClampNeg < 7
      · rw [if_neg (by omega)] at hc
        exact br_t (by rw [zk_7, zi_lt (by omega) (by omega) (by omega) (by omega)]; exact c5) hc
      · rw [if_pos (by omega)] at hc
        exact br_f (by rw [zk_7, zi_lt (by omega) (by omega) (by omega) (by omega)]; exact c5) hc
  · have hb := hB hp (by omega) c3
    have k83 : ∀ z0 : Int32, z0 = zi_n (min n (G.1 9 x.toNatClampNeg)) → wX_read_83 P x (zi_n (G.1 0 x.toNatClampNeg)) (zi_n (24 - G.1 9 x.toNatClampNeg)) z0 f_now f_sent a_stateOf a_error a_iss a_una a_nxt a_max a_writtenTo a_kept a_keptBytes a_rcv a_unread a_unreadFrom a_cameBytes a_held a_heldFin a_wnd a_wndSeq a_wndAck a_peak a_half a_same a_rto a_tries a_retryAt a_ackAt a_waitTill a_timedAt a_timedSeq a_smoothed a_variance a_rowCount a_slotSeq a_slotFlags a_slotAck a_slotWindow a_slotSize a_slotBytes := by
      intro z0 hz0
      unfold wX_read_83
      rw [hz0]
      refine nm_e ⟨9, ?_⟩
      exact xr_96 hv hI hp rfl rfl rfl (by omega) (by omega) (by omega) hb 9 0 a_unreadFrom (by omega) (by omega) (fun e' he' => by
        rw [h_unreadFrom e' he']
        split
        · congr 2; omega
        · rfl)
    refine br_f (by rw [h_unread _ he, zk_0, zi_eq (by omega) (by omega) (by omega) (by omega)]; exact c3) (xl_ownWindow hp (h_unread _ he) ⟨hp, ?_⟩)
    by_cases c4 : G.1 9 x.toNatClampNeg ≤ n
    · exact br_t (by rw [h_unread _ he, zi_le (by omega) (by omega) h0 h1]; exact c4) ⟨hp, k83 _ (by rw [h_unread _ he]; congr 1; omega)⟩
    · exact br_f (by rw [h_unread _ he, zi_le (by omega) (by omega) h0 h1]; exact c4) (k83 _ (by congr 1; omega))
/-- a new object -/
def gx_0 : gm_T := (fun f e => if (f = 13 ∨ f = 26) ∧ e < 2 then 1 else 0, fun _ _ => 0, fun _ _ => 0, fun _ _ => false, fun _ _ => 0, fun _ => 0, 0, 0)
theorem xl_init {P : SX → Prop} (hP : ∀ u', vx_S 0 (gp_begin (gp_begin gx_0 0 0) 1 0) u' → P u') : wpX_init P := by
  have p0 : vp_in 0 2 := zi_in (a := 0) (by omega) (by omega) (by omega)
  have p1 : vp_in 1 2 := zi_in (a := 1) (by omega) (by omega) (by omega)
  have c0 : (0 : Int32).toNatClampNeg = 0 := by decide
  have c1 : (1 : Int32).toNatClampNeg = 1 := by decide
  have z0 : ∀ f e, f ≠ 13 → f ≠ 26 → gx_0.1 f e = 0 := fun f e h1 h2 => if_neg (fun z => by omega)
  have t1 : ∀ e, e < 2 → gx_0.1 13 e = 1 := fun e he => if_pos ⟨Or.inl rfl, he⟩
  have s1 : ∀ e, e < 2 → gx_0.1 26 e = 1 := fun e he => if_pos ⟨Or.inr rfl, he⟩
  have hv : vx_S 0 gx_0 (0, 0, (fun _ => 0), (fun _ => 0), (fun _ => 0), (fun _ => 0), (fun _ => 0), (fun _ => 0), (fun _ => 0), (fun _ => 0), (fun _ => 0), (fun _ => 0), (fun _ => 0), (fun _ => 0), (fun _ => 0), (fun _ => 0), (fun _ => 0), (fun _ => 0), (fun _ => 0), (fun _ => 0), (fun _ => 0), (fun _ => 0), (fun _ => 0), (fun _ => 0), (fun _ => 0), (fun _ => 0), (fun _ => 0), (fun _ => 0), (fun _ => 0), (fun _ => 0), (fun _ => 0), (fun _ => 0), (fun _ => 0), (fun _ => 0), (fun _ => 0), (fun _ => 0), (fun _ => 0), (fun _ => 0), (fun _ => 0)) := by
    have e0 : ∀ f, f ≠ 13 → f ≠ 26 → ∀ e, e < 2 → (fun _ : Nat => (0 : Int32)) e = zi_n (gx_0.1 f e) := fun f h1 h2 e he => by rw [z0 f e h1 h2]; rfl
    have e2 : ∀ f g, f ≠ 13 → f ≠ 26 → g ≠ 13 → g ≠ 26 → ∀ e, e < 2 → (fun _ : Nat => (0 : Int32)) e = zi_n ((gx_0.1 f e + gx_0.1 g e) % 65536) := fun f g h1 h2 h3 h4 e he => by rw [z0 f e h1 h2, z0 g e h3 h4]; rfl
    refine vx_mk rfl rfl (e0 _ (by decide) (by decide)) (e0 _ (by decide) (by decide)) (e0 _ (by decide) (by decide)) (e2 _ _ (by decide) (by decide) (by decide) (by decide)) (e2 _ _ (by decide) (by decide) (by decide) (by decide)) (e2 _ _ (by decide) (by decide) (by decide) (by decide)) (e2 _ _ (by decide) (by decide) (by decide) (by decide)) (e0 _ (by decide) (by decide)) (fun e he p h1 h2 h3 => ?_) (e2 _ _ (by decide) (by decide) (by decide) (by decide)) (e0 _ (by decide) (by decide)) (e2 _ _ (by decide) (by decide) (by decide) (by decide)) (fun e he p h => ?_) (fun e he p h1 h2 => rfl) (fun e he => ?_) (e0 _ (by decide) (by decide)) (fun e he => ?_) (fun e he h => ?_) (e0 _ (by decide) (by decide)) (e0 _ (by decide) (by decide)) (e0 _ (by decide) (by decide)) (e0 _ (by decide) (by decide)) (e0 _ (by decide) (by decide)) (e0 _ (by decide) (by decide)) (e0 _ (by decide) (by decide)) (e0 _ (by decide) (by decide)) (fun e he => ?_) (fun e he h => ?_) (fun e he => ?_) (e0 _ (by decide) (by decide)) (e0 _ (by decide) (by decide)) (fun i hi => rfl) (fun i hi => rfl) (fun i hi => rfl) (fun i hi => rfl) (fun i hi => rfl) (fun i hi => rfl)
    · rw [z0 _ _ (by decide) (by decide)] at h2; omega
    · rcases h with h | h
      · rw [z0 _ _ (by decide) (by decide), z0 _ _ (by decide) (by decide)] at h; omega
      · cases h
    · rw [z0 _ _ (by decide) (by decide), z0 _ _ (by decide) (by decide)]; rfl
    · rw [t1 e he, z0 _ _ (by decide) (by decide)]; rfl
    · rw [z0 _ _ (by decide) (by decide)]; rfl
    · rw [z0 _ _ (by decide) (by decide), z0 _ _ (by decide) (by decide)]; rfl
    · rw [z0 _ _ (by decide) (by decide), z0 _ _ (by decide) (by decide)]; rfl
    · rw [s1 e he, z0 _ _ (by decide) (by decide)]; rfl
  unfold wpX_init
  refine xl_begin hv p0 zk_0 (by omega) (by omega) fun u1 hv1 => ?_
  rw [c0] at hv1
  obtain ⟨f_now, f_sent, a_stateOf, a_error, a_iss, a_una, a_nxt, a_max, a_writtenTo, a_kept, a_keptBytes, a_rcv, a_unread, a_unreadFrom, a_cameBytes, a_held, a_heldFin, a_wnd, a_wndSeq, a_wndAck, a_peak, a_half, a_same, a_rto, a_tries, a_retryAt, a_ackAt, a_waitTill, a_timedAt, a_timedSeq, a_smoothed, a_variance, a_rowCount, a_slotSeq, a_slotFlags, a_slotAck, a_slotWindow, a_slotSize, a_slotBytes⟩ := u1
  refine xl_begin hv1 p1 zk_0 (by omega) (by omega) fun u2 hv2 => ?_
  rw [c1] at hv2
  exact hP u2 hv2
