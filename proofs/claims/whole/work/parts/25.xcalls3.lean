/-! the class: forge, state, info, wire -/
theorem zb_m (z : Int) : zi_b (z % 256) = zi_b z := by rw [zi_b_e, zi_b_e]; omega
theorem xf_135 {P : Int32 → SX → Prop} {f_now : Int32} {f_sent : Int32} {a_stateOf : (Nat → Int32)} {a_error : (Nat → Int32)} {a_iss : (Nat → Int32)} {a_una : (Nat → Int32)} {a_nxt : (Nat → Int32)} {a_max : (Nat → Int32)} {a_writtenTo : (Nat → Int32)} {a_kept : (Nat → Int32)} {a_keptBytes : (Nat → Int32)} {a_rcv : (Nat → Int32)} {a_unread : (Nat → Int32)} {a_unreadFrom : (Nat → Int32)} {a_cameBytes : (Nat → Int32)} {a_held : (Nat → Int32)} {a_heldFin : (Nat → Int32)} {a_wnd : (Nat → Int32)} {a_wndSeq : (Nat → Int32)} {a_wndAck : (Nat → Int32)} {a_peak : (Nat → Int32)} {a_half : (Nat → Int32)} {a_same : (Nat → Int32)} {a_rto : (Nat → Int32)} {a_tries : (Nat → Int32)} {a_retryAt : (Nat → Int32)} {a_ackAt : (Nat → Int32)} {a_waitTill : (Nat → Int32)} {a_timedAt : (Nat → Int32)} {a_timedSeq : (Nat → Int32)} {a_smoothed : (Nat → Int32)} {a_variance : (Nat → Int32)} {a_rowCount : (Nat → Int32)} {a_slotSeq : (Nat → Int32)} {a_slotFlags : (Nat → Int32)} {a_slotAck : (Nat → Int32)} {a_slotWindow : (Nat → Int32)} {a_slotSize : (Nat → Int32)} {a_slotBytes : (Nat → Int32)} {p x6 x7 x8 : Int32} {k : Nat} {n b : Int} (hx6 : x6 = zi_n n) (hx7 : x7 = zi_n b) (hx8 : x8 = zi_n (k : Int)) (hk : k < 32) (hn0 : 0 ≤ n) (hn8 : n ≤ 8) (hp : vp_in p 2) (hP : ∀ SB : Nat → Int32, (∀ j, SB j = if 8 * (k : Int) ≤ j ∧ (j : Int) < 8 * (k : Int) + n then zi_n (zi_b (b + ((j : Int) - 8 * (k : Int)))) else a_slotBytes j) → P (a_rowCount p.toNatClampNeg) (f_now, f_sent, a_stateOf, a_error, a_iss, a_una, a_nxt, a_max, a_writtenTo, a_kept, a_keptBytes, a_rcv, a_unread, a_unreadFrom, a_cameBytes, a_held, a_heldFin, a_wnd, a_wndSeq, a_wndAck, a_peak, a_half, a_same, a_rto, a_tries, a_retryAt, a_ackAt, a_waitTill, a_timedAt, a_timedSeq, a_smoothed, a_variance, a_rowCount, a_slotSeq, a_slotFlags, a_slotAck, a_slotWindow, a_slotSize, SB)) :
    ∀ (f i : Nat) (SB : Nat → Int32), (i : Int) ≤ n → n - i < f → (∀ j, SB j = if 8 * (k : Int) ≤ j ∧ (j : Int) < 8 * (k : Int) + i then zi_n (zi_b (b + ((j : Int) - 8 * (k : Int)))) else a_slotBytes j) → wX_forge_135 P p x6 x7 x8 f_now f_sent f (nI i) a_stateOf a_error a_iss a_una a_nxt a_max a_writtenTo a_kept a_keptBytes a_rcv a_unread a_unreadFrom a_cameBytes a_held a_heldFin a_wnd a_wndSeq a_wndAck a_peak a_half a_same a_rto a_tries a_retryAt a_ackAt a_waitTill a_timedAt a_timedSeq a_smoothed a_variance a_rowCount a_slotSeq a_slotFlags a_slotAck a_slotWindow a_slotSize (SB) := by
  intro f
  induction f with
  | zero => intro i SB h1 h2; omega
  | succ f ih =>
    intro i SB h1 h2 h3
    by_cases w : (i : Int) = n
    · rw [w] at h3
      exact br_t (by rw [hx6, zi_nI, w]; exact Int32.le_refl _) ⟨hp, hP SB h3⟩
    · have i3 : x8 * 8 + nI i = zi_n (8 * (k : Int) + i) := by rw [hx8, zi_nI, zk_8, zi_mul, zi_add]; congr 1; omega
      have i4 : (x8 * 8 + nI i).toNatClampNeg = 8 * k + i := by rw [i3, zi_cl (by omega) (by omega)]; omega
      refine br_f (by rw [hx6, zi_nI, zi_le (by omega) (by omega) (by omega) (by omega)]; omega) ⟨by rw [i3]; exact zi_in (by omega) (by omega) (by omega), nm_e (nm_r (nI_1 i) (ih (i + 1) _ (by omega) (by omega) ?_))⟩
      intro j
      rw [i4, hx7, zi_nI, zi_add, zi_byte, vn_byte, zb_b]
      by_cases w2 : j = 8 * k + i
      · rw [w2, zu_s, if_pos (by omega)]; congr 3; omega
      · rw [zu_n w2, h3 j]
        by_cases w3 : 8 * (k : Int) ≤ j ∧ (j : Int) < 8 * (k : Int) + i
        · rw [if_pos w3, if_pos (by omega)]
        · rw [if_neg w3, if_neg (by omega)]
theorem xl_forge {q K : Int} {G : gm_T} {u : SX} {P : Int32 → SX → Prop} {x x1 x2 x3 x4 x5 x6 : Int32} {sq fl ac wi n b : Int} (hv : vx_S q G u) (hI : gv_I K G) (e1 : x1 = zi_n sq) (e2 : x2 = zi_n fl) (e3 : x3 = zi_n ac) (e4 : x4 = zi_n wi) (e5 : x5 = zi_n n) (e6 : x6 = zi_n b) (r1 : -2147483648 ≤ sq ∧ sq < 2147483648) (r2 : -2147483648 ≤ fl ∧ fl < 2147483648) (r3 : -2147483648 ≤ ac ∧ ac < 2147483648) (r4 : -2147483648 ≤ wi ∧ wi < 2147483648) (r5 : -2147483648 ≤ n ∧ n < 2147483648)
    (hA : ¬ (vp_in x 2 ∧ (0 ≤ sq ∧ sq ≤ 65535) ∧ (0 ≤ fl ∧ fl ≤ 15) ∧ (0 ≤ ac ∧ ac ≤ 65535) ∧ (0 ≤ wi ∧ wi ≤ 24) ∧ (0 ≤ n ∧ n ≤ 8)) → P (-1) u)
    (hF : vp_in x 2 → (0 ≤ sq ∧ sq ≤ 65535) → (0 ≤ fl ∧ fl ≤ 15) → (0 ≤ ac ∧ ac ≤ 65535) → (0 ≤ wi ∧ wi ≤ 24) → (0 ≤ n ∧ n ≤ 8) → G.1 30 x.toNatClampNeg = 16 → P (-2) u)
    (hB : vp_in x 2 → (0 ≤ sq ∧ sq ≤ 65535) → (0 ≤ fl ∧ fl ≤ 15) → (0 ≤ ac ∧ ac ≤ 65535) → (0 ≤ wi ∧ wi ≤ 24) → (0 ≤ n ∧ n ≤ 8) → G.1 30 x.toNatClampNeg < 16 → ∀ u', vx_S q (gp_forge G x.toNatClampNeg sq fl (if fl / 2 % 2 = 1 then ac else 0) wi n b) u' → P (zi_n (G.1 30 x.toNatClampNeg + 1)) u') : wpX_forge P u x x1 x2 x3 x4 x5 x6 := by
  obtain ⟨f_now, f_sent, a_stateOf, a_error, a_iss, a_una, a_nxt, a_max, a_writtenTo, a_kept, a_keptBytes, a_rcv, a_unread, a_unreadFrom, a_cameBytes, a_held, a_heldFin, a_wnd, a_wndSeq, a_wndAck, a_peak, a_half, a_same, a_rto, a_tries, a_retryAt, a_ackAt, a_waitTill, a_timedAt, a_timedSeq, a_smoothed, a_variance, a_rowCount, a_slotSeq, a_slotFlags, a_slotAck, a_slotWindow, a_slotSize, a_slotBytes⟩ := u
  have hv0 := hv
  obtain ⟨h_now, h_sent, h_stateOf, h_error, h_iss, h_una, h_nxt, h_max, h_writtenTo, h_kept, h_keptBytes, h_rcv, h_unread, h_unreadFrom, h_cameBytes, h_held, h_heldFin, h_wnd, h_wndSeq, h_wndAck, h_peak, h_half, h_same, h_rto, h_tries, h_retryAt, h_ackAt, h_waitTill, h_timedAt, h_timedSeq, h_smoothed, h_variance, h_rowCount, h_slotSeq, h_slotFlags, h_slotAck, h_slotWindow, h_slotSize, h_slotBytes⟩ := hv0
  unfold wpX_forge
  refine xl_isEnd (fun hp => ?_) (fun hp => br_t rfl (hA (fun w => hp w.1)))
  refine br_f (by decide) (xl_isNumber e1 r1.1 r1.2 (fun i1 => ?_) (fun i1 => br_t rfl (hA (fun w => i1 w.2.1))))
  refine br_f (by decide) (xl_isNumber e3 r3.1 r3.2 (fun i3 => ?_) (fun i3 => br_t rfl (hA (fun w => i3 w.2.2.2.1))))
  refine br_f (by decide) ?_
  by_cases c1 : fl < 0
  · exact br_t (by rw [e2, zk_0, zi_lt r2.1 r2.2 (by omega) (by omega)]; exact c1) (hA (fun w => by omega))
  refine br_f (by rw [e2, zk_0, zi_lt r2.1 r2.2 (by omega) (by omega)]; exact c1) ?_
  by_cases c2 : 15 < fl
  · exact br_t (by rw [e2, zk_15, zi_lt (by omega) (by omega) r2.1 r2.2]; exact c2) (hA (fun w => by omega))
  refine br_f (by rw [e2, zk_15, zi_lt (by omega) (by omega) r2.1 r2.2]; exact c2) ?_
  by_cases c3 : wi < 0
  · exact br_t (by rw [e4, zk_0, zi_lt r4.1 r4.2 (by omega) (by omega)]; exact c3) (hA (fun w => by omega))
  refine br_f (by rw [e4, zk_0, zi_lt r4.1 r4.2 (by omega) (by omega)]; exact c3) ?_
  by_cases c4 : 24 < wi
  · exact br_t (by rw [e4, zk_24, zi_lt (by omega) (by omega) r4.1 r4.2]; exact c4) (hA (fun w => by omega))
  refine br_f (by rw [e4, zk_24, zi_lt (by omega) (by omega) r4.1 r4.2]; exact c4) ?_
  by_cases c5 : n < 0
  · exact br_t (by rw [e5, zk_0, zi_lt r5.1 r5.2 (by omega) (by omega)]; exact c5) (hA (fun w => by omega))
  refine br_f (by rw [e5, zk_0, zi_lt r5.1 r5.2 (by omega) (by omega)]; exact c5) ?_
  by_cases c6 : n ≤ 8
  · refine br_t (by rw [e5, zk_8, zi_le r5.1 r5.2 (by omega) (by omega)]; exact c6) ⟨hp, ?_⟩
    have he := pe_lt hp
    obtain ⟨b1, b2, b3, b4, b5, b6⟩ := hI.2.2.2.2.1 _ he
    unfold gv_a at b1
    by_cases w : G.1 30 x.toNatClampNeg = 16
    · exact br_t (by rw [h_rowCount _ he, w]; rfl) (hF hp i1 (by omega) i3 (by omega) (by omega) w)
    · have hb := hB hp i1 (by omega) i3 (by omega) (by omega) (by omega)
      refine br_f (by rw [h_rowCount _ he, zk_16, zi_eq (by omega) (by omega) (by omega) (by omega)]; exact w) (xl_nextSlot hp (h_rowCount _ he) (by omega) (by omega) (fun hlt => ?_) (fun h => absurd h w))
      have hk32 : 16 * x.toNatClampNeg + (G.1 30 x.toNatClampNeg).toNat < 32 := by omega
      have ek : zi_n (16 * (x.toNatClampNeg : Int) + G.1 30 x.toNatClampNeg) = zi_n ((16 * x.toNatClampNeg + (G.1 30 x.toNatClampNeg).toNat : Nat) : Int) := by congr 1; omega
      rw [ek]
      have hin := sl_in hk32
      have hc := sl_c (k := 16 * x.toNatClampNeg + (G.1 30 x.toNatClampNeg).toNat) (by omega)
      refine ⟨hin, nm_e ⟨hin, nm_e ?_⟩⟩
      rw [hc, e2, zf_2 (by omega) (by omega)]
      have k113 : ∀ z0 : Int32, z0 = zi_n (if fl / 2 % 2 = 1 then ac else 0) → wX_forge_113 P x x4 x5 x6 (zi_n ((16 * x.toNatClampNeg + (G.1 30 x.toNatClampNeg).toNat : Nat) : Int)) z0 (zi_n ((16 * x.toNatClampNeg + (G.1 30 x.toNatClampNeg).toNat : Nat) : Int)) f_now f_sent a_stateOf a_error a_iss a_una a_nxt a_max a_writtenTo a_kept a_keptBytes a_rcv a_unread a_unreadFrom a_cameBytes a_held a_heldFin a_wnd a_wndSeq a_wndAck a_peak a_half a_same a_rto a_tries a_retryAt a_ackAt a_waitTill a_timedAt a_timedSeq a_smoothed a_variance (upd a_rowCount x.toNatClampNeg (zi_n (G.1 30 x.toNatClampNeg + 1))) (upd a_slotSeq (16 * x.toNatClampNeg + (G.1 30 x.toNatClampNeg).toNat) x1) (upd a_slotFlags (16 * x.toNatClampNeg + (G.1 30 x.toNatClampNeg).toNat) (zi_n fl)) a_slotAck a_slotWindow a_slotSize a_slotBytes := by
        intro z0 hz0
        unfold wX_forge_113
        refine ⟨hin, nm_e ⟨hin, nm_e ⟨hin, nm_e ⟨10, ?_⟩⟩⟩⟩
        rw [hc]
        refine xf_135 (n := n) (b := b) e5 e6 rfl hk32 (by omega) c6 hp (fun SB hSB => ?_) 10 0 a_slotBytes (by omega) (by omega) (fun j => by rw [if_neg (by omega)])
        rw [zu_s]
        refine hb _ ?_
        refine (vx_mk h_now h_sent h_stateOf h_error h_iss h_una h_nxt h_max h_writtenTo h_kept h_keptBytes h_rcv h_unread h_unreadFrom h_cameBytes h_held h_heldFin h_wnd h_wndSeq h_wndAck h_peak h_half h_same h_rto h_tries h_retryAt h_ackAt h_waitTill h_timedAt h_timedSeq h_smoothed h_variance (vu_e h_rowCount ?a1 (fun e' y => gs_e y)) (vs_0 h_slotSeq e1) (vs_1 h_slotFlags rfl) (vs_2 h_slotAck hz0) (vs_3 h_slotWindow e4) (vs_4 h_slotSize e5) (fun j hj => ?a2))
        case a1 =>
          show _ = zi_n (gs_c _ _ _ _ _ _)
          rw [gs_s]
        case a2 =>
          have t : gm_D (gp_forge G x.toNatClampNeg sq fl (if fl / 2 % 2 = 1 then ac else 0) wi n b) j = gm_d (gm_D G) (16 * x.toNatClampNeg + (G.1 30 x.toNatClampNeg).toNat) n (fun i => (b + i) % 256) j := rfl
          rw [hSB, t]
          unfold gm_d
          split
          · dsimp only
            rw [zb_m]
          · exact h_slotBytes j hj
      by_cases w2 : fl / 2 % 2 = 1
      · exact br_f (by rw [zk_0, zi_eq (by omega) (by omega) (by omega) (by omega)]; omega) (k113 x3 (by rw [if_pos w2]; exact e3))
      · exact br_t (by rw [zk_0, zi_eq (by omega) (by omega) (by omega) (by omega)]; omega) (k113 0 (by rw [if_neg w2]; rfl))
  · exact br_f (by rw [e5, zk_8, zi_le r5.1 r5.2 (by omega) (by omega)]; exact c6) (hA (fun w => by omega))
theorem xl_state {q : Int} {G : gm_T} {u : SX} {P : Int32 → Prop} {x : Int32} (hv : vx_S q G u) (hA : ¬ vp_in x 2 → P (-1)) (hB : vp_in x 2 → P (zi_n (G.1 0 x.toNatClampNeg))) : wpX_state P u x := by
  obtain ⟨f_now, f_sent, a_stateOf, a_error, a_iss, a_una, a_nxt, a_max, a_writtenTo, a_kept, a_keptBytes, a_rcv, a_unread, a_unreadFrom, a_cameBytes, a_held, a_heldFin, a_wnd, a_wndSeq, a_wndAck, a_peak, a_half, a_same, a_rto, a_tries, a_retryAt, a_ackAt, a_waitTill, a_timedAt, a_timedSeq, a_smoothed, a_variance, a_rowCount, a_slotSeq, a_slotFlags, a_slotAck, a_slotWindow, a_slotSize, a_slotBytes⟩ := u
  obtain ⟨h_now, h_sent, h_stateOf, h_error, h_iss, h_una, h_nxt, h_max, h_writtenTo, h_kept, h_keptBytes, h_rcv, h_unread, h_unreadFrom, h_cameBytes, h_held, h_heldFin, h_wnd, h_wndSeq, h_wndAck, h_peak, h_half, h_same, h_rto, h_tries, h_retryAt, h_ackAt, h_waitTill, h_timedAt, h_timedSeq, h_smoothed, h_variance, h_rowCount, h_slotSeq, h_slotFlags, h_slotAck, h_slotWindow, h_slotSize, h_slotBytes⟩ := hv
  unfold wpX_state
  refine xl_isEnd (fun hp => ?_) (fun hp => br_t rfl (hA hp))
  refine br_f (by decide) ⟨hp, ?_⟩
  rw [h_stateOf _ (pe_lt hp)]
  exact hB hp
/-- what info answers -/
def gi_v (G : gm_T) (e : Nat) (w : Int) : Int :=
  if w = 0 then G.1 1 e else if w = 1 then G.1 31 e else if w = 2 then G.1 9 e
  else if G.1 0 e < 2 then (if w = 10 then -1 else 0)
  else if w = 3 then (G.1 2 e + G.1 3 e) % 65536 else if w = 4 then (G.1 2 e + G.1 4 e) % 65536 else if w = 5 then (G.1 7 e + G.1 8 e) % 65536
  else if w = 6 then G.1 12 e else if w = 7 then G.1 16 e else if w = 8 then G.1 17 e else if w = 9 then G.1 19 e
  else if w = 10 then (if G.1 21 e < 0 then -1 else G.1 21 e - gm_N G) else if w = 11 then (if G.1 22 e < 0 then 0 else 1) else if w = 12 then G.1 20 e
  else if gp_any G e = true then 1 else 0
theorem xl_info {q K : Int} {G : gm_T} {u : SX} {P : Int32 → Prop} {x y : Int32} {w : Int} (hv : vx_S q G u) (hI : gv_I K G) (hy : y = zi_n w) (h0 : -2147483648 ≤ w) (h1 : w < 2147483648) (hA : ¬ (vp_in x 2 ∧ 0 ≤ w ∧ w ≤ 13) → P (-1)) (hB : vp_in x 2 → 0 ≤ w → w ≤ 13 → P (zi_n (gi_v G x.toNatClampNeg w))) : wpX_info P u x y := by
  obtain ⟨f_now, f_sent, a_stateOf, a_error, a_iss, a_una, a_nxt, a_max, a_writtenTo, a_kept, a_keptBytes, a_rcv, a_unread, a_unreadFrom, a_cameBytes, a_held, a_heldFin, a_wnd, a_wndSeq, a_wndAck, a_peak, a_half, a_same, a_rto, a_tries, a_retryAt, a_ackAt, a_waitTill, a_timedAt, a_timedSeq, a_smoothed, a_variance, a_rowCount, a_slotSeq, a_slotFlags, a_slotAck, a_slotWindow, a_slotSize, a_slotBytes⟩ := u
  have hv0 := hv
  obtain ⟨h_now, h_sent, h_stateOf, h_error, h_iss, h_una, h_nxt, h_max, h_writtenTo, h_kept, h_keptBytes, h_rcv, h_unread, h_unreadFrom, h_cameBytes, h_held, h_heldFin, h_wnd, h_wndSeq, h_wndAck, h_peak, h_half, h_same, h_rto, h_tries, h_retryAt, h_ackAt, h_waitTill, h_timedAt, h_timedSeq, h_smoothed, h_variance, h_rowCount, h_slotSeq, h_slotFlags, h_slotAck, h_slotWindow, h_slotSize, h_slotBytes⟩ := hv0
  unfold wpX_info
  refine xl_isEnd (fun hp => ?_) (fun hp => br_t rfl (hA (fun z => hp z.1)))
  have he := pe_lt hp
  obtain ⟨b1, b2, b3, b4, b5, b6⟩ := hI.2.2.2.2.1 _ he
  have n1 := hI.2.1
  have n2 := hI.2.2.2.1
  unfold gv_a at b1
  unfold gv_d at b4
  subst hy
  refine br_f (by decide) ?_
  by_cases c0 : w < 0
  · exact br_t (by rw [zk_0, zi_lt h0 h1 (by omega) (by omega)]; exact c0) (hA (by omega))
  refine br_f (by rw [zk_0, zi_lt h0 h1 (by omega) (by omega)]; exact c0) ?_
  by_cases c1 : w ≤ 13
  case neg => exact br_f (by rw [zk_13, zi_le h0 h1 (by omega) (by omega)]; exact c1) (hA (by omega))
  refine br_t (by rw [zk_13, zi_le h0 h1 (by omega) (by omega)]; exact c1) (br_f (by rw [zk_0, zi_lt h0 h1 (by omega) (by omega)]; exact c0) ?_)
  have hb := hB hp (by omega) c1
  have hcase : w = 0 ∨ w = 1 ∨ w = 2 ∨ 2 < w := by omega
  rcases hcase with rfl | rfl | rfl | c2
  · refine br_f (by decide) (br_t (by decide) ⟨hp, ?_⟩)
    rw [h_error _ he]; exact hb
  · refine br_f (by decide) (br_f (by decide) (br_t (by decide) ⟨hp, ?_⟩))
    rw [h_kept _ he]; exact hb
  · refine br_f (by decide) (br_f (by decide) (br_f (by decide) (br_t (by decide) ⟨hp, ?_⟩)))
    rw [h_unread _ he]; exact hb
  refine br_t (by rw [zk_2, zi_lt (by omega) (by omega) h0 h1]; exact c2) ⟨hp, ?_⟩
  have k88 : G.1 0 x.toNatClampNeg < 2 → wX_info_88 P (zi_n w) f_now f_sent a_stateOf a_error a_iss a_una a_nxt a_max a_writtenTo a_kept a_keptBytes a_rcv a_unread a_unreadFrom a_cameBytes a_held a_heldFin a_wnd a_wndSeq a_wndAck a_peak a_half a_same a_rto a_tries a_retryAt a_ackAt a_waitTill a_timedAt a_timedSeq a_smoothed a_variance a_rowCount a_slotSeq a_slotFlags a_slotAck a_slotWindow a_slotSize a_slotBytes := by
    intro hs
    unfold gi_v at hb
    rw [if_neg (by omega), if_neg (by omega), if_neg (by omega), if_pos hs] at hb
    unfold wX_info_88
    by_cases c : w = 10
    · rw [if_pos c] at hb; exact br_t (by rw [c]; rfl) hb
    · rw [if_neg c] at hb; exact br_f (by rw [zk_10, zi_eq h0 h1 (by omega) (by omega)]; exact c) hb
  by_cases s0 : G.1 0 x.toNatClampNeg = 0
  · exact br_t (by rw [h_stateOf _ he, s0]; rfl) (k88 (by omega))
  refine br_f (by rw [h_stateOf _ he, zk_0, zi_eq (by omega) (by omega) (by omega) (by omega)]; exact s0) ⟨hp, ?_⟩
  by_cases s1 : G.1 0 x.toNatClampNeg = 1
  · exact br_t (by rw [h_stateOf _ he, s1]; rfl) (k88 (by omega))
  refine br_f (by rw [h_stateOf _ he, zk_1, zi_eq (by omega) (by omega) (by omega) (by omega)]; exact s1) (br_f (by rw [zk_3, zi_lt h0 h1 (by omega) (by omega)]; omega) ?_)
  unfold gi_v at hb
  rw [if_neg (by omega), if_neg (by omega), if_neg (by omega), if_neg (by omega)] at hb
  have hc2 : w = 3 ∨ w = 4 ∨ w = 5 ∨ w = 6 ∨ w = 7 ∨ w = 8 ∨ w = 9 ∨ w = 10 ∨ w = 11 ∨ w = 12 ∨ w = 13 := by omega
  rcases hc2 with rfl | rfl | rfl | rfl | rfl | rfl | rfl | rfl | rfl | rfl | rfl
  · refine br_f (by decide) (br_t (by decide) ⟨hp, ?_⟩)
    rw [h_una _ he]; exact hb
  · refine br_f (by decide) (br_f (by decide) (br_t (by decide) ⟨hp, ?_⟩))
    rw [h_nxt _ he]; exact hb
  · refine br_f (by decide) (br_f (by decide) (br_f (by decide) (br_t (by decide) ⟨hp, ?_⟩)))
    rw [h_rcv _ he]; exact hb
  · refine br_f (by decide) (br_f (by decide) (br_f (by decide) (br_f (by decide) (br_t (by decide) ⟨hp, ?_⟩))))
    rw [h_wnd _ he]; exact hb
  · refine br_f (by decide) (br_f (by decide) (br_f (by decide) (br_f (by decide) (br_f (by decide) (br_t (by decide) ⟨hp, ?_⟩)))))
    rw [h_peak _ he]; exact hb
  · refine br_f (by decide) (br_f (by decide) (br_f (by decide) (br_f (by decide) (br_f (by decide) (br_f (by decide) (br_t (by decide) ⟨hp, ?_⟩))))))
    rw [h_half _ he]; exact hb
  · refine br_f (by decide) (br_f (by decide) (br_f (by decide) (br_f (by decide) (br_f (by decide) (br_f (by decide) (br_f (by decide) (br_t (by decide) ⟨hp, ?_⟩)))))))
    rw [h_rto _ he]; exact hb
  · refine br_f (by decide) (br_f (by decide) (br_f (by decide) (br_f (by decide) (br_f (by decide) (br_f (by decide) (br_f (by decide) (br_f (by decide) (br_t (by decide) ⟨hp, ?_⟩))))))))
    rw [h_retryAt _ he, h_now]
    by_cases r : G.1 21 x.toNatClampNeg < 0
    · exact br_t (by rw [zk_m1]; congr 1; omega) (by have := hb; rw [if_neg (by decide), if_neg (by decide), if_neg (by decide), if_neg (by decide), if_neg (by decide), if_neg (by decide), if_neg (by decide), if_pos rfl, if_pos r] at this; exact this)
    · refine br_f (by rw [zk_m1, zi_eq (by omega) (by omega) (by omega) (by omega)]; omega) ⟨hp, ?_⟩
      rw [zi_sub]
      have := hb; rw [if_neg (by decide), if_neg (by decide), if_neg (by decide), if_neg (by decide), if_neg (by decide), if_neg (by decide), if_neg (by decide), if_pos rfl, if_neg r] at this; exact this
  · refine br_f (by decide) (br_f (by decide) (br_f (by decide) (br_f (by decide) (br_f (by decide) (br_f (by decide) (br_f (by decide) (br_f (by decide) (br_f (by decide) (br_t (by decide) ⟨hp, ?_⟩)))))))))
    rw [h_ackAt _ he]
    by_cases r : G.1 22 x.toNatClampNeg < 0
    · exact br_t (by rw [zk_m1]; congr 1; omega) (by have := hb; rw [if_neg (by decide), if_neg (by decide), if_neg (by decide), if_neg (by decide), if_neg (by decide), if_neg (by decide), if_neg (by decide), if_neg (by decide), if_pos rfl, if_pos r] at this; exact this)
    · exact br_f (by rw [zk_m1, zi_eq (by omega) (by omega) (by omega) (by omega)]; omega) (by have := hb; rw [if_neg (by decide), if_neg (by decide), if_neg (by decide), if_neg (by decide), if_neg (by decide), if_neg (by decide), if_neg (by decide), if_neg (by decide), if_pos rfl, if_neg r] at this; exact this)
  · refine br_f (by decide) (br_f (by decide) (br_f (by decide) (br_f (by decide) (br_f (by decide) (br_f (by decide) (br_f (by decide) (br_f (by decide) (br_f (by decide) (br_f (by decide) (br_t (by decide) ⟨hp, ?_⟩))))))))))
    rw [h_tries _ he]; exact hb
  · refine br_t (by decide) (xl_holdsAny hv hI hp (fun z => ?_) (fun z => ?_))
    · refine br_f (by decide) ?_
      have := hb; rw [if_neg (by decide), if_neg (by decide), if_neg (by decide), if_neg (by decide), if_neg (by decide), if_neg (by decide), if_neg (by decide), if_neg (by decide), if_neg (by decide), if_neg (by decide), if_pos z] at this; exact this
    · refine br_t rfl ?_
      have := hb; rw [if_neg (by decide), if_neg (by decide), if_neg (by decide), if_neg (by decide), if_neg (by decide), if_neg (by decide), if_neg (by decide), if_neg (by decide), if_neg (by decide), if_neg (by decide), if_neg (by rw [z]; decide)] at this; exact this
