/-! the class: the rows of the link -/
theorem xk_62 {P : SX → Prop} {f_now : Int32} {f_sent : Int32} {a_stateOf : (Nat → Int32)} {a_error : (Nat → Int32)} {a_iss : (Nat → Int32)} {a_una : (Nat → Int32)} {a_nxt : (Nat → Int32)} {a_max : (Nat → Int32)} {a_writtenTo : (Nat → Int32)} {a_kept : (Nat → Int32)} {a_keptBytes : (Nat → Int32)} {a_rcv : (Nat → Int32)} {a_unread : (Nat → Int32)} {a_unreadFrom : (Nat → Int32)} {a_cameBytes : (Nat → Int32)} {a_held : (Nat → Int32)} {a_heldFin : (Nat → Int32)} {a_wnd : (Nat → Int32)} {a_wndSeq : (Nat → Int32)} {a_wndAck : (Nat → Int32)} {a_peak : (Nat → Int32)} {a_half : (Nat → Int32)} {a_same : (Nat → Int32)} {a_rto : (Nat → Int32)} {a_tries : (Nat → Int32)} {a_retryAt : (Nat → Int32)} {a_ackAt : (Nat → Int32)} {a_waitTill : (Nat → Int32)} {a_timedAt : (Nat → Int32)} {a_timedSeq : (Nat → Int32)} {a_smoothed : (Nat → Int32)} {a_variance : (Nat → Int32)} {a_rowCount : (Nat → Int32)} {a_slotSeq : (Nat → Int32)} {a_slotFlags : (Nat → Int32)} {a_slotAck : (Nat → Int32)} {a_slotWindow : (Nat → Int32)} {a_slotSize : (Nat → Int32)} {a_slotBytes : (Nat → Int32)} {x1 x2 : Int32} {a b : Nat} (hx1 : x1 = zi_n (a : Int)) (hx2 : x2 = zi_n (b : Int)) (ha : a < 32) (hb : b < 32) (hab : a ≠ b) (hbt : ∀ j, j < 256 → ∃ z : Int, a_slotBytes j = zi_n (zi_b z)) (hP : ∀ SB : Nat → Int32, (∀ j, SB j = if 8 * b ≤ j ∧ j < 8 * b + 8 then a_slotBytes (8 * a + (j - 8 * b)) else a_slotBytes j) → P (f_now, f_sent, a_stateOf, a_error, a_iss, a_una, a_nxt, a_max, a_writtenTo, a_kept, a_keptBytes, a_rcv, a_unread, a_unreadFrom, a_cameBytes, a_held, a_heldFin, a_wnd, a_wndSeq, a_wndAck, a_peak, a_half, a_same, a_rto, a_tries, a_retryAt, a_ackAt, a_waitTill, a_timedAt, a_timedSeq, a_smoothed, a_variance, a_rowCount, a_slotSeq, a_slotFlags, a_slotAck, a_slotWindow, a_slotSize, SB)) :
    ∀ (f i : Nat) (SB : Nat → Int32), i ≤ 8 → 8 - i < f → (∀ j, SB j = if 8 * b ≤ j ∧ j < 8 * b + i then a_slotBytes (8 * a + (j - 8 * b)) else a_slotBytes j) → wX_copySlot_62 P x1 x2 f_now f_sent f (nI i) a_stateOf a_error a_iss a_una a_nxt a_max a_writtenTo a_kept a_keptBytes a_rcv a_unread a_unreadFrom a_cameBytes a_held a_heldFin a_wnd a_wndSeq a_wndAck a_peak a_half a_same a_rto a_tries a_retryAt a_ackAt a_waitTill a_timedAt a_timedSeq a_smoothed a_variance a_rowCount a_slotSeq a_slotFlags a_slotAck a_slotWindow a_slotSize (SB) := by
  intro f
  induction f with
  | zero => intro i SB h1 h2; omega
  | succ f ih =>
    intro i SB h1 h2 h3
    by_cases q : i = 8
    · subst q
      exact br_t (by decide) (hP SB h3)
    · have i1 : x1 * 8 + nI i = zi_n (8 * (a : Int) + i) := by rw [hx1, zi_nI, zk_8, zi_mul, zi_add]; congr 1; omega
      have i2 : x2 * 8 + nI i = zi_n (8 * (b : Int) + i) := by rw [hx2, zi_nI, zk_8, zi_mul, zi_add]; congr 1; omega
      have i3 : (x1 * 8 + nI i).toNatClampNeg = 8 * a + i := by rw [i1, zi_cl (by omega) (by omega)]; omega
      have i4 : (x2 * 8 + nI i).toNatClampNeg = 8 * b + i := by rw [i2, zi_cl (by omega) (by omega)]; omega
      refine br_f (by rw [zk_8, zi_nI, zi_le (by omega) (by omega) (by omega) (by omega)]; omega) ⟨by rw [i1]; exact zi_in (by omega) (by omega) (by omega), by rw [i2]; exact zi_in (by omega) (by omega) (by omega), nm_e (nm_r (nI_1 i) (ih (i + 1) _ (by omega) (by omega) ?_))⟩
      intro j
      rw [i3, i4]
      have e1 : SB (8 * a + i) = a_slotBytes (8 * a + i) := by rw [h3, if_neg (by omega)]
      obtain ⟨z, hz⟩ := hbt (8 * a + i) (by omega)
      rw [e1, hz, vn_byte, zb_b, ← hz]
      by_cases w : j = 8 * b + i
      · rw [w, zu_s, if_pos (by omega)]; congr 1; omega
      · rw [zu_n w, h3 j]
        by_cases w2 : 8 * b ≤ j ∧ j < 8 * b + i
        · rw [if_pos w2, if_pos (by omega)]
        · rw [if_neg w2, if_neg (by omega)]
theorem xl_copySlot {P : SX → Prop} {f_now : Int32} {f_sent : Int32} {a_stateOf : (Nat → Int32)} {a_error : (Nat → Int32)} {a_iss : (Nat → Int32)} {a_una : (Nat → Int32)} {a_nxt : (Nat → Int32)} {a_max : (Nat → Int32)} {a_writtenTo : (Nat → Int32)} {a_kept : (Nat → Int32)} {a_keptBytes : (Nat → Int32)} {a_rcv : (Nat → Int32)} {a_unread : (Nat → Int32)} {a_unreadFrom : (Nat → Int32)} {a_cameBytes : (Nat → Int32)} {a_held : (Nat → Int32)} {a_heldFin : (Nat → Int32)} {a_wnd : (Nat → Int32)} {a_wndSeq : (Nat → Int32)} {a_wndAck : (Nat → Int32)} {a_peak : (Nat → Int32)} {a_half : (Nat → Int32)} {a_same : (Nat → Int32)} {a_rto : (Nat → Int32)} {a_tries : (Nat → Int32)} {a_retryAt : (Nat → Int32)} {a_ackAt : (Nat → Int32)} {a_waitTill : (Nat → Int32)} {a_timedAt : (Nat → Int32)} {a_timedSeq : (Nat → Int32)} {a_smoothed : (Nat → Int32)} {a_variance : (Nat → Int32)} {a_rowCount : (Nat → Int32)} {a_slotSeq : (Nat → Int32)} {a_slotFlags : (Nat → Int32)} {a_slotAck : (Nat → Int32)} {a_slotWindow : (Nat → Int32)} {a_slotSize : (Nat → Int32)} {a_slotBytes : (Nat → Int32)} {x1 x2 : Int32} {a b : Nat} (hx1 : x1 = zi_n (a : Int)) (hx2 : x2 = zi_n (b : Int)) (ha : a < 32) (hb : b < 32) (hab : a ≠ b) (hbt : ∀ j, j < 256 → ∃ z : Int, a_slotBytes j = zi_n (zi_b z)) (hP : ∀ SB : Nat → Int32, (∀ j, SB j = if 8 * b ≤ j ∧ j < 8 * b + 8 then a_slotBytes (8 * a + (j - 8 * b)) else a_slotBytes j) → P (f_now, f_sent, a_stateOf, a_error, a_iss, a_una, a_nxt, a_max, a_writtenTo, a_kept, a_keptBytes, a_rcv, a_unread, a_unreadFrom, a_cameBytes, a_held, a_heldFin, a_wnd, a_wndSeq, a_wndAck, a_peak, a_half, a_same, a_rto, a_tries, a_retryAt, a_ackAt, a_waitTill, a_timedAt, a_timedSeq, a_smoothed, a_variance, a_rowCount, upd a_slotSeq b (a_slotSeq a), upd a_slotFlags b (a_slotFlags a), upd a_slotAck b (a_slotAck a), upd a_slotWindow b (a_slotWindow a), upd a_slotSize b (a_slotSize a), SB)) : wpX_copySlot P (f_now, f_sent, a_stateOf, a_error, a_iss, a_una, a_nxt, a_max, a_writtenTo, a_kept, a_keptBytes, a_rcv, a_unread, a_unreadFrom, a_cameBytes, a_held, a_heldFin, a_wnd, a_wndSeq, a_wndAck, a_peak, a_half, a_same, a_rto, a_tries, a_retryAt, a_ackAt, a_waitTill, a_timedAt, a_timedSeq, a_smoothed, a_variance, a_rowCount, a_slotSeq, a_slotFlags, a_slotAck, a_slotWindow, a_slotSize, a_slotBytes) x1 x2 := by
  have hi1 : vp_in x1 33 := by rw [hx1]; exact sl_in ha
  have hi2 : vp_in x2 33 := by rw [hx2]; exact sl_in hb
  have c1 : x1.toNatClampNeg = a := by rw [hx1]; exact sl_c (by omega)
  have c2 : x2.toNatClampNeg = b := by rw [hx2]; exact sl_c (by omega)
  unfold wpX_copySlot
  rw [c1, c2]
  refine ⟨hi1, hi2, nm_e ⟨hi1, hi2, nm_e ⟨hi1, hi2, nm_e ⟨hi1, hi2, nm_e ⟨hi1, hi2, nm_e ⟨9, ?_⟩⟩⟩⟩⟩⟩
  exact xk_62 hx1 hx2 ha hb hab hbt hP 9 0 a_slotBytes (by omega) (by omega) (fun j => by rw [if_neg (by omega)])
/-- a row moves up -/
def gq_sh (G : gm_T) (e k m : Nat) : gm_T := (G.1, gm_W G, gm_B G, gm_H G, (fun f i => if 16 * e + k ≤ i ∧ i < 16 * e + m then gm_L G f (i + 1) else gm_L G f i), (fun j => if 8 * (16 * e + k) ≤ j ∧ j < 8 * (16 * e + m) then gm_D G (j + 8) else gm_D G j), gm_N G, gm_S G)
theorem sh_0 {G : gm_T} {e k : Nat} : gq_sh G e k k = G := by
  have h1 : (fun f i => if 16 * e + k ≤ i ∧ i < 16 * e + k then gm_L G f (i + 1) else gm_L G f i) = gm_L G := by
    funext f i; rw [if_neg (by omega)]
  have h2 : (fun j => if 8 * (16 * e + k) ≤ j ∧ j < 8 * (16 * e + k) then gm_D G (j + 8) else gm_D G j) = gm_D G := by
    funext j; rw [if_neg (by omega)]
  unfold gq_sh
  rw [h1, h2]
theorem vx_sh {q : Int} {G : gm_T} {f_now : Int32} {f_sent : Int32} {a_stateOf : (Nat → Int32)} {a_error : (Nat → Int32)} {a_iss : (Nat → Int32)} {a_una : (Nat → Int32)} {a_nxt : (Nat → Int32)} {a_max : (Nat → Int32)} {a_writtenTo : (Nat → Int32)} {a_kept : (Nat → Int32)} {a_keptBytes : (Nat → Int32)} {a_rcv : (Nat → Int32)} {a_unread : (Nat → Int32)} {a_unreadFrom : (Nat → Int32)} {a_cameBytes : (Nat → Int32)} {a_held : (Nat → Int32)} {a_heldFin : (Nat → Int32)} {a_wnd : (Nat → Int32)} {a_wndSeq : (Nat → Int32)} {a_wndAck : (Nat → Int32)} {a_peak : (Nat → Int32)} {a_half : (Nat → Int32)} {a_same : (Nat → Int32)} {a_rto : (Nat → Int32)} {a_tries : (Nat → Int32)} {a_retryAt : (Nat → Int32)} {a_ackAt : (Nat → Int32)} {a_waitTill : (Nat → Int32)} {a_timedAt : (Nat → Int32)} {a_timedSeq : (Nat → Int32)} {a_smoothed : (Nat → Int32)} {a_variance : (Nat → Int32)} {a_rowCount : (Nat → Int32)} {a_slotSeq : (Nat → Int32)} {a_slotFlags : (Nat → Int32)} {a_slotAck : (Nat → Int32)} {a_slotWindow : (Nat → Int32)} {a_slotSize : (Nat → Int32)} {a_slotBytes : (Nat → Int32)} {e k m : Nat} {SB : Nat → Int32} (hv : vx_S q (gq_sh G e k m) (f_now, f_sent, a_stateOf, a_error, a_iss, a_una, a_nxt, a_max, a_writtenTo, a_kept, a_keptBytes, a_rcv, a_unread, a_unreadFrom, a_cameBytes, a_held, a_heldFin, a_wnd, a_wndSeq, a_wndAck, a_peak, a_half, a_same, a_rto, a_tries, a_retryAt, a_ackAt, a_waitTill, a_timedAt, a_timedSeq, a_smoothed, a_variance, a_rowCount, a_slotSeq, a_slotFlags, a_slotAck, a_slotWindow, a_slotSize, a_slotBytes)) (hk : k ≤ m) (hm : 16 * e + m + 1 < 32) (hSB : ∀ j, SB j = if 8 * (16 * e + m) ≤ j ∧ j < 8 * (16 * e + m) + 8 then a_slotBytes (8 * (16 * e + m + 1) + (j - 8 * (16 * e + m))) else a_slotBytes j) : vx_S q (gq_sh G e k (m + 1)) (f_now, f_sent, a_stateOf, a_error, a_iss, a_una, a_nxt, a_max, a_writtenTo, a_kept, a_keptBytes, a_rcv, a_unread, a_unreadFrom, a_cameBytes, a_held, a_heldFin, a_wnd, a_wndSeq, a_wndAck, a_peak, a_half, a_same, a_rto, a_tries, a_retryAt, a_ackAt, a_waitTill, a_timedAt, a_timedSeq, a_smoothed, a_variance, a_rowCount, upd a_slotSeq (16 * e + m) (a_slotSeq (16 * e + m + 1)), upd a_slotFlags (16 * e + m) (a_slotFlags (16 * e + m + 1)), upd a_slotAck (16 * e + m) (a_slotAck (16 * e + m + 1)), upd a_slotWindow (16 * e + m) (a_slotWindow (16 * e + m + 1)), upd a_slotSize (16 * e + m) (a_slotSize (16 * e + m + 1)), SB) := by
  obtain ⟨h_now, h_sent, h_stateOf, h_error, h_iss, h_una, h_nxt, h_max, h_writtenTo, h_kept, h_keptBytes, h_rcv, h_unread, h_unreadFrom, h_cameBytes, h_held, h_heldFin, h_wnd, h_wndSeq, h_wndAck, h_peak, h_half, h_same, h_rto, h_tries, h_retryAt, h_ackAt, h_waitTill, h_timedAt, h_timedSeq, h_smoothed, h_variance, h_rowCount, h_slotSeq, h_slotFlags, h_slotAck, h_slotWindow, h_slotSize, h_slotBytes⟩ := hv
  have key : ∀ (f : Nat) (A : Nat → Int32), (∀ i, i < 32 → A i = zi_n (gm_L (gq_sh G e k m) f i)) → ∀ i, i < 32 → upd A (16 * e + m) (A (16 * e + m + 1)) i = zi_n (gm_L (gq_sh G e k (m + 1)) f i) := by
    intro f A hA i hi
    have t1 : ∀ i, gm_L (gq_sh G e k m) f i = if 16 * e + k ≤ i ∧ i < 16 * e + m then gm_L G f (i + 1) else gm_L G f i := fun i => rfl
    have t2 : gm_L (gq_sh G e k (m + 1)) f i = if 16 * e + k ≤ i ∧ i < 16 * e + (m + 1) then gm_L G f (i + 1) else gm_L G f i := rfl
    rw [t2]
    by_cases w : i = 16 * e + m
    · rw [w, zu_s, hA _ hm, t1, if_neg (by omega), if_pos (by omega)]
    · rw [zu_n w, hA i hi, t1]
      by_cases w2 : 16 * e + k ≤ i ∧ i < 16 * e + m
      · rw [if_pos w2, if_pos (by omega)]
      · rw [if_neg w2, if_neg (by omega)]
  refine (vx_mk h_now h_sent h_stateOf h_error h_iss h_una h_nxt h_max h_writtenTo h_kept h_keptBytes h_rcv h_unread h_unreadFrom h_cameBytes h_held h_heldFin h_wnd h_wndSeq h_wndAck h_peak h_half h_same h_rto h_tries h_retryAt h_ackAt h_waitTill h_timedAt h_timedSeq h_smoothed h_variance h_rowCount (key 0 _ h_slotSeq) (key 1 _ h_slotFlags) (key 2 _ h_slotAck) (key 3 _ h_slotWindow) (key 4 _ h_slotSize) (fun j hj => ?_))
  have t1 : ∀ j, gm_D (gq_sh G e k m) j = if 8 * (16 * e + k) ≤ j ∧ j < 8 * (16 * e + m) then gm_D G (j + 8) else gm_D G j := fun j => rfl
  have t2 : gm_D (gq_sh G e k (m + 1)) j = if 8 * (16 * e + k) ≤ j ∧ j < 8 * (16 * e + (m + 1)) then gm_D G (j + 8) else gm_D G j := rfl
  rw [t2, hSB]
  by_cases w : 8 * (16 * e + m) ≤ j ∧ j < 8 * (16 * e + m) + 8
  · rw [if_pos w, h_slotBytes _ (by omega), t1, if_neg (by omega), if_pos (by omega)]
    congr 3; omega
  · rw [if_neg w, h_slotBytes j hj, t1]
    by_cases w2 : 8 * (16 * e + k) ≤ j ∧ j < 8 * (16 * e + m)
    · rw [if_pos w2, if_pos (by omega)]
    · rw [if_neg w2, if_neg (by omega)]
theorem vx_bt {q : Int} {G : gm_T} {f_now : Int32} {f_sent : Int32} {a_stateOf : (Nat → Int32)} {a_error : (Nat → Int32)} {a_iss : (Nat → Int32)} {a_una : (Nat → Int32)} {a_nxt : (Nat → Int32)} {a_max : (Nat → Int32)} {a_writtenTo : (Nat → Int32)} {a_kept : (Nat → Int32)} {a_keptBytes : (Nat → Int32)} {a_rcv : (Nat → Int32)} {a_unread : (Nat → Int32)} {a_unreadFrom : (Nat → Int32)} {a_cameBytes : (Nat → Int32)} {a_held : (Nat → Int32)} {a_heldFin : (Nat → Int32)} {a_wnd : (Nat → Int32)} {a_wndSeq : (Nat → Int32)} {a_wndAck : (Nat → Int32)} {a_peak : (Nat → Int32)} {a_half : (Nat → Int32)} {a_same : (Nat → Int32)} {a_rto : (Nat → Int32)} {a_tries : (Nat → Int32)} {a_retryAt : (Nat → Int32)} {a_ackAt : (Nat → Int32)} {a_waitTill : (Nat → Int32)} {a_timedAt : (Nat → Int32)} {a_timedSeq : (Nat → Int32)} {a_smoothed : (Nat → Int32)} {a_variance : (Nat → Int32)} {a_rowCount : (Nat → Int32)} {a_slotSeq : (Nat → Int32)} {a_slotFlags : (Nat → Int32)} {a_slotAck : (Nat → Int32)} {a_slotWindow : (Nat → Int32)} {a_slotSize : (Nat → Int32)} {a_slotBytes : (Nat → Int32)} (hv : vx_S q G (f_now, f_sent, a_stateOf, a_error, a_iss, a_una, a_nxt, a_max, a_writtenTo, a_kept, a_keptBytes, a_rcv, a_unread, a_unreadFrom, a_cameBytes, a_held, a_heldFin, a_wnd, a_wndSeq, a_wndAck, a_peak, a_half, a_same, a_rto, a_tries, a_retryAt, a_ackAt, a_waitTill, a_timedAt, a_timedSeq, a_smoothed, a_variance, a_rowCount, a_slotSeq, a_slotFlags, a_slotAck, a_slotWindow, a_slotSize, a_slotBytes)) : ∀ j, j < 256 → ∃ z : Int, a_slotBytes j = zi_n (zi_b z) := by
  obtain ⟨h_now, h_sent, h_stateOf, h_error, h_iss, h_una, h_nxt, h_max, h_writtenTo, h_kept, h_keptBytes, h_rcv, h_unread, h_unreadFrom, h_cameBytes, h_held, h_heldFin, h_wnd, h_wndSeq, h_wndAck, h_peak, h_half, h_same, h_rto, h_tries, h_retryAt, h_ackAt, h_waitTill, h_timedAt, h_timedSeq, h_smoothed, h_variance, h_rowCount, h_slotSeq, h_slotFlags, h_slotAck, h_slotWindow, h_slotSize, h_slotBytes⟩ := hv
  exact fun j hj => ⟨_, h_slotBytes j hj⟩
theorem xk_22 {q : Int} {G : gm_T} {p x3 : Int32} {P : SX → Prop} {k r : Nat} (hp : vp_in p 2) (hr : G.1 30 p.toNatClampNeg = (r : Int) + 1) (hr16 : r < 16) (hx3 : x3 = zi_n (16 * (p.toNatClampNeg : Int) + r)) (hP : ∀ u', vx_S q (gp_rm G p.toNatClampNeg k) u' → P u') : ∀ (d m f : Nat) (f_now : Int32) (f_sent : Int32) (a_stateOf : (Nat → Int32)) (a_error : (Nat → Int32)) (a_iss : (Nat → Int32)) (a_una : (Nat → Int32)) (a_nxt : (Nat → Int32)) (a_max : (Nat → Int32)) (a_writtenTo : (Nat → Int32)) (a_kept : (Nat → Int32)) (a_keptBytes : (Nat → Int32)) (a_rcv : (Nat → Int32)) (a_unread : (Nat → Int32)) (a_unreadFrom : (Nat → Int32)) (a_cameBytes : (Nat → Int32)) (a_held : (Nat → Int32)) (a_heldFin : (Nat → Int32)) (a_wnd : (Nat → Int32)) (a_wndSeq : (Nat → Int32)) (a_wndAck : (Nat → Int32)) (a_peak : (Nat → Int32)) (a_half : (Nat → Int32)) (a_same : (Nat → Int32)) (a_rto : (Nat → Int32)) (a_tries : (Nat → Int32)) (a_retryAt : (Nat → Int32)) (a_ackAt : (Nat → Int32)) (a_waitTill : (Nat → Int32)) (a_timedAt : (Nat → Int32)) (a_timedSeq : (Nat → Int32)) (a_smoothed : (Nat → Int32)) (a_variance : (Nat → Int32)) (a_rowCount : (Nat → Int32)) (a_slotSeq : (Nat → Int32)) (a_slotFlags : (Nat → Int32)) (a_slotAck : (Nat → Int32)) (a_slotWindow : (Nat → Int32)) (a_slotSize : (Nat → Int32)) (a_slotBytes : (Nat → Int32)), m + d = r → k ≤ m → d < f → vx_S q (gq_sh G p.toNatClampNeg k m) (f_now, f_sent, a_stateOf, a_error, a_iss, a_una, a_nxt, a_max, a_writtenTo, a_kept, a_keptBytes, a_rcv, a_unread, a_unreadFrom, a_cameBytes, a_held, a_heldFin, a_wnd, a_wndSeq, a_wndAck, a_peak, a_half, a_same, a_rto, a_tries, a_retryAt, a_ackAt, a_waitTill, a_timedAt, a_timedSeq, a_smoothed, a_variance, a_rowCount, a_slotSeq, a_slotFlags, a_slotAck, a_slotWindow, a_slotSize, a_slotBytes) → wX_takeOut_22 P p x3 f (zi_n (16 * (p.toNatClampNeg : Int) + m)) f_now f_sent a_stateOf a_error a_iss a_una a_nxt a_max a_writtenTo a_kept a_keptBytes a_rcv a_unread a_unreadFrom a_cameBytes a_held a_heldFin a_wnd a_wndSeq a_wndAck a_peak a_half a_same a_rto a_tries a_retryAt a_ackAt a_waitTill a_timedAt a_timedSeq a_smoothed a_variance a_rowCount a_slotSeq a_slotFlags a_slotAck a_slotWindow a_slotSize a_slotBytes := by
  have he := pe_lt hp
  intro d
  induction d with
  | zero =>
    intro m f f_now f_sent a_stateOf a_error a_iss a_una a_nxt a_max a_writtenTo a_kept a_keptBytes a_rcv a_unread a_unreadFrom a_cameBytes a_held a_heldFin a_wnd a_wndSeq a_wndAck a_peak a_half a_same a_rto a_tries a_retryAt a_ackAt a_waitTill a_timedAt a_timedSeq a_smoothed a_variance a_rowCount a_slotSeq a_slotFlags a_slotAck a_slotWindow a_slotSize a_slotBytes hm hk hf hv
    obtain ⟨f, rfl⟩ : ∃ g, f = g + 1 := ⟨f - 1, by omega⟩
    obtain rfl : m = r := by omega
    refine br_t (by rw [hx3]; exact Int32.le_refl _) ⟨hp, hp, nm_e (hP _ ?_)⟩
    obtain ⟨h_now, h_sent, h_stateOf, h_error, h_iss, h_una, h_nxt, h_max, h_writtenTo, h_kept, h_keptBytes, h_rcv, h_unread, h_unreadFrom, h_cameBytes, h_held, h_heldFin, h_wnd, h_wndSeq, h_wndAck, h_peak, h_half, h_same, h_rto, h_tries, h_retryAt, h_ackAt, h_waitTill, h_timedAt, h_timedSeq, h_smoothed, h_variance, h_rowCount, h_slotSeq, h_slotFlags, h_slotAck, h_slotWindow, h_slotSize, h_slotBytes⟩ := hv
    have tL : gm_L (gp_rm G p.toNatClampNeg k) = gm_L (gq_sh G p.toNatClampNeg k m) := by
      funext f i
      show (if 16 * p.toNatClampNeg + k ≤ i ∧ (i : Int) < 16 * p.toNatClampNeg + G.1 30 p.toNatClampNeg - 1 then gm_L G f (i + 1) else gm_L G f i) = (if 16 * p.toNatClampNeg + k ≤ i ∧ i < 16 * p.toNatClampNeg + m then gm_L G f (i + 1) else gm_L G f i)
      by_cases w : 16 * p.toNatClampNeg + k ≤ i ∧ i < 16 * p.toNatClampNeg + m
      · rw [if_pos w, if_pos (by omega)]
      · rw [if_neg w, if_neg (by omega)]
    have tD : gm_D (gp_rm G p.toNatClampNeg k) = gm_D (gq_sh G p.toNatClampNeg k m) := by
      funext j
      show (if 8 * (16 * p.toNatClampNeg + k) ≤ j ∧ (j : Int) < 8 * (16 * p.toNatClampNeg + G.1 30 p.toNatClampNeg - 1) then gm_D G (j + 8) else gm_D G j) = (if 8 * (16 * p.toNatClampNeg + k) ≤ j ∧ j < 8 * (16 * p.toNatClampNeg + m) then gm_D G (j + 8) else gm_D G j)
      by_cases w : 8 * (16 * p.toNatClampNeg + k) ≤ j ∧ j < 8 * (16 * p.toNatClampNeg + m)
      · rw [if_pos w, if_pos (by omega)]
      · rw [if_neg w, if_neg (by omega)]
    refine (vx_mk h_now h_sent h_stateOf h_error h_iss h_una h_nxt h_max h_writtenTo h_kept h_keptBytes h_rcv h_unread h_unreadFrom h_cameBytes h_held h_heldFin h_wnd h_wndSeq h_wndAck h_peak h_half h_same h_rto h_tries h_retryAt h_ackAt h_waitTill h_timedAt h_timedSeq h_smoothed h_variance (vu_e h_rowCount ?_ (fun e' y => gs_e y)) ((by rw [tL]; exact h_slotSeq)) ((by rw [tL]; exact h_slotFlags)) ((by rw [tL]; exact h_slotAck)) ((by rw [tL]; exact h_slotWindow)) ((by rw [tL]; exact h_slotSize)) ((by rw [tD]; exact h_slotBytes)))
    show _ = zi_n (gs_c _ _ _ _ _ _)
    rw [gs_s, h_rowCount _ he, zk_1, zi_sub]; rfl
  | succ d ih =>
    intro m f f_now f_sent a_stateOf a_error a_iss a_una a_nxt a_max a_writtenTo a_kept a_keptBytes a_rcv a_unread a_unreadFrom a_cameBytes a_held a_heldFin a_wnd a_wndSeq a_wndAck a_peak a_half a_same a_rto a_tries a_retryAt a_ackAt a_waitTill a_timedAt a_timedSeq a_smoothed a_variance a_rowCount a_slotSeq a_slotFlags a_slotAck a_slotWindow a_slotSize a_slotBytes hm hk hf hv
    obtain ⟨f, rfl⟩ : ∃ g, f = g + 1 := ⟨f - 1, by omega⟩
    refine br_f (by rw [hx3, zi_le (by omega) (by omega) (by omega) (by omega)]; omega) ?_
    refine xl_copySlot (a := 16 * p.toNatClampNeg + m + 1) (b := 16 * p.toNatClampNeg + m) (by rw [zk_1, zi_add]; congr 1 <;> omega) (by congr 1 <;> omega) (by omega) (by omega) (by omega) (vx_bt hv) fun SB hSB => ?_
    refine nm_r (e' := zi_n (16 * (p.toNatClampNeg : Int) + ((m + 1 : Nat) : Int))) (by rw [zk_1, zi_add]; congr 1 <;> omega) ?_
    exact ih (m + 1) f f_now f_sent a_stateOf a_error a_iss a_una a_nxt a_max a_writtenTo a_kept a_keptBytes a_rcv a_unread a_unreadFrom a_cameBytes a_held a_heldFin a_wnd a_wndSeq a_wndAck a_peak a_half a_same a_rto a_tries a_retryAt a_ackAt a_waitTill a_timedAt a_timedSeq a_smoothed a_variance a_rowCount (upd a_slotSeq (16 * p.toNatClampNeg + m) (a_slotSeq (16 * p.toNatClampNeg + m + 1))) (upd a_slotFlags (16 * p.toNatClampNeg + m) (a_slotFlags (16 * p.toNatClampNeg + m + 1))) (upd a_slotAck (16 * p.toNatClampNeg + m) (a_slotAck (16 * p.toNatClampNeg + m + 1))) (upd a_slotWindow (16 * p.toNatClampNeg + m) (a_slotWindow (16 * p.toNatClampNeg + m + 1))) (upd a_slotSize (16 * p.toNatClampNeg + m) (a_slotSize (16 * p.toNatClampNeg + m + 1))) (SB) (by omega) (by omega) (by omega) (vx_sh hv hk (by omega) hSB)
theorem xl_takeOut {q : Int} {G : gm_T} {u : SX} {p x : Int32} {P : SX → Prop} {k : Nat} (hv : vx_S q G u) (hp : vp_in p 2) (hx : x = zi_n (k : Int)) (hk : (k : Int) < G.1 30 p.toNatClampNeg) (h16 : G.1 30 p.toNatClampNeg ≤ 16) (hP : ∀ u', vx_S q (gp_rm G p.toNatClampNeg k) u' → P u') : wpX_takeOut P u p x := by
  obtain ⟨f_now, f_sent, a_stateOf, a_error, a_iss, a_una, a_nxt, a_max, a_writtenTo, a_kept, a_keptBytes, a_rcv, a_unread, a_unreadFrom, a_cameBytes, a_held, a_heldFin, a_wnd, a_wndSeq, a_wndAck, a_peak, a_half, a_same, a_rto, a_tries, a_retryAt, a_ackAt, a_waitTill, a_timedAt, a_timedSeq, a_smoothed, a_variance, a_rowCount, a_slotSeq, a_slotFlags, a_slotAck, a_slotWindow, a_slotSize, a_slotBytes⟩ := u
  have hv0 := hv
  obtain ⟨h_now, h_sent, h_stateOf, h_error, h_iss, h_una, h_nxt, h_max, h_writtenTo, h_kept, h_keptBytes, h_rcv, h_unread, h_unreadFrom, h_cameBytes, h_held, h_heldFin, h_wnd, h_wndSeq, h_wndAck, h_peak, h_half, h_same, h_rto, h_tries, h_retryAt, h_ackAt, h_waitTill, h_timedAt, h_timedSeq, h_smoothed, h_variance, h_rowCount, h_slotSeq, h_slotFlags, h_slotAck, h_slotWindow, h_slotSize, h_slotBytes⟩ := hv0
  have he := pe_lt hp
  have hz := pe_z hp
  obtain ⟨r, hr⟩ : ∃ r : Nat, G.1 30 p.toNatClampNeg = (r : Int) + 1 := ⟨(G.1 30 p.toNatClampNeg - 1).toNat, by omega⟩
  unfold wpX_takeOut
  refine ⟨hp, nm_r (e' := zi_n (16 * (p.toNatClampNeg : Int) + r)) ?_ (nm_r (e' := zi_n (16 * (p.toNatClampNeg : Int) + k)) ?_ ⟨17, ?_⟩)⟩
  · rw [h_rowCount _ he, hr]
    generalize p.toNatClampNeg = e at *
    rw [hz, zk_16, zk_1, zi_mul, zi_add, zi_sub]; congr 1; omega
  · rw [hx]
    generalize p.toNatClampNeg = e at *
    rw [hz, zk_16, zi_mul, zi_add]; congr 1; omega
  · exact xk_22 hp hr (by omega) rfl hP (r - k) k 17 f_now f_sent a_stateOf a_error a_iss a_una a_nxt a_max a_writtenTo a_kept a_keptBytes a_rcv a_unread a_unreadFrom a_cameBytes a_held a_heldFin a_wnd a_wndSeq a_wndAck a_peak a_half a_same a_rto a_tries a_retryAt a_ackAt a_waitTill a_timedAt a_timedSeq a_smoothed a_variance a_rowCount a_slotSeq a_slotFlags a_slotAck a_slotWindow a_slotSize a_slotBytes (by omega) (by omega) (by omega) (by rw [sh_0]; exact hv)
