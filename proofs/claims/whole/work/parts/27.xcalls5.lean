/-! the class: write, read, a new object (the rows wb_ are the kit's, pasted) -/
theorem wb_tb (n : Nat) : (lN n).toBitVec = BitVec.ofNat 64 n := rfl
theorem wb_inj {a b : Int64} (h : a.toBitVec = b.toBitVec) : a = b := Int64.toBitVec_inj.mp h
theorem wb_tn {n : Nat} (h : n < 2 ^ 64) : (lN n).toBitVec.toNat = n := by rw [wb_tb, BitVec.toNat_ofNat, Nat.mod_eq_of_lt h]
theorem wb_of (x : Int64) : ∃ n, n < 2 ^ 64 ∧ x = lN n := ⟨x.toBitVec.toNat, x.toBitVec.isLt, wb_inj (by rw [wb_tb]; simp)⟩
theorem wb_cu : ∀ k, k < 64 → ((nI k).toInt64.toUInt64 &&& Int64.toUInt64 63) = UInt64.ofNat k := by decide +kernel
theorem wb_shr {n k : Nat} (hn : n < 2 ^ 64) (hk : k < 64) : ((lN n).toUInt64 >>> ((nI k).toInt64.toUInt64 &&& Int64.toUInt64 63)).toInt64 = lN (n / 2 ^ k) := by
  rw [wb_cu k hk]
  apply wb_inj
  apply BitVec.eq_of_toNat_eq
  show ((lN n).toUInt64 >>> UInt64.ofNat k).toNat = (BitVec.ofNat 64 _).toNat
  have h1 : (UInt64.ofNat k).toNat = k := by
    show (BitVec.ofNat 64 k).toNat = k
    rw [BitVec.toNat_ofNat, Nat.mod_eq_of_lt (by omega)]
  have h2 : (lN n).toUInt64.toNat = n := wb_tn hn
  rw [UInt64.toNat_shiftRight, h1, h2, Nat.mod_eq_of_lt hk, Nat.shiftRight_eq_div_pow, BitVec.toNat_ofNat, Nat.mod_eq_of_lt (Nat.lt_of_le_of_lt (Nat.div_le_self _ _) hn)]
/-- byte i of a long -/
def gz_w (b : Int64) (i : Int) : Int := (b.toInt / ((2 ^ (8 * i.toNat) : Nat) : Int)) % 256
theorem gz_r (b : Int64) (i : Int) : 0 ≤ gz_w b i ∧ gz_w b i ≤ 255 := by unfold gz_w; omega
theorem gz_x (b : Int64) {i : Nat} (hi : i < 8) : (((b.toBitVec.toNat / 2 ^ (8 * i) : Nat) : Int)) % 256 = gz_w b i := by
  unfold gz_w
  rw [Int.toNat_natCast]
  have e : b.toInt = b.toBitVec.toInt := rfl
  have hlt := b.toBitVec.isLt
  rw [e, BitVec.toInt_eq_toNat_cond]
  generalize b.toBitVec.toNat = n at *
  have h8 : i = 0 ∨ i = 1 ∨ i = 2 ∨ i = 3 ∨ i = 4 ∨ i = 5 ∨ i = 6 ∨ i = 7 := by omega
  rcases h8 with rfl | rfl | rfl | rfl | rfl | rfl | rfl | rfl <;> (simp only [Nat.reduceMul, Nat.reducePow] at *; split <;> omega)
theorem xw_b (b : Int64) {i : Nat} (hi : i < 8) : vp_nar .byte ((((b.toUInt64 >>> ((8 * nI i).toInt64.toUInt64 &&& Int64.toUInt64 63)).toInt64).toInt32).toInt8.toInt32) = zi_n (zi_b (gz_w b i)) := by
  obtain ⟨n, hn, rfl⟩ := wb_of b
  have e8 : (8 : Int32) * nI i = nI (8 * i) := (Int32.ofNat_mul 8 i).symm
  rw [e8, wb_shr hn (by omega), lN_i, zi_nI, zi_byte, vn_byte, zb_b]
  have := gz_x (lN n) hi
  rw [wb_tn hn] at this
  rw [← this, zi_b_e, zi_b_e]; congr 1; omega
def gq_w (G : gm_T) (e : Nat) (i : Int) (g : Int → Int) : gm_T := (gs_c (gs_c G.1 6 e (G.1 6 e + i)) 33 e (G.1 6 e + i), gm_b (gm_W G) e (fun p => if G.1 6 e ≤ p ∧ p < G.1 6 e + i then g (p - G.1 6 e) else gm_W G e p), G.2.2)
theorem qw_f {G : gm_T} {e e' f : Nat} {i : Int} {g : Int → Int} (h1 : f ≠ 6) (h2 : f ≠ 33) : (gq_w G e i g).1 f e' = G.1 f e' := by
  show gs_c (gs_c _ _ _ _) _ _ _ _ _ = _
  rw [gs_f h2, gs_f h1]
theorem qw_L {G : gm_T} {e : Nat} {i : Int} {g : Int → Int} : (gq_w G e i g).1 6 e = G.1 6 e + i := by
  simp +decide only [gq_w, gs_s, gs_f]
theorem qw_o {G : gm_T} {e e' f : Nat} {i : Int} {g : Int → Int} (y : e' ≠ e) : (gq_w G e i g).1 f e' = G.1 f e' := by
  show gs_c (gs_c _ _ _ _) _ _ _ _ _ = _
  rw [gs_e y, gs_e y]
theorem qw_W {G : gm_T} {e : Nat} {i : Int} {g : Int → Int} {p : Int} : gm_W (gq_w G e i g) e p = if G.1 6 e ≤ p ∧ p < G.1 6 e + i then g (p - G.1 6 e) else gm_W G e p := if_pos rfl
theorem qw_Wo {G : gm_T} {e e' : Nat} {i : Int} {g : Int → Int} {p : Int} (y : e' ≠ e) : gm_W (gq_w G e i g) e' p = gm_W G e' p := if_neg y
theorem xw_64 {q K : Int} {G : gm_T} {P : Int32 → SX → Prop} {p x6 : Int32} {b : Int64} {cnt : Int} (hp : vp_in p 2) (hx6 : x6 = zi_n cnt) (hc0 : 0 ≤ cnt) (hc8 : cnt ≤ 8) (hL : 1 ≤ G.1 6 p.toNatClampNeg) (hIw : gv_I K (gp_wr G p.toNatClampNeg cnt (gz_w b))) (hP : ∀ u', vx_S q (gp_flow (gp_wr G p.toNatClampNeg cnt (gz_w b)) p.toNatClampNeg) u' → P (zi_n cnt) u') :
    ∀ (f i : Nat) (f_now : Int32) (f_sent : Int32) (a_stateOf : (Nat → Int32)) (a_error : (Nat → Int32)) (a_iss : (Nat → Int32)) (a_una : (Nat → Int32)) (a_nxt : (Nat → Int32)) (a_max : (Nat → Int32)) (a_writtenTo : (Nat → Int32)) (a_kept : (Nat → Int32)) (a_keptBytes : (Nat → Int32)) (a_rcv : (Nat → Int32)) (a_unread : (Nat → Int32)) (a_unreadFrom : (Nat → Int32)) (a_cameBytes : (Nat → Int32)) (a_held : (Nat → Int32)) (a_heldFin : (Nat → Int32)) (a_wnd : (Nat → Int32)) (a_wndSeq : (Nat → Int32)) (a_wndAck : (Nat → Int32)) (a_peak : (Nat → Int32)) (a_half : (Nat → Int32)) (a_same : (Nat → Int32)) (a_rto : (Nat → Int32)) (a_tries : (Nat → Int32)) (a_retryAt : (Nat → Int32)) (a_ackAt : (Nat → Int32)) (a_waitTill : (Nat → Int32)) (a_timedAt : (Nat → Int32)) (a_timedSeq : (Nat → Int32)) (a_smoothed : (Nat → Int32)) (a_variance : (Nat → Int32)) (a_rowCount : (Nat → Int32)) (a_slotSeq : (Nat → Int32)) (a_slotFlags : (Nat → Int32)) (a_slotAck : (Nat → Int32)) (a_slotWindow : (Nat → Int32)) (a_slotSize : (Nat → Int32)) (a_slotBytes : (Nat → Int32)), (i : Int) ≤ cnt → cnt - i < f → vx_S q (gq_w G p.toNatClampNeg i (gz_w b)) (f_now, f_sent, a_stateOf, a_error, a_iss, a_una, a_nxt, a_max, a_writtenTo, a_kept, a_keptBytes, a_rcv, a_unread, a_unreadFrom, a_cameBytes, a_held, a_heldFin, a_wnd, a_wndSeq, a_wndAck, a_peak, a_half, a_same, a_rto, a_tries, a_retryAt, a_ackAt, a_waitTill, a_timedAt, a_timedSeq, a_smoothed, a_variance, a_rowCount, a_slotSeq, a_slotFlags, a_slotAck, a_slotWindow, a_slotSize, a_slotBytes) → wX_write_64 P p b x6 f_now f_sent f (nI i) a_stateOf a_error a_iss a_una a_nxt a_max a_writtenTo a_kept a_keptBytes a_rcv a_unread a_unreadFrom a_cameBytes a_held a_heldFin a_wnd a_wndSeq a_wndAck a_peak a_half a_same a_rto a_tries a_retryAt a_ackAt a_waitTill a_timedAt a_timedSeq a_smoothed a_variance a_rowCount a_slotSeq a_slotFlags a_slotAck a_slotWindow a_slotSize a_slotBytes := by
  have he := pe_lt hp
  have hz := pe_z hp
  intro f
  induction f with
  | zero => intro i f_now f_sent a_stateOf a_error a_iss a_una a_nxt a_max a_writtenTo a_kept a_keptBytes a_rcv a_unread a_unreadFrom a_cameBytes a_held a_heldFin a_wnd a_wndSeq a_wndAck a_peak a_half a_same a_rto a_tries a_retryAt a_ackAt a_waitTill a_timedAt a_timedSeq a_smoothed a_variance a_rowCount a_slotSeq a_slotFlags a_slotAck a_slotWindow a_slotSize a_slotBytes h1 h2; omega
  | succ f ih =>
    intro i f_now f_sent a_stateOf a_error a_iss a_una a_nxt a_max a_writtenTo a_kept a_keptBytes a_rcv a_unread a_unreadFrom a_cameBytes a_held a_heldFin a_wnd a_wndSeq a_wndAck a_peak a_half a_same a_rto a_tries a_retryAt a_ackAt a_waitTill a_timedAt a_timedSeq a_smoothed a_variance a_rowCount a_slotSeq a_slotFlags a_slotAck a_slotWindow a_slotSize a_slotBytes h1 h2 hv
    have hv0 := hv
    obtain ⟨h_now, h_sent, h_stateOf, h_error, h_iss, h_una, h_nxt, h_max, h_writtenTo, h_kept, h_keptBytes, h_rcv, h_unread, h_unreadFrom, h_cameBytes, h_held, h_heldFin, h_wnd, h_wndSeq, h_wndAck, h_peak, h_half, h_same, h_rto, h_tries, h_retryAt, h_ackAt, h_waitTill, h_timedAt, h_timedSeq, h_smoothed, h_variance, h_rowCount, h_slotSeq, h_slotFlags, h_slotAck, h_slotWindow, h_slotSize, h_slotBytes⟩ := hv0
    by_cases w : (i : Int) = cnt
    · refine br_t (by rw [hx6, zi_nI, w]; exact Int32.le_refl _) ⟨hp, hp, nm_e ?_⟩
      refine xl_flow (q := q) (G := gp_wr G p.toNatClampNeg cnt (gz_w b)) ?_ hIw hp fun u1 hv1 => ?_
      · rw [w] at hv
        clear h_kept
        obtain ⟨h_now, h_sent, h_stateOf, h_error, h_iss, h_una, h_nxt, h_max, h_writtenTo, h_kept, h_keptBytes, h_rcv, h_unread, h_unreadFrom, h_cameBytes, h_held, h_heldFin, h_wnd, h_wndSeq, h_wndAck, h_peak, h_half, h_same, h_rto, h_tries, h_retryAt, h_ackAt, h_waitTill, h_timedAt, h_timedSeq, h_smoothed, h_variance, h_rowCount, h_slotSeq, h_slotFlags, h_slotAck, h_slotWindow, h_slotSize, h_slotBytes⟩ := hv
        refine (vx_mk h_now h_sent h_stateOf h_error h_iss h_una h_nxt h_max h_writtenTo (vu_e h_kept ?_ (fun e' y => gs_e y)) h_keptBytes h_rcv h_unread h_unreadFrom h_cameBytes h_held h_heldFin h_wnd h_wndSeq h_wndAck h_peak h_half h_same h_rto h_tries h_retryAt h_ackAt h_waitTill h_timedAt h_timedSeq h_smoothed h_variance h_rowCount h_slotSeq h_slotFlags h_slotAck h_slotWindow h_slotSize h_slotBytes)
        show _ = zi_n (gs_c _ _ _ _ _ _)
        rw [gs_s, h_kept _ he, qw_f (by decide) (by decide), hx6, zi_add]
      · have := hP u1 hv1
        obtain ⟨f_now, f_sent, a_stateOf, a_error, a_iss, a_una, a_nxt, a_max, a_writtenTo, a_kept, a_keptBytes, a_rcv, a_unread, a_unreadFrom, a_cameBytes, a_held, a_heldFin, a_wnd, a_wndSeq, a_wndAck, a_peak, a_half, a_same, a_rto, a_tries, a_retryAt, a_ackAt, a_waitTill, a_timedAt, a_timedSeq, a_smoothed, a_variance, a_rowCount, a_slotSeq, a_slotFlags, a_slotAck, a_slotWindow, a_slotSize, a_slotBytes⟩ := u1
        rw [hx6]; exact this
    · have i1 : (p * 32 + (a_writtenTo p.toNatClampNeg &&& 31)) = zi_n (32 * (p.toNatClampNeg : Int) + (G.1 2 p.toNatClampNeg + (G.1 6 p.toNatClampNeg + i)) % 32) := by
        rw [h_writtenTo _ he, qw_f (by decide) (by decide), qw_L]
        generalize p.toNatClampNeg = e at *
        rw [hz, zk_32, zi_mul, zi_a5, zi_add]; congr 1; omega
      have i2 : (p * 32 + (a_writtenTo p.toNatClampNeg &&& 31)).toNatClampNeg = 32 * p.toNatClampNeg + ((G.1 2 p.toNatClampNeg + (G.1 6 p.toNatClampNeg + i)) % 32).toNat := by
        rw [i1, zi_cl (by omega) (by omega)]; omega
      refine br_f (by rw [hx6, zi_nI, zi_le (by omega) (by omega) (by omega) (by omega)]; omega) ⟨hp, by rw [i1]; exact zi_in (by omega) (by omega) (by omega), nm_e ⟨hp, xl_behind (h_writtenTo _ he) zk_1 ⟨hp, nm_e (nm_r (nI_1 i) ?_)⟩⟩⟩
      rw [i2, xw_b b (by omega)]
      refine ih (i + 1) f_now f_sent a_stateOf a_error a_iss a_una a_nxt a_max (upd a_writtenTo p.toNatClampNeg _) a_kept (upd a_keptBytes _ _) a_rcv a_unread a_unreadFrom a_cameBytes a_held a_heldFin a_wnd a_wndSeq a_wndAck a_peak a_half a_same a_rto a_tries a_retryAt a_ackAt a_waitTill a_timedAt a_timedSeq a_smoothed a_variance a_rowCount a_slotSeq a_slotFlags a_slotAck a_slotWindow a_slotSize a_slotBytes (by omega) (by omega) ?_
      have ii : ((i + 1 : Nat) : Int) = (i : Int) + 1 := by omega
      rw [ii]
      generalize p.toNatClampNeg = e at *
      refine (vx_mk h_now h_sent h_stateOf h_error h_iss h_una h_nxt h_max (vu_e h_writtenTo ?a1 (fun e' y => by rw [qw_o y, qw_o y, qw_o y, qw_o y])) h_kept (fun e' he' p' z1 z2 z3 => ?a2) h_rcv h_unread h_unreadFrom h_cameBytes h_held h_heldFin h_wnd h_wndSeq h_wndAck h_peak h_half h_same h_rto h_tries h_retryAt h_ackAt h_waitTill h_timedAt h_timedSeq h_smoothed h_variance h_rowCount h_slotSeq h_slotFlags h_slotAck h_slotWindow h_slotSize h_slotBytes)
      case a1 => rw [qw_f (by decide) (by decide), qw_L, qw_f (by decide) (by decide), qw_L]; congr 1; omega
      case a2 =>
        by_cases y : e' = e
        · subst y
          rw [qw_L] at z2 z3
          rw [qw_f (by decide) (by decide), qw_W]
          by_cases y2 : p' = G.1 6 e' + i
          · subst y2
            rw [zu_s, if_pos (by omega)]
            congr 3; omega
          · rw [zu_n (by omega)]
            have := h_keptBytes e' he' p' z1 (by rw [qw_L]; omega) (by rw [qw_L]; omega)
            rw [qw_f (by decide) (by decide), qw_W] at this
            rw [this]
            by_cases y3 : G.1 6 e' ≤ p' ∧ p' < G.1 6 e' + i
            · rw [if_pos y3, if_pos (by omega)]
            · rw [if_neg y3, if_neg (by omega)]
        · rw [qw_o y] at z2 z3
          rw [zu_n (by omega), qw_o y, qw_Wo y]
          have := h_keptBytes e' he' p' z1 (by rw [qw_o y]; exact z2) (by rw [qw_o y]; exact z3)
          rw [qw_o y, qw_Wo y] at this
          exact this
theorem xl_mayWrite {P : Int32 → Prop} {x : Int32} {s : Int} (hx : x = zi_n s) (h0 : 0 ≤ s) (h1 : s ≤ 10) (ht : (s = 2 ∨ s = 3 ∨ s = 4 ∨ s = 7) → P 1) (hf : ¬ (s = 2 ∨ s = 3 ∨ s = 4 ∨ s = 7) → P 0) : wpX_mayWrite P x := by
  unfold wpX_mayWrite
  rw [hx, zk_2, zk_3, zk_4, zk_7]
  simp only [zi_eq (a := s) (b := 2) (by omega) (by omega) (by omega) (by omega), zi_eq (a := s) (b := 3) (by omega) (by omega) (by omega) (by omega), zi_eq (a := s) (b := 4) (by omega) (by omega) (by omega) (by omega), zi_eq (a := s) (b := 7) (by omega) (by omega) (by omega) (by omega)]
  refine ⟨fun h => ht (by omega), fun _ => ⟨fun h => ht (by omega), fun _ => ⟨fun h => ht (by omega), fun _ => ⟨fun h => ht (by omega), fun _ => hf (by omega)⟩⟩⟩⟩
theorem qw_0 {G : gm_T} {e : Nat} {g : Int → Int} {q : Int} {u : SX} (hY : G.1 33 e = G.1 6 e) (hv : vx_S q G u) : vx_S q (gq_w G e ((0 : Nat) : Int) g) u := by
  have e1 : gs_c (gs_c G.1 6 e (G.1 6 e + ((0 : Nat) : Int))) 33 e (G.1 6 e + ((0 : Nat) : Int)) = G.1 := by
    rw [gs_id (c := G.1) (by omega), gs_id (by omega)]
  have e2 : gm_b (gm_W G) e (fun p => if G.1 6 e ≤ p ∧ p < G.1 6 e + ((0 : Nat) : Int) then g (p - G.1 6 e) else gm_W G e p) = gm_W G := by
    funext e' p
    unfold gm_b
    split
    · rename_i h; dsimp only; rw [if_neg (by omega), h]
    · rfl
  unfold gq_w
  rw [e1, e2]; exact hv
theorem xl_write {q K : Int} {G : gm_T} {u : SX} {P : Int32 → SX → Prop} {x y : Int32} {b : Int64} {n : Int} (hv : vx_S q G u) (hI : gv_I K G) (hK : K + 8 ≤ 5000) (hy : y = zi_n n) (h0 : -2147483648 ≤ n) (h1 : n < 2147483648) (hA : ¬ (vp_in x 2 ∧ (1 ≤ n ∧ n ≤ 8) ∧ (G.1 0 x.toNatClampNeg = 2 ∨ G.1 0 x.toNatClampNeg = 3 ∨ G.1 0 x.toNatClampNeg = 4 ∨ G.1 0 x.toNatClampNeg = 7)) → P (-1) u) (hB : vp_in x 2 → (1 ≤ n ∧ n ≤ 8) → (G.1 0 x.toNatClampNeg = 2 ∨ G.1 0 x.toNatClampNeg = 3 ∨ G.1 0 x.toNatClampNeg = 4 ∨ G.1 0 x.toNatClampNeg = 7) → ∀ u', vx_S q (gp_write G x.toNatClampNeg n (gz_w b)) u' → P (zi_n (min n (32 - G.1 31 x.toNatClampNeg))) u') : wpX_write P u x b y := by
  obtain ⟨f_now, f_sent, a_stateOf, a_error, a_iss, a_una, a_nxt, a_max, a_writtenTo, a_kept, a_keptBytes, a_rcv, a_unread, a_unreadFrom, a_cameBytes, a_held, a_heldFin, a_wnd, a_wndSeq, a_wndAck, a_peak, a_half, a_same, a_rto, a_tries, a_retryAt, a_ackAt, a_waitTill, a_timedAt, a_timedSeq, a_smoothed, a_variance, a_rowCount, a_slotSeq, a_slotFlags, a_slotAck, a_slotWindow, a_slotSize, a_slotBytes⟩ := u
  have hv0 := hv
  obtain ⟨h_now, h_sent, h_stateOf, h_error, h_iss, h_una, h_nxt, h_max, h_writtenTo, h_kept, h_keptBytes, h_rcv, h_unread, h_unreadFrom, h_cameBytes, h_held, h_heldFin, h_wnd, h_wndSeq, h_wndAck, h_peak, h_half, h_same, h_rto, h_tries, h_retryAt, h_ackAt, h_waitTill, h_timedAt, h_timedSeq, h_smoothed, h_variance, h_rowCount, h_slotSeq, h_slotFlags, h_slotAck, h_slotWindow, h_slotSize, h_slotBytes⟩ := hv0
  unfold wpX_write
  refine xl_isEnd (fun hp => ?_) (fun hp => br_t rfl (hA (fun w => hp w.1)))
  have he := pe_lt hp
  obtain ⟨b1, b2, b3, b4, b5, b6⟩ := hI.2.2.2.2.1 _ he
  unfold gv_a at b1
  unfold gv_p at b2
  subst hy
  refine br_f (by decide) ?_
  by_cases c1 : n < 1
  · exact br_t (by rw [zk_1, zi_lt h0 h1 (by omega) (by omega)]; exact c1) (hA (by omega))
  refine br_f (by rw [zk_1, zi_lt h0 h1 (by omega) (by omega)]; exact c1) ?_
  by_cases c2 : 8 < n
  · exact br_t (by rw [zk_8, zi_lt (by omega) (by omega) h0 h1]; exact c2) (hA (by omega))
  refine br_f (by rw [zk_8, zi_lt (by omega) (by omega) h0 h1]; exact c2) ⟨hp, xl_mayWrite (h_stateOf _ he) (by omega) (by omega) (fun w => ?_) (fun w => br_t rfl (hA (fun z => w z.2.2)))⟩
  have hb := hB hp (by omega) w
  have hL := b2.1 (by omega)
  have hk := b2.2.2.2.2.2
  have hIw := iv_wr (cnt := min n (32 - G.1 31 x.toNatClampNeg)) (g := gz_w b) hI he hK w (by omega) (by omega) (by omega) (fun i => gz_r b i)
  refine br_f (by decide) ⟨hp, nm_r (e' := zi_n (32 - G.1 31 x.toNatClampNeg)) (by rw [h_kept _ he, zk_32, zi_sub]) ?_⟩
  by_cases c3 : 32 - G.1 31 x.toNatClampNeg ≤ n
  · refine br_t (by rw [zi_le (by omega) (by omega) h0 h1]; exact c3) ⟨10, ?_⟩
    exact xw_64 hp (cnt := min n (32 - G.1 31 x.toNatClampNeg)) (by congr 1; omega) (by omega) (by omega) hL.1 hIw hb 10 0 f_now f_sent a_stateOf a_error a_iss a_una a_nxt a_max a_writtenTo a_kept a_keptBytes a_rcv a_unread a_unreadFrom a_cameBytes a_held a_heldFin a_wnd a_wndSeq a_wndAck a_peak a_half a_same a_rto a_tries a_retryAt a_ackAt a_waitTill a_timedAt a_timedSeq a_smoothed a_variance a_rowCount a_slotSeq a_slotFlags a_slotAck a_slotWindow a_slotSize a_slotBytes (by omega) (by omega) (qw_0 hL.2.2.2 hv)
  · refine br_f (by rw [zi_le (by omega) (by omega) h0 h1]; exact c3) ⟨10, ?_⟩
    exact xw_64 hp (cnt := min n (32 - G.1 31 x.toNatClampNeg)) (by congr 1; omega) (by omega) (by omega) hL.1 hIw hb 10 0 f_now f_sent a_stateOf a_error a_iss a_una a_nxt a_max a_writtenTo a_kept a_keptBytes a_rcv a_unread a_unreadFrom a_cameBytes a_held a_heldFin a_wnd a_wndSeq a_wndAck a_peak a_half a_same a_rto a_tries a_retryAt a_ackAt a_waitTill a_timedAt a_timedSeq a_smoothed a_variance a_rowCount a_slotSeq a_slotFlags a_slotAck a_slotWindow a_slotSize a_slotBytes (by omega) (by omega) (qw_0 hL.2.2.2 hv)
