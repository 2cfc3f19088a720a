/-! the reference: forge, write, read, a new object -/
theorem up_up {a : Nat → Int32} {k : Nat} {x y : Int32} : upd (upd a k x) k y = upd a k y := by
  funext j
  unfold upd
  split <;> rfl
theorem yf_125 {P : Int32 → SY → Prop} {f_now : Int32} {f_sent : Int32} {a_seq : (Nat → Int32)} {a_flags : (Nat → Int32)} {a_acked : (Nat → Int32)} {a_window : (Nat → Int32)} {a_many : (Nat → Int32)} {a_data : (Nat → Int32)} {a_rows : (Nat → Int32)} {a_state : (Nat → Int32)} {a_error : (Nat → Int32)} {a_iss : (Nat → Int32)} {a_una : (Nat → Int64)} {a_nxt : (Nat → Int64)} {a_max : (Nat → Int64)} {a_last : (Nat → Int64)} {a_closed : (Nat → Int32)} {a_written : (Nat → Int32)} {a_irs : (Nat → Int32)} {a_unread : (Nat → Int32)} {a_bytes : (Nat → Int32)} {a_held : (Nat → Int32)} {a_rcv : (Nat → Int64)} {a_finAt : (Nat → Int64)} {a_marked : (Nat → Int32)} {a_wnd : (Nat → Int32)} {a_peak : (Nat → Int32)} {a_half : (Nat → Int32)} {a_rto : (Nat → Int32)} {a_same : (Nat → Int32)} {a_tries : (Nat → Int32)} {a_smooth : (Nat → Int32)} {a_spread : (Nat → Int32)} {a_byNumber : (Nat → Int32)} {a_byAck : (Nat → Int32)} {a_sampled : (Nat → Int32)} {a_told : (Nat → Int32)} {a_retry : (Nat → Int32)} {a_ackAt : (Nat → Int32)} {a_waitAt : (Nat → Int32)} {a_timedAt : (Nat → Int32)} {a_timed : (Nat → Int64)} {p x6 x7 x8 : Int32} {k : Nat} {n b : Int} (hx6 : x6 = zi_n n) (hx7 : x7 = zi_n b) (hx8 : x8 = zi_n (k : Int)) (hk : k < 32) (hn0 : 0 ≤ n) (hn8 : n ≤ 8) (hp : vp_in p 2) (hP : ∀ SB : Nat → Int32, (∀ j, SB j = if 8 * (k : Int) ≤ j ∧ (j : Int) < 8 * (k : Int) + n then zi_n ((b + ((j : Int) - 8 * (k : Int))) % 256) else a_data j) → P (a_rows p.toNatClampNeg) (f_now, f_sent, a_seq, a_flags, a_acked, a_window, a_many, SB, a_rows, a_state, a_error, a_iss, a_una, a_nxt, a_max, a_last, a_closed, a_written, a_irs, a_unread, a_bytes, a_held, a_rcv, a_finAt, a_marked, a_wnd, a_peak, a_half, a_rto, a_same, a_tries, a_smooth, a_spread, a_byNumber, a_byAck, a_sampled, a_told, a_retry, a_ackAt, a_waitAt, a_timedAt, a_timed)) :
    ∀ (f i : Nat) (SB : Nat → Int32), (i : Int) ≤ n → n - i < f → (∀ j, SB j = if 8 * (k : Int) ≤ j ∧ (j : Int) < 8 * (k : Int) + i then zi_n ((b + ((j : Int) - 8 * (k : Int))) % 256) else a_data j) → wY_forge_125 P p x6 x7 x8 f_now f_sent f (nI i) a_seq a_flags a_acked a_window a_many (SB) a_rows a_state a_error a_iss a_una a_nxt a_max a_last a_closed a_written a_irs a_unread a_bytes a_held a_rcv a_finAt a_marked a_wnd a_peak a_half a_rto a_same a_tries a_smooth a_spread a_byNumber a_byAck a_sampled a_told a_retry a_ackAt a_waitAt a_timedAt a_timed := by
  intro f
  induction f with
  | zero => intro i SB h1 h2; omega
  | succ f ih =>
    intro i SB h1 h2 h3
    by_cases w : (i : Int) = n
    · rw [w] at h3
      exact br_t (by rw [hx6, zi_nI, w]; exact Int32.le_refl _) ⟨hp, hP SB h3⟩
    · have i3 : 8 * x8 + nI i = zi_n (8 * (k : Int) + i) := by rw [hx8, zi_nI, zk_8, zi_mul, zi_add]
      have i4 : (8 * x8 + nI i).toNatClampNeg = 8 * k + i := by rw [i3, zi_cl (by omega) (by omega)]; omega
      refine br_f (by rw [hx6, zi_nI, zi_le (by omega) (by omega) (by omega) (by omega)]; omega) ⟨by rw [i3]; exact zi_in (by omega) (by omega) (by omega), nm_e (nm_r (nI_1 i) (ih (i + 1) _ (by omega) (by omega) ?_))⟩
      intro j
      rw [i4, hx7, zi_nI, zi_add, zi_a8]
      by_cases w2 : j = 8 * k + i
      · rw [w2, zu_s, if_pos (by omega)]; congr 2; omega
      · rw [zu_n w2, h3 j]
        by_cases w3 : 8 * (k : Int) ≤ j ∧ (j : Int) < 8 * (k : Int) + i
        · rw [if_pos w3, if_pos (by omega)]
        · rw [if_neg w3, if_neg (by omega)]
theorem yl_forge {q K : Int} {G : gm_T} {u : SY} {P : Int32 → SY → Prop} {x x1 x2 x3 x4 x5 x6 : Int32} {sq fl ac wi n b : Int} (hv : vy_S q G u) (hI : gv_I K G) (e1 : x1 = zi_n sq) (e2 : x2 = zi_n fl) (e3 : x3 = zi_n ac) (e4 : x4 = zi_n wi) (e5 : x5 = zi_n n) (e6 : x6 = zi_n b) (r1 : -2147483648 ≤ sq ∧ sq < 2147483648) (r2 : -2147483648 ≤ fl ∧ fl < 2147483648) (r3 : -2147483648 ≤ ac ∧ ac < 2147483648) (r4 : -2147483648 ≤ wi ∧ wi < 2147483648) (r5 : -2147483648 ≤ n ∧ n < 2147483648)
    (hA : ¬ (vp_in x 2 ∧ (0 ≤ sq ∧ sq ≤ 65535) ∧ (0 ≤ fl ∧ fl ≤ 15) ∧ (0 ≤ ac ∧ ac ≤ 65535) ∧ (0 ≤ wi ∧ wi ≤ 24) ∧ (0 ≤ n ∧ n ≤ 8)) → P (-1) u)
    (hF : vp_in x 2 → (0 ≤ sq ∧ sq ≤ 65535) → (0 ≤ fl ∧ fl ≤ 15) → (0 ≤ ac ∧ ac ≤ 65535) → (0 ≤ wi ∧ wi ≤ 24) → (0 ≤ n ∧ n ≤ 8) → G.1 30 x.toNatClampNeg = 16 → P (-2) u)
    (hB : vp_in x 2 → (0 ≤ sq ∧ sq ≤ 65535) → (0 ≤ fl ∧ fl ≤ 15) → (0 ≤ ac ∧ ac ≤ 65535) → (0 ≤ wi ∧ wi ≤ 24) → (0 ≤ n ∧ n ≤ 8) → G.1 30 x.toNatClampNeg < 16 → ∀ u', vy_S (q + 1) (gp_forge G x.toNatClampNeg sq fl (if fl / 2 % 2 = 1 then ac else 0) wi n b) u' → P (zi_n (G.1 30 x.toNatClampNeg + 1)) u') : wpY_forge P u x x1 x2 x3 x4 x5 x6 := by
  obtain ⟨f_now, f_sent, a_seq, a_flags, a_acked, a_window, a_many, a_data, a_rows, a_state, a_error, a_iss, a_una, a_nxt, a_max, a_last, a_closed, a_written, a_irs, a_unread, a_bytes, a_held, a_rcv, a_finAt, a_marked, a_wnd, a_peak, a_half, a_rto, a_same, a_tries, a_smooth, a_spread, a_byNumber, a_byAck, a_sampled, a_told, a_retry, a_ackAt, a_waitAt, a_timedAt, a_timed⟩ := u
  have hv0 := hv
  obtain ⟨h_now, h_sent, h_seq, h_flags, h_acked, h_window, h_many, h_data, h_rows, h_state, h_error, h_iss, h_una, h_nxt, h_max, h_last, h_closed, h_written, h_irs, h_unread, h_bytes, h_held, h_rcv, h_finAt, h_marked, h_wnd, h_peak, h_half, h_rto, h_same, h_tries, h_smooth, h_spread, h_byNumber, h_byAck, h_sampled, h_told, h_retry, h_ackAt, h_waitAt, h_timedAt, h_timed⟩ := hv0
  unfold wpY_forge
  refine yl_end (fun hp => ?_) (fun hp => br_f (by decide) (hA (fun w => hp w.1)))
  refine br_t rfl (yl_no e1 zk_0 zk_65535 r1.1 r1.2 (by omega) (by omega) (by omega) (by omega) (fun a1 a2 => ?_) (fun h => br_f (by decide) (hA (fun w => h w.2.1))))
  refine br_t rfl (yl_no e2 zk_0 zk_15 r2.1 r2.2 (by omega) (by omega) (by omega) (by omega) (fun a3 a4 => ?_) (fun h => br_f (by decide) (hA (fun w => h w.2.2.1))))
  refine br_t rfl (yl_no e3 zk_0 zk_65535 r3.1 r3.2 (by omega) (by omega) (by omega) (by omega) (fun a5 a6 => ?_) (fun h => br_f (by decide) (hA (fun w => h w.2.2.2.1))))
  refine br_t rfl (yl_no e4 zk_0 zk_24 r4.1 r4.2 (by omega) (by omega) (by omega) (by omega) (fun a7 a8 => ?_) (fun h => br_f (by decide) (hA (fun w => h w.2.2.2.2.1))))
  refine br_t rfl (yl_no e5 zk_0 zk_8 r5.1 r5.2 (by omega) (by omega) (by omega) (by omega) (fun a9 a10 => ?_) (fun h => br_f (by decide) (hA (fun w => h w.2.2.2.2.2))))
  have he := pe_lt hp
  have hz := pe_z hp
  obtain ⟨b1, b2, b3, b4, b5, b6⟩ := hI.2.2.2.2.1 _ he
  unfold gv_a at b1
  refine br_t rfl ⟨hp, ?_⟩
  by_cases w : G.1 30 x.toNatClampNeg = 16
  · exact br_t (by rw [h_rows _ he, w]; rfl) (hF hp ⟨a1, a2⟩ ⟨a3, a4⟩ ⟨a5, a6⟩ ⟨a7, a8⟩ ⟨a9, a10⟩ w)
  · have hb := hB hp ⟨a1, a2⟩ ⟨a3, a4⟩ ⟨a5, a6⟩ ⟨a7, a8⟩ ⟨a9, a10⟩ (by omega)
    have hk32 : 16 * x.toNatClampNeg + (G.1 30 x.toNatClampNeg).toNat < 32 := by omega
    have ek : 16 * x + a_rows x.toNatClampNeg = zi_n ((16 * x.toNatClampNeg + (G.1 30 x.toNatClampNeg).toNat : Nat) : Int) := by
      rw [h_rows _ he]
      generalize x.toNatClampNeg = e at *
      rw [hz, zk_16, zi_mul, zi_add]; congr 1; omega
    have hin := yk_in hk32
    have hc := sl_c (k := 16 * x.toNatClampNeg + (G.1 30 x.toNatClampNeg).toNat) (by omega)
    refine br_f (by rw [h_rows _ he, zk_16, zi_eq (by omega) (by omega) (by omega) (by omega)]; exact w) ⟨hp, nm_r ek ?_⟩
    have k107 : ∀ z0 : Int32, z0 = zi_n (if fl / 2 % 2 = 1 then ac else 0) → wY_forge_107 P x x4 x5 x6 (zi_n ((16 * x.toNatClampNeg + (G.1 30 x.toNatClampNeg).toNat : Nat) : Int)) z0 x2 x1 x f_now f_sent a_seq a_flags a_acked a_window a_many a_data a_rows a_state a_error a_iss a_una a_nxt a_max a_last a_closed a_written a_irs a_unread a_bytes a_held a_rcv a_finAt a_marked a_wnd a_peak a_half a_rto a_same a_tries a_smooth a_spread a_byNumber a_byAck a_sampled a_told a_retry a_ackAt a_waitAt a_timedAt a_timed := by
      intro z0 hz0
      unfold wY_forge_107
      refine yl_post hp (h_rows _ he) (by omega) (by omega) (fun hlt => ⟨hin, ?_⟩) (fun h => absurd h w)
      rw [hc]
      refine nm_r up_up ⟨10, ?_⟩
      refine yf_125 (n := n) (b := b) e5 e6 rfl hk32 (by omega) a10 hp (fun SB hSB => ?_) 10 0 a_data (by omega) (by omega) (fun j => by rw [if_neg (by omega)])
      rw [zu_s]
      refine hb _ ?_
      refine (vy_mk h_now (?a0) (vs_0 h_seq e1) (vs_1 h_flags e2) (vs_2 h_acked hz0) (vs_3 h_window e4) (vs_4 h_many e5) (fun j hj => ?a2) (vu_e h_rows ?a1 (fun e' y => gs_e y)) h_state h_error h_iss h_una h_nxt h_max h_last h_closed h_written h_irs h_unread h_bytes h_held h_rcv h_finAt h_marked h_wnd h_peak h_half h_rto h_same h_tries h_smooth h_spread h_byNumber h_byAck h_sampled h_told h_retry h_ackAt h_waitAt h_timedAt h_timed)
      case a0 =>
        rw [h_sent, zk_1, zi_add]
        show zi_n _ = zi_n (gm_S G + (q + 1))
        congr 1; omega
      case a1 =>
        show _ = zi_n (gs_c _ _ _ _ _ _)
        rw [gs_s]
      case a2 =>
        have t : gm_D (gp_forge G x.toNatClampNeg sq fl (if fl / 2 % 2 = 1 then ac else 0) wi n b) j = gm_d (gm_D G) (16 * x.toNatClampNeg + (G.1 30 x.toNatClampNeg).toNat) n (fun i => (b + i) % 256) j := rfl
        rw [hSB, t]
        unfold gm_d
        split
        · rfl
        · exact h_data j hj
    rw [e2, zf_2 (by omega) (by omega)]
    rw [e2] at k107
    by_cases w2 : fl / 2 % 2 = 1
    · exact br_f (by rw [zk_0, zi_eq (by omega) (by omega) (by omega) (by omega)]; omega) (k107 x3 (by rw [if_pos w2]; exact e3))
    · exact br_t (by rw [zk_0, zi_eq (by omega) (by omega) (by omega) (by omega)]; omega) (k107 0 (by rw [if_neg w2]; rfl))
/-- byte i of a long, shifted with its sign -/
theorem yw_s (b c : Int64) (k : Nat) (hs : (c.toBitVec.smod 64).toNat = k) : (b >>> c).toInt = b.toInt >>> k := by
  show (b.toBitVec.sshiftRight (c.toBitVec.smod 64).toNat).toInt = _
  rw [hs, BitVec.toInt_sshiftRight]
  rfl
theorem yw_c : ∀ i, i < 8 → (((8 * nI i).toInt64 &&& 63).toBitVec.smod 64).toNat = 8 * i := by decide +kernel
theorem yw_b (b : Int64) {i : Nat} (hi : i < 8) : (((b >>> ((8 * nI i).toInt64 &&& 63)).toInt32) &&& 255) = zi_n (gz_w b i) := by
  have h1 := yw_s b _ _ (yw_c i hi)
  rw [Int.shiftRight_eq_div_pow] at h1
  have h2 : b >>> ((8 * nI i).toInt64 &&& 63) = zl_n (b.toInt / ((2 ^ (8 * i) : Nat) : Int)) := by
    rw [← h1]; exact (Int64.ofInt_toInt _).symm
  rw [h2, zl_i, zi_a8]
  unfold gz_w
  rw [Int.toNat_natCast]
theorem qv_0 {G : gm_T} {e : Nat} {g : Int → Int} {q : Int} {u : SY} (hY : G.1 33 e = G.1 6 e) (hv : vy_S q G u) : vy_S q (gq_w G e ((0 : Nat) : Int) g) u := by
  have e1 : gs_c (gs_c G.1 6 e (G.1 6 e + ((0 : Nat) : Int))) 33 e (G.1 6 e + ((0 : Nat) : Int)) = G.1 := by
    rw [gs_id (c := G.1) (by omega), gs_id (by omega)]
  have e2 : gm_b (gm_W G) e (fun p => if G.1 6 e ≤ p ∧ p < G.1 6 e + ((0 : Nat) : Int) then g (p - G.1 6 e) else gm_W G e p) = gm_W G := by
    funext e' p
    unfold gm_b
    split
    · rename_i h; dsimp only; rw [if_neg (by omega), h]
    · rfl
  unfold gq_w
  rw [e1, e2]; exact hv
theorem qw_Y {G : gm_T} {e : Nat} {i : Int} {g : Int → Int} : (gq_w G e i g).1 33 e = G.1 6 e + i := by
  simp +decide only [gq_w, gs_s, gs_f]
theorem yw_56 {q K : Int} {G : gm_T} {P : Int32 → SY → Prop} {p x4 : Int32} {b : Int64} {n : Int} (hp : vp_in p 2) (hx4 : x4 = zi_n n) (hn0 : 1 ≤ n) (hn8 : n ≤ 8) (hL : 1 ≤ G.1 6 p.toNatClampNeg) (hLb : G.1 6 p.toNatClampNeg ≤ 100000) (hU0 : 0 ≤ G.1 32 p.toNatClampNeg) (hU1 : G.1 32 p.toNatClampNeg ≤ 100000) (hkp : G.1 6 p.toNatClampNeg - (if G.1 32 p.toNatClampNeg = 0 then 1 else G.1 32 p.toNatClampNeg) = G.1 31 p.toNatClampNeg) (hk0 : 0 ≤ G.1 31 p.toNatClampNeg) (hk32 : G.1 31 p.toNatClampNeg ≤ 32) (hIw : gv_I K (gp_wr G p.toNatClampNeg (min n (32 - G.1 31 p.toNatClampNeg)) (gz_w b))) (hP : ∀ u', vy_S q (gp_flow (gp_wr G p.toNatClampNeg (min n (32 - G.1 31 p.toNatClampNeg)) (gz_w b)) p.toNatClampNeg) u' → P (zi_n (min n (32 - G.1 31 p.toNatClampNeg))) u') :
    ∀ (f i : Nat) (f_now : Int32) (f_sent : Int32) (a_seq : (Nat → Int32)) (a_flags : (Nat → Int32)) (a_acked : (Nat → Int32)) (a_window : (Nat → Int32)) (a_many : (Nat → Int32)) (a_data : (Nat → Int32)) (a_rows : (Nat → Int32)) (a_state : (Nat → Int32)) (a_error : (Nat → Int32)) (a_iss : (Nat → Int32)) (a_una : (Nat → Int64)) (a_nxt : (Nat → Int64)) (a_max : (Nat → Int64)) (a_last : (Nat → Int64)) (a_closed : (Nat → Int32)) (a_written : (Nat → Int32)) (a_irs : (Nat → Int32)) (a_unread : (Nat → Int32)) (a_bytes : (Nat → Int32)) (a_held : (Nat → Int32)) (a_rcv : (Nat → Int64)) (a_finAt : (Nat → Int64)) (a_marked : (Nat → Int32)) (a_wnd : (Nat → Int32)) (a_peak : (Nat → Int32)) (a_half : (Nat → Int32)) (a_rto : (Nat → Int32)) (a_same : (Nat → Int32)) (a_tries : (Nat → Int32)) (a_smooth : (Nat → Int32)) (a_spread : (Nat → Int32)) (a_byNumber : (Nat → Int32)) (a_byAck : (Nat → Int32)) (a_sampled : (Nat → Int32)) (a_told : (Nat → Int32)) (a_retry : (Nat → Int32)) (a_ackAt : (Nat → Int32)) (a_waitAt : (Nat → Int32)) (a_timedAt : (Nat → Int32)) (a_timed : (Nat → Int64)), (i : Int) ≤ min n (32 - G.1 31 p.toNatClampNeg) → n - i < f → vy_S q (gq_w G p.toNatClampNeg i (gz_w b)) (f_now, f_sent, a_seq, a_flags, a_acked, a_window, a_many, a_data, a_rows, a_state, a_error, a_iss, a_una, a_nxt, a_max, a_last, a_closed, a_written, a_irs, a_unread, a_bytes, a_held, a_rcv, a_finAt, a_marked, a_wnd, a_peak, a_half, a_rto, a_same, a_tries, a_smooth, a_spread, a_byNumber, a_byAck, a_sampled, a_told, a_retry, a_ackAt, a_waitAt, a_timedAt, a_timed) → wY_write_56 P p b x4 f_now f_sent f (nI i) a_seq a_flags a_acked a_window a_many a_data a_rows a_state a_error a_iss a_una a_nxt a_max a_last a_closed a_written a_irs a_unread a_bytes a_held a_rcv a_finAt a_marked a_wnd a_peak a_half a_rto a_same a_tries a_smooth a_spread a_byNumber a_byAck a_sampled a_told a_retry a_ackAt a_waitAt a_timedAt a_timed := by
  have he := pe_lt hp
  have hz := pe_z hp
  intro f
  induction f with
  | zero => intro i f_now f_sent a_seq a_flags a_acked a_window a_many a_data a_rows a_state a_error a_iss a_una a_nxt a_max a_last a_closed a_written a_irs a_unread a_bytes a_held a_rcv a_finAt a_marked a_wnd a_peak a_half a_rto a_same a_tries a_smooth a_spread a_byNumber a_byAck a_sampled a_told a_retry a_ackAt a_waitAt a_timedAt a_timed h1 h2; omega
  | succ f ih =>
    intro i f_now f_sent a_seq a_flags a_acked a_window a_many a_data a_rows a_state a_error a_iss a_una a_nxt a_max a_last a_closed a_written a_irs a_unread a_bytes a_held a_rcv a_finAt a_marked a_wnd a_peak a_half a_rto a_same a_tries a_smooth a_spread a_byNumber a_byAck a_sampled a_told a_retry a_ackAt a_waitAt a_timedAt a_timed h1 h2 hv
    have hv0 := hv
    obtain ⟨h_now, h_sent, h_seq, h_flags, h_acked, h_window, h_many, h_data, h_rows, h_state, h_error, h_iss, h_una, h_nxt, h_max, h_last, h_closed, h_written, h_irs, h_unread, h_bytes, h_held, h_rcv, h_finAt, h_marked, h_wnd, h_peak, h_half, h_rto, h_same, h_tries, h_smooth, h_spread, h_byNumber, h_byAck, h_sampled, h_told, h_retry, h_ackAt, h_waitAt, h_timedAt, h_timed⟩ := hv0
    have stop : (i : Int) = min n (32 - G.1 31 p.toNatClampNeg) → wY_write_116 P p (nI i) f_now f_sent a_seq a_flags a_acked a_window a_many a_data a_rows a_state a_error a_iss a_una a_nxt a_max a_last a_closed a_written a_irs a_unread a_bytes a_held a_rcv a_finAt a_marked a_wnd a_peak a_half a_rto a_same a_tries a_smooth a_spread a_byNumber a_byAck a_sampled a_told a_retry a_ackAt a_waitAt a_timedAt a_timed := by
      intro w
      unfold wY_write_116
      refine yl_flow (q := q) (G := gp_wr G p.toNatClampNeg (min n (32 - G.1 31 p.toNatClampNeg)) (gz_w b)) ?_ hIw hp fun u1 hv1 => ?_
      · rw [w] at hv
        obtain ⟨h_now, h_sent, h_seq, h_flags, h_acked, h_window, h_many, h_data, h_rows, h_state, h_error, h_iss, h_una, h_nxt, h_max, h_last, h_closed, h_written, h_irs, h_unread, h_bytes, h_held, h_rcv, h_finAt, h_marked, h_wnd, h_peak, h_half, h_rto, h_same, h_tries, h_smooth, h_spread, h_byNumber, h_byAck, h_sampled, h_told, h_retry, h_ackAt, h_waitAt, h_timedAt, h_timed⟩ := hv
        exact (vy_mk h_now h_sent h_seq h_flags h_acked h_window h_many h_data h_rows h_state h_error h_iss h_una h_nxt h_max h_last h_closed h_written h_irs h_unread h_bytes h_held h_rcv h_finAt h_marked h_wnd h_peak h_half h_rto h_same h_tries h_smooth h_spread h_byNumber h_byAck h_sampled h_told h_retry h_ackAt h_waitAt h_timedAt h_timed)
      · have := hP u1 hv1
        obtain ⟨f_now, f_sent, a_seq, a_flags, a_acked, a_window, a_many, a_data, a_rows, a_state, a_error, a_iss, a_una, a_nxt, a_max, a_last, a_closed, a_written, a_irs, a_unread, a_bytes, a_held, a_rcv, a_finAt, a_marked, a_wnd, a_peak, a_half, a_rto, a_same, a_tries, a_smooth, a_spread, a_byNumber, a_byAck, a_sampled, a_told, a_retry, a_ackAt, a_waitAt, a_timedAt, a_timed⟩ := u1
        rw [zi_nI, w]; exact this
    by_cases w : (i : Int) = n
    · exact br_t (by rw [hx4, zi_nI, w]; exact Int32.le_refl _) (stop (by omega))
    · refine br_f (by rw [hx4, zi_nI, zi_le (by omega) (by omega) (by omega) (by omega)]; omega) ?_
      have hU := h_una _ he
      have hLa := h_last _ he
      rw [qw_f (by decide) (by decide)] at hU
      rw [qw_Y] at hLa
      refine yl_kept hp hU hLa (by omega) (by omega) (by omega) (by omega) ?_
      have ek : max (G.1 6 p.toNatClampNeg + i - (if G.1 32 p.toNatClampNeg = 0 then 1 else G.1 32 p.toNatClampNeg)) 0 = G.1 31 p.toNatClampNeg + i := by
        generalize (if G.1 32 p.toNatClampNeg = 0 then 1 else G.1 32 p.toNatClampNeg) = t at *
        omega
      rw [ek]
      by_cases w2 : 32 ≤ G.1 31 p.toNatClampNeg + i
      · exact br_t (by rw [zk_32, zi_le (by omega) (by omega) (by omega) (by omega)]; exact w2) (stop (by omega))
      · refine br_f (by rw [zk_32, zi_le (by omega) (by omega) (by omega) (by omega)]; exact w2) ⟨hp, yl_at hp hLa ?_⟩
        have i2 : (zi_n (64 * (p.toNatClampNeg : Int) + (G.1 6 p.toNatClampNeg + i) % 64)).toNatClampNeg = 64 * p.toNatClampNeg + ((G.1 6 p.toNatClampNeg + i) % 64).toNat := by
          rw [zi_cl (by omega) (by omega)]; omega
        refine ⟨zi_in (by omega) (by omega) (by omega), nm_e ⟨hp, hp, nm_r (e' := vp_updL a_last p.toNatClampNeg (zl_n (G.1 6 p.toNatClampNeg + i + 1))) (by rw [hLa, zk_l1, zl_add]) (nm_r (nI_1 i) ?_)⟩⟩
        rw [i2, yw_b b (by omega)]
        refine ih (i + 1) f_now f_sent a_seq a_flags a_acked a_window a_many a_data a_rows a_state a_error a_iss a_una a_nxt a_max (vp_updL a_last p.toNatClampNeg _) a_closed (upd a_written _ _) a_irs a_unread a_bytes a_held a_rcv a_finAt a_marked a_wnd a_peak a_half a_rto a_same a_tries a_smooth a_spread a_byNumber a_byAck a_sampled a_told a_retry a_ackAt a_waitAt a_timedAt a_timed (by omega) (by omega) ?_
        have ii : ((i + 1 : Nat) : Int) = (i : Int) + 1 := by omega
        rw [ii]
        clear stop ih hIw hP
        generalize p.toNatClampNeg = e at *
        refine (vy_mk h_now h_sent h_seq h_flags h_acked h_window h_many h_data h_rows h_state h_error h_iss h_una h_nxt h_max (vu_l h_last ?a1 (fun e' y => by rw [qw_o y, qw_o y])) h_closed (fun e' he' p' z1 z2 z3 => ?a2) h_irs h_unread h_bytes h_held h_rcv h_finAt h_marked h_wnd h_peak h_half h_rto h_same h_tries h_smooth h_spread h_byNumber h_byAck h_sampled h_told h_retry h_ackAt h_waitAt h_timedAt h_timed)
        case a1 => rw [qw_Y]; congr 1; omega
        case a2 =>
          by_cases y : e' = e
          · subst y
            rw [qw_Y] at z2 z3
            rw [qw_W]
            by_cases y2 : p' = G.1 6 e' + i
            · subst y2
              rw [zu_s, if_pos (by omega)]
              congr 2; omega
            · rw [zu_n (by omega)]
              have := h_written e' he' p' z1 (by rw [qw_Y]; omega) (by rw [qw_Y]; omega)
              rw [qw_W] at this
              rw [this]
              by_cases y3 : G.1 6 e' ≤ p' ∧ p' < G.1 6 e' + i
              · rw [if_pos y3, if_pos (by omega)]
              · rw [if_neg y3, if_neg (by omega)]
          · rw [qw_o y] at z2 z3
            rw [zu_n (by omega), qw_Wo y]
            have := h_written e' he' p' z1 (by rw [qw_o y]; exact z2) (by rw [qw_o y]; exact z3)
            rw [qw_Wo y] at this
            exact this
theorem yl_write {q K : Int} {G : gm_T} {u : SY} {P : Int32 → SY → Prop} {x y : Int32} {b : Int64} {n : Int} (hv : vy_S q G u) (hI : gv_I K G) (hK : K + 8 ≤ 5000) (hy : y = zi_n n) (h0 : -2147483648 ≤ n) (h1 : n < 2147483648) (hA : ¬ (vp_in x 2 ∧ (1 ≤ n ∧ n ≤ 8) ∧ (G.1 0 x.toNatClampNeg = 2 ∨ G.1 0 x.toNatClampNeg = 3 ∨ G.1 0 x.toNatClampNeg = 4 ∨ G.1 0 x.toNatClampNeg = 7)) → P (-1) u) (hB : vp_in x 2 → (1 ≤ n ∧ n ≤ 8) → (G.1 0 x.toNatClampNeg = 2 ∨ G.1 0 x.toNatClampNeg = 3 ∨ G.1 0 x.toNatClampNeg = 4 ∨ G.1 0 x.toNatClampNeg = 7) → ∀ u', vy_S q (gp_write G x.toNatClampNeg n (gz_w b)) u' → P (zi_n (min n (32 - G.1 31 x.toNatClampNeg))) u') : wpY_write P u x b y := by
  obtain ⟨f_now, f_sent, a_seq, a_flags, a_acked, a_window, a_many, a_data, a_rows, a_state, a_error, a_iss, a_una, a_nxt, a_max, a_last, a_closed, a_written, a_irs, a_unread, a_bytes, a_held, a_rcv, a_finAt, a_marked, a_wnd, a_peak, a_half, a_rto, a_same, a_tries, a_smooth, a_spread, a_byNumber, a_byAck, a_sampled, a_told, a_retry, a_ackAt, a_waitAt, a_timedAt, a_timed⟩ := u
  have hv0 := hv
  obtain ⟨h_now, h_sent, h_seq, h_flags, h_acked, h_window, h_many, h_data, h_rows, h_state, h_error, h_iss, h_una, h_nxt, h_max, h_last, h_closed, h_written, h_irs, h_unread, h_bytes, h_held, h_rcv, h_finAt, h_marked, h_wnd, h_peak, h_half, h_rto, h_same, h_tries, h_smooth, h_spread, h_byNumber, h_byAck, h_sampled, h_told, h_retry, h_ackAt, h_waitAt, h_timedAt, h_timed⟩ := hv0
  unfold wpY_write
  refine yl_end (fun hp => ?_) (fun hp => br_f (by decide) (hA (fun w => hp w.1)))
  have he := pe_lt hp
  obtain ⟨b1, b2, b3, b4, b5, b6⟩ := hI.2.2.2.2.1 _ he
  unfold gv_a at b1
  unfold gv_p at b2
  have n2 := hI.2.1
  refine br_t rfl (yl_no hy zk_1 zk_8 h0 h1 (by omega) (by omega) (by omega) (by omega) (fun c1 c2 => ?_) (fun c => br_f (by decide) (hA (fun w => c w.2.1))))
  subst hy
  refine br_t rfl ⟨hp, ?_⟩
  have lo : (G.1 0 x.toNatClampNeg = 2 ∨ G.1 0 x.toNatClampNeg = 3 ∨ G.1 0 x.toNatClampNeg = 4 ∨ G.1 0 x.toNatClampNeg = 7) → ∃ n56 : Nat, wY_write_56 P x b (zi_n n) f_now f_sent n56 0 a_seq a_flags a_acked a_window a_many a_data a_rows a_state a_error a_iss a_una a_nxt a_max a_last a_closed a_written a_irs a_unread a_bytes a_held a_rcv a_finAt a_marked a_wnd a_peak a_half a_rto a_same a_tries a_smooth a_spread a_byNumber a_byAck a_sampled a_told a_retry a_ackAt a_waitAt a_timedAt a_timed := by
    intro w
    have hb := hB hp ⟨c1, c2⟩ w
    have hL := b2.1 (by omega)
    have hk := b2.2.2.2.2.2
    have hIw := iv_wr (cnt := min n (32 - G.1 31 x.toNatClampNeg)) (g := gz_w b) hI he hK w (by omega) (by omega) (by omega) (fun i => gz_r b i)
    have hkp : G.1 6 x.toNatClampNeg - (if G.1 32 x.toNatClampNeg = 0 then 1 else G.1 32 x.toNatClampNeg) = G.1 31 x.toNatClampNeg ∧ 0 ≤ G.1 32 x.toNatClampNeg ∧ G.1 32 x.toNatClampNeg ≤ 100000 := by
      by_cases w4 : 4 ≤ G.1 0 x.toNatClampNeg
      · have := b2.2.2.2.2.1 w4
        rw [if_neg (by omega)]; omega
      · have := b2.2.2.2.1 (by omega)
        rw [if_pos (by omega)]; omega
    exact ⟨10, yw_56 hp rfl c1 c2 hL.1 (by omega) hkp.2.1 hkp.2.2 hkp.1 hk.1 hk.2.1 hIw hb 10 0 f_now f_sent a_seq a_flags a_acked a_window a_many a_data a_rows a_state a_error a_iss a_una a_nxt a_max a_last a_closed a_written a_irs a_unread a_bytes a_held a_rcv a_finAt a_marked a_wnd a_peak a_half a_rto a_same a_tries a_smooth a_spread a_byNumber a_byAck a_sampled a_told a_retry a_ackAt a_waitAt a_timedAt a_timed (by omega) (by omega) (qv_0 hL.2.2.2 hv)⟩
  by_cases w1 : G.1 0 x.toNatClampNeg < 2
  · exact br_t (by rw [h_state _ he, zk_2, zi_lt (by omega) (by omega) (by omega) (by omega)]; exact w1) (hA (fun z => by have := z.2.2; omega))
  refine br_f (by rw [h_state _ he, zk_2, zi_lt (by omega) (by omega) (by omega) (by omega)]; exact w1) ⟨hp, ?_⟩
  by_cases w4 : G.1 0 x.toNatClampNeg ≤ 4
  · exact br_t (by rw [h_state _ he, zk_4, zi_le (by omega) (by omega) (by omega) (by omega)]; exact w4) (lo (by omega))
  refine br_f (by rw [h_state _ he, zk_4, zi_le (by omega) (by omega) (by omega) (by omega)]; exact w4) ⟨hp, ?_⟩
  by_cases w7 : G.1 0 x.toNatClampNeg = 7
  · exact br_t (by rw [h_state _ he, w7]; rfl) (lo (by omega))
  exact br_f (by rw [h_state _ he, zk_7, zi_eq (by omega) (by omega) (by omega) (by omega)]; exact w7) (hA (fun z => by have := z.2.2; omega))
