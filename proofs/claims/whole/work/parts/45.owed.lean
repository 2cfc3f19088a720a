/-! what is owed -/
def i_Rel (k : Nat) (u : SX) (v : SY) : Prop := k ≤ 4096 → ∃ (G : gm_T) (q q' : Int), gv_I (k : Int) G ∧ vx_S q G u ∧ vy_S q' G v
theorem i_up {k : Nat} {u : SX} {v : SY} (h : i_Rel k u v) : i_Rel (k + 8) u v := by
  intro hk
  obtain ⟨G, q, q', h1, h2, h3⟩ := h (by omega)
  exact ⟨G, q, q', gv_mono (by omega) (by omega) h1, h2, h3⟩
theorem ir_8 {k : Nat} {u : SX} {v : SY} {G : gm_T} {q q' : Int} (h1 : gv_I ((k : Int) + 8) G) (h2 : vx_S q G u) (h3 : vy_S q' G v) : i_Rel (k + 8) u v := fun _ => ⟨G, q, q', by rw [show ((k + 8 : Nat) : Int) = (k : Int) + 8 from by omega]; exact h1, h2, h3⟩
theorem gv_0 : gv_I 0 (gp_begin (gp_begin gx_0 0 0) 1 0) := by
  refine ⟨by decide, by decide, by decide, by decide, fun e he => ?_, ⟨fun i _ => (by decide : (0 : Int) ≤ 0 ∧ (0 : Int) ≤ 65535 ∧ (0 : Int) ≤ 0 ∧ (0 : Int) ≤ 15 ∧ (0 : Int) ≤ 0 ∧ (0 : Int) ≤ 65535 ∧ (0 : Int) ≤ 0 ∧ (0 : Int) ≤ 24 ∧ (0 : Int) ≤ 0 ∧ (0 : Int) ≤ 8), fun j _ => (by decide : (0 : Int) ≤ 0 ∧ (0 : Int) ≤ 255)⟩, fun e _ p => (by decide : (0 : Int) ≤ 0 ∧ (0 : Int) ≤ 255), fun e _ p => (by decide : (0 : Int) ≤ 0 ∧ (0 : Int) ≤ 255)⟩
  have h01 : e = 0 ∨ e = 1 := by omega
  rcases h01 with rfl | rfl
  · refine ⟨by unfold gv_a; decide, by unfold gv_p; decide, by unfold gv_c; decide, by unfold gv_d; decide, by unfold gv_t; decide, by decide, by decide, by decide, by decide, by decide, by decide, by decide, by decide, by decide, by decide, by decide, fun p hp => ?_⟩
    exact absurd (show (false : Bool) = true from hp) (by decide)
  · refine ⟨by unfold gv_a; decide, by unfold gv_p; decide, by unfold gv_c; decide, by unfold gv_d; decide, by unfold gv_t; decide, by decide, by decide, by decide, by decide, by decide, by decide, by decide, by decide, by decide, by decide, by decide, fun p hp => ?_⟩
    exact absurd (show (false : Bool) = true from hp) (by decide)
theorem i_vc0 : wpX_init (fun u => wpY_init (fun v => i_Rel 0 u v)) :=
  xl_init fun u hu => yl_init fun v hv => fun _ => ⟨_, 0, 0, gv_0, hu, hv⟩
theorem i_vc_open {k : Nat} {u : SX} {v : SY} (I : i_Rel k u v) (hk : k + 8 ≤ 4096) (v1 : Int32) (v2 : Int32) (v3 : Int32) : wpX_open (fun r u' => wpY_open (fun r' v' => r' = r ∧ i_Rel (k + 8) u' v') v v1 (lw_bz v2) v3) u v1 (lw_bz v2) v3 := by
  have up := i_up I
  obtain ⟨G, q, q', hI, hx, hy⟩ := I (by omega)
  obtain ⟨z, z0, z1, rfl⟩ := zi_of v3
  refine xl_open hx hI rfl z0 z1 (fun hn => ?_) (fun hp hi hs u' hx' => ?_)
  · exact yl_open hy hI rfl z0 z1 (fun _ => ⟨rfl, up⟩) (fun a b c => absurd ⟨a, b, c⟩ hn)
  · exact yl_open hy hI rfl z0 z1 (fun hn => absurd ⟨hp, hi, hs⟩ hn) (fun a b c v' hy' => ⟨rfl, ir_8 (gv_mono (by omega) (by omega) (iv_open hI (pe_lt hp) hi.1 hi.2)) hx' hy'⟩)
theorem i_vc_write {k : Nat} {u : SX} {v : SY} (I : i_Rel k u v) (hk : k + 8 ≤ 4096) (v1 : Int32) (a1 : Int64) (v4 : Int32) : wpX_write (fun r u' => wpY_write (fun r' v' => r' = r ∧ i_Rel (k + 8) u' v') v v1 a1 v4) u v1 a1 v4 := by
  have up := i_up I
  obtain ⟨G, q, q', hI, hx, hy⟩ := I (by omega)
  obtain ⟨z, z0, z1, rfl⟩ := zi_of v4
  refine xl_write hx hI (by omega) rfl z0 z1 (fun hn => ?_) (fun hp hi hs u' hx' => ?_)
  · exact yl_write hy hI (by omega) rfl z0 z1 (fun _ => ⟨rfl, up⟩) (fun a b c => absurd ⟨a, b, c⟩ hn)
  · refine yl_write hy hI (by omega) rfl z0 z1 (fun hn => absurd ⟨hp, hi, hs⟩ hn) (fun a b c v' hy' => ⟨rfl, ir_8 ?_ hx' hy'⟩)
    have he := pe_lt hp
    obtain ⟨b1, b2, b3, b4, b5, b6⟩ := hI.2.2.2.2.1 _ he
    unfold gv_p at b2
    have hkp := b2.2.2.2.2.2
    exact iv_flow (iv_wr (g := gz_w a1) hI he (by omega) hs (by omega) (by omega) (by omega) (fun i => gz_r a1 i)) he
theorem i_vc_read {k : Nat} {u : SX} {v : SY} (I : i_Rel k u v) (hk : k + 8 ≤ 4096) (v1 : Int32) (v2 : Int32) : wpX_read (fun r u' => wpY_read (fun r' v' => r' = r ∧ i_Rel (k + 8) u' v') v v1 v2) u v1 v2 := by
  have up := i_up I
  obtain ⟨G, q, q', hI, hx, hy⟩ := I (by omega)
  obtain ⟨z, z0, z1, rfl⟩ := zi_of v2
  refine xl_read hx hI rfl z0 z1 (fun hn => ?_) (fun hp hi hs => ?_) (fun hp hi hs u' hx' => ?_)
  · exact yl_read hy hI rfl z0 z1 (fun _ => ⟨rfl, up⟩) (fun a b c => absurd ⟨a, b⟩ hn) (fun a b c => absurd ⟨a, b⟩ hn)
  · exact yl_read hy hI rfl z0 z1 (fun hn => absurd ⟨hp, hi⟩ hn) (fun a b c => ⟨rfl, up⟩) (fun a b c => absurd hs c)
  · refine yl_read hy hI rfl z0 z1 (fun hn => absurd ⟨hp, hi⟩ hn) (fun a b c => absurd c hs) (fun a b c v' hy' => ⟨rfl, ir_8 ?_ hx' hy'⟩)
    have he := pe_lt hp
    obtain ⟨b1, b2, b3, b4, b5, b6⟩ := hI.2.2.2.2.1 _ he
    unfold gv_r at b6
    exact gv_mono (by omega) (by omega) (iv_read hI he (by omega) (by omega))
theorem i_vc_close {k : Nat} {u : SX} {v : SY} (I : i_Rel k u v) (hk : k + 8 ≤ 4096) (v1 : Int32) : wpX_close (fun r u' => wpY_close (fun r' v' => r' = r ∧ i_Rel (k + 8) u' v') v v1) u v1 := by
  have up := i_up I
  obtain ⟨G, q, q', hI, hx, hy⟩ := I (by omega)
  refine xl_close hx hI (fun hn => ?_) (fun hp hs u' hx' => ?_)
  · exact yl_close hy hI (fun _ => ⟨rfl, up⟩) (fun a b => absurd ⟨a, b⟩ hn)
  · exact yl_close hy hI (fun hn => absurd ⟨hp, hs⟩ hn) (fun a b v' hy' => ⟨rfl, ir_8 (gv_mono (by omega) (by omega) (iv_close hI (pe_lt hp))) hx' hy'⟩)
theorem i_vc_abort {k : Nat} {u : SX} {v : SY} (I : i_Rel k u v) (hk : k + 8 ≤ 4096) (v1 : Int32) : wpX_abort (fun r u' => wpY_abort (fun r' v' => r' = r ∧ i_Rel (k + 8) u' v') v v1) u v1 := by
  have up := i_up I
  obtain ⟨G, q, q', hI, hx, hy⟩ := I (by omega)
  refine xl_abort hx hI (fun hn => ?_) (fun hp hs u' hx' => ?_)
  · exact yl_abort hy hI (fun _ => ⟨rfl, up⟩) (fun a b => absurd ⟨a, b⟩ hn)
  · exact yl_abort hy hI (fun hn => absurd ⟨hp, hs⟩ hn) (fun a b v' hy' => ⟨rfl, ir_8 (gv_mono (by omega) (by omega) (iv_abort hI (pe_lt hp))) hx' hy'⟩)
theorem i_vc_deliver {k : Nat} {u : SX} {v : SY} (I : i_Rel k u v) (hk : k + 8 ≤ 4096) (v1 : Int32) (v2 : Int32) : wpX_deliver (fun r u' => wpY_deliver (fun r' v' => r' = r ∧ i_Rel (k + 8) u' v') v v1 v2) u v1 v2 := by
  have up := i_up I
  obtain ⟨G, q, q', hI, hx, hy⟩ := I (by omega)
  obtain ⟨z, z0, z1, rfl⟩ := zi_of v2
  refine xl_deliver hx hI (by omega) rfl z0 z1 (fun hn => ?_) (fun hp h1 h2 u' hx' => ?_)
  · exact yl_deliver hy hI (by omega) rfl z0 z1 (fun _ => ⟨rfl, up⟩) (fun a b c => absurd ⟨a, b, c⟩ hn)
  · exact yl_deliver hy hI (by omega) rfl z0 z1 (fun hn => absurd ⟨hp, h1, h2⟩ hn) (fun a b c v' hy' => ⟨rfl, ir_8 (iv_deliver hI (pe_lt hp) (by omega) (by omega)) hx' hy'⟩)
theorem i_vc_drop {k : Nat} {u : SX} {v : SY} (I : i_Rel k u v) (hk : k + 8 ≤ 4096) (v1 : Int32) (v2 : Int32) : wpX_drop (fun r u' => wpY_drop (fun r' v' => r' = r ∧ i_Rel (k + 8) u' v') v v1 v2) u v1 v2 := by
  have up := i_up I
  obtain ⟨G, q, q', hI, hx, hy⟩ := I (by omega)
  obtain ⟨z, z0, z1, rfl⟩ := zi_of v2
  refine xl_drop hx hI rfl z0 z1 (fun hn => ?_) (fun hp h1 h2 u' hx' => ?_)
  · exact yl_drop hy hI rfl z0 z1 (fun _ => ⟨rfl, up⟩) (fun a b c => absurd ⟨a, b, c⟩ hn)
  · exact yl_drop hy hI rfl z0 z1 (fun hn => absurd ⟨hp, h1, h2⟩ hn) (fun a b c v' hy' => ⟨rfl, ir_8 (gv_mono (by omega) (by omega) (iv_rm hI (pe_lt hp) (by omega))) hx' hy'⟩)
theorem i_vc_twice {k : Nat} {u : SX} {v : SY} (I : i_Rel k u v) (hk : k + 8 ≤ 4096) (v1 : Int32) (v2 : Int32) : wpX_twice (fun r u' => wpY_twice (fun r' v' => r' = r ∧ i_Rel (k + 8) u' v') v v1 v2) u v1 v2 := by
  have up := i_up I
  obtain ⟨G, q, q', hI, hx, hy⟩ := I (by omega)
  obtain ⟨z, z0, z1, rfl⟩ := zi_of v2
  refine xl_twice hx hI rfl z0 z1 (fun hn => ?_) (fun hp h1 h2 h3 => ?_) (fun hp h1 h2 h3 u' hx' => ?_)
  · exact yl_twice hy hI rfl z0 z1 (fun _ => ⟨rfl, up⟩) (fun a b c => absurd ⟨a, b, c⟩ hn) (fun a b c => absurd ⟨a, b, c⟩ hn)
  · exact yl_twice hy hI rfl z0 z1 (fun hn => absurd ⟨hp, h1, h2⟩ hn) (fun _ _ _ _ => ⟨rfl, up⟩) (fun a b c d => by omega)
  · exact yl_twice hy hI rfl z0 z1 (fun hn => absurd ⟨hp, h1, h2⟩ hn) (fun a b c d => by omega) (fun a b c d v' hy' => ⟨rfl, ir_8 (gv_mono (by omega) (by omega) (iv_twice hI (pe_lt hp) h3 (by omega))) hx' hy'⟩)
theorem i_vc_forge {k : Nat} {u : SX} {v : SY} (I : i_Rel k u v) (hk : k + 8 ≤ 4096) (v1 : Int32) (v2 : Int32) (v3 : Int32) (v4 : Int32) (v5 : Int32) (v6 : Int32) (v7 : Int32) : wpX_forge (fun r u' => wpY_forge (fun r' v' => r' = r ∧ i_Rel (k + 8) u' v') v v1 v2 v3 v4 v5 v6 v7) u v1 v2 v3 v4 v5 v6 v7 := by
  have up := i_up I
  obtain ⟨G, q, q', hI, hx, hy⟩ := I (by omega)
  obtain ⟨z2, z20, z21, rfl⟩ := zi_of v2
  obtain ⟨z3, z30, z31, rfl⟩ := zi_of v3
  obtain ⟨z4, z40, z41, rfl⟩ := zi_of v4
  obtain ⟨z5, z50, z51, rfl⟩ := zi_of v5
  obtain ⟨z6, z60, z61, rfl⟩ := zi_of v6
  obtain ⟨z7, z70, z71, rfl⟩ := zi_of v7
  refine xl_forge hx hI rfl rfl rfl rfl rfl rfl ⟨z20, z21⟩ ⟨z30, z31⟩ ⟨z40, z41⟩ ⟨z50, z51⟩ ⟨z60, z61⟩ (fun hn => ?_) (fun hp h1 h2 h3 h4 h5 h6 => ?_) (fun hp h1 h2 h3 h4 h5 h6 u' hx' => ?_)
  · exact yl_forge hy hI rfl rfl rfl rfl rfl rfl ⟨z20, z21⟩ ⟨z30, z31⟩ ⟨z40, z41⟩ ⟨z50, z51⟩ ⟨z60, z61⟩ (fun _ => ⟨rfl, up⟩) (fun a b c d e f => absurd ⟨a, b, c, d, e, f⟩ hn) (fun a b c d e f => absurd ⟨a, b, c, d, e, f⟩ hn)
  · exact yl_forge hy hI rfl rfl rfl rfl rfl rfl ⟨z20, z21⟩ ⟨z30, z31⟩ ⟨z40, z41⟩ ⟨z50, z51⟩ ⟨z60, z61⟩ (fun hn => absurd ⟨hp, h1, h2, h3, h4, h5⟩ hn) (fun _ _ _ _ _ _ _ => ⟨rfl, up⟩) (fun a b c d e f g => by omega)
  · refine yl_forge hy hI rfl rfl rfl rfl rfl rfl ⟨z20, z21⟩ ⟨z30, z31⟩ ⟨z40, z41⟩ ⟨z50, z51⟩ ⟨z60, z61⟩ (fun hn => absurd ⟨hp, h1, h2, h3, h4, h5⟩ hn) (fun a b c d e f g => by omega) (fun a b c d e f g v' hy' => ⟨rfl, ir_8 (gv_mono (by omega) (by omega) (iv_forge hI (pe_lt hp) h6 h1 h2 ?_ h4 h5)) hx' hy'⟩)
    split
    · exact h3
    · omega
theorem iv_ticks {K : Int} : ∀ (d : Nat) (G : gm_T), gv_I K G → gm_N G + d ≤ 125 * K → gv_I K (gp_ticks d G) := by
  intro d
  induction d with
  | zero => intro G hI _; exact hI
  | succ d ih =>
    intro G hI hN
    have hI1 := iv_now hI (by omega)
    refine ih _ (iv_pass (e := 1) (iv_pass (e := 0) hI1 (by omega)) (by omega)) ?_
    rw [ps_N, ps_N, tk_S0]; omega
theorem i_vc_tick {k : Nat} {u : SX} {v : SY} (I : i_Rel k u v) (hk : k + 8 ≤ 4096) (v1 : Int32) : wpX_tick (fun r u' => wpY_tick (fun r' v' => r' = r ∧ i_Rel (k + 8) u' v') v v1) u v1 := by
  have up := i_up I
  obtain ⟨G, q, q', hI0, hx, hy⟩ := I (by omega)
  obtain ⟨z, z0, z1, rfl⟩ := zi_of v1
  have hn0 := hI0.2.2.2.1
  have hI : gv_I ((k : Int) + 8) G := gv_mono (by omega) (by omega) hI0
  refine xl_tick hx hI rfl z0 z1 (by omega) (fun hn => ?_) (fun h1 h2 u' hx' => ?_)
  · exact yl_tick hy hI rfl z0 z1 (by omega) (fun _ => ⟨rfl, up⟩) (fun a b => absurd ⟨a, b⟩ hn)
  · refine yl_tick hy hI rfl z0 z1 (by omega) (fun hn => absurd ⟨h1, h2⟩ hn) (fun a b v' hy' => ⟨rfl, ir_8 (iv_ticks _ _ (iv_zero hI) ?_) hx' hy'⟩)
    show gm_N G + _ ≤ _
    omega
theorem i_vc_state {k : Nat} {u : SX} {v : SY} (I : i_Rel k u v) (hk : k + 8 ≤ 4096) (v1 : Int32) : wpX_state (fun r => wpY_state (fun r' => r' = r ∧ i_Rel (k + 8) u v) v v1) u v1 := by
  have up := i_up I
  obtain ⟨G, q, q', hI, hx, hy⟩ := I (by omega)
  refine xl_state hx (fun hn => ?_) (fun hp => ?_)
  · exact yl_state hy (fun _ => ⟨rfl, up⟩) (fun a => absurd a hn)
  · exact yl_state hy (fun hn => absurd hp hn) (fun _ => ⟨rfl, up⟩)
theorem i_vc_info {k : Nat} {u : SX} {v : SY} (I : i_Rel k u v) (hk : k + 8 ≤ 4096) (v1 : Int32) (v2 : Int32) : wpX_info (fun r => wpY_info (fun r' => r' = r ∧ i_Rel (k + 8) u v) v v1 v2) u v1 v2 := by
  have up := i_up I
  obtain ⟨G, q, q', hI, hx, hy⟩ := I (by omega)
  obtain ⟨z, z0, z1, rfl⟩ := zi_of v2
  refine xl_info hx hI rfl z0 z1 (fun hn => ?_) (fun hp h1 h2 => ?_)
  · exact yl_info hy hI rfl z0 z1 (fun _ => ⟨rfl, up⟩) (fun a b c => absurd ⟨a, b, c⟩ hn)
  · exact yl_info hy hI rfl z0 z1 (fun hn => absurd ⟨hp, h1, h2⟩ hn) (fun _ _ _ => ⟨rfl, up⟩)
theorem i_vc_wire {k : Nat} {u : SX} {v : SY} (I : i_Rel k u v) (hk : k + 8 ≤ 4096) (v1 : Int32) (v2 : Int32) (v3 : Int32) : wpX_wire (fun r => wpY_wire (fun r' => r' = r ∧ i_Rel (k + 8) u v) v v1 v2 v3) u v1 v2 v3 := by
  have up := i_up I
  obtain ⟨G, q, q', hI, hx, hy⟩ := I (by omega)
  obtain ⟨z, z0, z1, rfl⟩ := zi_of v2
  obtain ⟨w, w0, w1, rfl⟩ := zi_of v3
  refine xl_wire hx hI rfl z0 z1 rfl w0 w1 (fun hn => ?_) (fun hp h1 => ?_) (fun hp h1 h2 => ?_) (fun hp h1 h2 h3 => ?_)
  · exact yl_wire hy hI rfl z0 z1 rfl w0 w1 (fun _ => ⟨rfl, up⟩) (fun a => absurd a hn) (fun a => absurd a hn) (fun a => absurd a hn)
  · exact yl_wire hy hI rfl z0 z1 rfl w0 w1 (fun hn => absurd hp hn) (fun _ _ => ⟨rfl, up⟩) (fun _ b => absurd h1 b) (fun _ b => absurd h1 b)
  · exact yl_wire hy hI rfl z0 z1 rfl w0 w1 (fun hn => absurd hp hn) (fun _ b => absurd b h1) (fun _ _ _ => ⟨rfl, up⟩) (fun _ _ c d => absurd ⟨c, d⟩ h2)
  · exact yl_wire hy hI rfl z0 z1 rfl w0 w1 (fun hn => absurd hp hn) (fun _ b => absurd b h1) (fun _ _ c => absurd ⟨h2, h3⟩ c) (fun _ _ _ _ => ⟨rfl, up⟩)
