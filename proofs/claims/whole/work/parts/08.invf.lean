/-! the bounds last: a segment arrives, rows, time, calls; the other end stays -/
theorem ps_o {G : gm_T} {e e' : Nat} {a0 a1 a2 a3 a4 : Int} {g : Int → Int} (q : e' ≠ e) (f : Nat) : (gp_post G e a0 a1 a2 a3 a4 g).1 f e' = G.1 f e' := gs_e q
theorem rs_o {G : gm_T} {e e' : Nat} {a0 a1 a2 : Int} (q : e' ≠ e) (f : Nat) : (gp_rst G e a0 a1 a2).1 f e' = G.1 f e' := gs_e q
theorem pu_o {G : gm_T} {e e' g : Nat} {z : Int} (q : e' ≠ e) (f : Nat) : (gp_put G g e z).1 f e' = G.1 f e' := gs_e q
theorem lo_o {e e' : Nat} (q : e' ≠ e) (f : Nat) : ∀ (k : Nat) (G : gm_T), (gp_loop k G e).1 f e' = G.1 f e' := by
  intro k
  induction k with
  | zero => intro G; rfl
  | succ k ih =>
    intro G
    unfold gp_loop
    split
    · rw [ih]; show gs_c _ _ _ _ _ _ = _; rw [gs_e q, sd_o q]
    · rfl
theorem fl_o {G : gm_T} {e e' : Nat} (q : e' ≠ e) (f : Nat) : (gp_flow G e).1 f e' = G.1 f e' := by
  unfold gp_flow
  split
  · show gs_c _ _ _ _ _ _ = _
    rw [gs_e q]
    unfold gp_fin
    split
    · show gs_c _ _ _ _ _ _ = _
      rw [gs_e q, sd_o q, lo_o q]
    · rw [lo_o q]
  · rfl
theorem pc_o {G : gm_T} {e e' : Nat} (q : e' ≠ e) (f : Nat) : (gp_piece G e).1 f e' = G.1 f e' := by
  unfold gp_piece
  split <;> rw [sd_o q]
theorem ms_o {G : gm_T} {e e' : Nat} (q : e' ≠ e) (f : Nat) : (gp_meas G e).1 f e' = G.1 f e' := by
  simp only [gp_meas, gs_e q]
theorem ov_o {G : gm_T} {e e' : Nat} {z : Int} (q : e' ≠ e) (f : Nat) : (gp_over G e z).1 f e' = G.1 f e' := by
  simp only [gp_over, gs_e q]
theorem he_o {G : gm_T} {e e' k : Nat} (q : e' ≠ e) (f : Nat) : (gp_hear G e k).1 f e' = G.1 f e' := by
  simp only [gp_hear, gs_e q]
theorem tc_o {G : gm_T} {e e' k : Nat} (q : e' ≠ e) (f : Nat) : (gp_toClosed G e k).1 f e' = G.1 f e' := by
  unfold gp_toClosed
  split
  · rfl
  · split <;> rw [rs_o q]
theorem tl_o {G : gm_T} {e e' k : Nat} (q : e' ≠ e) (f : Nat) : (gp_toListen G e k).1 f e' = G.1 f e' := by
  unfold gp_toListen
  split
  · rfl
  · split
    · rw [rs_o q]
    · split
      · rw [pu_o q, sd_o q, pu_o q, he_o q]
      · rfl
theorem to_o {G : gm_T} {e e' k : Nat} (q : e' ≠ e) (f : Nat) : (gp_toOpen G e k).1 f e' = G.1 f e' := by
  unfold gp_toOpen
  split
  · split
    · rfl
    · rw [rs_o q]
  · split
    · split
      · exact ov_o q f
      · rfl
    · split
      · split
        · rw [fl_o q]; unfold gp_ack; rw [sd_o q, pu_o q]
          unfold gp_tmeas
          split
          · rw [ms_o q]; simp only [gp_opened, gs_e q]; exact he_o q f
          · simp only [gp_opened, gs_e q]; exact he_o q f
        · rw [fl_o q, sd_o q, pu_o q, he_o q]
      · rfl
theorem ad_o {G : gm_T} {e e' : Nat} {a : Int} (q : e' ≠ e) (f : Nat) : (gp_adv G e a).1 f e' = G.1 f e' := by
  have h1 : (gp_adv1 G e a).1 f e' = G.1 f e' := by simp only [gp_adv1, gs_e q]
  have h2 : (gp_adv2 (gp_adv1 G e a) e).1 f e' = G.1 f e' := by
    unfold gp_adv2
    split
    · rw [ms_o q, h1]
    · exact h1
  have h3 : (gp_adv3 (gp_adv2 (gp_adv1 G e a) e) e).1 f e' = G.1 f e' := by simp only [gp_adv3, gs_e q]; exact h2
  unfold gp_adv gp_finack
  split
  · split
    · rw [pu_o q, h3]
    · split
      · simp only [gp_wait, gs_e q]; exact h3
      · split
        · rw [ov_o q, h3]
        · exact h3
  · exact h3
theorem sm_o {G : gm_T} {e e' k : Nat} (q : e' ≠ e) (f : Nat) : (gp_same G e k).1 f e' = G.1 f e' := by
  unfold gp_same gp_again
  split
  · split
    · rw [pu_o q, pc_o q]; simp only [gp_again1, gs_e q]
    · simp only [gs_e q]
  · rfl
theorem wi_o {G : gm_T} {e e' k : Nat} (q : e' ≠ e) (f : Nat) : (gp_win G e k).1 f e' = G.1 f e' := by
  unfold gp_win
  split
  · simp only [gs_e q]
  · rfl
theorem gl_o {e e' : Nat} (q : e' ≠ e) (f : Nat) : ∀ (k : Nat) (G : gm_T), (gp_gloop k G e).1 f e' = G.1 f e' := by
  intro k
  induction k with
  | zero => intro G; rfl
  | succ k ih =>
    intro G
    unfold gp_gloop
    split
    · rw [ih]; show gs_c (gs_c _ _ _ _) _ _ _ _ _ = _; rw [gs_e q, gs_e q]
    · rfl
theorem tk_o {G : gm_T} {e e' k : Nat} {o : Int} (q : e' ≠ e) (f : Nat) : (gp_take G e k o).1 f e' = G.1 f e' := by
  unfold gp_take
  split
  · have h1 : (gp_gloop 24 (gp_hold G e k o) e).1 f e' = G.1 f e' := by rw [gl_o q]; exact gs_e q
    unfold gp_goOn gp_gfin
    split
    · have h2 : (gp_gend (gp_gloop 24 (gp_hold G e k o) e) e).1 f e' = G.1 f e' := by simp only [gp_gend, gs_e q]; exact h1
      unfold gp_gst
      split
      · rw [pu_o q, h2]
      · split
        · rw [pu_o q, h2]
        · simp only [gp_wait, gs_e q]; exact h2
    · exact h1
  · rfl
theorem ct_o {G : gm_T} {e e' k : Nat} {o : Int} (q : e' ≠ e) (f : Nat) : (gp_content G e k o).1 f e' = G.1 f e' := by
  unfold gp_content
  split
  · rfl
  · split
    · unfold gp_ack; rw [sd_o q, tk_o q]
    · rw [pu_o q, tk_o q]
theorem nk_o {G : gm_T} {e e' k : Nat} {a : Int} (q : e' ≠ e) (f : Nat) : (gp_newack G e k a).1 f e' = G.1 f e' := by
  unfold gp_newack
  split
  · exact ad_o q f
  · split
    · exact sm_o q f
    · rfl
theorem es_o {G : gm_T} {e e' : Nat} (q : e' ≠ e) (f : Nat) : (gp_est G e).1 f e' = G.1 f e' := by
  unfold gp_est
  split
  · exact pu_o q f
  · rfl
theorem go_o {G : gm_T} {e e' k : Nat} {o a : Int} (q : e' ≠ e) (f : Nat) : (gp_go G e k o a).1 f e' = G.1 f e' := by
  unfold gp_go
  split
  · exact nk_o q f
  · rw [fl_o q, ct_o q]
    split
    · rw [wi_o q, nk_o q]
    · rw [nk_o q]
theorem cn_o {G : gm_T} {e e' k : Nat} (q : e' ≠ e) (f : Nat) : (gp_conn G e k).1 f e' = G.1 f e' := by
  unfold gp_conn
  split
  · split
    · split
      · exact ov_o q f
      · exact sd_o q f
    · split
      · exact sd_o q f
      · split
        · unfold gp_acked
          split
          · rw [rs_o q]
          · split
            · unfold gp_ack; rw [sd_o q, es_o q]
            · rw [go_o q, es_o q]
        · rfl
  · have h1 : (gp_out1 G e k).1 f e' = G.1 f e' := by
      unfold gp_out1
      split
      · exact pu_o q f
      · rfl
    unfold gp_out
    split
    · exact h1
    · unfold gp_ack; rw [sd_o q, h1]
theorem ar_o {G : gm_T} {e e' k : Nat} (q : e' ≠ e) (f : Nat) : (gp_arrive G e k).1 f e' = G.1 f e' := by
  unfold gp_arrive
  split
  · exact tc_o q f
  · split
    · exact tl_o q f
    · split
      · exact to_o q f
      · exact cn_o q f
/-- the state behind an acknowledgement -/
theorem nk_ST {G : gm_T} {e k : Nat} {a : Int} (h : 4 ≤ G.1 0 e) : (gp_newack G e k a).1 0 e = 0 ∨ 4 ≤ (gp_newack G e k a).1 0 e := by
  unfold gp_newack
  split
  · have h3 : (gp_adv3 (gp_adv2 (gp_adv1 G e a) e) e).1 0 e = G.1 0 e := by simp +decide only [gp_adv3, gs_f]; exact a1_ST
    unfold gp_adv gp_finack
    split
    · split
      · simp only [gp_put, gs_s]; omega
      · split
        · simp +decide only [gp_wait, gs_s, gs_f] <;> omega
        · split
          · simp +decide only [gp_over, gs_s, gs_f] <;> omega
          · omega
    · omega
  · split
    · unfold gp_same gp_again
      split
      · split
        · show _ = 0 ∨ 4 ≤ _
          have : (gp_put (gp_piece (gp_again1 G e) e) 16 e (gp_hv G e + 24)).1 0 e = G.1 0 e := by
            rw [pu_f (by decide), pc_f (by decide) (by decide) (by decide) (by decide) (by decide) (by decide)]
            simp +decide only [gp_again1, gs_f]
          omega
        · simp +decide only [gs_f]; omega
      · omega
    · omega
theorem iv_go {K : Int} {G : gm_T} {e k : Nat} {o a : Int} (hI : gv_I K G) (he : e < 2) (hk : k < 32) (hK : K + 8 ≤ 5000) (hs : 3 ≤ G.1 0 e) (ham : a ≤ G.1 5 e - G.1 3 e) (h3 : G.1 0 e = 3 → a = 1) : gv_I (K + 8) (gp_go (gp_est G e) e k o a) := by
  have hest : 4 ≤ (gp_est G e).1 0 e := by
    unfold gp_est
    split
    · simp only [gp_put, gs_s]; decide
    · omega
  have h1 : gv_I (K + 1) (gp_newack (gp_est G e) e k a) := by
    unfold gp_newack
    split
    · exact gv_mono (by omega) (by omega) (iv_adv hI he hs (by omega) ham h3)
    · have : gp_est G e = G := if_neg (fun h => by have := h3 h; omega)
      rw [this]
      split
      · exact iv_same hI he (by omega) (by rw [this] at hest; exact hest)
      · exact gv_mono (by omega) (by omega) hI
  unfold gp_go
  split
  · exact gv_mono (by omega) hK h1
  · rename_i hz
    have h4 := nk_ST (k := k) (a := a) hest
    have h5 : 4 ≤ (gp_newack (gp_est G e) e k a).1 0 e := by omega
    have h6 : gv_I (K + 1) (if 0 ≤ a then gp_win (gp_newack (gp_est G e) e k a) e k else gp_newack (gp_est G e) e k a) := by
      split
      · exact iv_win h1 he hk
      · exact h1
    have h7 : 4 ≤ (if 0 ≤ a then gp_win (gp_newack (gp_est G e) e k a) e k else gp_newack (gp_est G e) e k a).1 0 e := by
      split
      · unfold gp_win
        split
        · simp +decide only [gs_f]; exact h5
        · exact h5
      · exact h5
    have h8 := iv_content (o := o) h6 he hk (by omega) h7
    have h9 : K + 1 + 7 = K + 8 := by omega
    rw [h9] at h8
    exact iv_flow h8 he
theorem iv_conn {K : Int} {G : gm_T} {e k : Nat} (hI : gv_I K G) (he : e < 2) (hk : k < 32) (hK : K + 8 ≤ 5000) (hs : 3 ≤ G.1 0 e) : gv_I (K + 8) (gp_conn G e k) := by
  have l1 := hI.2.2.2.2.2.1.1 k hk
  have hI8 := gv_mono (K' := K + 8) (by omega) hK hI
  have n0 := hI.2.2.1
  unfold gp_conn
  split
  · split
    · split
      · exact iv_reset hI8 he
      · exact iv_ack hI8 he (by omega)
    · split
      · exact iv_ack hI8 he (by omega)
      · split
        · unfold gp_acked
          split
          · exact iv_rst hI8 he (by omega) (by omega) (by omega)
          · rename_i hz
            split
            · rename_i hlt
              have h3 : ¬ G.1 0 e = 3 := fun h => by
                have h1 : gp_a G e k = 1 := by omega
                obtain ⟨b1, b2, b3, b4, b5, b6⟩ := hI.2.2.2.2.1 e he
                unfold gv_p at b2
                omega
              have : gp_est G e = G := if_neg h3
              rw [this]
              exact iv_ack hI8 he (by omega)
            · exact iv_go hI he hk hK hs (by omega) (fun h => by omega)
        · exact hI8
  · have h1 : gv_I (K + 8) (gp_out1 G e k) ∧ (gp_out1 G e k).1 0 e = G.1 0 e := by
      unfold gp_out1
      split
      · refine ⟨iv_put hI8 ?_, pu_f (by decide)⟩
        obtain ⟨b1, b2, b3, b4, b5, b6⟩ := hI8.2.2.2.2.1 e he
        refine ⟨b1, b2, b3, ?_, b5, b6⟩
        show gv_d (gm_N G) (G.1 0 e) (G.1 21 e) (G.1 22 e) (gs_c _ _ _ _ _ _)
        rw [gs_s]
        unfold gv_d at *
        omega
      · exact ⟨hI8, rfl⟩
    unfold gp_out
    split
    · exact h1.1
    · exact iv_ack h1.1 he (by omega)
theorem iv_arrive {K : Int} {G : gm_T} {e k : Nat} (hI : gv_I K G) (he : e < 2) (hk : k < 32) (hK : K + 8 ≤ 5000) : gv_I (K + 8) (gp_arrive G e k) := by
  have hI8 := gv_mono (K' := K + 8) (by omega) hK hI
  have hst : 0 ≤ G.1 0 e := by
    obtain ⟨b1, b2, b3, b4, b5, b6⟩ := hI.2.2.2.2.1 e he
    unfold gv_a at b1; omega
  unfold gp_arrive
  split
  · exact iv_toClosed hI8 he hk
  · split
    · rename_i h; exact iv_toListen hI8 he hk h
    · split
      · rename_i h; exact iv_toOpen hI8 he hk h
      · exact iv_conn hI he hk hK (by omega)
theorem iv_rm {K : Int} {G : gm_T} {e k : Nat} (hI : gv_I K G) (he : e < 2) (h1 : 1 ≤ G.1 30 e) : gv_I K (gp_rm G e k) := by
  obtain ⟨a1, a2, a3, a4, a5, a6, a7, a8⟩ := hI
  obtain ⟨b1, b2, b3, b4, b5, b6⟩ := a5 e he
  have hrw : G.1 30 e ≤ 16 := by unfold gv_a at b1; omega
  refine ⟨a1, a2, a3, a4, gv_up (e := e) (n := gm_N G) a5 (fun e' q f => gs_e q) (fun e' q => rfl) ?_, ?_, a7, a8⟩
  · refine ⟨?_, b2, b3, b4, b5, b6⟩
    show gv_a (G.1 0 e) (G.1 1 e) (G.1 2 e) (gs_c G.1 30 e _ 30 e)
    rw [gs_s]
    unfold gv_a at *
    omega
  · refine ⟨fun i hi => ?_, fun j hj => ?_⟩
    · by_cases q : 16 * e + k ≤ i ∧ (i : Int) < 16 * e + G.1 30 e - 1
      · have ee : ∀ f, gm_L (gp_rm G e k) f i = gm_L G f (i + 1) := fun f => if_pos q
        simp only [ee]
        exact a6.1 (i + 1) (by omega)
      · have ee : ∀ f, gm_L (gp_rm G e k) f i = gm_L G f i := fun f => if_neg q
        simp only [ee]
        exact a6.1 i hi
    · have hb : gm_D (gp_rm G e k) j = if 8 * (16 * e + k) ≤ j ∧ (j : Int) < 8 * (16 * e + G.1 30 e - 1) then gm_D G (j + 8) else gm_D G j := rfl
      rw [hb]
      split
      · exact a6.2 _ (by omega)
      · exact a6.2 j hj
theorem iv_zero {K : Int} {G : gm_T} (hI : gv_I K G) : gv_I K (gp_zero G) := hI
theorem iv_deliver {K : Int} {G : gm_T} {e k : Nat} (hI : gv_I K G) (he : e < 2) (hK : K + 8 ≤ 5000) (hk : (k : Int) < G.1 30 e) : gv_I (K + 8) (gp_deliver G e k) := by
  have hrw : G.1 30 e ≤ 16 := by
    obtain ⟨b1, b2, b3, b4, b5, b6⟩ := hI.2.2.2.2.1 e he
    unfold gv_a at b1; omega
  refine iv_rm (iv_arrive (iv_zero hI) (by omega) (by omega) hK) he ?_
  rw [ar_o (by omega)]
  show 1 ≤ G.1 30 e
  omega
theorem iv_slot {K : Int} {G : gm_T} {e : Nat} {l : Nat → Nat → Int} {d : Nat → Int} {s : Int} (hI : gv_I K G) (he : e < 2) (hr : G.1 30 e < 16) (hl : gv_L l d) : gv_I K (gs_c G.1 30 e (G.1 30 e + 1), gm_W G, gm_B G, gm_H G, l, d, gm_N G, s) := by
  obtain ⟨a1, a2, a3, a4, a5, a6, a7, a8⟩ := hI
  obtain ⟨b1, b2, b3, b4, b5, b6⟩ := a5 e he
  refine ⟨a1, a2, a3, a4, gv_up (e := e) (n := gm_N G) a5 (fun e' q f => gs_e q) (fun e' q => rfl) ?_, hl, a7, a8⟩
  refine ⟨?_, b2, b3, b4, b5, b6⟩
  show gv_a (G.1 0 e) (G.1 1 e) (G.1 2 e) (gs_c G.1 30 e _ 30 e)
  rw [gs_s]
  unfold gv_a at *
  omega
theorem iv_forge {K : Int} {G : gm_T} {e : Nat} {num flag ack win n b : Int} (hI : gv_I K G) (he : e < 2) (hr : G.1 30 e < 16) (h1 : 0 ≤ num ∧ num ≤ 65535) (h2 : 0 ≤ flag ∧ flag ≤ 15) (h3 : 0 ≤ ack ∧ ack ≤ 65535) (h4 : 0 ≤ win ∧ win ≤ 24) (h5 : 0 ≤ n ∧ n ≤ 8) : gv_I K (gp_forge G e num flag ack win n b) :=
  iv_slot hI he hr (gv_lpost hI.2.2.2.2.2.1 h1 h2 h3 h4 h5 (fun i _ _ => by omega))
theorem iv_twice {K : Int} {G : gm_T} {e k : Nat} (hI : gv_I K G) (he : e < 2) (hr : G.1 30 e < 16) (hk : k < 16) : gv_I K (gp_twice G e k) := by
  have l1 := hI.2.2.2.2.2.1.1 (16 * e + k) (by omega)
  refine iv_slot hI he hr (gv_lpost hI.2.2.2.2.2.1 ?_ ?_ ?_ ?_ ?_ (fun i h h' => hI.2.2.2.2.2.1.2 _ (by omega)))
  all_goals omega
theorem gv_d1 {n ST RY AK WT : Int} (h : gv_d n ST RY AK WT) : gv_d (n + 1) ST RY AK WT := by unfold gv_d at *; omega
theorem iv_now {K : Int} {G : gm_T} (hI : gv_I K G) (h : gm_N G + 1 ≤ 125 * K) : gv_I K (gp_now G) := by
  obtain ⟨a1, a2, a3, a4, a5, a6, a7, a8⟩ := hI
  refine ⟨a1, a2, by show 0 ≤ gm_N G + 1; omega, h, fun e he => ?_, a6, a7, a8⟩
  obtain ⟨b1, b2, b3, b4, b5, b6⟩ := a5 e he
  refine ⟨b1, b2, b3, gv_d1 b4, ?_, b6⟩
  show gv_t (gm_N G + 1) (G.1 0 e) (G.1 3 e) (G.1 5 e) (G.1 24 e) (G.1 25 e) (G.1 26 e) (G.1 27 e) (G.1 28 e)
  unfold gv_t at *
  omega
theorem iv_pass {K : Int} {G : gm_T} {e : Nat} (hI : gv_I K G) (he : e < 2) : gv_I K (gp_pass G e) := by
  have h1 : gv_I K (gp_pass1 G e) := by
    unfold gp_pass1
    split
    · rename_i h
      refine iv_late hI he ?_
      obtain ⟨b1, b2, b3, b4, b5, b6⟩ := hI.2.2.2.2.1 e he
      have := hI.2.2.1
      unfold gv_d at b4
      omega
    · exact hI
  have h2 : gv_I K (gp_pass2 (gp_pass1 G e) e) := by
    unfold gp_pass2
    split
    · rename_i h
      refine iv_ack h1 he ?_
      obtain ⟨b1, b2, b3, b4, b5, b6⟩ := h1.2.2.2.2.1 e he
      have := h1.2.2.1
      unfold gv_d at b4
      omega
    · exact h1
  show gv_I K (gp_pass3 (gp_pass2 (gp_pass1 G e) e) e)
  unfold gp_pass3
  split
  · obtain ⟨b1, b2, b3, b4, b5, b6⟩ := h2.2.2.2.2.1 e he
    unfold gv_a at b1
    exact iv_over h2 he (by omega) (by omega)
  · exact h2
theorem iv_wr {K : Int} {G : gm_T} {e : Nat} {cnt : Int} {g : Int → Int} (hI : gv_I K G) (he : e < 2) (hK : K + 8 ≤ 5000) (hs : G.1 0 e = 2 ∨ G.1 0 e = 3 ∨ G.1 0 e = 4 ∨ G.1 0 e = 7) (h0 : 0 ≤ cnt) (h8 : cnt ≤ 8) (h32 : cnt ≤ 32 - G.1 31 e) (hg : ∀ i, 0 ≤ g i ∧ g i ≤ 255) : gv_I (K + 8) (gp_wr G e cnt g) := by
  obtain ⟨a1, a2, a3, a4, a5, a6, a7, a8⟩ := gv_mono (K' := K + 8) (by omega) hK hI
  obtain ⟨b1, b2, b3, b4, b5, b6⟩ := a5 e he
  have c2 := (hI.2.2.2.2.1 e he).2.1
  refine ⟨a1, a2, a3, a4, gv_up (e := e) (n := gm_N G) a5 (fun e' q f => ?_) (fun e' q => rfl) ?_, a6, ?_, a8⟩
  · simp only [gp_wr, gs_e q]
  · unfold gv_E
    simp +decide only [gp_wr, gs_s, gs_f]
    refine ⟨b1, ?_, b3, b4, b5, b6⟩
    unfold gv_p at *
    omega
  · intro e' he' p
    have hb : gm_W (gp_wr G e cnt g) e' p = if e' = e then (if G.1 6 e ≤ p ∧ p < G.1 6 e + cnt then g (p - G.1 6 e) else gm_W G e p) else gm_W G e' p := rfl
    rw [hb]
    split
    · split
      · exact hg _
      · exact a7 e he p
    · exact a7 e' he' p
theorem iv_rd {K : Int} {G : gm_T} {e : Nat} {m : Int} (hI : gv_I K G) (he : e < 2) (h0 : 0 ≤ m) (h1 : m ≤ G.1 9 e) : gv_I K (gp_rd G e m) := by
  obtain ⟨a1, a2, a3, a4, a5, a6, a7, a8⟩ := hI
  obtain ⟨b1, b2, b3, b4, b5, b6⟩ := a5 e he
  refine ⟨a1, a2, a3, a4, gv_up (e := e) (n := gm_N G) a5 (fun e' q f => ?_) (fun e' q => rfl) ?_, a6, a7, a8⟩
  · simp only [gp_rd, gs_e q]
  · unfold gv_E
    simp +decide only [gp_rd, gs_s, gs_f]
    refine ⟨b1, b2, b3, b4, b5, ?_⟩
    unfold gv_r at *
    obtain ⟨q1, q2, q3, q4, q5, q6, q7, q8, q9, qa, qb, qc⟩ := b6
    exact ⟨q1, q2, q3, q4, by omega, by omega, by omega, by omega, by omega, qa, by omega, fun p z => by have := qc p z; omega⟩
theorem iv_read {K : Int} {G : gm_T} {e : Nat} {m : Int} (hI : gv_I K G) (he : e < 2) (h0 : 0 ≤ m) (h1 : m ≤ G.1 9 e) : gv_I K (gp_read G e m) := by
  have h2 := iv_rd hI he h0 h1
  unfold gp_read
  split
  · refine iv_ack h2 he ?_
    simp +decide only [gp_rd, gs_f]
    omega
  · exact h2
theorem iv_cls {K : Int} {G : gm_T} {e : Nat} {s : Int} (hI : gv_I K G) (he : e < 2) (h : (G.1 0 e = 4 ∧ s = 5) ∨ (G.1 0 e = 7 ∧ s = 9)) : gv_I K (gs_c (gs_c G.1 0 e s) 29 e 1, G.2) := by
  obtain ⟨a1, a2, a3, a4, a5, a6, a7, a8⟩ := hI
  obtain ⟨b1, b2, b3, b4, b5, b6⟩ := a5 e he
  refine ⟨a1, a2, a3, a4, gv_up (e := e) (n := gm_N G) a5 (fun e' q f => ?_) (fun e' q => rfl) ?_, a6, a7, a8⟩
  · simp only [gs_e q]
  · unfold gv_E
    simp +decide only [gs_s, gs_f]
    refine ⟨?_, ?_, ?_, ?_, ?_, ?_⟩
    · unfold gv_a at *; omega
    · unfold gv_p at *; omega
    · unfold gv_c at *; omega
    · unfold gv_d at *; omega
    · unfold gv_t at *; omega
    · unfold gv_r at *
      obtain ⟨q1, q2, q3, q4, q5, q6, q7, q8, q9, qa, qb, qc⟩ := b6
      exact ⟨q1, q2, q3, q4, q5, q6, q7, by omega, by omega, qa, by omega, fun p z => by have := qc p z; omega⟩
theorem iv_close {K : Int} {G : gm_T} {e : Nat} (hI : gv_I K G) (he : e < 2) : gv_I K (gp_close G e) := by
  unfold gp_close
  split
  · exact iv_over hI he (by decide) (by decide)
  · split
    · rename_i h; exact iv_flow (iv_cls hI he (Or.inl ⟨h, rfl⟩)) he
    · split
      · rename_i h; exact iv_flow (iv_cls hI he (Or.inr ⟨h, rfl⟩)) he
      · exact hI
theorem iv_abort {K : Int} {G : gm_T} {e : Nat} (hI : gv_I K G) (he : e < 2) : gv_I K (gp_abort G e) := by
  unfold gp_abort
  split
  · exact iv_over (iv_rst hI he (by omega) (by omega) (by omega)) he (by decide) (by decide)
  · exact iv_over hI he (by decide) (by decide)
