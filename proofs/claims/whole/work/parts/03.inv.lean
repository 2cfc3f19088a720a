/-! what holds of the picture at every turn -/
theorem gs_f {c : Nat → Nat → Int} {f e : Nat} {z : Int} {f' e' : Nat} (h : f' ≠ f) : gs_c c f e z f' e' = c f' e' := if_neg (fun q => h q.1)
theorem gs_e {c : Nat → Nat → Int} {f e : Nat} {z : Int} {f' e' : Nat} (h : e' ≠ e) : gs_c c f e z f' e' = c f' e' := if_neg (fun q => h q.2)
theorem gs_s {c : Nat → Nat → Int} {f e : Nat} {z : Int} : gs_c c f e z f e = z := if_pos ⟨rfl, rfl⟩
theorem gs_id {c : Nat → Nat → Int} {f e : Nat} {z : Int} (h : z = c f e) : gs_c c f e z = c := by
  funext f' e'
  unfold gs_c
  split
  · rename_i q; rw [q.1, q.2]; exact h
  · rfl
theorem pu_f {G : gm_T} {f e : Nat} {z : Int} {f' e' : Nat} (h : f' ≠ f) : (gp_put G f e z).1 f' e' = G.1 f' e' := gs_f h
theorem pu_s {G : gm_T} {f e : Nat} {z : Int} : (gp_put G f e z).1 f e = z := gs_s
theorem nn_H {h : Nat → Int → Bool} {e e' : Nat} {p : Int} (w : gp_none h e e' p = true) : h e' p = true := by
  unfold gp_none gm_h at w
  split at w
  · cases w
  · exact w
theorem nn_e {h : Nat → Int → Bool} {e : Nat} {p : Int} : gp_none h e e p = false := by unfold gp_none gm_h; rw [if_pos rfl]
theorem nn_o {h : Nat → Int → Bool} {e e' : Nat} (q : e' ≠ e) {p : Int} : gp_none h e e' p = h e' p := by unfold gp_none gm_h; rw [if_neg q]
theorem nn_E {h : Nat → Int → Bool} {e : Nat} : gp_none h e e = fun _ => false := by funext p; exact nn_e
theorem nn_O {h : Nat → Int → Bool} {e e' : Nat} (q : e' ≠ e) : gp_none h e e' = h e' := by funext p; exact nn_o q
theorem hh_E {h : Nat → Int → Bool} {e : Nat} {g : Int → Bool} : gm_h h e g e = g := by funext p; exact if_pos rfl
theorem hh_O {h : Nat → Int → Bool} {e e' : Nat} {g : Int → Bool} (q : e' ≠ e) : gm_h h e g e' = h e' := by funext p; exact if_neg q
def gv_a (ST ER IS RW : Int) : Prop := 0 ≤ ST ∧ ST ≤ 10 ∧ 0 ≤ ER ∧ ER ≤ 2 ∧ (ST ≠ 0 → ER = 0) ∧ 0 ≤ IS ∧ IS ≤ 65535 ∧ 0 ≤ RW ∧ RW ≤ 16
def gv_p (K ST U N M L CL KP YU YL : Int) : Prop :=
  (ST ≠ 0 → 1 ≤ L ∧ L ≤ K + 1 ∧ YU = U ∧ YL = L) ∧ (ST = 0 → KP = 0 ∧ YL = 1 ∧ (YU = 0 ∨ YU = 1)) ∧ (ST = 1 → U = 0 ∧ N = 0 ∧ M = 0 ∧ L = 1 ∧ KP = 0) ∧ (ST = 2 ∨ ST = 3 → U = 0 ∧ N = 1 ∧ M = 1 ∧ KP = L - 1) ∧ (4 ≤ ST → 1 ≤ U ∧ U ≤ N ∧ N ≤ M ∧ M ≤ L + CL ∧ KP = max (L - U) 0) ∧ 0 ≤ KP ∧ KP ≤ 32
    ∧ (CL = 0 ∨ CL = 1) ∧ (CL = 1 ↔ (ST = 5 ∨ ST = 6 ∨ ST = 8 ∨ ST = 9 ∨ ST = 10))
def gv_c (K ST WN TD WS WA PK HF SM YS TR YT RT : Int) : Prop :=
  0 ≤ WN ∧ WN ≤ 24 ∧ (TD = 0 ∨ TD = 1) ∧ 0 ≤ WS ∧ WS ≤ 65535 ∧ 0 ≤ WA ∧ WA ≤ 65535 ∧ 8 ≤ PK ∧ PK ≤ 64 ∧ 8 ≤ HF ∧ HF ≤ 64 ∧ 0 ≤ SM ∧ SM ≤ K ∧ 0 ≤ TR ∧ TR ≤ 6 ∧ (ST ≠ 0 → TR ≤ 5 ∧ YS = SM ∧ YT = TR) ∧ 2 ≤ RT ∧ RT ≤ 64
def gv_d (n ST RY AK WT : Int) : Prop := -1 ≤ RY ∧ RY ≤ n + 64 ∧ (ST ≤ 1 → RY = -1) ∧ -1 ≤ AK ∧ AK ≤ n + 2 ∧ (ST ≤ 2 → AK = -1) ∧ -1 ≤ WT ∧ WT ≤ n + 20
def gv_t (n ST U M TM TA SP SO VA : Int) : Prop := -1 ≤ TM ∧ (0 ≤ TM → 2 ≤ ST ∧ U ≤ TM ∧ TM < M ∧ 0 ≤ TA ∧ TA ≤ n) ∧ (SP = 0 ∨ SP = 1) ∧ (SP = 1 → 0 ≤ SO ∧ SO ≤ 8 * n) ∧ 0 ≤ VA ∧ VA ≤ 4 * n + 3
def gv_r (K ST IR RV UR UF FA : Int) (h : Int → Bool) : Prop :=
  0 ≤ IR ∧ IR ≤ 65535 ∧ 0 ≤ RV ∧ RV ≤ 4 * K + 4 ∧ 0 ≤ UR ∧ UR ≤ 24 ∧ 0 ≤ UF ∧ (ST = 1 ∨ ST = 2 → UR = 0) ∧ (3 ≤ ST → ST ≤ 6 → UF + UR = RV) ∧ -1 ≤ FA ∧ (0 ≤ FA → 4 ≤ ST ∧ ST ≤ 6 ∧ RV < FA ∧ FA < RV + 24 - UR) ∧ (∀ p, h p = true → 4 ≤ ST ∧ ST ≤ 6 ∧ RV < p ∧ p < RV + 24 - UR)
def gv_E (K n : Int) (c : Nat → Nat → Int) (h : Nat → Int → Bool) (e : Nat) : Prop :=
  gv_a (c 0 e) (c 1 e) (c 2 e) (c 30 e) ∧ gv_p K (c 0 e) (c 3 e) (c 4 e) (c 5 e) (c 6 e) (c 29 e) (c 31 e) (c 32 e) (c 33 e) ∧ gv_c K (c 0 e) (c 12 e) (c 13 e) (c 14 e) (c 15 e) (c 16 e) (c 17 e) (c 18 e) (c 34 e) (c 20 e) (c 35 e) (c 19 e) ∧ gv_d n (c 0 e) (c 21 e) (c 22 e) (c 23 e) ∧ gv_t n (c 0 e) (c 3 e) (c 5 e) (c 24 e) (c 25 e) (c 26 e) (c 27 e) (c 28 e) ∧ gv_r K (c 0 e) (c 7 e) (c 8 e) (c 9 e) (c 10 e) (c 11 e) (h e)
def gv_L (l : Nat → Nat → Int) (d : Nat → Int) : Prop :=
  (∀ i, i < 32 → 0 ≤ l 0 i ∧ l 0 i ≤ 65535 ∧ 0 ≤ l 1 i ∧ l 1 i ≤ 15 ∧ 0 ≤ l 2 i ∧ l 2 i ≤ 65535 ∧ 0 ≤ l 3 i ∧ l 3 i ≤ 24 ∧ 0 ≤ l 4 i ∧ l 4 i ≤ 8) ∧ (∀ j, j < 256 → 0 ≤ d j ∧ d j ≤ 255)
def gv_W (w : Nat → Int → Int) : Prop := ∀ e, e < 2 → ∀ p, 0 ≤ w e p ∧ w e p ≤ 255
def gv_I (K : Int) (G : gm_T) : Prop := 0 ≤ K ∧ K ≤ 5000 ∧ 0 ≤ gm_N G ∧ gm_N G ≤ 125 * K ∧ (∀ e, e < 2 → gv_E K (gm_N G) G.1 (gm_H G) e) ∧ gv_L (gm_L G) (gm_D G) ∧ gv_W (gm_W G) ∧ gv_W (gm_B G)
theorem gv_o {K n : Int} {c c' : Nat → Nat → Int} {h h' : Nat → Int → Bool} {e : Nat} (hc : ∀ f, c' f e = c f e) (hh : h' e = h e) (H : gv_E K n c h e) : gv_E K n c' h' e := by
  unfold gv_E at *
  simp only [hc, hh]
  exact H
theorem gv_up {K n : Int} {c c' : Nat → Nat → Int} {h h' : Nat → Int → Bool} {e : Nat} (hE : ∀ e, e < 2 → gv_E K n c h e) (hc : ∀ e', e' ≠ e → ∀ f, c' f e' = c f e') (hh : ∀ e', e' ≠ e → h' e' = h e') (H : gv_E K n c' h' e) : ∀ e, e < 2 → gv_E K n c' h' e := by
  intro e' he'
  by_cases q : e' = e
  · rw [q]; exact H
  · exact gv_o (hc e' q) (hh e' q) (hE e' he')
theorem gv_mono {K K' : Int} {G : gm_T} (h : K ≤ K') (h' : K' ≤ 5000) (H : gv_I K G) : gv_I K' G := by
  obtain ⟨a1, a2, a3, a4, a5, a6, a7, a8⟩ := H
  refine ⟨by omega, h', a3, by omega, fun e he => ?_, a6, a7, a8⟩
  obtain ⟨b1, b2, b3, b4, b5, b6⟩ := a5 e he
  refine ⟨b1, ?_, ?_, b4, b5, ?_⟩
  · obtain ⟨q1, q2⟩ := b2
    exact ⟨fun z => ⟨(q1 z).1, by have := (q1 z).2.1; omega, (q1 z).2.2⟩, q2⟩
  · obtain ⟨q1, q2, q3, q4, q5, q6, q7, q8, q9, qa, qb, qc, qd, qe⟩ := b3
    exact ⟨q1, q2, q3, q4, q5, q6, q7, q8, q9, qa, qb, qc, by omega, qe⟩
  · obtain ⟨q1, q2, q3, q4, qe⟩ := b6
    exact ⟨q1, q2, q3, by omega, qe⟩
theorem gv_lpost {l : Nat → Nat → Int} {d : Nat → Int} {k : Nat} {num flag ack win n m : Int} {g : Int → Int} (h : gv_L l d) (h1 : 0 ≤ num ∧ num ≤ 65535) (h2 : 0 ≤ flag ∧ flag ≤ 15) (h3 : 0 ≤ ack ∧ ack ≤ 65535) (h4 : 0 ≤ win ∧ win ≤ 24) (h5 : 0 ≤ n ∧ n ≤ 8) (h6 : ∀ i, 0 ≤ i → i < m → 0 ≤ g i ∧ g i ≤ 255) : gv_L (gm_l l k num flag ack win n) (gm_d d k m g) := by
  refine ⟨fun i hi => ?_, fun j hj => ?_⟩
  · by_cases q : i = k
    · have e0 : gm_l l k num flag ack win n 0 i = num := by unfold gm_l; rw [if_pos q]; rfl
      have e1 : gm_l l k num flag ack win n 1 i = flag := by unfold gm_l; rw [if_pos q]; rfl
      have e2 : gm_l l k num flag ack win n 2 i = ack := by unfold gm_l; rw [if_pos q]; rfl
      have e3 : gm_l l k num flag ack win n 3 i = win := by unfold gm_l; rw [if_pos q]; rfl
      have e4 : gm_l l k num flag ack win n 4 i = n := by unfold gm_l; rw [if_pos q]; rfl
      rw [e0, e1, e2, e3, e4]
      exact ⟨h1.1, h1.2, h2.1, h2.2, h3.1, h3.2, h4.1, h4.2, h5.1, h5.2⟩
    · have e0 : ∀ f, gm_l l k num flag ack win n f i = l f i := fun f => by unfold gm_l; rw [if_neg q]
      simp only [e0]
      exact h.1 i hi
  · unfold gm_d
    split
    · rename_i q; exact h6 _ (by omega) (by omega)
    · exact h.2 j hj
