/-! the pure picture of the two ends: G = (c, w, b, h, l, d, n, s): c slot end: the whole numbers of an end (positions, not numbers that wrap); w: bytes written by position; b: bytes that came by position; h: what is held, by position; l field slot, d: the link; n: now; s: how much was sent -/
abbrev gm_T : Type := (Nat → Nat → Int) × (Nat → Int → Int) × (Nat → Int → Int) × (Nat → Int → Bool) × (Nat → Nat → Int) × (Nat → Int) × Int × Int
abbrev gm_W (G : gm_T) : Nat → Int → Int := G.2.1
abbrev gm_B (G : gm_T) : Nat → Int → Int := G.2.2.1
abbrev gm_H (G : gm_T) : Nat → Int → Bool := G.2.2.2.1
abbrev gm_L (G : gm_T) : Nat → Nat → Int := G.2.2.2.2.1
abbrev gm_D (G : gm_T) : Nat → Int := G.2.2.2.2.2.1
abbrev gm_N (G : gm_T) : Int := G.2.2.2.2.2.2.1
abbrev gm_S (G : gm_T) : Int := G.2.2.2.2.2.2.2
def gs_c (c : Nat → Nat → Int) (f e : Nat) (z : Int) : Nat → Nat → Int := fun f' e' => if f' = f ∧ e' = e then z else c f' e'
def gm_l (l : Nat → Nat → Int) (k : Nat) (a0 a1 a2 a3 a4 : Int) : Nat → Nat → Int := fun f i => if i = k then (if f = 0 then a0 else if f = 1 then a1 else if f = 2 then a2 else if f = 3 then a3 else if f = 4 then a4 else l f i) else l f i
def gm_d (d : Nat → Int) (k : Nat) (n : Int) (g : Int → Int) : Nat → Int := fun j => if 8 * (k : Int) ≤ j ∧ (j : Int) < 8 * (k : Int) + n then g ((j : Int) - 8 * (k : Int)) else d j
def gm_h (h : Nat → Int → Bool) (e : Nat) (q : Int → Bool) : Nat → Int → Bool := fun e' p => if e' = e then q p else h e' p
def gm_b (b : Nat → Int → Int) (e : Nat) (q : Int → Int) : Nat → Int → Int := fun e' p => if e' = e then q p else b e' p
/-- a segment into the row of end e, lost when the row is full -/
def gp_post (G : gm_T) (e : Nat) (num flag ack win n : Int) (g : Int → Int) : gm_T :=
  (gs_c G.1 30 e (if G.1 30 e < 16 then G.1 30 e + 1 else G.1 30 e), gm_W G, gm_B G, gm_H G,
    (if G.1 30 e < 16 then gm_l (gm_L G) (16 * e + (G.1 30 e).toNat) num flag ack win n else gm_L G),
    (if G.1 30 e < 16 then gm_d (gm_D G) (16 * e + (G.1 30 e).toNat) n g else gm_D G), gm_N G, gm_S G + 1)
def gp_len (flag n : Int) : Int := n + flag % 2 + flag / 4 % 2
def gt_1 (G : gm_T) (e : Nat) : gm_T := (gs_c G.1 22 e (-1), G.2)
def gt_2 (G : gm_T) (e : Nat) (fr len : Int) : gm_T := (gs_c (gs_c G.1 25 e (if len ≠ 0 ∧ fr = G.1 5 e ∧ G.1 24 e < 0 then gm_N G else G.1 25 e)) 24 e (if len ≠ 0 ∧ fr = G.1 5 e ∧ G.1 24 e < 0 then fr else G.1 24 e), G.2)
def gt_3 (G : gm_T) (e : Nat) (fr len : Int) : gm_T := (gs_c G.1 5 e (if len ≠ 0 ∧ G.1 5 e < fr + len then fr + len else G.1 5 e), G.2)
def gt_4 (G : gm_T) (e : Nat) (len : Int) : gm_T := (gs_c G.1 21 e (if len ≠ 0 ∧ G.1 21 e < 0 then gm_N G + G.1 19 e else G.1 21 e), G.2)
def gp_sp (G : gm_T) (e : Nat) (fr flag n : Int) : gm_T := gp_post G e ((G.1 2 e + fr) % 65536) (if G.1 0 e = 2 then flag else flag + 2) (if G.1 0 e = 2 then 0 else (G.1 7 e + G.1 8 e) % 65536) (24 - G.1 9 e) n (fun i => gm_W G e (fr + i))
def gp_send (G : gm_T) (e : Nat) (fr flag n : Int) : gm_T := gt_4 (gt_3 (gt_2 (gt_1 (gp_sp G e fr flag n) e) e fr (gp_len flag n)) e fr (gp_len flag n)) e (gp_len flag n)
def gp_ack (G : gm_T) (e : Nat) : gm_T := gp_send G e (G.1 5 e) 0 0
def gp_nn (G : gm_T) (e : Nat) : Int := min (min (G.1 6 e - G.1 4 e) (min (G.1 12 e) (G.1 16 e) - (G.1 4 e - G.1 3 e))) 8
def gp_step (G : gm_T) (e : Nat) : gm_T := (gs_c (gp_send G e (G.1 4 e) 0 (gp_nn G e)).1 4 e (G.1 4 e + gp_nn G e), (gp_send G e (G.1 4 e) 0 (gp_nn G e)).2)
def gp_loop : Nat → gm_T → Nat → gm_T
  | 0, G, _ => G
  | k + 1, G, e => if gp_nn G e = 8 ∨ (0 < gp_nn G e ∧ G.1 4 e = G.1 3 e) then gp_loop k (gp_step G e) e else G
def gp_fin (G : gm_T) (e : Nat) : gm_T :=
  if G.1 29 e = 1 ∧ G.1 4 e = G.1 6 e ∧ 0 < min (G.1 12 e) (G.1 16 e) - (G.1 4 e - G.1 3 e) then (gs_c (gp_send G e (G.1 4 e) 4 0).1 4 e (G.1 4 e + 1), (gp_send G e (G.1 4 e) 4 0).2) else G
def gp_rest (G : gm_T) (e : Nat) : gm_T :=
  (gs_c G.1 21 e (if G.1 12 e = 0 ∧ G.1 4 e = G.1 3 e ∧ (G.1 4 e < G.1 6 e ∨ (G.1 29 e = 1 ∧ G.1 4 e = G.1 6 e)) ∧ G.1 21 e < 0 then gm_N G + G.1 19 e else G.1 21 e), G.2)
def gp_flow (G : gm_T) (e : Nat) : gm_T := if G.1 0 e = 4 ∨ G.1 0 e = 5 ∨ G.1 0 e = 7 ∨ G.1 0 e = 8 ∨ G.1 0 e = 9 then gp_rest (gp_fin (gp_loop 33 G e) e) e else G
def gp_pn (G : gm_T) (e : Nat) : Int := min (min (G.1 5 e) (G.1 6 e) - G.1 3 e) 8
def gp_piece (G : gm_T) (e : Nat) : gm_T := if 0 < gp_pn G e then gp_send G e (G.1 3 e) 0 (gp_pn G e) else gp_send G e (G.1 3 e) 4 0
/-- measured -/
def gp_so (G : gm_T) (e : Nat) : Int := if G.1 26 e = 1 then G.1 27 e + ((gm_N G - G.1 25 e) - G.1 27 e / 8) else 8 * (gm_N G - G.1 25 e)
def gp_va (G : gm_T) (e : Nat) : Int := if G.1 26 e = 1 then G.1 28 e + ((if (gm_N G - G.1 25 e) - G.1 27 e / 8 < 0 then - ((gm_N G - G.1 25 e) - G.1 27 e / 8) else (gm_N G - G.1 25 e) - G.1 27 e / 8) - G.1 28 e / 4) else 2 * (gm_N G - G.1 25 e)
def gp_rt (G : gm_T) (e : Nat) : Int := if gp_so G e / 8 + gp_va G e < 2 then 2 else if 64 < gp_so G e / 8 + gp_va G e then 64 else gp_so G e / 8 + gp_va G e
def gp_meas (G : gm_T) (e : Nat) : gm_T :=
  (gs_c (gs_c (gs_c (gs_c (gs_c G.1 27 e (gp_so G e)) 28 e (gp_va G e)) 26 e 1) 19 e (gp_rt G e)) 24 e (-1), G.2)
/-- all ends; an end begins -/
def gp_none (h : Nat → Int → Bool) (e : Nat) : Nat → Int → Bool := gm_h h e (fun _ => false)
def gp_over (G : gm_T) (e : Nat) (code : Int) : gm_T :=
  (gs_c (gs_c (gs_c (gs_c (gs_c (gs_c (gs_c (gs_c (gs_c (gs_c (gs_c (gs_c (gs_c G.1 0 e 0) 1 e code) 31 e 0) 11 e (-1)) 21 e (-1)) 22 e (-1)) 23 e (-1)) 24 e (-1)) 29 e 0) 32 e 1) 33 e 1) 34 e 0) 35 e 0, gm_W G, gm_B G, gp_none (gm_H G) e, gm_L G, gm_D G, gm_N G, gm_S G)
def gp_begin (G : gm_T) (e : Nat) (iss : Int) : gm_T :=
  (fun f e' => if e' = e then (if f = 0 then 0 else if f = 1 then 0 else if f = 2 then iss else if f = 3 then 0 else if f = 4 then 0 else if f = 5 then 0 else if f = 6 then 1 else if f = 7 then 0 else if f = 8 then 0 else if f = 9 then 0 else if f = 10 then 0 else if f = 11 then -1 else if f = 12 then 0 else if f = 13 then 0 else if f = 16 then 16 else if f = 17 then 64 else if f = 18 then 0 else if f = 19 then 8 else if f = 20 then 0 else if f = 21 then -1 else if f = 22 then -1 else if f = 23 then -1 else if f = 24 then -1 else if f = 26 then 0 else if f = 27 then 0 else if f = 28 then 0 else if f = 29 then 0 else if f = 31 then 0 else if f = 32 then 0 else if f = 33 then 1 else if f = 34 then 0 else if f = 35 then 0 else G.1 f e') else G.1 f e', gm_W G, gm_B G, gp_none (gm_H G) e, gm_L G, gm_D G, gm_N G, gm_S G)
def gp_reset (G : gm_T) (e : Nat) : gm_T := gp_over G e (if G.1 0 e > 7 then 0 else 1)
/-- the segment in slot k -/
def gp_slen (G : gm_T) (k : Nat) : Int := gp_len (gm_L G 1 k) (gm_L G 4 k)
def gp_rst (G : gm_T) (e : Nat) (num flag ack : Int) : gm_T := gp_post G e num flag ack 0 0 (fun _ => 0)
def gp_toClosed (G : gm_T) (e k : Nat) : gm_T :=
  if gm_L G 1 k / 8 % 2 = 1 then G else if gm_L G 1 k / 2 % 2 = 1 then gp_rst G e (gm_L G 2 k) 8 0 else gp_rst G e 0 10 ((gm_L G 0 k + gp_slen G k) % 65536)
def gp_hear (G : gm_T) (e k : Nat) : gm_T := (gs_c (gs_c (gs_c (gs_c G.1 7 e (gm_L G 0 k)) 8 e 1) 10 e 1) 12 e (gm_L G 3 k), G.2)
def gp_put (G : gm_T) (f e : Nat) (z : Int) : gm_T := (gs_c G.1 f e z, G.2)
def gp_toListen (G : gm_T) (e k : Nat) : gm_T :=
  if gm_L G 1 k / 8 % 2 = 1 then G else if gm_L G 1 k / 2 % 2 = 1 then gp_rst G e (gm_L G 2 k) 8 0 else if gm_L G 1 k % 2 = 1 then gp_put (gp_send (gp_put (gp_hear G e k) 0 e 3) e 0 1 0) 4 e 1 else G
def gp_opened (G : gm_T) (e : Nat) : gm_T := (gs_c (gs_c (gs_c (gs_c (gs_c G.1 3 e 1) 32 e 1) 21 e (-1)) 20 e 0) 35 e 0, G.2)
def gp_tmeas (G : gm_T) (e : Nat) : gm_T := if 0 ≤ G.1 24 e then gp_meas G e else G
def gp_toOpen (G : gm_T) (e k : Nat) : gm_T :=
  if gm_L G 1 k / 2 % 2 = 1 ∧ gm_L G 2 k ≠ (G.1 2 e + 1) % 65536 then (if gm_L G 1 k / 8 % 2 = 1 then G else gp_rst G e (gm_L G 2 k) 8 0)
  else if gm_L G 1 k / 8 % 2 = 1 then (if gm_L G 1 k / 2 % 2 = 1 then gp_reset G e else G)
  else if gm_L G 1 k % 2 = 1 then (if gm_L G 1 k / 2 % 2 = 1 then gp_flow (gp_ack (gp_put (gp_tmeas (gp_opened (gp_hear G e k) e) e) 0 e 4) e) e
    else gp_flow (gp_send (gp_put (gp_hear G e k) 0 e 3) e 0 1 0) e)
  else G
abbrev gp_ok (w o len : Int) : Prop := (len = 0 ∧ 0 ≤ o ∧ o ≤ w) ∨ (len ≠ 0 ∧ ((0 ≤ o ∧ o < w) ∨ (0 ≤ o + len - 1 ∧ o + len - 1 < w)))
/-- an acknowledgement of new numbers -/
def gp_adv1 (G : gm_T) (e : Nat) (a : Int) : gm_T :=
  (gs_c (gs_c (gs_c (gs_c (gs_c (gs_c (gs_c G.1 3 e (G.1 3 e + a)) 32 e (G.1 3 e + a)) 31 e (max (G.1 6 e - (G.1 3 e + a)) 0)) 4 e (max (G.1 4 e) (G.1 3 e + a))) 12 e (max (G.1 12 e - a) 0)) 20 e 0) 35 e 0, G.2)
def gp_adv2 (G : gm_T) (e : Nat) : gm_T := if 0 ≤ G.1 24 e ∧ G.1 24 e < G.1 3 e then gp_meas G e else G
def gp_adv3 (G : gm_T) (e : Nat) : gm_T :=
  (gs_c (gs_c (gs_c (gs_c G.1 16 e (if 3 ≤ G.1 18 e then G.1 17 e else min 64 (G.1 16 e + (if G.1 16 e < G.1 17 e then 8 else 64 / G.1 16 e)))) 18 e 0) 34 e 0) 21 e (if G.1 3 e = G.1 5 e then -1 else gm_N G + G.1 19 e), G.2)
def gp_wait (G : gm_T) (e : Nat) : gm_T := (gs_c (gs_c G.1 0 e 10) 23 e (gm_N G + 20), G.2)
def gp_finack (G : gm_T) (e : Nat) : gm_T :=
  if G.1 29 e = 1 ∧ G.1 6 e < G.1 3 e then (if G.1 0 e = 5 then gp_put G 0 e 6 else if G.1 0 e = 8 then gp_wait G e else if G.1 0 e = 9 then gp_over G e (G.1 1 e) else G) else G
def gp_adv (G : gm_T) (e : Nat) (a : Int) : gm_T := gp_finack (gp_adv3 (gp_adv2 (gp_adv1 G e a) e) e) e
def gp_hv (G : gm_T) (e : Nat) : Int := max 8 ((G.1 5 e - G.1 3 e) / 2)
def gp_again1 (G : gm_T) (e : Nat) : gm_T := (gs_c (gs_c (gs_c (gs_c G.1 18 e (G.1 18 e + 1)) 34 e (G.1 18 e + 1)) 17 e (gp_hv G e)) 24 e (-1), G.2)
def gp_again (G : gm_T) (e : Nat) : gm_T :=
  if G.1 18 e + 1 = 3 then gp_put (gp_piece (gp_again1 G e) e) 16 e (gp_hv G e + 24)
  else (gs_c (gs_c (gs_c G.1 18 e (G.1 18 e + 1)) 34 e (G.1 18 e + 1)) 16 e (if 3 < G.1 18 e + 1 then min 64 (G.1 16 e + 8) else G.1 16 e), G.2)
def gp_same (G : gm_T) (e k : Nat) : gm_T := if gm_L G 3 k = G.1 12 e ∧ G.1 3 e ≠ G.1 5 e then gp_again G e else G
def gp_win (G : gm_T) (e k : Nat) : gm_T :=
  if G.1 13 e = 0 ∨ 0 < zi_s (gm_L G 0 k - G.1 14 e) ∨ (zi_s (gm_L G 0 k - G.1 14 e) = 0 ∧ 0 ≤ zi_s (gm_L G 2 k - G.1 15 e)) then (gs_c (gs_c (gs_c (gs_c G.1 13 e 1) 14 e (gm_L G 0 k)) 15 e (gm_L G 2 k)) 12 e (gm_L G 3 k), G.2) else G
/-- bytes put in order -/
def gp_any (G : gm_T) (e : Nat) : Bool := decide (0 ≤ G.1 11 e) || (List.range 24).any (fun i => gm_H G e (G.1 8 e + (i : Int)))
def gp_new (G : gm_T) (e k : Nat) (o m p : Int) : Bool := decide (0 ≤ p - G.1 8 e - o ∧ p - G.1 8 e - o < m ∧ 0 ≤ p - G.1 8 e ∧ p - G.1 8 e < 24 - G.1 9 e ∧ (G.1 11 e < 0 ∨ p < G.1 11 e))
def gp_hold1 (G : gm_T) (e k : Nat) (o m : Int) : gm_T :=
  (G.1, gm_W G, gm_b (gm_B G) e (fun p => if gm_H G e p = false ∧ gp_new G e k o m p = true then gm_D G (8 * k + (p - G.1 8 e - o).toNat) else gm_B G e p), gm_h (gm_H G) e (fun p => gm_H G e p || gp_new G e k o m p), gm_L G, gm_D G, gm_N G, gm_S G)
def gp_hold (G : gm_T) (e k : Nat) (o : Int) : gm_T :=
  gp_put (gp_hold1 G e k o (gm_L G 4 k)) 11 e (if gm_L G 1 k / 4 % 2 = 1 ∧ G.1 11 e < 0 ∧ 0 ≤ o + gm_L G 4 k ∧ o + gm_L G 4 k < 24 - G.1 9 e then G.1 8 e + o + gm_L G 4 k else G.1 11 e)
def gp_gstep (G : gm_T) (e : Nat) : gm_T :=
  (gs_c (gs_c G.1 9 e (G.1 9 e + 1)) 8 e (G.1 8 e + 1), gm_W G, gm_B G, gm_h (gm_H G) e (fun p => if p = G.1 8 e then false else gm_H G e p), gm_L G, gm_D G, gm_N G, gm_S G)
def gp_gloop : Nat → gm_T → Nat → gm_T
  | 0, G, _ => G
  | k + 1, G, e => if gm_H G e (G.1 8 e) = true ∧ G.1 8 e ≠ G.1 11 e then gp_gloop k (gp_gstep G e) e else G
def gp_gend (G : gm_T) (e : Nat) : gm_T := (gs_c (gs_c G.1 8 e (G.1 8 e + 1)) 11 e (-1), gm_W G, gm_B G, gp_none (gm_H G) e, gm_L G, gm_D G, gm_N G, gm_S G)
def gp_gst (G : gm_T) (e : Nat) : gm_T := if G.1 0 e = 4 then gp_put G 0 e 7 else if G.1 0 e = 5 then gp_put G 0 e 8 else gp_wait G e
def gp_gfin (G : gm_T) (e : Nat) : gm_T := if G.1 8 e = G.1 11 e then gp_gst (gp_gend G e) e else G
def gp_goOn (G : gm_T) (e : Nat) : gm_T := gp_gfin (gp_gloop 24 G e) e
def gp_take (G : gm_T) (e k : Nat) (o : Int) : gm_T := if 3 < G.1 0 e ∧ G.1 0 e < 7 then gp_goOn (gp_hold G e k o) e else G
def gp_content (G : gm_T) (e k : Nat) (o : Int) : gm_T :=
  if gp_slen G k = 0 then G
  else if 6 < (gp_take G e k o).1 0 e ∨ (gp_take G e k o).1 8 e = G.1 8 e ∨ gp_any G e = true ∨ gp_any (gp_take G e k o) e = true ∨ 0 ≤ (gp_take G e k o).1 22 e then gp_ack (gp_take G e k o) e else gp_put (gp_take G e k o) 22 e (gm_N G + 2)
/-- a segment arrives at an end that is neither closed, listening nor opening -/
def gp_newack (G : gm_T) (e k : Nat) (a : Int) : gm_T := if 0 < a then gp_adv G e a else if a = 0 ∧ gp_slen G k = 0 then gp_same G e k else G
def gp_go (G : gm_T) (e k : Nat) (o a : Int) : gm_T :=
  if (gp_newack G e k a).1 0 e = 0 then gp_newack G e k a
  else gp_flow (gp_content (if 0 ≤ a then gp_win (gp_newack G e k a) e k else gp_newack G e k a) e k o) e
def gp_est (G : gm_T) (e : Nat) : gm_T := if G.1 0 e = 3 then gp_put G 0 e 4 else G
def gp_acked (G : gm_T) (e k : Nat) (o a : Int) : gm_T :=
  if G.1 0 e = 3 ∧ a ≠ 1 then gp_rst G e (gm_L G 2 k) 8 0
  else
  if G.1 5 e - G.1 3 e < a then gp_ack (gp_est G e) e else gp_go (gp_est G e) e k o a
def gp_out1 (G : gm_T) (e k : Nat) : gm_T := if G.1 0 e = 10 ∧ gm_L G 1 k / 4 % 2 = 1 then gp_put G 23 e (gm_N G + 20) else G
def gp_out (G : gm_T) (e k : Nat) : gm_T := if gm_L G 1 k / 8 % 2 = 1 then gp_out1 G e k else gp_ack (gp_out1 G e k) e
def gp_o (G : gm_T) (e k : Nat) : Int := zi_s (gm_L G 0 k - (G.1 7 e + G.1 8 e) % 65536)
def gp_a (G : gm_T) (e k : Nat) : Int := zi_s (gm_L G 2 k - (G.1 2 e + G.1 3 e) % 65536)
def gp_conn (G : gm_T) (e k : Nat) : gm_T :=
  if gp_ok (24 - G.1 9 e) (gp_o G e k) (gp_slen G k) then
    (if gm_L G 1 k / 8 % 2 = 1 then (if gp_o G e k = 0 then gp_reset G e else gp_ack G e)
     else if gm_L G 1 k % 2 = 1 then gp_ack G e
     else if gm_L G 1 k / 2 % 2 = 1 then gp_acked G e k (gp_o G e k) (gp_a G e k)
     else G)
  else gp_out G e k
def gp_arrive (G : gm_T) (e k : Nat) : gm_T :=
  if G.1 0 e = 0 then gp_toClosed G e k else if G.1 0 e = 1 then gp_toListen G e k else if G.1 0 e = 2 then gp_toOpen G e k else gp_conn G e k
/-- the rows -/
def gp_rm (G : gm_T) (e k : Nat) : gm_T :=
  (gs_c G.1 30 e (G.1 30 e - 1), gm_W G, gm_B G, gm_H G,
    (fun f i => if 16 * e + k ≤ i ∧ (i : Int) < 16 * e + G.1 30 e - 1 then gm_L G f (i + 1) else gm_L G f i),
    (fun j => if 8 * (16 * e + k) ≤ j ∧ (j : Int) < 8 * (16 * e + G.1 30 e - 1) then gm_D G (j + 8) else gm_D G j), gm_N G, gm_S G)
def gp_twice (G : gm_T) (e k : Nat) : gm_T := 
  (gs_c G.1 30 e (G.1 30 e + 1), gm_W G, gm_B G, gm_H G,
    gm_l (gm_L G) (16 * e + (G.1 30 e).toNat) (gm_L G 0 (16 * e + k)) (gm_L G 1 (16 * e + k)) (gm_L G 2 (16 * e + k)) (gm_L G 3 (16 * e + k)) (gm_L G 4 (16 * e + k)),
    gm_d (gm_D G) (16 * e + (G.1 30 e).toNat) 8 (fun i => gm_D G (8 * (16 * e + k) + i.toNat)), gm_N G, gm_S G)
def gp_zero (G : gm_T) : gm_T := (G.1, gm_W G, gm_B G, gm_H G, gm_L G, gm_D G, gm_N G, 0)
def gp_deliver (G : gm_T) (e k : Nat) : gm_T := gp_rm (gp_arrive (gp_zero G) (1 - e) (16 * e + k)) e k
/-- time -/
def gp_tr (G : gm_T) (e : Nat) : Int := if G.1 3 e = G.1 5 e then G.1 20 e else G.1 20 e + 1
def gp_late1 (G : gm_T) (e : Nat) : gm_T := (gs_c (gs_c (gs_c (gs_c (gs_c G.1 20 e (gp_tr G e)) 35 e (gp_tr G e)) 19 e (min 64 (2 * G.1 19 e))) 21 e (gm_N G + min 64 (2 * G.1 19 e))) 24 e (-1), G.2)
def gp_late2 (G : gm_T) (e : Nat) : gm_T := (gs_c (gs_c (gs_c (gs_c (gs_c G.1 17 e (gp_hv G e)) 16 e 8) 18 e 0) 34 e 0) 4 e (G.1 3 e), G.2)
def gp_late (G : gm_T) (e : Nat) : gm_T :=
  if G.1 3 e ≠ G.1 5 e ∧ G.1 20 e + 1 = 6 then gp_over (gp_put G 20 e 6) e 2
  else if G.1 3 e = G.1 5 e then gp_send (gp_late1 G e) e (G.1 3 e - 1) 0 0
  else if G.1 0 e < 4 then gp_send (gp_late1 G e) e 0 1 0
  else if G.1 12 e = 0 then gp_piece (gp_late2 (gp_late1 G e) e) e else gp_flow (gp_late2 (gp_late1 G e) e) e
def gp_pass1 (G : gm_T) (e : Nat) : gm_T := if G.1 21 e = gm_N G then gp_late G e else G
def gp_pass2 (G : gm_T) (e : Nat) : gm_T := if G.1 22 e = gm_N G then gp_ack G e else G
def gp_pass3 (G : gm_T) (e : Nat) : gm_T := if G.1 23 e = gm_N G then gp_over G e (G.1 1 e) else G
def gp_pass (G : gm_T) (e : Nat) : gm_T := gp_pass3 (gp_pass2 (gp_pass1 G e) e) e
def gp_now (G : gm_T) : gm_T := (G.1, gm_W G, gm_B G, gm_H G, gm_L G, gm_D G, gm_N G + 1, gm_S G)
def gp_ticks : Nat → gm_T → gm_T
  | 0, G => G
  | k + 1, G => gp_ticks k (gp_pass (gp_pass (gp_now G) 0) 1)
/-- the calls of the user -/
def gp_open (G : gm_T) (e : Nat) (act : Bool) (iss : Int) : gm_T :=
  if act = true then gp_put (gp_send (gp_put (gp_begin G e iss) 0 e 2) e 0 1 0) 4 e 1 else gp_put (gp_begin G e iss) 0 e 1
def gp_wr (G : gm_T) (e : Nat) (cnt : Int) (g : Int → Int) : gm_T :=
  (gs_c (gs_c (gs_c G.1 6 e (G.1 6 e + cnt)) 33 e (G.1 6 e + cnt)) 31 e (G.1 31 e + cnt), gm_b (gm_W G) e (fun p => if G.1 6 e ≤ p ∧ p < G.1 6 e + cnt then g (p - G.1 6 e) else gm_W G e p), G.2.2)
def gp_write (G : gm_T) (e : Nat) (n : Int) (g : Int → Int) : gm_T := gp_flow (gp_wr G e (min n (32 - G.1 31 e)) g) e
def gp_rd (G : gm_T) (e : Nat) (m : Int) : gm_T := (gs_c (gs_c G.1 9 e (G.1 9 e - m)) 10 e (G.1 10 e + m), G.2)
def gp_read (G : gm_T) (e : Nat) (m : Int) : gm_T :=
  if 24 - G.1 9 e < 8 ∧ 7 < 24 - (G.1 9 e - m) ∧ 3 < G.1 0 e ∧ G.1 0 e < 7 then gp_ack (gp_rd G e m) e else gp_rd G e m
def gp_close (G : gm_T) (e : Nat) : gm_T :=
  if G.1 0 e = 1 ∨ G.1 0 e = 2 then gp_over G e 0
  else if G.1 0 e = 4 then gp_flow (gs_c (gs_c G.1 0 e 5) 29 e 1, G.2) e
  else if G.1 0 e = 7 then gp_flow (gs_c (gs_c G.1 0 e 9) 29 e 1, G.2) e
  else G
def gp_abort (G : gm_T) (e : Nat) : gm_T :=
  if 2 < G.1 0 e ∧ G.1 0 e < 10 then gp_over (gp_rst G e ((G.1 2 e + G.1 4 e) % 65536) 8 0) e 0 else gp_over G e 0
def gp_forge (G : gm_T) (e : Nat) (num flag ack win n : Int) (b : Int) : gm_T :=
  (gs_c G.1 30 e (G.1 30 e + 1), gm_W G, gm_B G, gm_H G, gm_l (gm_L G) (16 * e + (G.1 30 e).toNat) num flag ack win n, gm_d (gm_D G) (16 * e + (G.1 30 e).toNat) n (fun i => (b + i) % 256), gm_N G, gm_S G)
