section
/-! whole numbers as ints and longs: zi_n z, zl_n z; sums and differences without bounds, comparisons with -/
def zi_n (z : Int) : Int32 := Int32.ofInt z
def zl_n (z : Int) : Int64 := Int64.ofInt z
theorem zi_add (a b : Int) : zi_n a + zi_n b = zi_n (a + b) := sorry
theorem zi_sub (a b : Int) : zi_n a - zi_n b = zi_n (a - b) := sorry
theorem zi_mul (a b : Int) : zi_n a * zi_n b = zi_n (a * b) := sorry
theorem zi_neg (a : Int) : - zi_n a = zi_n (-a) := sorry
theorem zl_add (a b : Int) : zl_n a + zl_n b = zl_n (a + b) := sorry
theorem zl_sub (a b : Int) : zl_n a - zl_n b = zl_n (a - b) := sorry
theorem zi_T {a : Int} (h : -2147483648 ≤ a) (h' : a < 2147483648) : (zi_n a).toInt = a := sorry
theorem zl_T {a : Int} (h : -9223372036854775808 ≤ a) (h' : a < 9223372036854775808) : (zl_n a).toInt = a := sorry
theorem zi_of (x : Int32) : ∃ z : Int, -2147483648 ≤ z ∧ z < 2147483648 ∧ x = zi_n z := sorry
theorem zi_lt {a b : Int} (h1 : -2147483648 ≤ a) (h2 : a < 2147483648) (h3 : -2147483648 ≤ b) (h4 : b < 2147483648) : zi_n a < zi_n b ↔ a < b := sorry
theorem zi_le {a b : Int} (h1 : -2147483648 ≤ a) (h2 : a < 2147483648) (h3 : -2147483648 ≤ b) (h4 : b < 2147483648) : zi_n a ≤ zi_n b ↔ a ≤ b := sorry
theorem zi_eq {a b : Int} (h1 : -2147483648 ≤ a) (h2 : a < 2147483648) (h3 : -2147483648 ≤ b) (h4 : b < 2147483648) : zi_n a = zi_n b ↔ a = b := sorry
theorem zl_lt {a b : Int} (h1 : -9223372036854775808 ≤ a) (h2 : a < 9223372036854775808) (h3 : -9223372036854775808 ≤ b) (h4 : b < 9223372036854775808) : zl_n a < zl_n b ↔ a < b := sorry
theorem zl_le {a b : Int} (h1 : -9223372036854775808 ≤ a) (h2 : a < 9223372036854775808) (h3 : -9223372036854775808 ≤ b) (h4 : b < 9223372036854775808) : zl_n a ≤ zl_n b ↔ a ≤ b := sorry
theorem zl_eq {a b : Int} (h1 : -9223372036854775808 ≤ a) (h2 : a < 9223372036854775808) (h3 : -9223372036854775808 ≤ b) (h4 : b < 9223372036854775808) : zl_n a = zl_n b ↔ a = b := sorry
theorem zi_cl {a : Int} (h : -2147483648 ≤ a) (h' : a < 2147483648) : (zi_n a).toNatClampNeg = a.toNat := sorry
theorem zi_in {a : Int} {n : Nat} (h : 0 ≤ a) (h' : a < n) (hn : n < 2147483648) : vp_in (zi_n a) n := sorry
theorem zi_nI (n : Nat) : nI n = zi_n (n : Int) := sorry
theorem zl_i (a : Int) : (zl_n a).toInt32 = zi_n a := sorry
theorem zi_l {a : Int} (h : -2147483648 ≤ a) (h' : a < 2147483648) : (zi_n a).toInt64 = zl_n a := sorry
theorem zi_md (a : Int) : zi_n (a % 4294967296) = zi_n a := sorry
theorem zi_and (a : Int) {m : Int32} (k : Nat) (q : Int) (hm : m.toBitVec.toNat = 2 ^ k - 1) (hq : q = (2 ^ k : Nat)) (hk : k ≤ 31) : zi_n a &&& m = zi_n (a % q) := sorry
theorem zi_a16 (a : Int) : zi_n a &&& 65535 = zi_n (a % 65536) := sorry
theorem zi_a5 (a : Int) : zi_n a &&& 31 = zi_n (a % 32) := sorry
theorem zi_a8 (a : Int) : zi_n a &&& 255 = zi_n (a % 256) := sorry
theorem zl_a6 (a : Int) : zl_n a &&& 63 = zl_n (a % 64) := sorry
/-- a number as a short, as a byte -/
def zi_s (z : Int) : Int := (z + 32768) % 65536 - 32768
def zi_b (z : Int) : Int := (z + 128) % 256 - 128
theorem zi_s_e (z : Int) : zi_s z = (z + 32768) % 65536 - 32768 := sorry
theorem zi_b_e (z : Int) : zi_b z = (z + 128) % 256 - 128 := sorry
theorem zi_short (a : Int) : (zi_n a).toInt16.toInt32 = zi_n (zi_s a) := sorry
theorem zi_byte (a : Int) : (zi_n a).toInt8.toInt32 = zi_n (zi_b a) := sorry
theorem zi_div {a b : Int} (h : 0 ≤ a) (h' : a < 2147483648) (hb : 0 < b) (hb' : b < 2147483648) : zi_n a / zi_n b = zi_n (a / b) := sorry
/-- the offset of two numbers that lie near each other -/
theorem zi_off {i a b : Int} (h : -32768 ≤ a - b) (h' : a - b < 32768) : zi_s ((i + a) % 65536 - (i + b) % 65536) = a - b := sorry
/-- stores -/
theorem zu_s {f : Nat → Int32} {k : Nat} {x : Int32} : upd f k x k = x := sorry
theorem zu_n {f : Nat → Int32} {k j : Nat} {x : Int32} (h : j ≠ k) : upd f k x j = f j := sorry
theorem zv_s {f : Nat → Int64} {k : Nat} {x : Int64} : vp_updL f k x k = x := sorry
theorem zv_n {f : Nat → Int64} {k j : Nat} {x : Int64} (h : j ≠ k) : vp_updL f k x j = f j := sorry
end
section
/-! the pure picture of the two ends: G = (c, w, b, h, l, d, n, s): c slot end: the whole numbers of an end (positions, not numbers that wrap); w: bytes written by position; b: bytes that came by position; h: what is held, by position; l field slot, d: the link; n: now; s: how much was sent -/
abbrev gm_T : Type := (Nat → Nat → Int) × (Nat → Int → Int) × (Nat → Int → Int) × (Nat → Int → Bool) × (Nat → Nat → Int) × (Nat → Int) × Int × Int
abbrev gm_W (G : gm_T) : Nat → Int → Int := G.2.1
abbrev gm_B (G : gm_T) : Nat → Int → Int := G.2.2.1
abbrev gm_H (G : gm_T) : Nat → Int → Bool := G.2.2.2.1
abbrev gm_L (G : gm_T) : Nat → Nat → Int := G.2.2.2.2.1
abbrev gm_D (G : gm_T) : Nat → Int := G.2.2.2.2.2.1
abbrev gm_N (G : gm_T) : Int := G.2.2.2.2.2.2.1
abbrev gm_S (G : gm_T) : Int := G.2.2.2.2.2.2.2
def gs_c (c : Nat → Nat → Int) (f e : Nat) (z : Int) : Nat → Nat → Int := fun f' e' => if f' = f ∧ e' = e then z else c f' e'
def gm_l (l : Nat → Nat → Int) (k : Nat) (a0 a1 a2 a3 a4 : Int) : Nat → Nat → Int := fun f i => if i = k then (if f = 0 then a0 else if f = 1 then a1 else if f = 2 then a2 else if f = 3 then a3 else if f = 4 then a4 else l f i) else l f i
def gm_d (d : Nat → Int) (k : Nat) (n : Int) (g : Int → Int) : Nat → Int := fun j => if 8 * (k : Int) ≤ j ∧ (j : Int) < 8 * (k : Int) + n then g ((j : Int) - 8 * (k : Int)) else d j
def gm_h (h : Nat → Int → Bool) (e : Nat) (q : Int → Bool) : Nat → Int → Bool := fun e' p => if e' = e then q p else h e' p
def gm_b (b : Nat → Int → Int) (e : Nat) (q : Int → Int) : Nat → Int → Int := fun e' p => if e' = e then q p else b e' p
/-- a segment into the row of end e, lost when the row is full -/
def gp_post (G : gm_T) (e : Nat) (num flag ack win n : Int) (g : Int → Int) : gm_T :=
  (gs_c G.1 30 e (if G.1 30 e < 16 then G.1 30 e + 1 else G.1 30 e), gm_W G, gm_B G, gm_H G,
    (if G.1 30 e < 16 then gm_l (gm_L G) (16 * e + (G.1 30 e).toNat) num flag ack win n else gm_L G),
    (if G.1 30 e < 16 then gm_d (gm_D G) (16 * e + (G.1 30 e).toNat) n g else gm_D G), gm_N G, gm_S G + 1)
def gp_len (flag n : Int) : Int := n + flag % 2 + flag / 4 % 2
def gt_1 (G : gm_T) (e : Nat) : gm_T := (gs_c G.1 22 e (-1), G.2)
def gt_2 (G : gm_T) (e : Nat) (fr len : Int) : gm_T := (gs_c (gs_c G.1 25 e (if len ≠ 0 ∧ fr = G.1 5 e ∧ G.1 24 e < 0 then gm_N G else G.1 25 e)) 24 e (if len ≠ 0 ∧ fr = G.1 5 e ∧ G.1 24 e < 0 then fr else G.1 24 e), G.2)
def gt_3 (G : gm_T) (e : Nat) (fr len : Int) : gm_T := (gs_c G.1 5 e (if len ≠ 0 ∧ G.1 5 e < fr + len then fr + len else G.1 5 e), G.2)
def gt_4 (G : gm_T) (e : Nat) (len : Int) : gm_T := (gs_c G.1 21 e (if len ≠ 0 ∧ G.1 21 e < 0 then gm_N G + G.1 19 e else G.1 21 e), G.2)
def gp_sp (G : gm_T) (e : Nat) (fr flag n : Int) : gm_T := gp_post G e ((G.1 2 e + fr) % 65536) (if G.1 0 e = 2 then flag else flag + 2) (if G.1 0 e = 2 then 0 else (G.1 7 e + G.1 8 e) % 65536) (24 - G.1 9 e) n (fun i => gm_W G e (fr + i))
def gp_send (G : gm_T) (e : Nat) (fr flag n : Int) : gm_T := gt_4 (gt_3 (gt_2 (gt_1 (gp_sp G e fr flag n) e) e fr (gp_len flag n)) e fr (gp_len flag n)) e (gp_len flag n)
def gp_ack (G : gm_T) (e : Nat) : gm_T := gp_send G e (G.1 5 e) 0 0
def gp_nn (G : gm_T) (e : Nat) : Int := min (min (G.1 6 e - G.1 4 e) (min (G.1 12 e) (G.1 16 e) - (G.1 4 e - G.1 3 e))) 8
def gp_step (G : gm_T) (e : Nat) : gm_T := (gs_c (gp_send G e (G.1 4 e) 0 (gp_nn G e)).1 4 e (G.1 4 e + gp_nn G e), (gp_send G e (G.1 4 e) 0 (gp_nn G e)).2)
def gp_loop : Nat → gm_T → Nat → gm_T
  | 0, G, _ => G
  | k + 1, G, e => if gp_nn G e = 8 ∨ (0 < gp_nn G e ∧ G.1 4 e = G.1 3 e) then gp_loop k (gp_step G e) e else G
def gp_fin (G : gm_T) (e : Nat) : gm_T :=
  if G.1 29 e = 1 ∧ G.1 4 e = G.1 6 e ∧ 0 < min (G.1 12 e) (G.1 16 e) - (G.1 4 e - G.1 3 e) then (gs_c (gp_send G e (G.1 4 e) 4 0).1 4 e (G.1 4 e + 1), (gp_send G e (G.1 4 e) 4 0).2) else G
def gp_rest (G : gm_T) (e : Nat) : gm_T :=
  (gs_c G.1 21 e (if G.1 12 e = 0 ∧ G.1 4 e = G.1 3 e ∧ (G.1 4 e < G.1 6 e ∨ (G.1 29 e = 1 ∧ G.1 4 e = G.1 6 e)) ∧ G.1 21 e < 0 then gm_N G + G.1 19 e else G.1 21 e), G.2)
def gp_flow (G : gm_T) (e : Nat) : gm_T := if G.1 0 e = 4 ∨ G.1 0 e = 5 ∨ G.1 0 e = 7 ∨ G.1 0 e = 8 ∨ G.1 0 e = 9 then gp_rest (gp_fin (gp_loop 33 G e) e) e else G
def gp_pn (G : gm_T) (e : Nat) : Int := min (min (G.1 5 e) (G.1 6 e) - G.1 3 e) 8
def gp_piece (G : gm_T) (e : Nat) : gm_T := if 0 < gp_pn G e then gp_send G e (G.1 3 e) 0 (gp_pn G e) else gp_send G e (G.1 3 e) 4 0
/-- measured -/
def gp_so (G : gm_T) (e : Nat) : Int := if G.1 26 e = 1 then G.1 27 e + ((gm_N G - G.1 25 e) - G.1 27 e / 8) else 8 * (gm_N G - G.1 25 e)
def gp_va (G : gm_T) (e : Nat) : Int := if G.1 26 e = 1 then G.1 28 e + ((if (gm_N G - G.1 25 e) - G.1 27 e / 8 < 0 then - ((gm_N G - G.1 25 e) - G.1 27 e / 8) else (gm_N G - G.1 25 e) - G.1 27 e / 8) - G.1 28 e / 4) else 2 * (gm_N G - G.1 25 e)
def gp_rt (G : gm_T) (e : Nat) : Int := if gp_so G e / 8 + gp_va G e < 2 then 2 else if 64 < gp_so G e / 8 + gp_va G e then 64 else gp_so G e / 8 + gp_va G e
def gp_meas (G : gm_T) (e : Nat) : gm_T :=
  (gs_c (gs_c (gs_c (gs_c (gs_c G.1 27 e (gp_so G e)) 28 e (gp_va G e)) 26 e 1) 19 e (gp_rt G e)) 24 e (-1), G.2)
/-- all ends; an end begins -/
def gp_none (h : Nat → Int → Bool) (e : Nat) : Nat → Int → Bool := gm_h h e (fun _ => false)
def gp_over (G : gm_T) (e : Nat) (code : Int) : gm_T :=
  (gs_c (gs_c (gs_c (gs_c (gs_c (gs_c (gs_c (gs_c (gs_c (gs_c (gs_c (gs_c (gs_c G.1 0 e 0) 1 e code) 31 e 0) 11 e (-1)) 21 e (-1)) 22 e (-1)) 23 e (-1)) 24 e (-1)) 29 e 0) 32 e 1) 33 e 1) 34 e 0) 35 e 0, gm_W G, gm_B G, gp_none (gm_H G) e, gm_L G, gm_D G, gm_N G, gm_S G)
def gp_begin (G : gm_T) (e : Nat) (iss : Int) : gm_T :=
  (fun f e' => if e' = e then (if f = 0 then 0 else if f = 1 then 0 else if f = 2 then iss else if f = 3 then 0 else if f = 4 then 0 else if f = 5 then 0 else if f = 6 then 1 else if f = 7 then 0 else if f = 8 then 0 else if f = 9 then 0 else if f = 10 then 0 else if f = 11 then -1 else if f = 12 then 0 else if f = 13 then 0 else if f = 16 then 16 else if f = 17 then 64 else if f = 18 then 0 else if f = 19 then 8 else if f = 20 then 0 else if f = 21 then -1 else if f = 22 then -1 else if f = 23 then -1 else if f = 24 then -1 else if f = 26 then 0 else if f = 27 then 0 else if f = 28 then 0 else if f = 29 then 0 else if f = 31 then 0 else if f = 32 then 0 else if f = 33 then 1 else if f = 34 then 0 else if f = 35 then 0 else G.1 f e') else G.1 f e', gm_W G, gm_B G, gp_none (gm_H G) e, gm_L G, gm_D G, gm_N G, gm_S G)
def gp_reset (G : gm_T) (e : Nat) : gm_T := gp_over G e (if G.1 0 e > 7 then 0 else 1)
/-- the segment in slot k -/
def gp_slen (G : gm_T) (k : Nat) : Int := gp_len (gm_L G 1 k) (gm_L G 4 k)
def gp_rst (G : gm_T) (e : Nat) (num flag ack : Int) : gm_T := gp_post G e num flag ack 0 0 (fun _ => 0)
def gp_toClosed (G : gm_T) (e k : Nat) : gm_T :=
  if gm_L G 1 k / 8 % 2 = 1 then G else if gm_L G 1 k / 2 % 2 = 1 then gp_rst G e (gm_L G 2 k) 8 0 else gp_rst G e 0 10 ((gm_L G 0 k + gp_slen G k) % 65536)
def gp_hear (G : gm_T) (e k : Nat) : gm_T := (gs_c (gs_c (gs_c (gs_c G.1 7 e (gm_L G 0 k)) 8 e 1) 10 e 1) 12 e (gm_L G 3 k), G.2)
def gp_put (G : gm_T) (f e : Nat) (z : Int) : gm_T := (gs_c G.1 f e z, G.2)
def gp_toListen (G : gm_T) (e k : Nat) : gm_T :=
  if gm_L G 1 k / 8 % 2 = 1 then G else if gm_L G 1 k / 2 % 2 = 1 then gp_rst G e (gm_L G 2 k) 8 0 else if gm_L G 1 k % 2 = 1 then gp_put (gp_send (gp_put (gp_hear G e k) 0 e 3) e 0 1 0) 4 e 1 else G
def gp_opened (G : gm_T) (e : Nat) : gm_T := (gs_c (gs_c (gs_c (gs_c (gs_c G.1 3 e 1) 32 e 1) 21 e (-1)) 20 e 0) 35 e 0, G.2)
def gp_tmeas (G : gm_T) (e : Nat) : gm_T := if 0 ≤ G.1 24 e then gp_meas G e else G
def gp_toOpen (G : gm_T) (e k : Nat) : gm_T :=
  if gm_L G 1 k / 2 % 2 = 1 ∧ gm_L G 2 k ≠ (G.1 2 e + 1) % 65536 then (if gm_L G 1 k / 8 % 2 = 1 then G else gp_rst G e (gm_L G 2 k) 8 0)
  else if gm_L G 1 k / 8 % 2 = 1 then (if gm_L G 1 k / 2 % 2 = 1 then gp_reset G e else G)
  else if gm_L G 1 k % 2 = 1 then (if gm_L G 1 k / 2 % 2 = 1 then gp_flow (gp_ack (gp_put (gp_tmeas (gp_opened (gp_hear G e k) e) e) 0 e 4) e) e
    else gp_flow (gp_send (gp_put (gp_hear G e k) 0 e 3) e 0 1 0) e)
  else G
abbrev gp_ok (w o len : Int) : Prop := (len = 0 ∧ 0 ≤ o ∧ o ≤ w) ∨ (len ≠ 0 ∧ ((0 ≤ o ∧ o < w) ∨ (0 ≤ o + len - 1 ∧ o + len - 1 < w)))
/-- an acknowledgement of new numbers -/
def gp_adv1 (G : gm_T) (e : Nat) (a : Int) : gm_T :=
  (gs_c (gs_c (gs_c (gs_c (gs_c (gs_c (gs_c G.1 3 e (G.1 3 e + a)) 32 e (G.1 3 e + a)) 31 e (max (G.1 6 e - (G.1 3 e + a)) 0)) 4 e (max (G.1 4 e) (G.1 3 e + a))) 12 e (max (G.1 12 e - a) 0)) 20 e 0) 35 e 0, G.2)
def gp_adv2 (G : gm_T) (e : Nat) : gm_T := if 0 ≤ G.1 24 e ∧ G.1 24 e < G.1 3 e then gp_meas G e else G
def gp_adv3 (G : gm_T) (e : Nat) : gm_T :=
  (gs_c (gs_c (gs_c (gs_c G.1 16 e (if 3 ≤ G.1 18 e then G.1 17 e else min 64 (G.1 16 e + (if G.1 16 e < G.1 17 e then 8 else 64 / G.1 16 e)))) 18 e 0) 34 e 0) 21 e (if G.1 3 e = G.1 5 e then -1 else gm_N G + G.1 19 e), G.2)
def gp_wait (G : gm_T) (e : Nat) : gm_T := (gs_c (gs_c G.1 0 e 10) 23 e (gm_N G + 20), G.2)
def gp_finack (G : gm_T) (e : Nat) : gm_T :=
  if G.1 29 e = 1 ∧ G.1 6 e < G.1 3 e then (if G.1 0 e = 5 then gp_put G 0 e 6 else if G.1 0 e = 8 then gp_wait G e else if G.1 0 e = 9 then gp_over G e (G.1 1 e) else G) else G
def gp_adv (G : gm_T) (e : Nat) (a : Int) : gm_T := gp_finack (gp_adv3 (gp_adv2 (gp_adv1 G e a) e) e) e
def gp_hv (G : gm_T) (e : Nat) : Int := max 8 ((G.1 5 e - G.1 3 e) / 2)
def gp_again1 (G : gm_T) (e : Nat) : gm_T := (gs_c (gs_c (gs_c (gs_c G.1 18 e (G.1 18 e + 1)) 34 e (G.1 18 e + 1)) 17 e (gp_hv G e)) 24 e (-1), G.2)
def gp_again (G : gm_T) (e : Nat) : gm_T :=
  if G.1 18 e + 1 = 3 then gp_put (gp_piece (gp_again1 G e) e) 16 e (gp_hv G e + 24)
  else (gs_c (gs_c (gs_c G.1 18 e (G.1 18 e + 1)) 34 e (G.1 18 e + 1)) 16 e (if 3 < G.1 18 e + 1 then min 64 (G.1 16 e + 8) else G.1 16 e), G.2)
def gp_same (G : gm_T) (e k : Nat) : gm_T := if gm_L G 3 k = G.1 12 e ∧ G.1 3 e ≠ G.1 5 e then gp_again G e else G
def gp_win (G : gm_T) (e k : Nat) : gm_T :=
  if G.1 13 e = 0 ∨ 0 < zi_s (gm_L G 0 k - G.1 14 e) ∨ (zi_s (gm_L G 0 k - G.1 14 e) = 0 ∧ 0 ≤ zi_s (gm_L G 2 k - G.1 15 e)) then (gs_c (gs_c (gs_c (gs_c G.1 13 e 1) 14 e (gm_L G 0 k)) 15 e (gm_L G 2 k)) 12 e (gm_L G 3 k), G.2) else G
/-- bytes put in order -/
def gp_any (G : gm_T) (e : Nat) : Bool := decide (0 ≤ G.1 11 e) || (List.range 24).any (fun i => gm_H G e (G.1 8 e + (i : Int)))
def gp_new (G : gm_T) (e k : Nat) (o m p : Int) : Bool := decide (0 ≤ p - G.1 8 e - o ∧ p - G.1 8 e - o < m ∧ 0 ≤ p - G.1 8 e ∧ p - G.1 8 e < 24 - G.1 9 e ∧ (G.1 11 e < 0 ∨ p < G.1 11 e))
def gp_hold1 (G : gm_T) (e k : Nat) (o m : Int) : gm_T :=
  (G.1, gm_W G, gm_b (gm_B G) e (fun p => if gm_H G e p = false ∧ gp_new G e k o m p = true then gm_D G (8 * k + (p - G.1 8 e - o).toNat) else gm_B G e p), gm_h (gm_H G) e (fun p => gm_H G e p || gp_new G e k o m p), gm_L G, gm_D G, gm_N G, gm_S G)
def gp_hold (G : gm_T) (e k : Nat) (o : Int) : gm_T :=
  gp_put (gp_hold1 G e k o (gm_L G 4 k)) 11 e (if gm_L G 1 k / 4 % 2 = 1 ∧ G.1 11 e < 0 ∧ 0 ≤ o + gm_L G 4 k ∧ o + gm_L G 4 k < 24 - G.1 9 e then G.1 8 e + o + gm_L G 4 k else G.1 11 e)
def gp_gstep (G : gm_T) (e : Nat) : gm_T :=
  (gs_c (gs_c G.1 9 e (G.1 9 e + 1)) 8 e (G.1 8 e + 1), gm_W G, gm_B G, gm_h (gm_H G) e (fun p => if p = G.1 8 e then false else gm_H G e p), gm_L G, gm_D G, gm_N G, gm_S G)
def gp_gloop : Nat → gm_T → Nat → gm_T
  | 0, G, _ => G
  | k + 1, G, e => if gm_H G e (G.1 8 e) = true ∧ G.1 8 e ≠ G.1 11 e then gp_gloop k (gp_gstep G e) e else G
def gp_gend (G : gm_T) (e : Nat) : gm_T := (gs_c (gs_c G.1 8 e (G.1 8 e + 1)) 11 e (-1), gm_W G, gm_B G, gp_none (gm_H G) e, gm_L G, gm_D G, gm_N G, gm_S G)
def gp_gst (G : gm_T) (e : Nat) : gm_T := if G.1 0 e = 4 then gp_put G 0 e 7 else if G.1 0 e = 5 then gp_put G 0 e 8 else gp_wait G e
def gp_gfin (G : gm_T) (e : Nat) : gm_T := if G.1 8 e = G.1 11 e then gp_gst (gp_gend G e) e else G
def gp_goOn (G : gm_T) (e : Nat) : gm_T := gp_gfin (gp_gloop 24 G e) e
def gp_take (G : gm_T) (e k : Nat) (o : Int) : gm_T := if 3 < G.1 0 e ∧ G.1 0 e < 7 then gp_goOn (gp_hold G e k o) e else G
def gp_content (G : gm_T) (e k : Nat) (o : Int) : gm_T :=
  if gp_slen G k = 0 then G
  else if 6 < (gp_take G e k o).1 0 e ∨ (gp_take G e k o).1 8 e = G.1 8 e ∨ gp_any G e = true ∨ gp_any (gp_take G e k o) e = true ∨ 0 ≤ (gp_take G e k o).1 22 e then gp_ack (gp_take G e k o) e else gp_put (gp_take G e k o) 22 e (gm_N G + 2)
/-- a segment arrives at an end that is neither closed, listening nor opening -/
def gp_newack (G : gm_T) (e k : Nat) (a : Int) : gm_T := if 0 < a then gp_adv G e a else if a = 0 ∧ gp_slen G k = 0 then gp_same G e k else G
def gp_go (G : gm_T) (e k : Nat) (o a : Int) : gm_T :=
  if (gp_newack G e k a).1 0 e = 0 then gp_newack G e k a
  else gp_flow (gp_content (if 0 ≤ a then gp_win (gp_newack G e k a) e k else gp_newack G e k a) e k o) e
def gp_est (G : gm_T) (e : Nat) : gm_T := if G.1 0 e = 3 then gp_put G 0 e 4 else G
def gp_acked (G : gm_T) (e k : Nat) (o a : Int) : gm_T :=
  if G.1 0 e = 3 ∧ a ≠ 1 then gp_rst G e (gm_L G 2 k) 8 0
  else
  if G.1 5 e - G.1 3 e < a then gp_ack (gp_est G e) e else gp_go (gp_est G e) e k o a
def gp_out1 (G : gm_T) (e k : Nat) : gm_T := if G.1 0 e = 10 ∧ gm_L G 1 k / 4 % 2 = 1 then gp_put G 23 e (gm_N G + 20) else G
def gp_out (G : gm_T) (e k : Nat) : gm_T := if gm_L G 1 k / 8 % 2 = 1 then gp_out1 G e k else gp_ack (gp_out1 G e k) e
def gp_o (G : gm_T) (e k : Nat) : Int := zi_s (gm_L G 0 k - (G.1 7 e + G.1 8 e) % 65536)
def gp_a (G : gm_T) (e k : Nat) : Int := zi_s (gm_L G 2 k - (G.1 2 e + G.1 3 e) % 65536)
def gp_conn (G : gm_T) (e k : Nat) : gm_T :=
  if gp_ok (24 - G.1 9 e) (gp_o G e k) (gp_slen G k) then
    (if gm_L G 1 k / 8 % 2 = 1 then (if gp_o G e k = 0 then gp_reset G e else gp_ack G e)
     else if gm_L G 1 k % 2 = 1 then gp_ack G e
     else if gm_L G 1 k / 2 % 2 = 1 then gp_acked G e k (gp_o G e k) (gp_a G e k)
     else G)
  else gp_out G e k
def gp_arrive (G : gm_T) (e k : Nat) : gm_T :=
  if G.1 0 e = 0 then gp_toClosed G e k else if G.1 0 e = 1 then gp_toListen G e k else if G.1 0 e = 2 then gp_toOpen G e k else gp_conn G e k
/-- the rows -/
def gp_rm (G : gm_T) (e k : Nat) : gm_T :=
  (gs_c G.1 30 e (G.1 30 e - 1), gm_W G, gm_B G, gm_H G,
    (fun f i => if 16 * e + k ≤ i ∧ (i : Int) < 16 * e + G.1 30 e - 1 then gm_L G f (i + 1) else gm_L G f i),
    (fun j => if 8 * (16 * e + k) ≤ j ∧ (j : Int) < 8 * (16 * e + G.1 30 e - 1) then gm_D G (j + 8) else gm_D G j), gm_N G, gm_S G)
def gp_twice (G : gm_T) (e k : Nat) : gm_T := 
  (gs_c G.1 30 e (G.1 30 e + 1), gm_W G, gm_B G, gm_H G,
    gm_l (gm_L G) (16 * e + (G.1 30 e).toNat) (gm_L G 0 (16 * e + k)) (gm_L G 1 (16 * e + k)) (gm_L G 2 (16 * e + k)) (gm_L G 3 (16 * e + k)) (gm_L G 4 (16 * e + k)),
    gm_d (gm_D G) (16 * e + (G.1 30 e).toNat) 8 (fun i => gm_D G (8 * (16 * e + k) + i.toNat)), gm_N G, gm_S G)
def gp_zero (G : gm_T) : gm_T := (G.1, gm_W G, gm_B G, gm_H G, gm_L G, gm_D G, gm_N G, 0)
def gp_deliver (G : gm_T) (e k : Nat) : gm_T := gp_rm (gp_arrive (gp_zero G) (1 - e) (16 * e + k)) e k
/-- time -/
def gp_tr (G : gm_T) (e : Nat) : Int := if G.1 3 e = G.1 5 e then G.1 20 e else G.1 20 e + 1
def gp_late1 (G : gm_T) (e : Nat) : gm_T := (gs_c (gs_c (gs_c (gs_c (gs_c G.1 20 e (gp_tr G e)) 35 e (gp_tr G e)) 19 e (min 64 (2 * G.1 19 e))) 21 e (gm_N G + min 64 (2 * G.1 19 e))) 24 e (-1), G.2)
def gp_late2 (G : gm_T) (e : Nat) : gm_T := (gs_c (gs_c (gs_c (gs_c (gs_c G.1 17 e (gp_hv G e)) 16 e 8) 18 e 0) 34 e 0) 4 e (G.1 3 e), G.2)
def gp_late (G : gm_T) (e : Nat) : gm_T :=
  if G.1 3 e ≠ G.1 5 e ∧ G.1 20 e + 1 = 6 then gp_over (gp_put G 20 e 6) e 2
  else if G.1 3 e = G.1 5 e then gp_send (gp_late1 G e) e (G.1 3 e - 1) 0 0
  else if G.1 0 e < 4 then gp_send (gp_late1 G e) e 0 1 0
  else if G.1 12 e = 0 then gp_piece (gp_late2 (gp_late1 G e) e) e else gp_flow (gp_late2 (gp_late1 G e) e) e
def gp_pass1 (G : gm_T) (e : Nat) : gm_T := if G.1 21 e = gm_N G then gp_late G e else G
def gp_pass2 (G : gm_T) (e : Nat) : gm_T := if G.1 22 e = gm_N G then gp_ack G e else G
def gp_pass3 (G : gm_T) (e : Nat) : gm_T := if G.1 23 e = gm_N G then gp_over G e (G.1 1 e) else G
def gp_pass (G : gm_T) (e : Nat) : gm_T := gp_pass3 (gp_pass2 (gp_pass1 G e) e) e
def gp_now (G : gm_T) : gm_T := (G.1, gm_W G, gm_B G, gm_H G, gm_L G, gm_D G, gm_N G + 1, gm_S G)
def gp_ticks : Nat → gm_T → gm_T
  | 0, G => G
  | k + 1, G => gp_ticks k (gp_pass (gp_pass (gp_now G) 0) 1)
/-- the calls of the user -/
def gp_open (G : gm_T) (e : Nat) (act : Bool) (iss : Int) : gm_T :=
  if act = true then gp_put (gp_send (gp_put (gp_begin G e iss) 0 e 2) e 0 1 0) 4 e 1 else gp_put (gp_begin G e iss) 0 e 1
def gp_wr (G : gm_T) (e : Nat) (cnt : Int) (g : Int → Int) : gm_T :=
  (gs_c (gs_c (gs_c G.1 6 e (G.1 6 e + cnt)) 33 e (G.1 6 e + cnt)) 31 e (G.1 31 e + cnt), gm_b (gm_W G) e (fun p => if G.1 6 e ≤ p ∧ p < G.1 6 e + cnt then g (p - G.1 6 e) else gm_W G e p), G.2.2)
def gp_write (G : gm_T) (e : Nat) (n : Int) (g : Int → Int) : gm_T := gp_flow (gp_wr G e (min n (32 - G.1 31 e)) g) e
def gp_rd (G : gm_T) (e : Nat) (m : Int) : gm_T := (gs_c (gs_c G.1 9 e (G.1 9 e - m)) 10 e (G.1 10 e + m), G.2)
def gp_read (G : gm_T) (e : Nat) (m : Int) : gm_T :=
  if 24 - G.1 9 e < 8 ∧ 7 < 24 - (G.1 9 e - m) ∧ 3 < G.1 0 e ∧ G.1 0 e < 7 then gp_ack (gp_rd G e m) e else gp_rd G e m
def gp_close (G : gm_T) (e : Nat) : gm_T :=
  if G.1 0 e = 1 ∨ G.1 0 e = 2 then gp_over G e 0
  else if G.1 0 e = 4 then gp_flow (gs_c (gs_c G.1 0 e 5) 29 e 1, G.2) e
  else if G.1 0 e = 7 then gp_flow (gs_c (gs_c G.1 0 e 9) 29 e 1, G.2) e
  else G
def gp_abort (G : gm_T) (e : Nat) : gm_T :=
  if 2 < G.1 0 e ∧ G.1 0 e < 10 then gp_over (gp_rst G e ((G.1 2 e + G.1 4 e) % 65536) 8 0) e 0 else gp_over G e 0
def gp_forge (G : gm_T) (e : Nat) (num flag ack win n : Int) (b : Int) : gm_T :=
  (gs_c G.1 30 e (G.1 30 e + 1), gm_W G, gm_B G, gm_H G, gm_l (gm_L G) (16 * e + (G.1 30 e).toNat) num flag ack win n, gm_d (gm_D G) (16 * e + (G.1 30 e).toNat) n (fun i => (b + i) % 256), gm_N G, gm_S G)
end
section
/-! what holds of the picture at every turn -/
theorem gs_f {c : Nat → Nat → Int} {f e : Nat} {z : Int} {f' e' : Nat} (h : f' ≠ f) : gs_c c f e z f' e' = c f' e' := sorry
theorem gs_e {c : Nat → Nat → Int} {f e : Nat} {z : Int} {f' e' : Nat} (h : e' ≠ e) : gs_c c f e z f' e' = c f' e' := sorry
theorem gs_s {c : Nat → Nat → Int} {f e : Nat} {z : Int} : gs_c c f e z f e = z := sorry
theorem gs_id {c : Nat → Nat → Int} {f e : Nat} {z : Int} (h : z = c f e) : gs_c c f e z = c := sorry
theorem pu_f {G : gm_T} {f e : Nat} {z : Int} {f' e' : Nat} (h : f' ≠ f) : (gp_put G f e z).1 f' e' = G.1 f' e' := sorry
theorem pu_s {G : gm_T} {f e : Nat} {z : Int} : (gp_put G f e z).1 f e = z := sorry
theorem nn_H {h : Nat → Int → Bool} {e e' : Nat} {p : Int} (w : gp_none h e e' p = true) : h e' p = true := sorry
theorem nn_e {h : Nat → Int → Bool} {e : Nat} {p : Int} : gp_none h e e p = false := sorry
theorem nn_o {h : Nat → Int → Bool} {e e' : Nat} (q : e' ≠ e) {p : Int} : gp_none h e e' p = h e' p := sorry
theorem nn_E {h : Nat → Int → Bool} {e : Nat} : gp_none h e e = fun _ => false := sorry
theorem nn_O {h : Nat → Int → Bool} {e e' : Nat} (q : e' ≠ e) : gp_none h e e' = h e' := sorry
theorem hh_E {h : Nat → Int → Bool} {e : Nat} {g : Int → Bool} : gm_h h e g e = g := sorry
theorem hh_O {h : Nat → Int → Bool} {e e' : Nat} {g : Int → Bool} (q : e' ≠ e) : gm_h h e g e' = h e' := sorry
def gv_a (ST ER IS RW : Int) : Prop := 0 ≤ ST ∧ ST ≤ 10 ∧ 0 ≤ ER ∧ ER ≤ 2 ∧ (ST ≠ 0 → ER = 0) ∧ 0 ≤ IS ∧ IS ≤ 65535 ∧ 0 ≤ RW ∧ RW ≤ 16
def gv_p (K ST U N M L CL KP YU YL : Int) : Prop :=
  (ST ≠ 0 → 1 ≤ L ∧ L ≤ K + 1 ∧ YU = U ∧ YL = L) ∧ (ST = 0 → KP = 0 ∧ YL = 1 ∧ (YU = 0 ∨ YU = 1)) ∧ (ST = 1 → U = 0 ∧ N = 0 ∧ M = 0 ∧ L = 1 ∧ KP = 0) ∧ (ST = 2 ∨ ST = 3 → U = 0 ∧ N = 1 ∧ M = 1 ∧ KP = L - 1) ∧ (4 ≤ ST → 1 ≤ U ∧ U ≤ N ∧ N ≤ M ∧ M ≤ L + CL ∧ KP = max (L - U) 0) ∧ 0 ≤ KP ∧ KP ≤ 32
    ∧ (CL = 0 ∨ CL = 1) ∧ (CL = 1 ↔ (ST = 5 ∨ ST = 6 ∨ ST = 8 ∨ ST = 9 ∨ ST = 10))
def gv_c (K ST WN TD WS WA PK HF SM YS TR YT RT : Int) : Prop :=
  0 ≤ WN ∧ WN ≤ 24 ∧ (TD = 0 ∨ TD = 1) ∧ 0 ≤ WS ∧ WS ≤ 65535 ∧ 0 ≤ WA ∧ WA ≤ 65535 ∧ 8 ≤ PK ∧ PK ≤ 64 ∧ 8 ≤ HF ∧ HF ≤ 64 ∧ 0 ≤ SM ∧ SM ≤ K ∧ 0 ≤ TR ∧ TR ≤ 6 ∧ (ST ≠ 0 → TR ≤ 5 ∧ YS = SM ∧ YT = TR) ∧ 2 ≤ RT ∧ RT ≤ 64
def gv_d (n ST RY AK WT : Int) : Prop := -1 ≤ RY ∧ RY ≤ n + 64 ∧ (ST ≤ 1 → RY = -1) ∧ -1 ≤ AK ∧ AK ≤ n + 2 ∧ (ST ≤ 2 → AK = -1) ∧ -1 ≤ WT ∧ WT ≤ n + 20
def gv_t (n ST U M TM TA SP SO VA : Int) : Prop := -1 ≤ TM ∧ (0 ≤ TM → 2 ≤ ST ∧ U ≤ TM ∧ TM < M ∧ 0 ≤ TA ∧ TA ≤ n) ∧ (SP = 0 ∨ SP = 1) ∧ (SP = 1 → 0 ≤ SO ∧ SO ≤ 8 * n) ∧ 0 ≤ VA ∧ VA ≤ 4 * n + 3
def gv_r (K ST IR RV UR UF FA : Int) (h : Int → Bool) : Prop :=
  0 ≤ IR ∧ IR ≤ 65535 ∧ 0 ≤ RV ∧ RV ≤ 4 * K + 4 ∧ 0 ≤ UR ∧ UR ≤ 24 ∧ 0 ≤ UF ∧ (ST = 1 ∨ ST = 2 → UR = 0) ∧ (3 ≤ ST → ST ≤ 6 → UF + UR = RV) ∧ -1 ≤ FA ∧ (0 ≤ FA → 4 ≤ ST ∧ ST ≤ 6 ∧ RV < FA ∧ FA < RV + 24 - UR) ∧ (∀ p, h p = true → 4 ≤ ST ∧ ST ≤ 6 ∧ RV < p ∧ p < RV + 24 - UR)
def gv_E (K n : Int) (c : Nat → Nat → Int) (h : Nat → Int → Bool) (e : Nat) : Prop :=
  gv_a (c 0 e) (c 1 e) (c 2 e) (c 30 e) ∧ gv_p K (c 0 e) (c 3 e) (c 4 e) (c 5 e) (c 6 e) (c 29 e) (c 31 e) (c 32 e) (c 33 e) ∧ gv_c K (c 0 e) (c 12 e) (c 13 e) (c 14 e) (c 15 e) (c 16 e) (c 17 e) (c 18 e) (c 34 e) (c 20 e) (c 35 e) (c 19 e) ∧ gv_d n (c 0 e) (c 21 e) (c 22 e) (c 23 e) ∧ gv_t n (c 0 e) (c 3 e) (c 5 e) (c 24 e) (c 25 e) (c 26 e) (c 27 e) (c 28 e) ∧ gv_r K (c 0 e) (c 7 e) (c 8 e) (c 9 e) (c 10 e) (c 11 e) (h e)
def gv_L (l : Nat → Nat → Int) (d : Nat → Int) : Prop :=
  (∀ i, i < 32 → 0 ≤ l 0 i ∧ l 0 i ≤ 65535 ∧ 0 ≤ l 1 i ∧ l 1 i ≤ 15 ∧ 0 ≤ l 2 i ∧ l 2 i ≤ 65535 ∧ 0 ≤ l 3 i ∧ l 3 i ≤ 24 ∧ 0 ≤ l 4 i ∧ l 4 i ≤ 8) ∧ (∀ j, j < 256 → 0 ≤ d j ∧ d j ≤ 255)
def gv_W (w : Nat → Int → Int) : Prop := ∀ e, e < 2 → ∀ p, 0 ≤ w e p ∧ w e p ≤ 255
def gv_I (K : Int) (G : gm_T) : Prop := 0 ≤ K ∧ K ≤ 5000 ∧ 0 ≤ gm_N G ∧ gm_N G ≤ 125 * K ∧ (∀ e, e < 2 → gv_E K (gm_N G) G.1 (gm_H G) e) ∧ gv_L (gm_L G) (gm_D G) ∧ gv_W (gm_W G) ∧ gv_W (gm_B G)
theorem gv_o {K n : Int} {c c' : Nat → Nat → Int} {h h' : Nat → Int → Bool} {e : Nat} (hc : ∀ f, c' f e = c f e) (hh : h' e = h e) (H : gv_E K n c h e) : gv_E K n c' h' e := sorry
theorem gv_up {K n : Int} {c c' : Nat → Nat → Int} {h h' : Nat → Int → Bool} {e : Nat} (hE : ∀ e, e < 2 → gv_E K n c h e) (hc : ∀ e', e' ≠ e → ∀ f, c' f e' = c f e') (hh : ∀ e', e' ≠ e → h' e' = h e') (H : gv_E K n c' h' e) : ∀ e, e < 2 → gv_E K n c' h' e := sorry
theorem gv_mono {K K' : Int} {G : gm_T} (h : K ≤ K') (h' : K' ≤ 5000) (H : gv_I K G) : gv_I K' G := sorry
theorem gv_lpost {l : Nat → Nat → Int} {d : Nat → Int} {k : Nat} {num flag ack win n m : Int} {g : Int → Int} (h : gv_L l d) (h1 : 0 ≤ num ∧ num ≤ 65535) (h2 : 0 ≤ flag ∧ flag ≤ 15) (h3 : 0 ≤ ack ∧ ack ≤ 65535) (h4 : 0 ≤ win ∧ win ≤ 24) (h5 : 0 ≤ n ∧ n ≤ 8) (h6 : ∀ i, 0 ≤ i → i < m → 0 ≤ g i ∧ g i ≤ 255) : gv_L (gm_l l k num flag ack win n) (gm_d d k m g) := sorry
end
section
/-! the bounds last: sending -/
theorem iv_post {K : Int} {G : gm_T} {e : Nat} {num flag ack win n : Int} {g : Int → Int} (hI : gv_I K G) (he : e < 2) (h1 : 0 ≤ num ∧ num ≤ 65535) (h2 : 0 ≤ flag ∧ flag ≤ 15) (h3 : 0 ≤ ack ∧ ack ≤ 65535) (h4 : 0 ≤ win ∧ win ≤ 24) (h5 : 0 ≤ n ∧ n ≤ 8) (h6 : ∀ i, 0 ≤ i → i < n → 0 ≤ g i ∧ g i ≤ 255) : gv_I K (gp_post G e num flag ack win n g) := sorry
theorem iv_rst {K : Int} {G : gm_T} {e : Nat} {num flag ack : Int} (hI : gv_I K G) (he : e < 2) (h1 : 0 ≤ num ∧ num ≤ 65535) (h2 : 0 ≤ flag ∧ flag ≤ 15) (h3 : 0 ≤ ack ∧ ack ≤ 65535) : gv_I K (gp_rst G e num flag ack) := sorry
/-- the values behind a send -/
theorem sd_M {G : gm_T} {e : Nat} {fr flag n : Int} : (gp_send G e fr flag n).1 5 e = (if gp_len flag n ≠ 0 ∧ G.1 5 e < fr + gp_len flag n then fr + gp_len flag n else G.1 5 e) := sorry
theorem sd_RY {G : gm_T} {e : Nat} {fr flag n : Int} : (gp_send G e fr flag n).1 21 e = (if gp_len flag n ≠ 0 ∧ G.1 21 e < 0 then gm_N G + G.1 19 e else G.1 21 e) := sorry
theorem sd_TM {G : gm_T} {e : Nat} {fr flag n : Int} : (gp_send G e fr flag n).1 24 e = (if gp_len flag n ≠ 0 ∧ fr = G.1 5 e ∧ G.1 24 e < 0 then fr else G.1 24 e) := sorry
theorem sd_TA {G : gm_T} {e : Nat} {fr flag n : Int} : (gp_send G e fr flag n).1 25 e = (if gp_len flag n ≠ 0 ∧ fr = G.1 5 e ∧ G.1 24 e < 0 then gm_N G else G.1 25 e) := sorry
theorem sd_AK {G : gm_T} {e : Nat} {fr flag n : Int} : (gp_send G e fr flag n).1 22 e = -1 := sorry
theorem sd_RW {G : gm_T} {e : Nat} {fr flag n : Int} : (gp_send G e fr flag n).1 30 e = (if G.1 30 e < 16 then G.1 30 e + 1 else G.1 30 e) := sorry
theorem sd_o {G : gm_T} {e e' : Nat} {fr flag n : Int} (q : e' ≠ e) (f : Nat) : (gp_send G e fr flag n).1 f e' = G.1 f e' := sorry
theorem iv_send {K : Int} {G : gm_T} {e : Nat} {fr flag n : Int} (hI : gv_I K G) (he : e < 2) (hs : 2 ≤ G.1 0 e) (hf : flag = 0 ∨ flag = 1 ∨ flag = 4) (hn : 0 ≤ n) (hn8 : n ≤ 8) (hm : fr + gp_len flag n ≤ G.1 5 e ∨ gp_len flag n = 0 ∨ (4 ≤ G.1 0 e ∧ fr + gp_len flag n ≤ G.1 6 e + G.1 29 e)) : gv_I K (gp_send G e fr flag n) := sorry
theorem iv_ack {K : Int} {G : gm_T} {e : Nat} (hI : gv_I K G) (he : e < 2) (hs : 2 ≤ G.1 0 e) : gv_I K (gp_ack G e) := sorry
theorem sd_f {G : gm_T} {e e' : Nat} {fr flag n : Int} {f : Nat} (h1 : f ≠ 30) (h2 : f ≠ 22) (h3 : f ≠ 25) (h4 : f ≠ 24) (h5 : f ≠ 5) (h6 : f ≠ 21) : (gp_send G e fr flag n).1 f e' = G.1 f e' := sorry
theorem iv_put {K : Int} {G : gm_T} {f e : Nat} {z : Int} (hI : gv_I K G) (H : gv_E K (gm_N G) (gs_c G.1 f e z) (gm_H G) e) : gv_I K (gp_put G f e z) := sorry
theorem iv_setN {K : Int} {G : gm_T} {e : Nat} {z : Int} (hI : gv_I K G) (he : e < 2) (hs : 4 ≤ G.1 0 e) (h1 : G.1 3 e ≤ z) (h2 : z ≤ G.1 5 e) : gv_I K (gp_put G 4 e z) := sorry
theorem iv_setRY {K : Int} {G : gm_T} {e : Nat} {z : Int} (hI : gv_I K G) (he : e < 2) (hs : 2 ≤ G.1 0 e) (h1 : -1 ≤ z) (h2 : z ≤ gm_N G + 64) : gv_I K (gp_put G 21 e z) := sorry
/-- one round of the flow -/
theorem iv_step {K : Int} {G : gm_T} {e : Nat} (hI : gv_I K G) (he : e < 2) (hs : 4 ≤ G.1 0 e) (hn : 0 < gp_nn G e) : gv_I K (gp_step G e) := sorry
theorem st_f {G : gm_T} {e e' : Nat} {f : Nat} (h1 : f ≠ 30) (h2 : f ≠ 22) (h3 : f ≠ 25) (h4 : f ≠ 24) (h5 : f ≠ 5) (h6 : f ≠ 21) (h7 : f ≠ 4) : (gp_step G e).1 f e' = G.1 f e' := sorry
theorem st_N {G : gm_T} {e : Nat} : (gp_step G e).1 4 e = G.1 4 e + gp_nn G e := sorry
theorem lo_f {f : Nat} (h1 : f ≠ 30) (h2 : f ≠ 22) (h3 : f ≠ 25) (h4 : f ≠ 24) (h5 : f ≠ 5) (h6 : f ≠ 21) (h7 : f ≠ 4) : ∀ (k : Nat) (G : gm_T) (e e' : Nat), (gp_loop k G e).1 f e' = G.1 f e' := sorry
theorem iv_loop {K : Int} {e : Nat} (he : e < 2) : ∀ (k : Nat) (G : gm_T), gv_I K G → 4 ≤ G.1 0 e → gv_I K (gp_loop k G e) := sorry
theorem iv_fin {K : Int} {G : gm_T} {e : Nat} (hI : gv_I K G) (he : e < 2) (hs : 4 ≤ G.1 0 e) : gv_I K (gp_fin G e) := sorry
theorem fi_f {G : gm_T} {e e' : Nat} {f : Nat} (h1 : f ≠ 30) (h2 : f ≠ 22) (h3 : f ≠ 25) (h4 : f ≠ 24) (h5 : f ≠ 5) (h6 : f ≠ 21) (h7 : f ≠ 4) : (gp_fin G e).1 f e' = G.1 f e' := sorry
theorem iv_rest {K : Int} {G : gm_T} {e : Nat} (hI : gv_I K G) (he : e < 2) (hs : 4 ≤ G.1 0 e) : gv_I K (gp_rest G e) := sorry
theorem fl_f {f : Nat} (h1 : f ≠ 30) (h2 : f ≠ 22) (h3 : f ≠ 25) (h4 : f ≠ 24) (h5 : f ≠ 5) (h6 : f ≠ 21) (h7 : f ≠ 4) {G : gm_T} {e e' : Nat} : (gp_flow G e).1 f e' = G.1 f e' := sorry
theorem iv_flow {K : Int} {G : gm_T} {e : Nat} (hI : gv_I K G) (he : e < 2) : gv_I K (gp_flow G e) := sorry
theorem iv_piece {K : Int} {G : gm_T} {e : Nat} (hI : gv_I K G) (he : e < 2) (hs : 4 ≤ G.1 0 e) (hu : G.1 3 e < G.1 5 e) : gv_I K (gp_piece G e) := sorry
theorem pc_f {f : Nat} (h1 : f ≠ 30) (h2 : f ≠ 22) (h3 : f ≠ 25) (h4 : f ≠ 24) (h5 : f ≠ 5) (h6 : f ≠ 21) {G : gm_T} {e e' : Nat} : (gp_piece G e).1 f e' = G.1 f e' := sorry
theorem iv_meas {K : Int} {G : gm_T} {e : Nat} (hI : gv_I K G) (he : e < 2) (ht : 0 ≤ G.1 24 e) : gv_I K (gp_meas G e) := sorry
theorem iv_over {K : Int} {G : gm_T} {e : Nat} {code : Int} (hI : gv_I K G) (he : e < 2) (h1 : 0 ≤ code) (h2 : code ≤ 2) : gv_I K (gp_over G e code) := sorry
end
section
/-! the bounds last: an end begins, opens, takes acknowledgements -/
theorem bg_o {G : gm_T} {e e' : Nat} {iss : Int} (q : e' ≠ e) (f : Nat) : (gp_begin G e iss).1 f e' = G.1 f e' := sorry
theorem bg_H {G : gm_T} {e : Nat} {iss : Int} : gm_H (gp_begin G e iss) e = fun _ => false := sorry
theorem iv_listen {K : Int} {G : gm_T} {e : Nat} {iss : Int} (hI : gv_I K G) (he : e < 2) (h1 : 0 ≤ iss) (h2 : iss ≤ 65535) : gv_I K (gp_put (gp_begin G e iss) 0 e 1) := sorry
/-- the first segment of an end -/
theorem iv_syn {K : Int} {G : gm_T} {e : Nat} {s : Int} (hI : gv_I K (gp_put G 0 e 1)) (he : e < 2) (hs : s = 2 ∨ s = 3) (hu : s = 3 → G.1 10 e + G.1 9 e = G.1 8 e) : gv_I K (gp_put (gp_send (gp_put G 0 e s) e 0 1 0) 4 e 1) := sorry
theorem iv_open {K : Int} {G : gm_T} {e : Nat} {act : Bool} {iss : Int} (hI : gv_I K G) (he : e < 2) (h1 : 0 ≤ iss) (h2 : iss ≤ 65535) : gv_I K (gp_open G e act iss) := sorry
theorem iv_hear {K : Int} {G : gm_T} {e k : Nat} (hI : gv_I K G) (he : e < 2) (hk : k < 32) (hs : G.1 0 e = 1 ∨ G.1 0 e = 2) : gv_I K (gp_hear G e k) := sorry
theorem iv_toListen {K : Int} {G : gm_T} {e k : Nat} (hI : gv_I K G) (he : e < 2) (hk : k < 32) (hs : G.1 0 e = 1) : gv_I K (gp_toListen G e k) := sorry
theorem iv_toClosed {K : Int} {G : gm_T} {e k : Nat} (hI : gv_I K G) (he : e < 2) (hk : k < 32) : gv_I K (gp_toClosed G e k) := sorry
theorem iv_reset {K : Int} {G : gm_T} {e : Nat} (hI : gv_I K G) (he : e < 2) : gv_I K (gp_reset G e) := sorry
theorem iv_opened {K : Int} {G : gm_T} {e : Nat} (hI : gv_I K G) (he : e < 2) (hs : G.1 0 e = 2) (hu : G.1 10 e + G.1 9 e = G.1 8 e) : gv_I K (gp_put (gp_tmeas (gp_opened G e) e) 0 e 4) := sorry
theorem iv_half {K : Int} {G : gm_T} {e : Nat} (hI : gv_I K G) (he : e < 2) (hs : G.1 0 e = 2) (hu : G.1 10 e + G.1 9 e = G.1 8 e) : gv_I K (gp_put G 0 e 3) := sorry
theorem iv_toOpen {K : Int} {G : gm_T} {e k : Nat} (hI : gv_I K G) (he : e < 2) (hk : k < 32) (hs : G.1 0 e = 2) : gv_I K (gp_toOpen G e k) := sorry
end
section
/-! the bounds last: acknowledgements, windows, time -/
theorem iv_adv12 {K : Int} {G : gm_T} {e : Nat} {a : Int} (hI : gv_I K G) (he : e < 2) (hs : 4 ≤ G.1 0 e) (ha : 0 < a) (ham : a ≤ G.1 5 e - G.1 3 e) (h3 : G.1 0 e = 3 → a = 1) : gv_I K (gp_adv2 (gp_adv1 G e a) e) := by
  obtain ⟨a1, a2, a3, a4, a5, a6, a7, a8⟩ := hI
  obtain ⟨b1, b2, b3, b4, b5, b6⟩ := a5 e he
  have hT : (gp_adv1 G e a).1 24 e = G.1 24 e := by simp +decide only [gp_adv1, gp_put, gs_f]
  have hU : (gp_adv1 G e a).1 3 e = G.1 3 e + a := by simp +decide only [gp_adv1, gp_put, gs_s, gs_f]
  have hr : 2 ≤ gp_rt (gp_adv1 G e a) e ∧ gp_rt (gp_adv1 G e a) e ≤ 64 := by unfold gp_rt; split <;> (try split) <;> omega
  unfold gp_adv2
  rw [hT, hU]
  by_cases z : 0 ≤ G.1 24 e ∧ G.1 24 e < G.1 3 e + a
  · rw [if_pos z]
    have hso : 0 ≤ gp_so (gp_adv1 G e a) e ∧ gp_so (gp_adv1 G e a) e ≤ 8 * gm_N G := by
      unfold gp_so; rw [show gm_N (gp_adv1 G e a) = gm_N G from rfl]; simp +decide only [gp_adv1, gp_put, gs_f]; unfold gv_t at b5; split <;> omega
    have hva : 0 ≤ gp_va (gp_adv1 G e a) e ∧ gp_va (gp_adv1 G e a) e ≤ 4 * gm_N G + 3 := by
      unfold gp_va; rw [show gm_N (gp_adv1 G e a) = gm_N G from rfl]; simp +decide only [gp_adv1, gp_put, gs_f]; unfold gv_t at b5; split <;> (try split) <;> omega
    refine ⟨a1, a2, a3, a4, gv_up (e := e) (n := gm_N G) a5 (fun e' q f => ?_) (fun e' q => rfl) ?_, a6, a7, a8⟩
    · simp only [gp_put, gp_meas, gp_adv1, gs_e q]
    · unfold gv_E
      simp +decide only [gp_meas, gs_s, gs_f]
      generalize gp_so (gp_adv1 G e a) e = so at *
      generalize gp_va (gp_adv1 G e a) e = va at *
      generalize gp_rt (gp_adv1 G e a) e = rt at *
      simp +decide only [gp_adv1, gp_put, gs_s, gs_f]
      refine ⟨?_, ?_, ?_, ?_, ?_, ?_⟩
      · unfold gv_a at *; omega
      · unfold gv_p at *; omega
      · unfold gv_c at *; omega
      · unfold gv_d at *; omega
      · unfold gv_t at *; omega
      · unfold gv_r at *
        obtain ⟨q1, q2, q3, q4, q5, q6, q7, q8, q9, qa, qb, qc⟩ := b6
        exact ⟨q1, q2, q3, q4, q5, q6, q7, by omega, by omega, qa, by omega, fun p z => by have := qc p z; omega⟩
  · rw [if_neg z]
    refine ⟨a1, a2, a3, a4, gv_up (e := e) (n := gm_N G) a5 (fun e' q f => ?_) (fun e' q => rfl) ?_, a6, a7, a8⟩
    · simp only [gp_put, gp_adv1, gs_e q]
    · unfold gv_E
      simp +decide only [gp_adv1, gp_put, gs_s, gs_f]
      refine ⟨?_, ?_, ?_, ?_, ?_, ?_⟩
      · unfold gv_a at *; omega
      · unfold gv_p at *; omega
      · unfold gv_c at *; omega
      · unfold gv_d at *; omega
      · unfold gv_t at *; omega
      · unfold gv_r at *
        obtain ⟨q1, q2, q3, q4, q5, q6, q7, q8, q9, qa, qb, qc⟩ := b6
        exact ⟨q1, q2, q3, q4, q5, q6, q7, by omega, by omega, qa, by omega, fun p z => by have := qc p z; omega⟩
theorem iv_adv12e {K : Int} {G : gm_T} {e : Nat} {a : Int} (hI : gv_I K G) (he : e < 2) (hs : G.1 0 e = 3) (ha : 0 < a) (ham : a ≤ G.1 5 e - G.1 3 e) (h3 : G.1 0 e = 3 → a = 1) : gv_I K (gp_adv2 (gp_adv1 (gp_put G 0 e 4) e a) e) := by
  obtain ⟨a1, a2, a3, a4, a5, a6, a7, a8⟩ := hI
  obtain ⟨b1, b2, b3, b4, b5, b6⟩ := a5 e he
  have hT : (gp_adv1 (gp_put G 0 e 4) e a).1 24 e = G.1 24 e := by simp +decide only [gp_adv1, gp_put, gs_f]
  have hU : (gp_adv1 (gp_put G 0 e 4) e a).1 3 e = G.1 3 e + a := by simp +decide only [gp_adv1, gp_put, gs_s, gs_f]
  have hr : 2 ≤ gp_rt (gp_adv1 (gp_put G 0 e 4) e a) e ∧ gp_rt (gp_adv1 (gp_put G 0 e 4) e a) e ≤ 64 := by unfold gp_rt; split <;> (try split) <;> omega
  unfold gp_adv2
  rw [hT, hU]
  by_cases z : 0 ≤ G.1 24 e ∧ G.1 24 e < G.1 3 e + a
  · rw [if_pos z]
    have hso : 0 ≤ gp_so (gp_adv1 (gp_put G 0 e 4) e a) e ∧ gp_so (gp_adv1 (gp_put G 0 e 4) e a) e ≤ 8 * gm_N G := by
      unfold gp_so; rw [show gm_N (gp_adv1 (gp_put G 0 e 4) e a) = gm_N G from rfl]; simp +decide only [gp_adv1, gp_put, gs_f]; unfold gv_t at b5; split <;> omega
    have hva : 0 ≤ gp_va (gp_adv1 (gp_put G 0 e 4) e a) e ∧ gp_va (gp_adv1 (gp_put G 0 e 4) e a) e ≤ 4 * gm_N G + 3 := by
      unfold gp_va; rw [show gm_N (gp_adv1 (gp_put G 0 e 4) e a) = gm_N G from rfl]; simp +decide only [gp_adv1, gp_put, gs_f]; unfold gv_t at b5; split <;> (try split) <;> omega
    refine ⟨a1, a2, a3, a4, gv_up (e := e) (n := gm_N G) a5 (fun e' q f => ?_) (fun e' q => rfl) ?_, a6, a7, a8⟩
    · simp only [gp_put, gp_meas, gp_adv1, gs_e q]
    · unfold gv_E
      simp +decide only [gp_meas, gs_s, gs_f]
      generalize gp_so (gp_adv1 (gp_put G 0 e 4) e a) e = so at *
      generalize gp_va (gp_adv1 (gp_put G 0 e 4) e a) e = va at *
      generalize gp_rt (gp_adv1 (gp_put G 0 e 4) e a) e = rt at *
      simp +decide only [gp_adv1, gp_put, gs_s, gs_f]
      refine ⟨?_, ?_, ?_, ?_, ?_, ?_⟩
      · unfold gv_a at *; omega
      · unfold gv_p at *; omega
      · unfold gv_c at *; omega
      · unfold gv_d at *; omega
      · unfold gv_t at *; omega
      · unfold gv_r at *
        obtain ⟨q1, q2, q3, q4, q5, q6, q7, q8, q9, qa, qb, qc⟩ := b6
        exact ⟨q1, q2, q3, q4, q5, q6, q7, by omega, by omega, qa, by omega, fun p z => by have := qc p z; omega⟩
  · rw [if_neg z]
    refine ⟨a1, a2, a3, a4, gv_up (e := e) (n := gm_N G) a5 (fun e' q f => ?_) (fun e' q => rfl) ?_, a6, a7, a8⟩
    · simp only [gp_put, gp_adv1, gs_e q]
    · unfold gv_E
      simp +decide only [gp_adv1, gp_put, gs_s, gs_f]
      refine ⟨?_, ?_, ?_, ?_, ?_, ?_⟩
      · unfold gv_a at *; omega
      · unfold gv_p at *; omega
      · unfold gv_c at *; omega
      · unfold gv_d at *; omega
      · unfold gv_t at *; omega
      · unfold gv_r at *
        obtain ⟨q1, q2, q3, q4, q5, q6, q7, q8, q9, qa, qb, qc⟩ := b6
        exact ⟨q1, q2, q3, q4, q5, q6, q7, by omega, by omega, qa, by omega, fun p z => by have := qc p z; omega⟩
theorem iv_adv3 {K : Int} {G : gm_T} {e : Nat} (hI : gv_I K G) (he : e < 2) (hs : 4 ≤ G.1 0 e) : gv_I K (gp_adv3 G e) := by
  obtain ⟨a1, a2, a3, a4, a5, a6, a7, a8⟩ := hI
  obtain ⟨b1, b2, b3, b4, b5, b6⟩ := a5 e he
  have hx : 0 ≤ 64 / G.1 16 e := Int.ediv_nonneg (by omega) (by unfold gv_c at b3; omega)
  refine ⟨a1, a2, a3, a4, gv_up (e := e) (n := gm_N G) a5 (fun e' q f => ?_) (fun e' q => rfl) ?_, a6, a7, a8⟩
  · simp only [gp_adv3, gs_e q]
  · unfold gv_E
    simp +decide only [gp_adv3, gs_s, gs_f]
    generalize 64 / G.1 16 e = dv at *
    refine ⟨b1, b2, ?_, ?_, b5, b6⟩
    · unfold gv_c at *; split <;> (try split) <;> omega
    · unfold gv_c gv_d at *; split <;> omega
theorem iv_stput {K : Int} {G : gm_T} {e : Nat} {s : Int} (hI : gv_I K G) (he : e < 2) (h : (G.1 0 e = 5 ∧ s = 6) ∨ (G.1 0 e = 4 ∧ s = 7 ∧ G.1 11 e < 0 ∧ ∀ p, gm_H G e p = false) ∨ (G.1 0 e = 5 ∧ s = 8 ∧ G.1 11 e < 0 ∧ ∀ p, gm_H G e p = false)) : gv_I K (gp_put G 0 e s) := by
  obtain ⟨b1, b2, b3, b4, b5, b6⟩ := hI.2.2.2.2.1 e he
  refine iv_put hI ?_
  unfold gv_E
  simp +decide only [gs_s, gs_f]
  refine ⟨?_, ?_, ?_, ?_, ?_, ?_⟩
  · unfold gv_a at *; omega
  · unfold gv_p at *; omega
  · unfold gv_c at *; omega
  · unfold gv_d at *; omega
  · unfold gv_t at *; omega
  · unfold gv_r at *
    obtain ⟨q1, q2, q3, q4, q5, q6, q7, q8, q9, qa, qb, qc⟩ := b6
    refine ⟨q1, q2, q3, q4, q5, q6, q7, by omega, by omega, qa, by omega, fun p z => ?_⟩
    have := qc p z
    rcases h with h | h | h
    · omega
    · have := h.2.2.2 p; rw [z] at this; cases this
    · have := h.2.2.2 p; rw [z] at this; cases this
theorem iv_wait {K : Int} {G : gm_T} {e : Nat} (hI : gv_I K G) (he : e < 2) (h : G.1 0 e = 8 ∨ (G.1 0 e = 6 ∧ G.1 11 e < 0 ∧ ∀ p, gm_H G e p = false)) : gv_I K (gp_wait G e) := by
  obtain ⟨a1, a2, a3, a4, a5, a6, a7, a8⟩ := hI
  obtain ⟨b1, b2, b3, b4, b5, b6⟩ := a5 e he
  refine ⟨a1, a2, a3, a4, gv_up (e := e) (n := gm_N G) a5 (fun e' q f => ?_) (fun e' q => rfl) ?_, a6, a7, a8⟩
  · simp only [gp_wait, gs_e q]
  · unfold gv_E
    simp +decide only [gp_wait, gs_s, gs_f]
    refine ⟨?_, ?_, ?_, ?_, ?_, ?_⟩
    · unfold gv_a at *; omega
    · unfold gv_p at *; omega
    · unfold gv_c at *; omega
    · unfold gv_d at *; omega
    · unfold gv_t at *; omega
    · unfold gv_r at *
      obtain ⟨q1, q2, q3, q4, q5, q6, q7, q8, q9, qa, qb, qc⟩ := b6
      refine ⟨q1, q2, q3, q4, q5, q6, q7, by omega, by omega, qa, by omega, fun p z => ?_⟩
      have := qc p z
      rcases h with h | h
      · omega
      · have := h.2.2 p; rw [z] at this; cases this
theorem iv_finack {K : Int} {G : gm_T} {e : Nat} (hI : gv_I K G) (he : e < 2) : gv_I K (gp_finack G e) := by
  unfold gp_finack
  obtain ⟨b1, b2, b3, b4, b5, b6⟩ := hI.2.2.2.2.1 e he
  split
  · split
    · rename_i h; exact iv_stput hI he (Or.inl ⟨h, rfl⟩)
    · split
      · rename_i h; exact iv_wait hI he (Or.inl h)
      · split
        · exact iv_over hI he (by unfold gv_a at b1; omega) (by unfold gv_a at b1; omega)
        · exact hI
  · exact hI
theorem a1_ST {G : gm_T} {e : Nat} {a : Int} : (gp_adv2 (gp_adv1 G e a) e).1 0 e = G.1 0 e := by
  unfold gp_adv2; split <;> simp +decide only [gp_meas, gp_adv1, gs_f]
theorem iv_adv {K : Int} {G : gm_T} {e : Nat} {a : Int} (hI : gv_I K G) (he : e < 2) (hs : 3 ≤ G.1 0 e) (ha : 0 < a) (ham : a ≤ G.1 5 e - G.1 3 e) (h3 : G.1 0 e = 3 → a = 1) : gv_I K (gp_adv (gp_est G e) e a) := by
  unfold gp_adv gp_est
  by_cases q : G.1 0 e = 3
  · rw [if_pos q]
    refine iv_finack (iv_adv3 (iv_adv12e hI he q ha ham h3) he ?_) he
    rw [a1_ST]; show 4 ≤ gs_c _ _ _ _ _ _; rw [gs_s]; decide
  · rw [if_neg q]
    refine iv_finack (iv_adv3 (iv_adv12 hI he (by omega) ha ham h3) he ?_) he
    rw [a1_ST]; omega
theorem iv_again1 {K : Int} {G : gm_T} {e : Nat} (hI : gv_I K G) (he : e < 2) (hK : K + 1 ≤ 5000) (hs : 4 ≤ G.1 0 e) (hu : G.1 3 e ≠ G.1 5 e) : gv_I (K + 1) (gp_again1 G e) := by
  have hI1 := gv_mono (K' := K + 1) (by omega) hK hI
  obtain ⟨a1, a2, a3, a4, a5, a6, a7, a8⟩ := hI1
  obtain ⟨b1, b2, b3, b4, b5, b6⟩ := a5 e he
  have c3 := (hI.2.2.2.2.1 e he).2.2.1
  have hv : 8 ≤ gp_hv G e ∧ gp_hv G e ≤ 20 := by unfold gp_hv; unfold gv_p at b2; omega
  refine ⟨a1, a2, a3, a4, gv_up (e := e) (n := gm_N G) a5 (fun e' q f => ?_) (fun e' q => rfl) ?_, a6, a7, a8⟩
  · simp only [gp_again1, gs_e q]
  · unfold gv_E
    simp +decide only [gp_again1, gs_s, gs_f]
    generalize gp_hv G e = hv at *
    refine ⟨b1, b2, ?_, b4, ?_, b6⟩
    · unfold gv_c at *; omega
    · unfold gv_t at *; omega
theorem iv_again {K : Int} {G : gm_T} {e : Nat} (hI : gv_I K G) (he : e < 2) (hK : K + 1 ≤ 5000) (hs : 4 ≤ G.1 0 e) (hu : G.1 3 e ≠ G.1 5 e) : gv_I (K + 1) (gp_again G e) := by
  have hI1 := gv_mono (K' := K + 1) (by omega) hK hI
  obtain ⟨a1, a2, a3, a4, a5, a6, a7, a8⟩ := hI1
  obtain ⟨b1, b2, b3, b4, b5, b6⟩ := a5 e he
  have c3 := (hI.2.2.2.2.1 e he).2.2.1
  have hv : 8 ≤ gp_hv G e ∧ gp_hv G e ≤ 20 := by unfold gp_hv; unfold gv_p at b2; omega
  unfold gp_again
  split
  · have h1 := iv_again1 hI he hK hs hu
    have h2 : gv_I (K + 1) (gp_piece (gp_again1 G e) e) := iv_piece h1 he (by simp +decide only [gp_again1, gs_f]; exact hs) (by simp +decide only [gp_again1, gs_f]; unfold gv_p at b2; omega)
    obtain ⟨d1, d2, d3, d4, d5, d6⟩ := h2.2.2.2.2.1 e he
    refine iv_put h2 ?_
    unfold gv_E
    simp +decide only [gs_s, gs_f]
    refine ⟨d1, d2, ?_, d4, d5, d6⟩
    unfold gv_c at *
    omega
  · refine ⟨a1, a2, a3, a4, gv_up (e := e) (n := gm_N G) a5 (fun e' q f => ?_) (fun e' q => rfl) ?_, a6, a7, a8⟩
    · simp only [gs_e q]
    · unfold gv_E
      simp +decide only [gs_s, gs_f]
      refine ⟨b1, b2, ?_, b4, b5, b6⟩
      unfold gv_c at *; split <;> omega
theorem iv_win {K : Int} {G : gm_T} {e k : Nat} (hI : gv_I K G) (he : e < 2) (hk : k < 32) : gv_I K (gp_win G e k) := by
  obtain ⟨a1, a2, a3, a4, a5, a6, a7, a8⟩ := hI
  obtain ⟨b1, b2, b3, b4, b5, b6⟩ := a5 e he
  have l1 := a6.1 k hk
  unfold gp_win
  split
  · refine ⟨a1, a2, a3, a4, gv_up (e := e) (n := gm_N G) a5 (fun e' q f => ?_) (fun e' q => rfl) ?_, a6, a7, a8⟩
    · simp only [gs_e q]
    · unfold gv_E
      simp +decide only [gs_s, gs_f]
      refine ⟨b1, b2, ?_, b4, b5, b6⟩
      unfold gv_c at *; omega
  · exact ⟨a1, a2, a3, a4, a5, a6, a7, a8⟩
theorem iv_over' {K : Int} {G : gm_T} {e : Nat} {z : Int} (hI : gv_I K G) (he : e < 2) (h1 : 0 ≤ z) (h2 : z ≤ 6) : gv_I K (gp_over (gp_put G 20 e z) e 2) := by
  obtain ⟨a1, a2, a3, a4, a5, a6, a7, a8⟩ := hI
  obtain ⟨b1, b2, b3, b4, b5, b6⟩ := a5 e he
  refine ⟨a1, a2, a3, a4, gv_up (e := e) (n := gm_N G) a5 (fun e' q f => ?_) (fun e' q => ?_) ?_, a6, a7, a8⟩
  · simp only [gp_over, gp_put, gs_e q]
  · exact nn_O q
  · have hh : gm_H (gp_over (gp_put G 20 e z) e 2) e = fun _ => false := nn_E
    unfold gv_E
    rw [hh]
    simp +decide only [gp_over, gp_put, gs_s, gs_f]
    refine ⟨?_, ?_, ?_, ?_, ?_, ?_⟩
    · unfold gv_a at *; omega
    · unfold gv_p at *; omega
    · unfold gv_c at *; omega
    · unfold gv_d at *; omega
    · unfold gv_t at *; omega
    · unfold gv_r at *
      obtain ⟨q1, q2, q3, q4, q5, q6, q7, q8⟩ := b6
      exact ⟨q1, q2, q3, q4, q5, q6, q7, by omega, by omega, by omega, by omega, fun p z => by cases z⟩
theorem iv_late2 {K : Int} {G : gm_T} {e : Nat} (hI : gv_I K G) (he : e < 2) (h4 : 4 ≤ G.1 0 e) : gv_I K (gp_late2 G e) := by
  obtain ⟨a1, a2, a3, a4, a5, a6, a7, a8⟩ := hI
  obtain ⟨b1, b2, b3, b4, b5, b6⟩ := a5 e he
  have hv : 8 ≤ gp_hv G e ∧ gp_hv G e ≤ 20 := by unfold gp_hv; unfold gv_p at b2; omega
  refine ⟨a1, a2, a3, a4, gv_up (e := e) (n := gm_N G) a5 (fun e' q f => ?_) (fun e' q => rfl) ?_, a6, a7, a8⟩
  · simp only [gp_late2, gs_e q]
  · unfold gv_E
    simp +decide only [gp_late2, gs_s, gs_f]
    generalize gp_hv G e = hv at *
    refine ⟨b1, ?_, ?_, b4, b5, b6⟩
    · unfold gv_p at *; omega
    · unfold gv_c at *; omega
theorem iv_late {K : Int} {G : gm_T} {e : Nat} (hI : gv_I K G) (he : e < 2) (hs : 2 ≤ G.1 0 e) : gv_I K (gp_late G e) := by
  have hI0 := hI
  obtain ⟨a1, a2, a3, a4, a5, a6, a7, a8⟩ := hI
  obtain ⟨b1, b2, b3, b4, b5, b6⟩ := a5 e he
  unfold gp_late
  split
  · exact iv_over' hI0 he (by decide) (by decide)
  · rename_i hn
    have htr : 0 ≤ gp_tr G e ∧ gp_tr G e ≤ 5 := by unfold gp_tr; unfold gv_c at b3; split <;> omega
    have h1 : gv_I K (gp_late1 G e) := by
      refine ⟨a1, a2, a3, a4, gv_up (e := e) (n := gm_N G) a5 (fun e' q f => ?_) (fun e' q => rfl) ?_, a6, a7, a8⟩
      · simp only [gp_late1, gs_e q]
      · unfold gv_E
        simp +decide only [gp_late1, gs_s, gs_f]
        generalize gp_tr G e = tr at *
        refine ⟨b1, b2, ?_, ?_, ?_, b6⟩
        · unfold gv_c at *; omega
        · unfold gv_c gv_d at *; omega
        · unfold gv_t at *; omega
    have hST : (gp_late1 G e).1 0 e = G.1 0 e := by simp +decide only [gp_late1, gs_f]
    have hUU : (gp_late1 G e).1 3 e = G.1 3 e := by simp +decide only [gp_late1, gs_f]
    have hMM : (gp_late1 G e).1 5 e = G.1 5 e := by simp +decide only [gp_late1, gs_f]
    split
    · exact iv_send h1 he (by omega) (Or.inl rfl) (by omega) (by omega) (Or.inr (Or.inl rfl))
    · rename_i hum
      split
      · refine iv_send h1 he (by omega) (Or.inr (Or.inl rfl)) (by omega) (by omega) (Or.inl ?_)
        rw [hMM, show gp_len 1 0 = 1 from by decide]; unfold gv_p at b2; omega
      · rename_i h4
        have hv : 8 ≤ gp_hv (gp_late1 G e) e ∧ gp_hv (gp_late1 G e) e ≤ 20 := by unfold gp_hv; rw [hUU, hMM]; unfold gv_p at b2; omega
        have h2 : gv_I K (gp_late2 (gp_late1 G e) e) := by
          obtain ⟨a1, a2, a3, a4, a5, a6, a7, a8⟩ := h1
          obtain ⟨b1, b2, b3, b4, b5, b6⟩ := a5 e he
          refine ⟨a1, a2, a3, a4, gv_up (e := e) (n := gm_N G) a5 (fun e' q f => ?_) (fun e' q => rfl) ?_, a6, a7, a8⟩
          · simp only [gp_late2, gs_e q]
          · unfold gv_E
            simp +decide only [gp_late2, gs_s, gs_f]
            generalize gp_hv (gp_late1 G e) e = hv at *
            refine ⟨b1, ?_, ?_, b4, b5, b6⟩
            · rw [hUU, hST] at *; unfold gv_p at *; omega
            · unfold gv_c at *; omega
        split
        · exact iv_piece h2 he (by simp +decide only [gp_late2, gs_f]; omega) (by simp +decide only [gp_late2, gs_f]; rw [hUU, hMM]; unfold gv_p at b2; omega)
        · exact iv_flow h2 he
end
section
/-! the bounds last: bytes put in order -/
def gw_r (B ST IR RV UR UF FA : Int) (h : Int → Bool) : Prop :=
  0 ≤ IR ∧ IR ≤ 65535 ∧ 0 ≤ RV ∧ RV + (24 - UR) ≤ B ∧ 0 ≤ UR ∧ UR ≤ 24 ∧ 0 ≤ UF ∧ 4 ≤ ST ∧ ST ≤ 6 ∧ UF + UR = RV ∧ -1 ≤ FA ∧ (0 ≤ FA → RV ≤ FA ∧ FA < RV + 24 - UR) ∧ (∀ p, h p = true → RV ≤ p ∧ p < RV + 24 - UR)
def gw_I (B K : Int) (G : gm_T) (e : Nat) : Prop := 0 ≤ K ∧ K + 7 ≤ 5000 ∧ 0 ≤ gm_N G ∧ gm_N G ≤ 125 * K ∧ (∀ e', e' < 2 → e' ≠ e → gv_E K (gm_N G) G.1 (gm_H G) e')
  ∧ (gv_a (G.1 0 e) (G.1 1 e) (G.1 2 e) (G.1 30 e) ∧ gv_p K (G.1 0 e) (G.1 3 e) (G.1 4 e) (G.1 5 e) (G.1 6 e) (G.1 29 e) (G.1 31 e) (G.1 32 e) (G.1 33 e) ∧ gv_c K (G.1 0 e) (G.1 12 e) (G.1 13 e) (G.1 14 e) (G.1 15 e) (G.1 16 e) (G.1 17 e) (G.1 18 e) (G.1 34 e) (G.1 20 e) (G.1 35 e) (G.1 19 e) ∧ gv_d (gm_N G) (G.1 0 e) (G.1 21 e) (G.1 22 e) (G.1 23 e) ∧ gv_t (gm_N G) (G.1 0 e) (G.1 3 e) (G.1 5 e) (G.1 24 e) (G.1 25 e) (G.1 26 e) (G.1 27 e) (G.1 28 e))
  ∧ gw_r B (G.1 0 e) (G.1 7 e) (G.1 8 e) (G.1 9 e) (G.1 10 e) (G.1 11 e) (gm_H G e) ∧ gv_L (gm_L G) (gm_D G) ∧ gv_W (gm_W G) ∧ gv_W (gm_B G)
theorem nw_e {G : gm_T} {e k : Nat} {o m p : Int} : gp_new G e k o m p = true ↔ (0 ≤ p - G.1 8 e - o ∧ p - G.1 8 e - o < m ∧ 0 ≤ p - G.1 8 e ∧ p - G.1 8 e < 24 - G.1 9 e ∧ (G.1 11 e < 0 ∨ p < G.1 11 e)) := sorry
theorem iv_hold {K : Int} {G : gm_T} {e k : Nat} {o : Int} (hI : gv_I K G) (he : e < 2) (hk : k < 32) (hK : K + 7 ≤ 5000) (h4 : 4 ≤ G.1 0 e) (h6 : G.1 0 e ≤ 6) : gw_I (4 * K + 28) K (gp_hold G e k o) e := sorry
theorem iv_gstep {B K : Int} {G : gm_T} {e : Nat} (hI : gw_I B K G e) (h : gm_H G e (G.1 8 e) = true) (h2 : G.1 8 e ≠ G.1 11 e) : gw_I B K (gp_gstep G e) e := sorry
theorem gs_st {G : gm_T} {e : Nat} {f : Nat} (h1 : f ≠ 9) (h2 : f ≠ 8) (e' : Nat) : (gp_gstep G e).1 f e' = G.1 f e' := sorry
theorem iv_gloop {B K : Int} {e : Nat} : ∀ (k : Nat) (G : gm_T), gw_I B K G e → 24 - G.1 9 e ≤ k → gw_I B K (gp_gloop k G e) e ∧ ¬ (gm_H (gp_gloop k G e) e ((gp_gloop k G e).1 8 e) = true ∧ (gp_gloop k G e).1 8 e ≠ (gp_gloop k G e).1 11 e) := sorry
theorem gl_f {f : Nat} (h1 : f ≠ 9) (h2 : f ≠ 8) : ∀ (k : Nat) (G : gm_T) (e e' : Nat), (gp_gloop k G e).1 f e' = G.1 f e' := sorry
theorem iv_gfin {K : Int} {G : gm_T} {e : Nat} (hI : gw_I (4 * K + 28) K G e) (he : e < 2) (hn : ¬ (gm_H G e (G.1 8 e) = true ∧ G.1 8 e ≠ G.1 11 e)) : gv_I (K + 7) (gp_gfin G e) := sorry
theorem iv_take {K : Int} {G : gm_T} {e k : Nat} {o : Int} (hI : gv_I K G) (he : e < 2) (hk : k < 32) (hK : K + 7 ≤ 5000) : gv_I (K + 7) (gp_take G e k o) := sorry
theorem tk_ST {G : gm_T} {e k : Nat} {o : Int} (h : 4 ≤ G.1 0 e) : 4 ≤ (gp_take G e k o).1 0 e := sorry
theorem iv_setAK {K : Int} {G : gm_T} {e : Nat} {z : Int} (hI : gv_I K G) (he : e < 2) (hs : 3 ≤ G.1 0 e) (h1 : -1 ≤ z) (h2 : z ≤ gm_N G + 2) : gv_I K (gp_put G 22 e z) := sorry
theorem tk_N {G : gm_T} {e k : Nat} {o : Int} : gm_N (gp_take G e k o) = gm_N G := sorry
theorem iv_content {K : Int} {G : gm_T} {e k : Nat} {o : Int} (hI : gv_I K G) (he : e < 2) (hk : k < 32) (hK : K + 7 ≤ 5000) (h4 : 4 ≤ G.1 0 e) : gv_I (K + 7) (gp_content G e k o) := sorry
theorem iv_same {K : Int} {G : gm_T} {e k : Nat} (hI : gv_I K G) (he : e < 2) (hK : K + 1 ≤ 5000) (hs : 4 ≤ G.1 0 e) : gv_I (K + 1) (gp_same G e k) := sorry
end
section
/-! the bounds last: a segment arrives, rows, time, calls; the other end stays -/
theorem ps_o {G : gm_T} {e e' : Nat} {a0 a1 a2 a3 a4 : Int} {g : Int → Int} (q : e' ≠ e) (f : Nat) : (gp_post G e a0 a1 a2 a3 a4 g).1 f e' = G.1 f e' := sorry
theorem rs_o {G : gm_T} {e e' : Nat} {a0 a1 a2 : Int} (q : e' ≠ e) (f : Nat) : (gp_rst G e a0 a1 a2).1 f e' = G.1 f e' := sorry
theorem pu_o {G : gm_T} {e e' g : Nat} {z : Int} (q : e' ≠ e) (f : Nat) : (gp_put G g e z).1 f e' = G.1 f e' := sorry
theorem lo_o {e e' : Nat} (q : e' ≠ e) (f : Nat) : ∀ (k : Nat) (G : gm_T), (gp_loop k G e).1 f e' = G.1 f e' := sorry
theorem fl_o {G : gm_T} {e e' : Nat} (q : e' ≠ e) (f : Nat) : (gp_flow G e).1 f e' = G.1 f e' := sorry
theorem pc_o {G : gm_T} {e e' : Nat} (q : e' ≠ e) (f : Nat) : (gp_piece G e).1 f e' = G.1 f e' := sorry
theorem ms_o {G : gm_T} {e e' : Nat} (q : e' ≠ e) (f : Nat) : (gp_meas G e).1 f e' = G.1 f e' := sorry
theorem ov_o {G : gm_T} {e e' : Nat} {z : Int} (q : e' ≠ e) (f : Nat) : (gp_over G e z).1 f e' = G.1 f e' := sorry
theorem he_o {G : gm_T} {e e' k : Nat} (q : e' ≠ e) (f : Nat) : (gp_hear G e k).1 f e' = G.1 f e' := sorry
theorem tc_o {G : gm_T} {e e' k : Nat} (q : e' ≠ e) (f : Nat) : (gp_toClosed G e k).1 f e' = G.1 f e' := sorry
theorem tl_o {G : gm_T} {e e' k : Nat} (q : e' ≠ e) (f : Nat) : (gp_toListen G e k).1 f e' = G.1 f e' := sorry
theorem to_o {G : gm_T} {e e' k : Nat} (q : e' ≠ e) (f : Nat) : (gp_toOpen G e k).1 f e' = G.1 f e' := sorry
theorem ad_o {G : gm_T} {e e' : Nat} {a : Int} (q : e' ≠ e) (f : Nat) : (gp_adv G e a).1 f e' = G.1 f e' := sorry
theorem sm_o {G : gm_T} {e e' k : Nat} (q : e' ≠ e) (f : Nat) : (gp_same G e k).1 f e' = G.1 f e' := sorry
theorem wi_o {G : gm_T} {e e' k : Nat} (q : e' ≠ e) (f : Nat) : (gp_win G e k).1 f e' = G.1 f e' := sorry
theorem gl_o {e e' : Nat} (q : e' ≠ e) (f : Nat) : ∀ (k : Nat) (G : gm_T), (gp_gloop k G e).1 f e' = G.1 f e' := sorry
theorem tk_o {G : gm_T} {e e' k : Nat} {o : Int} (q : e' ≠ e) (f : Nat) : (gp_take G e k o).1 f e' = G.1 f e' := sorry
theorem ct_o {G : gm_T} {e e' k : Nat} {o : Int} (q : e' ≠ e) (f : Nat) : (gp_content G e k o).1 f e' = G.1 f e' := sorry
theorem nk_o {G : gm_T} {e e' k : Nat} {a : Int} (q : e' ≠ e) (f : Nat) : (gp_newack G e k a).1 f e' = G.1 f e' := sorry
theorem es_o {G : gm_T} {e e' : Nat} (q : e' ≠ e) (f : Nat) : (gp_est G e).1 f e' = G.1 f e' := sorry
theorem go_o {G : gm_T} {e e' k : Nat} {o a : Int} (q : e' ≠ e) (f : Nat) : (gp_go G e k o a).1 f e' = G.1 f e' := sorry
theorem cn_o {G : gm_T} {e e' k : Nat} (q : e' ≠ e) (f : Nat) : (gp_conn G e k).1 f e' = G.1 f e' := sorry
theorem ar_o {G : gm_T} {e e' k : Nat} (q : e' ≠ e) (f : Nat) : (gp_arrive G e k).1 f e' = G.1 f e' := sorry
/-- the state behind an acknowledgement -/
theorem nk_ST {G : gm_T} {e k : Nat} {a : Int} (h : 4 ≤ G.1 0 e) : (gp_newack G e k a).1 0 e = 0 ∨ 4 ≤ (gp_newack G e k a).1 0 e := sorry
theorem iv_go {K : Int} {G : gm_T} {e k : Nat} {o a : Int} (hI : gv_I K G) (he : e < 2) (hk : k < 32) (hK : K + 8 ≤ 5000) (hs : 3 ≤ G.1 0 e) (ham : a ≤ G.1 5 e - G.1 3 e) (h3 : G.1 0 e = 3 → a = 1) : gv_I (K + 8) (gp_go (gp_est G e) e k o a) := sorry
theorem iv_conn {K : Int} {G : gm_T} {e k : Nat} (hI : gv_I K G) (he : e < 2) (hk : k < 32) (hK : K + 8 ≤ 5000) (hs : 3 ≤ G.1 0 e) : gv_I (K + 8) (gp_conn G e k) := sorry
theorem iv_arrive {K : Int} {G : gm_T} {e k : Nat} (hI : gv_I K G) (he : e < 2) (hk : k < 32) (hK : K + 8 ≤ 5000) : gv_I (K + 8) (gp_arrive G e k) := sorry
theorem iv_rm {K : Int} {G : gm_T} {e k : Nat} (hI : gv_I K G) (he : e < 2) (h1 : 1 ≤ G.1 30 e) : gv_I K (gp_rm G e k) := sorry
theorem iv_zero {K : Int} {G : gm_T} (hI : gv_I K G) : gv_I K (gp_zero G) := sorry
theorem iv_deliver {K : Int} {G : gm_T} {e k : Nat} (hI : gv_I K G) (he : e < 2) (hK : K + 8 ≤ 5000) (hk : (k : Int) < G.1 30 e) : gv_I (K + 8) (gp_deliver G e k) := sorry
theorem iv_slot {K : Int} {G : gm_T} {e : Nat} {l : Nat → Nat → Int} {d : Nat → Int} {s : Int} (hI : gv_I K G) (he : e < 2) (hr : G.1 30 e < 16) (hl : gv_L l d) : gv_I K (gs_c G.1 30 e (G.1 30 e + 1), gm_W G, gm_B G, gm_H G, l, d, gm_N G, s) := sorry
theorem iv_forge {K : Int} {G : gm_T} {e : Nat} {num flag ack win n b : Int} (hI : gv_I K G) (he : e < 2) (hr : G.1 30 e < 16) (h1 : 0 ≤ num ∧ num ≤ 65535) (h2 : 0 ≤ flag ∧ flag ≤ 15) (h3 : 0 ≤ ack ∧ ack ≤ 65535) (h4 : 0 ≤ win ∧ win ≤ 24) (h5 : 0 ≤ n ∧ n ≤ 8) : gv_I K (gp_forge G e num flag ack win n b) := sorry
theorem iv_twice {K : Int} {G : gm_T} {e k : Nat} (hI : gv_I K G) (he : e < 2) (hr : G.1 30 e < 16) (hk : k < 16) : gv_I K (gp_twice G e k) := sorry
theorem gv_d1 {n ST RY AK WT : Int} (h : gv_d n ST RY AK WT) : gv_d (n + 1) ST RY AK WT := sorry
theorem iv_now {K : Int} {G : gm_T} (hI : gv_I K G) (h : gm_N G + 1 ≤ 125 * K) : gv_I K (gp_now G) := sorry
theorem iv_pass {K : Int} {G : gm_T} {e : Nat} (hI : gv_I K G) (he : e < 2) : gv_I K (gp_pass G e) := sorry
theorem iv_wr {K : Int} {G : gm_T} {e : Nat} {cnt : Int} {g : Int → Int} (hI : gv_I K G) (he : e < 2) (hK : K + 8 ≤ 5000) (hs : G.1 0 e = 2 ∨ G.1 0 e = 3 ∨ G.1 0 e = 4 ∨ G.1 0 e = 7) (h0 : 0 ≤ cnt) (h8 : cnt ≤ 8) (h32 : cnt ≤ 32 - G.1 31 e) (hg : ∀ i, 0 ≤ g i ∧ g i ≤ 255) : gv_I (K + 8) (gp_wr G e cnt g) := sorry
theorem iv_rd {K : Int} {G : gm_T} {e : Nat} {m : Int} (hI : gv_I K G) (he : e < 2) (h0 : 0 ≤ m) (h1 : m ≤ G.1 9 e) : gv_I K (gp_rd G e m) := sorry
theorem iv_read {K : Int} {G : gm_T} {e : Nat} {m : Int} (hI : gv_I K G) (he : e < 2) (h0 : 0 ≤ m) (h1 : m ≤ G.1 9 e) : gv_I K (gp_read G e m) := sorry
theorem iv_cls {K : Int} {G : gm_T} {e : Nat} {s : Int} (hI : gv_I K G) (he : e < 2) (h : (G.1 0 e = 4 ∧ s = 5) ∨ (G.1 0 e = 7 ∧ s = 9)) : gv_I K (gs_c (gs_c G.1 0 e s) 29 e 1, G.2) := sorry
theorem iv_close {K : Int} {G : gm_T} {e : Nat} (hI : gv_I K G) (he : e < 2) : gv_I K (gp_close G e) := sorry
theorem iv_abort {K : Int} {G : gm_T} {e : Nat} (hI : gv_I K G) (he : e < 2) : gv_I K (gp_abort G e) := sorry
end
section
/-! the two states as pictures of G -/
def vx_S (q : Int) (G : gm_T) (u : SX) : Prop := match u with
  | (f_now, f_sent, a_stateOf, a_error, a_iss, a_una, a_nxt, a_max, a_writtenTo, a_kept, a_keptBytes, a_rcv, a_unread, a_unreadFrom, a_cameBytes, a_held, a_heldFin, a_wnd, a_wndSeq, a_wndAck, a_peak, a_half, a_same, a_rto, a_tries, a_retryAt, a_ackAt, a_waitTill, a_timedAt, a_timedSeq, a_smoothed, a_variance, a_rowCount, a_slotSeq, a_slotFlags, a_slotAck, a_slotWindow, a_slotSize, a_slotBytes) => (f_now = zi_n (gm_N G)) ∧ (f_sent = zi_n (gm_S G + q)) ∧ (∀ e, e < 2 → a_stateOf e = zi_n (G.1 0 e)) ∧ (∀ e, e < 2 → a_error e = zi_n (G.1 1 e)) ∧ (∀ e, e < 2 → a_iss e = zi_n (G.1 2 e)) ∧ (∀ e, e < 2 → a_una e = zi_n ((G.1 2 e + G.1 3 e) % 65536)) ∧ (∀ e, e < 2 → a_nxt e = zi_n ((G.1 2 e + G.1 4 e) % 65536)) ∧ (∀ e, e < 2 → a_max e = zi_n ((G.1 2 e + G.1 5 e) % 65536)) ∧ (∀ e, e < 2 → a_writtenTo e = zi_n ((G.1 2 e + G.1 6 e) % 65536)) ∧ (∀ e, e < 2 → a_kept e = zi_n (G.1 31 e)) ∧ (∀ e, e < 2 → ∀ p : Int, 1 ≤ p → p < G.1 6 e → G.1 6 e - 32 ≤ p → a_keptBytes (32 * e + ((G.1 2 e + p) % 32).toNat) = zi_n (zi_b (gm_W G e p))) ∧ (∀ e, e < 2 → a_rcv e = zi_n ((G.1 7 e + G.1 8 e) % 65536)) ∧ (∀ e, e < 2 → a_unread e = zi_n (G.1 9 e)) ∧ (∀ e, e < 2 → a_unreadFrom e = zi_n ((G.1 7 e + G.1 10 e) % 65536)) ∧ (∀ e, e < 2 → ∀ p : Int, ((G.1 10 e ≤ p ∧ p < G.1 10 e + G.1 9 e) ∨ gm_H G e p = true) → a_cameBytes (32 * e + ((G.1 7 e + p) % 32).toNat) = zi_n (zi_b (gm_B G e p))) ∧ (∀ e, e < 2 → ∀ p : Int, G.1 8 e ≤ p → p < G.1 8 e + 32 → a_held (32 * e + ((G.1 7 e + p) % 32).toNat) = (if gm_H G e p = true then 1 else 0)) ∧ (∀ e, e < 2 → a_heldFin e = zi_n (if G.1 11 e < 0 then -1 else (G.1 7 e + G.1 11 e) % 65536)) ∧ (∀ e, e < 2 → a_wnd e = zi_n (G.1 12 e)) ∧ (∀ e, e < 2 → a_wndSeq e = zi_n (if G.1 13 e = 0 then -1 else G.1 14 e)) ∧ (∀ e, e < 2 → G.1 13 e ≠ 0 → a_wndAck e = zi_n (G.1 15 e)) ∧ (∀ e, e < 2 → a_peak e = zi_n (G.1 16 e)) ∧ (∀ e, e < 2 → a_half e = zi_n (G.1 17 e)) ∧ (∀ e, e < 2 → a_same e = zi_n (G.1 18 e)) ∧ (∀ e, e < 2 → a_rto e = zi_n (G.1 19 e)) ∧ (∀ e, e < 2 → a_tries e = zi_n (G.1 20 e)) ∧ (∀ e, e < 2 → a_retryAt e = zi_n (G.1 21 e)) ∧ (∀ e, e < 2 → a_ackAt e = zi_n (G.1 22 e)) ∧ (∀ e, e < 2 → a_waitTill e = zi_n (G.1 23 e)) ∧ (∀ e, e < 2 → a_timedAt e = zi_n (if G.1 24 e < 0 then -1 else G.1 25 e)) ∧ (∀ e, e < 2 → 0 ≤ G.1 24 e → a_timedSeq e = zi_n ((G.1 2 e + G.1 24 e) % 65536)) ∧ (∀ e, e < 2 → a_smoothed e = zi_n (if G.1 26 e = 0 then -1 else G.1 27 e)) ∧ (∀ e, e < 2 → a_variance e = zi_n (G.1 28 e)) ∧ (∀ e, e < 2 → a_rowCount e = zi_n (G.1 30 e)) ∧ (∀ i, i < 32 → a_slotSeq i = zi_n (gm_L G 0 i)) ∧ (∀ i, i < 32 → a_slotFlags i = zi_n (gm_L G 1 i)) ∧ (∀ i, i < 32 → a_slotAck i = zi_n (gm_L G 2 i)) ∧ (∀ i, i < 32 → a_slotWindow i = zi_n (gm_L G 3 i)) ∧ (∀ i, i < 32 → a_slotSize i = zi_n (gm_L G 4 i)) ∧ (∀ j, j < 256 → a_slotBytes j = zi_n (zi_b (gm_D G j)))
def vy_S (q : Int) (G : gm_T) (u : SY) : Prop := match u with
  | (f_now, f_sent, a_seq, a_flags, a_acked, a_window, a_many, a_data, a_rows, a_state, a_error, a_iss, a_una, a_nxt, a_max, a_last, a_closed, a_written, a_irs, a_unread, a_bytes, a_held, a_rcv, a_finAt, a_marked, a_wnd, a_peak, a_half, a_rto, a_same, a_tries, a_smooth, a_spread, a_byNumber, a_byAck, a_sampled, a_told, a_retry, a_ackAt, a_waitAt, a_timedAt, a_timed) => (f_now = zi_n (gm_N G)) ∧ (f_sent = zi_n (gm_S G + q)) ∧ (∀ i, i < 32 → a_seq i = zi_n (gm_L G 0 i)) ∧ (∀ i, i < 32 → a_flags i = zi_n (gm_L G 1 i)) ∧ (∀ i, i < 32 → a_acked i = zi_n (gm_L G 2 i)) ∧ (∀ i, i < 32 → a_window i = zi_n (gm_L G 3 i)) ∧ (∀ i, i < 32 → a_many i = zi_n (gm_L G 4 i)) ∧ (∀ j, j < 256 → a_data j = zi_n (gm_D G j)) ∧ (∀ e, e < 2 → a_rows e = zi_n (G.1 30 e)) ∧ (∀ e, e < 2 → a_state e = zi_n (G.1 0 e)) ∧ (∀ e, e < 2 → a_error e = zi_n (G.1 1 e)) ∧ (∀ e, e < 2 → a_iss e = zi_n (G.1 2 e)) ∧ (∀ e, e < 2 → a_una e = zl_n (G.1 32 e)) ∧ (∀ e, e < 2 → a_nxt e = zl_n (G.1 4 e)) ∧ (∀ e, e < 2 → a_max e = zl_n (G.1 5 e)) ∧ (∀ e, e < 2 → a_last e = zl_n (G.1 33 e)) ∧ (∀ e, e < 2 → a_closed e = zi_n (G.1 29 e)) ∧ (∀ e, e < 2 → ∀ p : Int, 1 ≤ p → p < G.1 33 e → G.1 33 e - 64 ≤ p → a_written (64 * e + (p % 64).toNat) = zi_n (gm_W G e p)) ∧ (∀ e, e < 2 → a_irs e = zi_n (G.1 7 e)) ∧ (∀ e, e < 2 → a_unread e = zi_n (G.1 9 e)) ∧ (∀ e, e < 2 → ∀ i : Nat, (i : Int) < G.1 9 e → a_bytes (24 * e + i) = zi_n (gm_B G e (G.1 10 e + i))) ∧ (∀ e, e < 2 → ∀ p : Int, gm_H G e p = true → a_held (64 * e + (p % 64).toNat) = zi_n (gm_B G e p)) ∧ (∀ e, e < 2 → a_rcv e = zl_n (G.1 8 e)) ∧ (∀ e, e < 2 → a_finAt e = zl_n (G.1 11 e)) ∧ (∀ e, e < 2 → ∀ p : Int, G.1 8 e ≤ p → p < G.1 8 e + 64 → a_marked (64 * e + (p % 64).toNat) = (if gm_H G e p = true then 1 else 0)) ∧ (∀ e, e < 2 → a_wnd e = zi_n (G.1 12 e)) ∧ (∀ e, e < 2 → a_peak e = zi_n (G.1 16 e)) ∧ (∀ e, e < 2 → a_half e = zi_n (G.1 17 e)) ∧ (∀ e, e < 2 → a_rto e = zi_n (G.1 19 e)) ∧ (∀ e, e < 2 → a_same e = zi_n (G.1 34 e)) ∧ (∀ e, e < 2 → a_tries e = zi_n (G.1 35 e)) ∧ (∀ e, e < 2 → a_smooth e = zi_n (G.1 27 e)) ∧ (∀ e, e < 2 → a_spread e = zi_n (G.1 28 e)) ∧ (∀ e, e < 2 → a_byNumber e = zi_n (G.1 14 e)) ∧ (∀ e, e < 2 → a_byAck e = zi_n (G.1 15 e)) ∧ (∀ e, e < 2 → a_sampled e = zi_n (G.1 26 e)) ∧ (∀ e, e < 2 → a_told e = zi_n (G.1 13 e)) ∧ (∀ e, e < 2 → a_retry e = zi_n (G.1 21 e)) ∧ (∀ e, e < 2 → a_ackAt e = zi_n (G.1 22 e)) ∧ (∀ e, e < 2 → a_waitAt e = zi_n (G.1 23 e)) ∧ (∀ e, e < 2 → a_timedAt e = zi_n (G.1 25 e)) ∧ (∀ e, e < 2 → a_timed e = zl_n (G.1 24 e))
theorem vx_mk {q : Int} {G : gm_T} {f_now : Int32} {f_sent : Int32} {a_stateOf : (Nat → Int32)} {a_error : (Nat → Int32)} {a_iss : (Nat → Int32)} {a_una : (Nat → Int32)} {a_nxt : (Nat → Int32)} {a_max : (Nat → Int32)} {a_writtenTo : (Nat → Int32)} {a_kept : (Nat → Int32)} {a_keptBytes : (Nat → Int32)} {a_rcv : (Nat → Int32)} {a_unread : (Nat → Int32)} {a_unreadFrom : (Nat → Int32)} {a_cameBytes : (Nat → Int32)} {a_held : (Nat → Int32)} {a_heldFin : (Nat → Int32)} {a_wnd : (Nat → Int32)} {a_wndSeq : (Nat → Int32)} {a_wndAck : (Nat → Int32)} {a_peak : (Nat → Int32)} {a_half : (Nat → Int32)} {a_same : (Nat → Int32)} {a_rto : (Nat → Int32)} {a_tries : (Nat → Int32)} {a_retryAt : (Nat → Int32)} {a_ackAt : (Nat → Int32)} {a_waitTill : (Nat → Int32)} {a_timedAt : (Nat → Int32)} {a_timedSeq : (Nat → Int32)} {a_smoothed : (Nat → Int32)} {a_variance : (Nat → Int32)} {a_rowCount : (Nat → Int32)} {a_slotSeq : (Nat → Int32)} {a_slotFlags : (Nat → Int32)} {a_slotAck : (Nat → Int32)} {a_slotWindow : (Nat → Int32)} {a_slotSize : (Nat → Int32)} {a_slotBytes : (Nat → Int32)} (h_now : f_now = zi_n (gm_N G)) (h_sent : f_sent = zi_n (gm_S G + q)) (h_stateOf : ∀ e, e < 2 → a_stateOf e = zi_n (G.1 0 e)) (h_error : ∀ e, e < 2 → a_error e = zi_n (G.1 1 e)) (h_iss : ∀ e, e < 2 → a_iss e = zi_n (G.1 2 e)) (h_una : ∀ e, e < 2 → a_una e = zi_n ((G.1 2 e + G.1 3 e) % 65536)) (h_nxt : ∀ e, e < 2 → a_nxt e = zi_n ((G.1 2 e + G.1 4 e) % 65536)) (h_max : ∀ e, e < 2 → a_max e = zi_n ((G.1 2 e + G.1 5 e) % 65536)) (h_writtenTo : ∀ e, e < 2 → a_writtenTo e = zi_n ((G.1 2 e + G.1 6 e) % 65536)) (h_kept : ∀ e, e < 2 → a_kept e = zi_n (G.1 31 e)) (h_keptBytes : ∀ e, e < 2 → ∀ p : Int, 1 ≤ p → p < G.1 6 e → G.1 6 e - 32 ≤ p → a_keptBytes (32 * e + ((G.1 2 e + p) % 32).toNat) = zi_n (zi_b (gm_W G e p))) (h_rcv : ∀ e, e < 2 → a_rcv e = zi_n ((G.1 7 e + G.1 8 e) % 65536)) (h_unread : ∀ e, e < 2 → a_unread e = zi_n (G.1 9 e)) (h_unreadFrom : ∀ e, e < 2 → a_unreadFrom e = zi_n ((G.1 7 e + G.1 10 e) % 65536)) (h_cameBytes : ∀ e, e < 2 → ∀ p : Int, ((G.1 10 e ≤ p ∧ p < G.1 10 e + G.1 9 e) ∨ gm_H G e p = true) → a_cameBytes (32 * e + ((G.1 7 e + p) % 32).toNat) = zi_n (zi_b (gm_B G e p))) (h_held : ∀ e, e < 2 → ∀ p : Int, G.1 8 e ≤ p → p < G.1 8 e + 32 → a_held (32 * e + ((G.1 7 e + p) % 32).toNat) = (if gm_H G e p = true then 1 else 0)) (h_heldFin : ∀ e, e < 2 → a_heldFin e = zi_n (if G.1 11 e < 0 then -1 else (G.1 7 e + G.1 11 e) % 65536)) (h_wnd : ∀ e, e < 2 → a_wnd e = zi_n (G.1 12 e)) (h_wndSeq : ∀ e, e < 2 → a_wndSeq e = zi_n (if G.1 13 e = 0 then -1 else G.1 14 e)) (h_wndAck : ∀ e, e < 2 → G.1 13 e ≠ 0 → a_wndAck e = zi_n (G.1 15 e)) (h_peak : ∀ e, e < 2 → a_peak e = zi_n (G.1 16 e)) (h_half : ∀ e, e < 2 → a_half e = zi_n (G.1 17 e)) (h_same : ∀ e, e < 2 → a_same e = zi_n (G.1 18 e)) (h_rto : ∀ e, e < 2 → a_rto e = zi_n (G.1 19 e)) (h_tries : ∀ e, e < 2 → a_tries e = zi_n (G.1 20 e)) (h_retryAt : ∀ e, e < 2 → a_retryAt e = zi_n (G.1 21 e)) (h_ackAt : ∀ e, e < 2 → a_ackAt e = zi_n (G.1 22 e)) (h_waitTill : ∀ e, e < 2 → a_waitTill e = zi_n (G.1 23 e)) (h_timedAt : ∀ e, e < 2 → a_timedAt e = zi_n (if G.1 24 e < 0 then -1 else G.1 25 e)) (h_timedSeq : ∀ e, e < 2 → 0 ≤ G.1 24 e → a_timedSeq e = zi_n ((G.1 2 e + G.1 24 e) % 65536)) (h_smoothed : ∀ e, e < 2 → a_smoothed e = zi_n (if G.1 26 e = 0 then -1 else G.1 27 e)) (h_variance : ∀ e, e < 2 → a_variance e = zi_n (G.1 28 e)) (h_rowCount : ∀ e, e < 2 → a_rowCount e = zi_n (G.1 30 e)) (h_slotSeq : ∀ i, i < 32 → a_slotSeq i = zi_n (gm_L G 0 i)) (h_slotFlags : ∀ i, i < 32 → a_slotFlags i = zi_n (gm_L G 1 i)) (h_slotAck : ∀ i, i < 32 → a_slotAck i = zi_n (gm_L G 2 i)) (h_slotWindow : ∀ i, i < 32 → a_slotWindow i = zi_n (gm_L G 3 i)) (h_slotSize : ∀ i, i < 32 → a_slotSize i = zi_n (gm_L G 4 i)) (h_slotBytes : ∀ j, j < 256 → a_slotBytes j = zi_n (zi_b (gm_D G j))) : vx_S q G (f_now, f_sent, a_stateOf, a_error, a_iss, a_una, a_nxt, a_max, a_writtenTo, a_kept, a_keptBytes, a_rcv, a_unread, a_unreadFrom, a_cameBytes, a_held, a_heldFin, a_wnd, a_wndSeq, a_wndAck, a_peak, a_half, a_same, a_rto, a_tries, a_retryAt, a_ackAt, a_waitTill, a_timedAt, a_timedSeq, a_smoothed, a_variance, a_rowCount, a_slotSeq, a_slotFlags, a_slotAck, a_slotWindow, a_slotSize, a_slotBytes) := sorry
theorem vy_mk {q : Int} {G : gm_T} {f_now : Int32} {f_sent : Int32} {a_seq : (Nat → Int32)} {a_flags : (Nat → Int32)} {a_acked : (Nat → Int32)} {a_window : (Nat → Int32)} {a_many : (Nat → Int32)} {a_data : (Nat → Int32)} {a_rows : (Nat → Int32)} {a_state : (Nat → Int32)} {a_error : (Nat → Int32)} {a_iss : (Nat → Int32)} {a_una : (Nat → Int64)} {a_nxt : (Nat → Int64)} {a_max : (Nat → Int64)} {a_last : (Nat → Int64)} {a_closed : (Nat → Int32)} {a_written : (Nat → Int32)} {a_irs : (Nat → Int32)} {a_unread : (Nat → Int32)} {a_bytes : (Nat → Int32)} {a_held : (Nat → Int32)} {a_rcv : (Nat → Int64)} {a_finAt : (Nat → Int64)} {a_marked : (Nat → Int32)} {a_wnd : (Nat → Int32)} {a_peak : (Nat → Int32)} {a_half : (Nat → Int32)} {a_rto : (Nat → Int32)} {a_same : (Nat → Int32)} {a_tries : (Nat → Int32)} {a_smooth : (Nat → Int32)} {a_spread : (Nat → Int32)} {a_byNumber : (Nat → Int32)} {a_byAck : (Nat → Int32)} {a_sampled : (Nat → Int32)} {a_told : (Nat → Int32)} {a_retry : (Nat → Int32)} {a_ackAt : (Nat → Int32)} {a_waitAt : (Nat → Int32)} {a_timedAt : (Nat → Int32)} {a_timed : (Nat → Int64)} (h_now : f_now = zi_n (gm_N G)) (h_sent : f_sent = zi_n (gm_S G + q)) (h_seq : ∀ i, i < 32 → a_seq i = zi_n (gm_L G 0 i)) (h_flags : ∀ i, i < 32 → a_flags i = zi_n (gm_L G 1 i)) (h_acked : ∀ i, i < 32 → a_acked i = zi_n (gm_L G 2 i)) (h_window : ∀ i, i < 32 → a_window i = zi_n (gm_L G 3 i)) (h_many : ∀ i, i < 32 → a_many i = zi_n (gm_L G 4 i)) (h_data : ∀ j, j < 256 → a_data j = zi_n (gm_D G j)) (h_rows : ∀ e, e < 2 → a_rows e = zi_n (G.1 30 e)) (h_state : ∀ e, e < 2 → a_state e = zi_n (G.1 0 e)) (h_error : ∀ e, e < 2 → a_error e = zi_n (G.1 1 e)) (h_iss : ∀ e, e < 2 → a_iss e = zi_n (G.1 2 e)) (h_una : ∀ e, e < 2 → a_una e = zl_n (G.1 32 e)) (h_nxt : ∀ e, e < 2 → a_nxt e = zl_n (G.1 4 e)) (h_max : ∀ e, e < 2 → a_max e = zl_n (G.1 5 e)) (h_last : ∀ e, e < 2 → a_last e = zl_n (G.1 33 e)) (h_closed : ∀ e, e < 2 → a_closed e = zi_n (G.1 29 e)) (h_written : ∀ e, e < 2 → ∀ p : Int, 1 ≤ p → p < G.1 33 e → G.1 33 e - 64 ≤ p → a_written (64 * e + (p % 64).toNat) = zi_n (gm_W G e p)) (h_irs : ∀ e, e < 2 → a_irs e = zi_n (G.1 7 e)) (h_unread : ∀ e, e < 2 → a_unread e = zi_n (G.1 9 e)) (h_bytes : ∀ e, e < 2 → ∀ i : Nat, (i : Int) < G.1 9 e → a_bytes (24 * e + i) = zi_n (gm_B G e (G.1 10 e + i))) (h_held : ∀ e, e < 2 → ∀ p : Int, gm_H G e p = true → a_held (64 * e + (p % 64).toNat) = zi_n (gm_B G e p)) (h_rcv : ∀ e, e < 2 → a_rcv e = zl_n (G.1 8 e)) (h_finAt : ∀ e, e < 2 → a_finAt e = zl_n (G.1 11 e)) (h_marked : ∀ e, e < 2 → ∀ p : Int, G.1 8 e ≤ p → p < G.1 8 e + 64 → a_marked (64 * e + (p % 64).toNat) = (if gm_H G e p = true then 1 else 0)) (h_wnd : ∀ e, e < 2 → a_wnd e = zi_n (G.1 12 e)) (h_peak : ∀ e, e < 2 → a_peak e = zi_n (G.1 16 e)) (h_half : ∀ e, e < 2 → a_half e = zi_n (G.1 17 e)) (h_rto : ∀ e, e < 2 → a_rto e = zi_n (G.1 19 e)) (h_same : ∀ e, e < 2 → a_same e = zi_n (G.1 34 e)) (h_tries : ∀ e, e < 2 → a_tries e = zi_n (G.1 35 e)) (h_smooth : ∀ e, e < 2 → a_smooth e = zi_n (G.1 27 e)) (h_spread : ∀ e, e < 2 → a_spread e = zi_n (G.1 28 e)) (h_byNumber : ∀ e, e < 2 → a_byNumber e = zi_n (G.1 14 e)) (h_byAck : ∀ e, e < 2 → a_byAck e = zi_n (G.1 15 e)) (h_sampled : ∀ e, e < 2 → a_sampled e = zi_n (G.1 26 e)) (h_told : ∀ e, e < 2 → a_told e = zi_n (G.1 13 e)) (h_retry : ∀ e, e < 2 → a_retry e = zi_n (G.1 21 e)) (h_ackAt : ∀ e, e < 2 → a_ackAt e = zi_n (G.1 22 e)) (h_waitAt : ∀ e, e < 2 → a_waitAt e = zi_n (G.1 23 e)) (h_timedAt : ∀ e, e < 2 → a_timedAt e = zi_n (G.1 25 e)) (h_timed : ∀ e, e < 2 → a_timed e = zl_n (G.1 24 e)) : vy_S q G (f_now, f_sent, a_seq, a_flags, a_acked, a_window, a_many, a_data, a_rows, a_state, a_error, a_iss, a_una, a_nxt, a_max, a_last, a_closed, a_written, a_irs, a_unread, a_bytes, a_held, a_rcv, a_finAt, a_marked, a_wnd, a_peak, a_half, a_rto, a_same, a_tries, a_smooth, a_spread, a_byNumber, a_byAck, a_sampled, a_told, a_retry, a_ackAt, a_waitAt, a_timedAt, a_timed) := sorry
theorem vu_e {a : Nat → Int32} {F F' : Nat → Int} {k : Nat} {x : Int32} (h : ∀ e, e < 2 → a e = zi_n (F e)) (hx : x = zi_n (F' k)) (ho : ∀ e, e ≠ k → F' e = F e) : ∀ e, e < 2 → upd a k x e = zi_n (F' e) := sorry
theorem vu_l {a : Nat → Int64} {F F' : Nat → Int} {k : Nat} {x : Int64} (h : ∀ e, e < 2 → a e = zl_n (F e)) (hx : x = zl_n (F' k)) (ho : ∀ e, e ≠ k → F' e = F e) : ∀ e, e < 2 → vp_updL a k x e = zl_n (F' e) := sorry
theorem vk_e {a : Nat → Int32} {F F' : Nat → Int} (h : ∀ e, e < 2 → a e = zi_n (F e)) (ho : ∀ e, e < 2 → F' e = F e) : ∀ e, e < 2 → a e = zi_n (F' e) := sorry
theorem vk_l {a : Nat → Int64} {F F' : Nat → Int} (h : ∀ e, e < 2 → a e = zl_n (F e)) (ho : ∀ e, e < 2 → F' e = F e) : ∀ e, e < 2 → a e = zl_n (F' e) := sorry
theorem pe_lt {p : Int32} (hp : vp_in p 2) : p.toNatClampNeg < 2 := sorry
theorem pe_z {p : Int32} (hp : vp_in p 2) : p = zi_n (p.toNatClampNeg : Int) := sorry
theorem zk_0 : (0 : Int32) = zi_n 0 := sorry
theorem zk_1 : (1 : Int32) = zi_n 1 := sorry
theorem zk_2 : (2 : Int32) = zi_n 2 := sorry
theorem zk_3 : (3 : Int32) = zi_n 3 := sorry
theorem zk_4 : (4 : Int32) = zi_n 4 := sorry
theorem zk_5 : (5 : Int32) = zi_n 5 := sorry
theorem zk_6 : (6 : Int32) = zi_n 6 := sorry
theorem zk_7 : (7 : Int32) = zi_n 7 := sorry
theorem zk_8 : (8 : Int32) = zi_n 8 := sorry
theorem zk_9 : (9 : Int32) = zi_n 9 := sorry
theorem zk_10 : (10 : Int32) = zi_n 10 := sorry
theorem zk_13 : (13 : Int32) = zi_n 13 := sorry
theorem zk_15 : (15 : Int32) = zi_n 15 := sorry
theorem zk_16 : (16 : Int32) = zi_n 16 := sorry
theorem zk_20 : (20 : Int32) = zi_n 20 := sorry
theorem zk_24 : (24 : Int32) = zi_n 24 := sorry
theorem zk_32 : (32 : Int32) = zi_n 32 := sorry
theorem zk_64 : (64 : Int32) = zi_n 64 := sorry
theorem zk_m1 : (-1 : Int32) = zi_n (-1) := sorry
theorem zk_255 : (255 : Int32) = zi_n 255 := sorry
theorem zk_1000 : (1000 : Int32) = zi_n 1000 := sorry
theorem zk_65535 : (65535 : Int32) = zi_n 65535 := sorry
theorem zk_l0 : (0 : Int64) = zl_n 0 := sorry
theorem zk_l1 : (1 : Int64) = zl_n 1 := sorry
theorem zk_l8 : (8 : Int64) = zl_n 8 := sorry
theorem zk_lm1 : (-1 : Int64) = zl_n (-1) := sorry
theorem zf_n {f : Int} (h0 : 0 ≤ f) (h1 : f ≤ 15) : ∃ n : Nat, n < 16 ∧ f = (n : Int) := sorry
theorem zf_1' : ∀ n : Nat, n < 16 → (zi_n (n : Int) &&& 1) = zi_n ((n : Int) % 2) := sorry
theorem zf_2' : ∀ n : Nat, n < 16 → (zi_n (n : Int) &&& 2) = zi_n (2 * ((n : Int) / 2 % 2)) := sorry
theorem zf_4' : ∀ n : Nat, n < 16 → (zi_n (n : Int) &&& 4) = zi_n (4 * ((n : Int) / 4 % 2)) := sorry
theorem zf_8' : ∀ n : Nat, n < 16 → (zi_n (n : Int) &&& 8) = zi_n (8 * ((n : Int) / 8 % 2)) := sorry
theorem zf_9' : ∀ n : Nat, n < 16 → (zi_n (n : Int) &&& 9) = zi_n (8 * ((n : Int) / 8 % 2) + (n : Int) % 2) := sorry
theorem zf_d' : ∀ n : Nat, n < 16 → (zi_n (n : Int) &&& 4) / 4 = zi_n ((n : Int) / 4 % 2) := sorry
theorem zf_1 {f : Int} (h0 : 0 ≤ f) (h1 : f ≤ 15) : (zi_n f &&& 1) = zi_n (f % 2) := sorry
theorem zf_2 {f : Int} (h0 : 0 ≤ f) (h1 : f ≤ 15) : (zi_n f &&& 2) = zi_n (2 * (f / 2 % 2)) := sorry
theorem zf_4 {f : Int} (h0 : 0 ≤ f) (h1 : f ≤ 15) : (zi_n f &&& 4) = zi_n (4 * (f / 4 % 2)) := sorry
theorem zf_8 {f : Int} (h0 : 0 ≤ f) (h1 : f ≤ 15) : (zi_n f &&& 8) = zi_n (8 * (f / 8 % 2)) := sorry
theorem zf_9 {f : Int} (h0 : 0 ≤ f) (h1 : f ≤ 15) : (zi_n f &&& 9) = zi_n (8 * (f / 8 % 2) + f % 2) := sorry
theorem zf_d {f : Int} (h0 : 0 ≤ f) (h1 : f ≤ 15) : (zi_n f &&& 4) / 4 = zi_n (f / 4 % 2) := sorry
theorem zf_o {f : Int} (h : f = 0 ∨ f = 1 ∨ f = 4) : (zi_n f ||| 2) = zi_n (f + 2) := sorry
/-- stores into a slot of the link -/
theorem vs_0 {a : Nat → Int32} {l : Nat → Nat → Int} {k : Nat} {x : Int32} {a0 a1 a2 a3 a4 : Int} (h : ∀ i, i < 32 → a i = zi_n (l 0 i)) (hx : x = zi_n a0) : ∀ i, i < 32 → upd a k x i = zi_n (gm_l l k a0 a1 a2 a3 a4 0 i) := sorry
theorem vs_1 {a : Nat → Int32} {l : Nat → Nat → Int} {k : Nat} {x : Int32} {a0 a1 a2 a3 a4 : Int} (h : ∀ i, i < 32 → a i = zi_n (l 1 i)) (hx : x = zi_n a1) : ∀ i, i < 32 → upd a k x i = zi_n (gm_l l k a0 a1 a2 a3 a4 1 i) := sorry
theorem vs_2 {a : Nat → Int32} {l : Nat → Nat → Int} {k : Nat} {x : Int32} {a0 a1 a2 a3 a4 : Int} (h : ∀ i, i < 32 → a i = zi_n (l 2 i)) (hx : x = zi_n a2) : ∀ i, i < 32 → upd a k x i = zi_n (gm_l l k a0 a1 a2 a3 a4 2 i) := sorry
theorem vs_3 {a : Nat → Int32} {l : Nat → Nat → Int} {k : Nat} {x : Int32} {a0 a1 a2 a3 a4 : Int} (h : ∀ i, i < 32 → a i = zi_n (l 3 i)) (hx : x = zi_n a3) : ∀ i, i < 32 → upd a k x i = zi_n (gm_l l k a0 a1 a2 a3 a4 3 i) := sorry
theorem vs_4 {a : Nat → Int32} {l : Nat → Nat → Int} {k : Nat} {x : Int32} {a0 a1 a2 a3 a4 : Int} (h : ∀ i, i < 32 → a i = zi_n (l 4 i)) (hx : x = zi_n a4) : ∀ i, i < 32 → upd a k x i = zi_n (gm_l l k a0 a1 a2 a3 a4 4 i) := sorry
/-- a store beyond the slots of the two rows -/
theorem vs_x {a : Nat → Int32} {F : Nat → Int} {k : Nat} {x : Int32} (h : ∀ i, i < 32 → a i = zi_n (F i)) (hk : 32 ≤ k) : ∀ i, i < 32 → upd a k x i = zi_n (F i) := sorry
end
section
/-! the class's small methods -/
theorem xl_behind {P : Int32 → Prop} {x y : Int32} {a b : Int} (hx : x = zi_n a) (hy : y = zi_n b) (h : P (zi_n ((a + b) % 65536))) : wpX_behind P x y := sorry
theorem xl_offset {P : Int32 → Prop} {x y : Int32} {a b : Int} (hx : x = zi_n a) (hy : y = zi_n b) (h : P (zi_n (zi_s (a - b)))) : wpX_offset P x y := sorry
theorem xl_off {P : Int32 → Prop} {x y : Int32} {i a b : Int} (hx : x = zi_n ((i + a) % 65536)) (hy : y = zi_n ((i + b) % 65536)) (h1 : -32768 ≤ a - b) (h2 : a - b < 32768) (h : P (zi_n (a - b))) : wpX_offset P x y := sorry
theorem xl_lengthOf {P : Int32 → Prop} {f n : Int} (h0 : 0 ≤ f) (h1 : f ≤ 15) (h : P (zi_n (gp_len f n))) : wpX_lengthOf P (zi_n f) (zi_n n) := sorry
theorem xl_nextSlot {P : Int32 → SX → Prop} {f_now : Int32} {f_sent : Int32} {a_stateOf : (Nat → Int32)} {a_error : (Nat → Int32)} {a_iss : (Nat → Int32)} {a_una : (Nat → Int32)} {a_nxt : (Nat → Int32)} {a_max : (Nat → Int32)} {a_writtenTo : (Nat → Int32)} {a_kept : (Nat → Int32)} {a_keptBytes : (Nat → Int32)} {a_rcv : (Nat → Int32)} {a_unread : (Nat → Int32)} {a_unreadFrom : (Nat → Int32)} {a_cameBytes : (Nat → Int32)} {a_held : (Nat → Int32)} {a_heldFin : (Nat → Int32)} {a_wnd : (Nat → Int32)} {a_wndSeq : (Nat → Int32)} {a_wndAck : (Nat → Int32)} {a_peak : (Nat → Int32)} {a_half : (Nat → Int32)} {a_same : (Nat → Int32)} {a_rto : (Nat → Int32)} {a_tries : (Nat → Int32)} {a_retryAt : (Nat → Int32)} {a_ackAt : (Nat → Int32)} {a_waitTill : (Nat → Int32)} {a_timedAt : (Nat → Int32)} {a_timedSeq : (Nat → Int32)} {a_smoothed : (Nat → Int32)} {a_variance : (Nat → Int32)} {a_rowCount : (Nat → Int32)} {a_slotSeq : (Nat → Int32)} {a_slotFlags : (Nat → Int32)} {a_slotAck : (Nat → Int32)} {a_slotWindow : (Nat → Int32)} {a_slotSize : (Nat → Int32)} {a_slotBytes : (Nat → Int32)} {p : Int32} {r : Int} (hp : vp_in p 2) (hr : a_rowCount p.toNatClampNeg = zi_n r) (h0 : 0 ≤ r) (h16 : r ≤ 16) (h1 : r < 16 → P (zi_n (16 * (p.toNatClampNeg : Int) + r)) (f_now, f_sent, a_stateOf, a_error, a_iss, a_una, a_nxt, a_max, a_writtenTo, a_kept, a_keptBytes, a_rcv, a_unread, a_unreadFrom, a_cameBytes, a_held, a_heldFin, a_wnd, a_wndSeq, a_wndAck, a_peak, a_half, a_same, a_rto, a_tries, a_retryAt, a_ackAt, a_waitTill, a_timedAt, a_timedSeq, a_smoothed, a_variance, upd a_rowCount p.toNatClampNeg (zi_n (r + 1)), a_slotSeq, a_slotFlags, a_slotAck, a_slotWindow, a_slotSize, a_slotBytes)) (h2 : r = 16 → P (zi_n 32) (f_now, f_sent, a_stateOf, a_error, a_iss, a_una, a_nxt, a_max, a_writtenTo, a_kept, a_keptBytes, a_rcv, a_unread, a_unreadFrom, a_cameBytes, a_held, a_heldFin, a_wnd, a_wndSeq, a_wndAck, a_peak, a_half, a_same, a_rto, a_tries, a_retryAt, a_ackAt, a_waitTill, a_timedAt, a_timedSeq, a_smoothed, a_variance, a_rowCount, a_slotSeq, a_slotFlags, a_slotAck, a_slotWindow, a_slotSize, a_slotBytes)) : wpX_nextSlot P (f_now, f_sent, a_stateOf, a_error, a_iss, a_una, a_nxt, a_max, a_writtenTo, a_kept, a_keptBytes, a_rcv, a_unread, a_unreadFrom, a_cameBytes, a_held, a_heldFin, a_wnd, a_wndSeq, a_wndAck, a_peak, a_half, a_same, a_rto, a_tries, a_retryAt, a_ackAt, a_waitTill, a_timedAt, a_timedSeq, a_smoothed, a_variance, a_rowCount, a_slotSeq, a_slotFlags, a_slotAck, a_slotWindow, a_slotSize, a_slotBytes) p := sorry
theorem xl_setRetry {P : SX → Prop} {f_now : Int32} {f_sent : Int32} {a_stateOf : (Nat → Int32)} {a_error : (Nat → Int32)} {a_iss : (Nat → Int32)} {a_una : (Nat → Int32)} {a_nxt : (Nat → Int32)} {a_max : (Nat → Int32)} {a_writtenTo : (Nat → Int32)} {a_kept : (Nat → Int32)} {a_keptBytes : (Nat → Int32)} {a_rcv : (Nat → Int32)} {a_unread : (Nat → Int32)} {a_unreadFrom : (Nat → Int32)} {a_cameBytes : (Nat → Int32)} {a_held : (Nat → Int32)} {a_heldFin : (Nat → Int32)} {a_wnd : (Nat → Int32)} {a_wndSeq : (Nat → Int32)} {a_wndAck : (Nat → Int32)} {a_peak : (Nat → Int32)} {a_half : (Nat → Int32)} {a_same : (Nat → Int32)} {a_rto : (Nat → Int32)} {a_tries : (Nat → Int32)} {a_retryAt : (Nat → Int32)} {a_ackAt : (Nat → Int32)} {a_waitTill : (Nat → Int32)} {a_timedAt : (Nat → Int32)} {a_timedSeq : (Nat → Int32)} {a_smoothed : (Nat → Int32)} {a_variance : (Nat → Int32)} {a_rowCount : (Nat → Int32)} {a_slotSeq : (Nat → Int32)} {a_slotFlags : (Nat → Int32)} {a_slotAck : (Nat → Int32)} {a_slotWindow : (Nat → Int32)} {a_slotSize : (Nat → Int32)} {a_slotBytes : (Nat → Int32)} {p : Int32} {r : Int} (hp : vp_in p 2) (hr : a_retryAt p.toNatClampNeg = zi_n r) (h0 : -1 ≤ r) (h1 : r < 2147483648) (hP : P (f_now, f_sent, a_stateOf, a_error, a_iss, a_una, a_nxt, a_max, a_writtenTo, a_kept, a_keptBytes, a_rcv, a_unread, a_unreadFrom, a_cameBytes, a_held, a_heldFin, a_wnd, a_wndSeq, a_wndAck, a_peak, a_half, a_same, a_rto, a_tries, if r < 0 then upd a_retryAt p.toNatClampNeg (f_now + a_rto p.toNatClampNeg) else a_retryAt, a_ackAt, a_waitTill, a_timedAt, a_timedSeq, a_smoothed, a_variance, a_rowCount, a_slotSeq, a_slotFlags, a_slotAck, a_slotWindow, a_slotSize, a_slotBytes)) : wpX_setRetryIfNone P (f_now, f_sent, a_stateOf, a_error, a_iss, a_una, a_nxt, a_max, a_writtenTo, a_kept, a_keptBytes, a_rcv, a_unread, a_unreadFrom, a_cameBytes, a_held, a_heldFin, a_wnd, a_wndSeq, a_wndAck, a_peak, a_half, a_same, a_rto, a_tries, a_retryAt, a_ackAt, a_waitTill, a_timedAt, a_timedSeq, a_smoothed, a_variance, a_rowCount, a_slotSeq, a_slotFlags, a_slotAck, a_slotWindow, a_slotSize, a_slotBytes) p := sorry
theorem xl_ownWindow {P : Int32 → Prop} {f_now : Int32} {f_sent : Int32} {a_stateOf : (Nat → Int32)} {a_error : (Nat → Int32)} {a_iss : (Nat → Int32)} {a_una : (Nat → Int32)} {a_nxt : (Nat → Int32)} {a_max : (Nat → Int32)} {a_writtenTo : (Nat → Int32)} {a_kept : (Nat → Int32)} {a_keptBytes : (Nat → Int32)} {a_rcv : (Nat → Int32)} {a_unread : (Nat → Int32)} {a_unreadFrom : (Nat → Int32)} {a_cameBytes : (Nat → Int32)} {a_held : (Nat → Int32)} {a_heldFin : (Nat → Int32)} {a_wnd : (Nat → Int32)} {a_wndSeq : (Nat → Int32)} {a_wndAck : (Nat → Int32)} {a_peak : (Nat → Int32)} {a_half : (Nat → Int32)} {a_same : (Nat → Int32)} {a_rto : (Nat → Int32)} {a_tries : (Nat → Int32)} {a_retryAt : (Nat → Int32)} {a_ackAt : (Nat → Int32)} {a_waitTill : (Nat → Int32)} {a_timedAt : (Nat → Int32)} {a_timedSeq : (Nat → Int32)} {a_smoothed : (Nat → Int32)} {a_variance : (Nat → Int32)} {a_rowCount : (Nat → Int32)} {a_slotSeq : (Nat → Int32)} {a_slotFlags : (Nat → Int32)} {a_slotAck : (Nat → Int32)} {a_slotWindow : (Nat → Int32)} {a_slotSize : (Nat → Int32)} {a_slotBytes : (Nat → Int32)} {p : Int32} {r : Int} (hp : vp_in p 2) (hr : a_unread p.toNatClampNeg = zi_n r) (h : P (zi_n (24 - r))) : wpX_ownWindow P (f_now, f_sent, a_stateOf, a_error, a_iss, a_una, a_nxt, a_max, a_writtenTo, a_kept, a_keptBytes, a_rcv, a_unread, a_unreadFrom, a_cameBytes, a_held, a_heldFin, a_wnd, a_wndSeq, a_wndAck, a_peak, a_half, a_same, a_rto, a_tries, a_retryAt, a_ackAt, a_waitTill, a_timedAt, a_timedSeq, a_smoothed, a_variance, a_rowCount, a_slotSeq, a_slotFlags, a_slotAck, a_slotWindow, a_slotSize, a_slotBytes) p := sorry
theorem vn_b0 : vp_nar .boolean 0 = 0 := sorry
theorem vn_b1 : vp_nar .boolean 1 = 1 := sorry
theorem xl_holdNothing {P : SX → Prop} {f_now : Int32} {f_sent : Int32} {a_stateOf : (Nat → Int32)} {a_error : (Nat → Int32)} {a_iss : (Nat → Int32)} {a_una : (Nat → Int32)} {a_nxt : (Nat → Int32)} {a_max : (Nat → Int32)} {a_writtenTo : (Nat → Int32)} {a_kept : (Nat → Int32)} {a_keptBytes : (Nat → Int32)} {a_rcv : (Nat → Int32)} {a_unread : (Nat → Int32)} {a_unreadFrom : (Nat → Int32)} {a_cameBytes : (Nat → Int32)} {a_held : (Nat → Int32)} {a_heldFin : (Nat → Int32)} {a_wnd : (Nat → Int32)} {a_wndSeq : (Nat → Int32)} {a_wndAck : (Nat → Int32)} {a_peak : (Nat → Int32)} {a_half : (Nat → Int32)} {a_same : (Nat → Int32)} {a_rto : (Nat → Int32)} {a_tries : (Nat → Int32)} {a_retryAt : (Nat → Int32)} {a_ackAt : (Nat → Int32)} {a_waitTill : (Nat → Int32)} {a_timedAt : (Nat → Int32)} {a_timedSeq : (Nat → Int32)} {a_smoothed : (Nat → Int32)} {a_variance : (Nat → Int32)} {a_rowCount : (Nat → Int32)} {a_slotSeq : (Nat → Int32)} {a_slotFlags : (Nat → Int32)} {a_slotAck : (Nat → Int32)} {a_slotWindow : (Nat → Int32)} {a_slotSize : (Nat → Int32)} {a_slotBytes : (Nat → Int32)} {p : Int32} (hp : vp_in p 2) (hP : ∀ A : Nat → Int32, (∀ j, j < 32 → A (32 * p.toNatClampNeg + j) = 0) → (∀ j, (j < 32 * p.toNatClampNeg ∨ 32 * p.toNatClampNeg + 32 ≤ j) → A j = a_held j) → P (f_now, f_sent, a_stateOf, a_error, a_iss, a_una, a_nxt, a_max, a_writtenTo, a_kept, a_keptBytes, a_rcv, a_unread, a_unreadFrom, a_cameBytes, A, upd a_heldFin p.toNatClampNeg (-1), a_wnd, a_wndSeq, a_wndAck, a_peak, a_half, a_same, a_rto, a_tries, a_retryAt, a_ackAt, a_waitTill, a_timedAt, a_timedSeq, a_smoothed, a_variance, a_rowCount, a_slotSeq, a_slotFlags, a_slotAck, a_slotWindow, a_slotSize, a_slotBytes)) : wpX_holdNothing P (f_now, f_sent, a_stateOf, a_error, a_iss, a_una, a_nxt, a_max, a_writtenTo, a_kept, a_keptBytes, a_rcv, a_unread, a_unreadFrom, a_cameBytes, a_held, a_heldFin, a_wnd, a_wndSeq, a_wndAck, a_peak, a_half, a_same, a_rto, a_tries, a_retryAt, a_ackAt, a_waitTill, a_timedAt, a_timedSeq, a_smoothed, a_variance, a_rowCount, a_slotSeq, a_slotFlags, a_slotAck, a_slotWindow, a_slotSize, a_slotBytes) p := sorry
end
section
/-! the class: an end ends and begins; what it sends -/
theorem vh_none {A a : Nat → Int32} {h : Nat → Int → Bool} {e : Nat} {I R I' R' : Nat → Int} (hA1 : ∀ j, j < 32 → A (32 * e + j) = 0) (hA2 : ∀ j, (j < 32 * e ∨ 32 * e + 32 ≤ j) → A j = a j) (hh : ∀ e', e' < 2 → e' ≠ e → ∀ p : Int, R e' ≤ p → p < R e' + 32 → a (32 * e' + ((I e' + p) % 32).toNat) = (if h e' p = true then 1 else 0)) (hI : ∀ e', e' ≠ e → I' e' = I e') (hR : ∀ e', e' ≠ e → R' e' = R e') : ∀ e', e' < 2 → ∀ p : Int, R' e' ≤ p → p < R' e' + 32 → A (32 * e' + ((I' e' + p) % 32).toNat) = (if gp_none h e e' p = true then 1 else 0) := sorry
theorem vx_ext {q : Int} {G G' : gm_T} {u : SX} (hc : ∀ e, e < 2 → ∀ f, G'.1 f e = G.1 f e) (hr : G'.2 = G.2) (h : vx_S q G u) : vx_S q G' u := sorry
theorem xl_endAll {q : Int} {G : gm_T} {u : SX} {p : Int32} {P : SX → Prop} (hv : vx_S q G u) (hp : vp_in p 2) (hP : ∀ u', vx_S q (gp_over G p.toNatClampNeg (G.1 1 p.toNatClampNeg)) u' → P u') : wpX_endAll P u p := sorry
theorem vh_all {a : Nat → Int32} {e : Nat} {I R : Int} (h : ∀ p : Int, R ≤ p → p < R + 32 → a (32 * e + ((I + p) % 32).toNat) = 0) : ∀ j, j < 32 → a (32 * e + j) = 0 := sorry
theorem xl_begin {q : Int} {G : gm_T} {u : SX} {p x : Int32} {P : SX → Prop} {iss : Int} (hv : vx_S q G u) (hp : vp_in p 2) (hx : x = zi_n iss) (h0 : 0 ≤ iss) (h1 : iss ≤ 65535) (hP : ∀ u', vx_S q (gp_begin G p.toNatClampNeg iss) u' → P u') : wpX_begin P u p x := sorry
/-- a segment into a slot -/
theorem po_L {G : gm_T} {e : Nat} {num flag ack win n : Int} {g : Int → Int} (h : G.1 30 e < 16) : gm_L (gp_post G e num flag ack win n g) = gm_l (gm_L G) (16 * e + (G.1 30 e).toNat) num flag ack win n := sorry
theorem po_D {G : gm_T} {e : Nat} {num flag ack win n : Int} {g : Int → Int} (h : G.1 30 e < 16) : gm_D (gp_post G e num flag ack win n g) = gm_d (gm_D G) (16 * e + (G.1 30 e).toNat) n g := sorry
theorem po_Ln {G : gm_T} {e : Nat} {num flag ack win n : Int} {g : Int → Int} (h : ¬ G.1 30 e < 16) : gm_L (gp_post G e num flag ack win n g) = gm_L G := sorry
theorem po_Dn {G : gm_T} {e : Nat} {num flag ack win n : Int} {g : Int → Int} (h : ¬ G.1 30 e < 16) : gm_D (gp_post G e num flag ack win n g) = gm_D G := sorry
/-- the class's arrays behind a segment that was put into slot k (32: lost) -/
theorem vx_post {q : Int} {G : gm_T} {f_now : Int32} {f_sent : Int32} {a_stateOf : (Nat → Int32)} {a_error : (Nat → Int32)} {a_iss : (Nat → Int32)} {a_una : (Nat → Int32)} {a_nxt : (Nat → Int32)} {a_max : (Nat → Int32)} {a_writtenTo : (Nat → Int32)} {a_kept : (Nat → Int32)} {a_keptBytes : (Nat → Int32)} {a_rcv : (Nat → Int32)} {a_unread : (Nat → Int32)} {a_unreadFrom : (Nat → Int32)} {a_cameBytes : (Nat → Int32)} {a_held : (Nat → Int32)} {a_heldFin : (Nat → Int32)} {a_wnd : (Nat → Int32)} {a_wndSeq : (Nat → Int32)} {a_wndAck : (Nat → Int32)} {a_peak : (Nat → Int32)} {a_half : (Nat → Int32)} {a_same : (Nat → Int32)} {a_rto : (Nat → Int32)} {a_tries : (Nat → Int32)} {a_retryAt : (Nat → Int32)} {a_ackAt : (Nat → Int32)} {a_waitTill : (Nat → Int32)} {a_timedAt : (Nat → Int32)} {a_timedSeq : (Nat → Int32)} {a_smoothed : (Nat → Int32)} {a_variance : (Nat → Int32)} {a_rowCount : (Nat → Int32)} {a_slotSeq : (Nat → Int32)} {a_slotFlags : (Nat → Int32)} {a_slotAck : (Nat → Int32)} {a_slotWindow : (Nat → Int32)} {a_slotSize : (Nat → Int32)} {a_slotBytes : (Nat → Int32)} {e : Nat} {num flag ack win n : Int} {g : Int → Int} {R S1 S2 S3 S4 S5 SB : Nat → Int32} {k : Nat} (hv : vx_S q G (f_now, f_sent, a_stateOf, a_error, a_iss, a_una, a_nxt, a_max, a_writtenTo, a_kept, a_keptBytes, a_rcv, a_unread, a_unreadFrom, a_cameBytes, a_held, a_heldFin, a_wnd, a_wndSeq, a_wndAck, a_peak, a_half, a_same, a_rto, a_tries, a_retryAt, a_ackAt, a_waitTill, a_timedAt, a_timedSeq, a_smoothed, a_variance, a_rowCount, a_slotSeq, a_slotFlags, a_slotAck, a_slotWindow, a_slotSize, a_slotBytes)) (he : e < 2) (h0 : 0 ≤ G.1 30 e) (h16 : G.1 30 e ≤ 16) (hk : (G.1 30 e < 16 ∧ k = 16 * e + (G.1 30 e).toNat ∧ R = upd a_rowCount e (zi_n (G.1 30 e + 1))) ∨ (G.1 30 e = 16 ∧ k = 32 ∧ R = a_rowCount)) (h1 : S1 = upd a_slotSeq k (zi_n num)) (h2 : S2 = upd a_slotFlags k (zi_n flag)) (h3 : S3 = upd a_slotAck k (zi_n ack)) (h4 : S4 = upd a_slotWindow k (zi_n win)) (h5 : S5 = upd a_slotSize k (zi_n n)) (hb : ∀ j, SB j = if 8 * (k : Int) ≤ j ∧ (j : Int) < 8 * (k : Int) + n then zi_n (zi_b (g ((j : Int) - 8 * (k : Int)))) else a_slotBytes j) : vx_S (q - 1) (gp_post G e num flag ack win n g) (f_now, f_sent, a_stateOf, a_error, a_iss, a_una, a_nxt, a_max, a_writtenTo, a_kept, a_keptBytes, a_rcv, a_unread, a_unreadFrom, a_cameBytes, a_held, a_heldFin, a_wnd, a_wndSeq, a_wndAck, a_peak, a_half, a_same, a_rto, a_tries, a_retryAt, a_ackAt, a_waitTill, a_timedAt, a_timedSeq, a_smoothed, a_variance, R, S1, S2, S3, S4, S5, SB) := sorry
theorem sl_k {e : Nat} {r : Int} (he : e < 2) (h0 : 0 ≤ r) (h1 : r < 16) : (zi_n (16 * (e : Int) + r)).toNatClampNeg = 16 * e + r.toNat := sorry
theorem sl_32 : (zi_n 32).toNatClampNeg = 32 := sorry
theorem xl_sendReset {q : Int} {G : gm_T} {u : SX} {p x1 x2 x3 : Int32} {P : SX → Prop} {num flag ack : Int} (hv : vx_S q G u) (hp : vp_in p 2) (h0 : 0 ≤ G.1 30 p.toNatClampNeg) (h16 : G.1 30 p.toNatClampNeg ≤ 16) (h1 : x1 = zi_n num) (h2 : x2 = zi_n flag) (h3 : x3 = zi_n ack) (hP : ∀ u', vx_S q (gp_rst G p.toNatClampNeg num flag ack) u' → P u') : wpX_sendReset P u p x1 x2 x3 := sorry
end
section
/-! the class: send -/
theorem zb_b (z : Int) : zi_b (zi_b z) = zi_b z := sorry
theorem vn_byte (z : Int) : vp_nar .byte (zi_n z) = zi_n (zi_b z) := sorry
theorem xs_238 {q : Int} {G : gm_T} {f_now : Int32} {f_sent : Int32} {a_stateOf : (Nat → Int32)} {a_error : (Nat → Int32)} {a_iss : (Nat → Int32)} {a_una : (Nat → Int32)} {a_nxt : (Nat → Int32)} {a_max : (Nat → Int32)} {a_writtenTo : (Nat → Int32)} {a_kept : (Nat → Int32)} {a_keptBytes : (Nat → Int32)} {a_rcv : (Nat → Int32)} {a_unread : (Nat → Int32)} {a_unreadFrom : (Nat → Int32)} {a_cameBytes : (Nat → Int32)} {a_held : (Nat → Int32)} {a_heldFin : (Nat → Int32)} {a_wnd : (Nat → Int32)} {a_wndSeq : (Nat → Int32)} {a_wndAck : (Nat → Int32)} {a_peak : (Nat → Int32)} {a_half : (Nat → Int32)} {a_same : (Nat → Int32)} {a_rto : (Nat → Int32)} {a_tries : (Nat → Int32)} {a_retryAt : (Nat → Int32)} {a_ackAt : (Nat → Int32)} {a_waitTill : (Nat → Int32)} {a_timedAt : (Nat → Int32)} {a_timedSeq : (Nat → Int32)} {a_smoothed : (Nat → Int32)} {a_variance : (Nat → Int32)} {a_rowCount : (Nat → Int32)} {a_slotSeq : (Nat → Int32)} {a_slotFlags : (Nat → Int32)} {a_slotAck : (Nat → Int32)} {a_slotWindow : (Nat → Int32)} {a_slotSize : (Nat → Int32)} {a_slotBytes : (Nat → Int32)} {p : Int32} {P : SX → Prop} {len : Int} (hv : vx_S q G (f_now, f_sent, a_stateOf, a_error, a_iss, a_una, a_nxt, a_max, a_writtenTo, a_kept, a_keptBytes, a_rcv, a_unread, a_unreadFrom, a_cameBytes, a_held, a_heldFin, a_wnd, a_wndSeq, a_wndAck, a_peak, a_half, a_same, a_rto, a_tries, a_retryAt, a_ackAt, a_waitTill, a_timedAt, a_timedSeq, a_smoothed, a_variance, a_rowCount, a_slotSeq, a_slotFlags, a_slotAck, a_slotWindow, a_slotSize, a_slotBytes)) (hp : vp_in p 2) (hl : len ≠ 0) (h0 : -1 ≤ G.1 21 p.toNatClampNeg) (h1 : G.1 21 p.toNatClampNeg < 2147483648) (hP : ∀ u', vx_S q (gt_4 G p.toNatClampNeg len) u' → P u') : wX_send_238 P p f_now f_sent a_stateOf a_error a_iss a_una a_nxt a_max a_writtenTo a_kept a_keptBytes a_rcv a_unread a_unreadFrom a_cameBytes a_held a_heldFin a_wnd a_wndSeq a_wndAck a_peak a_half a_same a_rto a_tries a_retryAt a_ackAt a_waitTill a_timedAt a_timedSeq a_smoothed a_variance a_rowCount a_slotSeq a_slotFlags a_slotAck a_slotWindow a_slotSize a_slotBytes := sorry
theorem xs_208 {q : Int} {G : gm_T} {f_now : Int32} {f_sent : Int32} {a_stateOf : (Nat → Int32)} {a_error : (Nat → Int32)} {a_iss : (Nat → Int32)} {a_una : (Nat → Int32)} {a_nxt : (Nat → Int32)} {a_max : (Nat → Int32)} {a_writtenTo : (Nat → Int32)} {a_kept : (Nat → Int32)} {a_keptBytes : (Nat → Int32)} {a_rcv : (Nat → Int32)} {a_unread : (Nat → Int32)} {a_unreadFrom : (Nat → Int32)} {a_cameBytes : (Nat → Int32)} {a_held : (Nat → Int32)} {a_heldFin : (Nat → Int32)} {a_wnd : (Nat → Int32)} {a_wndSeq : (Nat → Int32)} {a_wndAck : (Nat → Int32)} {a_peak : (Nat → Int32)} {a_half : (Nat → Int32)} {a_same : (Nat → Int32)} {a_rto : (Nat → Int32)} {a_tries : (Nat → Int32)} {a_retryAt : (Nat → Int32)} {a_ackAt : (Nat → Int32)} {a_waitTill : (Nat → Int32)} {a_timedAt : (Nat → Int32)} {a_timedSeq : (Nat → Int32)} {a_smoothed : (Nat → Int32)} {a_variance : (Nat → Int32)} {a_rowCount : (Nat → Int32)} {a_slotSeq : (Nat → Int32)} {a_slotFlags : (Nat → Int32)} {a_slotAck : (Nat → Int32)} {a_slotWindow : (Nat → Int32)} {a_slotSize : (Nat → Int32)} {a_slotBytes : (Nat → Int32)} {p x2 x7 : Int32} {P : SX → Prop} {fr len : Int} (hv : vx_S q G (f_now, f_sent, a_stateOf, a_error, a_iss, a_una, a_nxt, a_max, a_writtenTo, a_kept, a_keptBytes, a_rcv, a_unread, a_unreadFrom, a_cameBytes, a_held, a_heldFin, a_wnd, a_wndSeq, a_wndAck, a_peak, a_half, a_same, a_rto, a_tries, a_retryAt, a_ackAt, a_waitTill, a_timedAt, a_timedSeq, a_smoothed, a_variance, a_rowCount, a_slotSeq, a_slotFlags, a_slotAck, a_slotWindow, a_slotSize, a_slotBytes)) (hp : vp_in p 2) (hx2 : x2 = zi_n ((G.1 2 p.toNatClampNeg + fr) % 65536)) (hx7 : x7 = zi_n len) (hl : len ≠ 0) (hl0 : 0 ≤ len) (hl1 : len ≤ 10) (hm0 : -100 ≤ fr - G.1 5 p.toNatClampNeg) (hm1 : fr - G.1 5 p.toNatClampNeg ≤ 100) (h0 : -1 ≤ G.1 21 p.toNatClampNeg) (h1 : G.1 21 p.toNatClampNeg < 2147483648) (hP : ∀ u', vx_S q (gt_4 (gt_3 G p.toNatClampNeg fr len) p.toNatClampNeg len) u' → P u') : wX_send_208 P p x2 x7 f_now f_sent a_stateOf a_error a_iss a_una a_nxt a_max a_writtenTo a_kept a_keptBytes a_rcv a_unread a_unreadFrom a_cameBytes a_held a_heldFin a_wnd a_wndSeq a_wndAck a_peak a_half a_same a_rto a_tries a_retryAt a_ackAt a_waitTill a_timedAt a_timedSeq a_smoothed a_variance a_rowCount a_slotSeq a_slotFlags a_slotAck a_slotWindow a_slotSize a_slotBytes := sorry
/-- behind the bytes -/
theorem xs_exit {q : Int} {G : gm_T} {f_now : Int32} {f_sent : Int32} {a_stateOf : (Nat → Int32)} {a_error : (Nat → Int32)} {a_iss : (Nat → Int32)} {a_una : (Nat → Int32)} {a_nxt : (Nat → Int32)} {a_max : (Nat → Int32)} {a_writtenTo : (Nat → Int32)} {a_kept : (Nat → Int32)} {a_keptBytes : (Nat → Int32)} {a_rcv : (Nat → Int32)} {a_unread : (Nat → Int32)} {a_unreadFrom : (Nat → Int32)} {a_cameBytes : (Nat → Int32)} {a_held : (Nat → Int32)} {a_heldFin : (Nat → Int32)} {a_wnd : (Nat → Int32)} {a_wndSeq : (Nat → Int32)} {a_wndAck : (Nat → Int32)} {a_peak : (Nat → Int32)} {a_half : (Nat → Int32)} {a_same : (Nat → Int32)} {a_rto : (Nat → Int32)} {a_tries : (Nat → Int32)} {a_retryAt : (Nat → Int32)} {a_ackAt : (Nat → Int32)} {a_waitTill : (Nat → Int32)} {a_timedAt : (Nat → Int32)} {a_timedSeq : (Nat → Int32)} {a_smoothed : (Nat → Int32)} {a_variance : (Nat → Int32)} {a_rowCount : (Nat → Int32)} {a_slotSeq : (Nat → Int32)} {a_slotFlags : (Nat → Int32)} {a_slotAck : (Nat → Int32)} {a_slotWindow : (Nat → Int32)} {a_slotSize : (Nat → Int32)} {a_slotBytes : (Nat → Int32)} {p x2 x3 x4 x6 : Int32} {P : SX → Prop} {fr fl n : Int} {m : Nat} (hv : vx_S (q - 1) G (f_now, f_sent, a_stateOf, a_error, a_iss, a_una, a_nxt, a_max, a_writtenTo, a_kept, a_keptBytes, a_rcv, a_unread, a_unreadFrom, a_cameBytes, a_held, a_heldFin, a_wnd, a_wndSeq, a_wndAck, a_peak, a_half, a_same, a_rto, a_tries, a_retryAt, a_ackAt, a_waitTill, a_timedAt, a_timedSeq, a_smoothed, a_variance, a_rowCount, a_slotSeq, a_slotFlags, a_slotAck, a_slotWindow, a_slotSize, a_slotBytes)) (hp : vp_in p 2) (hx2 : x2 = zi_n ((G.1 2 p.toNatClampNeg + fr) % 65536)) (hx3 : x3 = zi_n fl) (hx4 : x4 = zi_n n) (hf : fl = 0 ∨ fl = 1 ∨ fl = 4) (hn0 : 0 ≤ n) (hn8 : n ≤ 8) (hm0 : -100 ≤ fr - G.1 5 p.toNatClampNeg) (hm1 : fr - G.1 5 p.toNatClampNeg ≤ 100) (hM : 0 ≤ G.1 5 p.toNatClampNeg) (ht0 : -1 ≤ G.1 24 p.toNatClampNeg) (ht1 : 0 ≤ G.1 24 p.toNatClampNeg → 0 ≤ G.1 25 p.toNatClampNeg ∧ G.1 25 p.toNatClampNeg < 2147483648) (h0 : -1 ≤ G.1 21 p.toNatClampNeg) (h1 : G.1 21 p.toNatClampNeg < 2147483648) (hP : ∀ u', vx_S q (gt_4 (gt_3 (gt_2 (gt_1 G p.toNatClampNeg) p.toNatClampNeg fr (gp_len fl n)) p.toNatClampNeg fr (gp_len fl n)) p.toNatClampNeg (gp_len fl n)) u' → P u') : wX_send_97 P p x2 x3 x4 x6 f_now f_sent (m + 1) x4 a_stateOf a_error a_iss a_una a_nxt a_max a_writtenTo a_kept a_keptBytes a_rcv a_unread a_unreadFrom a_cameBytes a_held a_heldFin a_wnd a_wndSeq a_wndAck a_peak a_half a_same a_rto a_tries a_retryAt a_ackAt a_waitTill a_timedAt a_timedSeq a_smoothed a_variance a_rowCount a_slotSeq a_slotFlags a_slotAck a_slotWindow a_slotSize a_slotBytes := sorry
/-- what a send asks of the picture -/
def sq_ok (G : gm_T) (e : Nat) (fr fl n : Int) : Prop := 0 ≤ G.1 0 e ∧ G.1 0 e ≤ 10 ∧ 0 ≤ G.1 30 e ∧ G.1 30 e ≤ 16 ∧ 0 ≤ n ∧ n ≤ 8 ∧ (fl = 0 ∨ fl = 1 ∨ fl = 4) ∧ -100 ≤ fr - G.1 5 e ∧ fr - G.1 5 e ≤ 100 ∧ 0 ≤ G.1 5 e ∧ G.1 5 e ≤ 1000000 ∧ -1 ≤ G.1 24 e ∧ (0 ≤ G.1 24 e → 0 ≤ G.1 25 e ∧ G.1 25 e < 2147483648) ∧ -1 ≤ G.1 21 e ∧ G.1 21 e < 2147483648 ∧ (0 < n → 1 ≤ fr ∧ G.1 6 e - 32 ≤ fr ∧ fr + n ≤ G.1 6 e ∧ G.1 33 e = G.1 6 e) ∧ (G.1 0 e = 2 → G.1 22 e = -1) ∧ -1 ≤ G.1 24 e ∧ G.1 24 e ≤ 1000000
theorem xs_97 {P : SX → Prop} {f_now : Int32} {f_sent : Int32} {a_stateOf : (Nat → Int32)} {a_error : (Nat → Int32)} {a_iss : (Nat → Int32)} {a_una : (Nat → Int32)} {a_nxt : (Nat → Int32)} {a_max : (Nat → Int32)} {a_writtenTo : (Nat → Int32)} {a_kept : (Nat → Int32)} {a_keptBytes : (Nat → Int32)} {a_rcv : (Nat → Int32)} {a_unread : (Nat → Int32)} {a_unreadFrom : (Nat → Int32)} {a_cameBytes : (Nat → Int32)} {a_held : (Nat → Int32)} {a_heldFin : (Nat → Int32)} {a_wnd : (Nat → Int32)} {a_wndSeq : (Nat → Int32)} {a_wndAck : (Nat → Int32)} {a_peak : (Nat → Int32)} {a_half : (Nat → Int32)} {a_same : (Nat → Int32)} {a_rto : (Nat → Int32)} {a_tries : (Nat → Int32)} {a_retryAt : (Nat → Int32)} {a_ackAt : (Nat → Int32)} {a_waitTill : (Nat → Int32)} {a_timedAt : (Nat → Int32)} {a_timedSeq : (Nat → Int32)} {a_smoothed : (Nat → Int32)} {a_variance : (Nat → Int32)} {a_rowCount : (Nat → Int32)} {a_slotSeq : (Nat → Int32)} {a_slotFlags : (Nat → Int32)} {a_slotAck : (Nat → Int32)} {a_slotWindow : (Nat → Int32)} {a_slotSize : (Nat → Int32)} {a_slotBytes : (Nat → Int32)} {p x2 x3 x4 x6 : Int32} {e k : Nat} {i0 fr n : Int} {g : Int → Int} (hp : vp_in p 2) (hpe : p.toNatClampNeg = e) (hk : k ≤ 32) (hx2 : x2 = zi_n ((i0 + fr) % 65536)) (hx4 : x4 = zi_n n) (hx6 : x6 = zi_n (k : Int)) (hn0 : 0 ≤ n) (hn8 : n ≤ 8) (hkb : ∀ i : Int, 0 ≤ i → i < n → a_keptBytes (32 * e + ((i0 + (fr + i)) % 32).toNat) = zi_n (zi_b (g i))) (hX : ∀ (m : Nat) (SB : Nat → Int32), (∀ j, SB j = if 8 * (k : Int) ≤ j ∧ (j : Int) < 8 * (k : Int) + n then zi_n (zi_b (g ((j : Int) - 8 * (k : Int)))) else a_slotBytes j) → wX_send_97 P p x2 x3 x4 x6 f_now f_sent (m + 1) x4 a_stateOf a_error a_iss a_una a_nxt a_max a_writtenTo a_kept a_keptBytes a_rcv a_unread a_unreadFrom a_cameBytes a_held a_heldFin a_wnd a_wndSeq a_wndAck a_peak a_half a_same a_rto a_tries a_retryAt a_ackAt a_waitTill a_timedAt a_timedSeq a_smoothed a_variance a_rowCount a_slotSeq a_slotFlags a_slotAck a_slotWindow a_slotSize (SB)) :
    ∀ (f i : Nat) (SB : Nat → Int32), (i : Int) ≤ n → n - i < f → (∀ j, SB j = if 8 * (k : Int) ≤ j ∧ (j : Int) < 8 * (k : Int) + i then zi_n (zi_b (g ((j : Int) - 8 * (k : Int)))) else a_slotBytes j) → wX_send_97 P p x2 x3 x4 x6 f_now f_sent f (nI i) a_stateOf a_error a_iss a_una a_nxt a_max a_writtenTo a_kept a_keptBytes a_rcv a_unread a_unreadFrom a_cameBytes a_held a_heldFin a_wnd a_wndSeq a_wndAck a_peak a_half a_same a_rto a_tries a_retryAt a_ackAt a_waitTill a_timedAt a_timedSeq a_smoothed a_variance a_rowCount a_slotSeq a_slotFlags a_slotAck a_slotWindow a_slotSize (SB) := sorry
theorem xl_send {q : Int} {G : gm_T} {u : SX} {p x1 x2 x3 : Int32} {P : SX → Prop} {fr fl n : Int} (hv : vx_S q G u) (hp : vp_in p 2) (hx1 : x1 = zi_n ((G.1 2 p.toNatClampNeg + fr) % 65536)) (hx2 : x2 = zi_n fl) (hx3 : x3 = zi_n n) (ok : sq_ok G p.toNatClampNeg fr fl n) (hP : ∀ u', vx_S q (gp_send G p.toNatClampNeg fr fl n) u' → P u') : wpX_send P u p x1 x2 x3 := sorry
theorem xl_sendAck {q : Int} {G : gm_T} {u : SX} {p : Int32} {P : SX → Prop} (hv : vx_S q G u) (hp : vp_in p 2) (ok : sq_ok G p.toNatClampNeg (G.1 5 p.toNatClampNeg) 0 0) (hP : ∀ u', vx_S q (gp_ack G p.toNatClampNeg) u' → P u') : wpX_sendAck P u p := sorry
end
section
/-! the class: flow -/
theorem sk_of {K : Int} {G : gm_T} {e : Nat} {fr fl n : Int} (hI : gv_I K G) (he : e < 2) (hs : 2 ≤ G.1 0 e) (hf : fl = 0 ∨ fl = 1 ∨ fl = 4) (hn0 : 0 ≤ n) (hn8 : n ≤ 8) (h0 : G.1 3 e - 1 ≤ fr) (h1 : fr ≤ G.1 5 e) (hb : 0 < n → 4 ≤ G.1 0 e ∧ G.1 3 e ≤ fr ∧ fr + n ≤ G.1 6 e) : sq_ok G e fr fl n := sorry
theorem xl_maySend {P : Int32 → Prop} {x : Int32} {s : Int} (hx : x = zi_n s) (h0 : 0 ≤ s) (h1 : s ≤ 10) (ht : (s = 4 ∨ s = 5 ∨ s = 7 ∨ s = 8 ∨ s = 9) → P 1) (hf : ¬ (s = 4 ∨ s = 5 ∨ s = 7 ∨ s = 8 ∨ s = 9) → P 0) : wpX_maySend P x := sorry
theorem xl_hasFin {P : Int32 → Prop} {x : Int32} {s : Int} (hx : x = zi_n s) (h0 : 0 ≤ s) (h1 : s ≤ 10) (ht : (s = 5 ∨ s = 6 ∨ s = 8 ∨ s = 9 ∨ s = 10) → P 1) (hf : ¬ (s = 5 ∨ s = 6 ∨ s = 8 ∨ s = 9 ∨ s = 10) → P 0) : wpX_hasFin P x := sorry
theorem xf_340 {q : Int} {G : gm_T} {f_now : Int32} {f_sent : Int32} {a_stateOf : (Nat → Int32)} {a_error : (Nat → Int32)} {a_iss : (Nat → Int32)} {a_una : (Nat → Int32)} {a_nxt : (Nat → Int32)} {a_max : (Nat → Int32)} {a_writtenTo : (Nat → Int32)} {a_kept : (Nat → Int32)} {a_keptBytes : (Nat → Int32)} {a_rcv : (Nat → Int32)} {a_unread : (Nat → Int32)} {a_unreadFrom : (Nat → Int32)} {a_cameBytes : (Nat → Int32)} {a_held : (Nat → Int32)} {a_heldFin : (Nat → Int32)} {a_wnd : (Nat → Int32)} {a_wndSeq : (Nat → Int32)} {a_wndAck : (Nat → Int32)} {a_peak : (Nat → Int32)} {a_half : (Nat → Int32)} {a_same : (Nat → Int32)} {a_rto : (Nat → Int32)} {a_tries : (Nat → Int32)} {a_retryAt : (Nat → Int32)} {a_ackAt : (Nat → Int32)} {a_waitTill : (Nat → Int32)} {a_timedAt : (Nat → Int32)} {a_timedSeq : (Nat → Int32)} {a_smoothed : (Nat → Int32)} {a_variance : (Nat → Int32)} {a_rowCount : (Nat → Int32)} {a_slotSeq : (Nat → Int32)} {a_slotFlags : (Nat → Int32)} {a_slotAck : (Nat → Int32)} {a_slotWindow : (Nat → Int32)} {a_slotSize : (Nat → Int32)} {a_slotBytes : (Nat → Int32)} {p : Int32} {P : SX → Prop} (hv : vx_S q G (f_now, f_sent, a_stateOf, a_error, a_iss, a_una, a_nxt, a_max, a_writtenTo, a_kept, a_keptBytes, a_rcv, a_unread, a_unreadFrom, a_cameBytes, a_held, a_heldFin, a_wnd, a_wndSeq, a_wndAck, a_peak, a_half, a_same, a_rto, a_tries, a_retryAt, a_ackAt, a_waitTill, a_timedAt, a_timedSeq, a_smoothed, a_variance, a_rowCount, a_slotSeq, a_slotFlags, a_slotAck, a_slotWindow, a_slotSize, a_slotBytes)) (hp : vp_in p 2) (h0 : -1 ≤ G.1 21 p.toNatClampNeg) (h1 : G.1 21 p.toNatClampNeg < 2147483648) (hc : G.1 12 p.toNatClampNeg = 0 ∧ G.1 4 p.toNatClampNeg = G.1 3 p.toNatClampNeg ∧ (G.1 4 p.toNatClampNeg < G.1 6 p.toNatClampNeg ∨ (G.1 29 p.toNatClampNeg = 1 ∧ G.1 4 p.toNatClampNeg = G.1 6 p.toNatClampNeg))) (hP : ∀ u', vx_S q (gp_rest G p.toNatClampNeg) u' → P u') : wX_flow_340 P p f_now f_sent a_stateOf a_error a_iss a_una a_nxt a_max a_writtenTo a_kept a_keptBytes a_rcv a_unread a_unreadFrom a_cameBytes a_held a_heldFin a_wnd a_wndSeq a_wndAck a_peak a_half a_same a_rto a_tries a_retryAt a_ackAt a_waitTill a_timedAt a_timedSeq a_smoothed a_variance a_rowCount a_slotSeq a_slotFlags a_slotAck a_slotWindow a_slotSize a_slotBytes := sorry
theorem xf_306 {q K : Int} {G : gm_T} {f_now : Int32} {f_sent : Int32} {a_stateOf : (Nat → Int32)} {a_error : (Nat → Int32)} {a_iss : (Nat → Int32)} {a_una : (Nat → Int32)} {a_nxt : (Nat → Int32)} {a_max : (Nat → Int32)} {a_writtenTo : (Nat → Int32)} {a_kept : (Nat → Int32)} {a_keptBytes : (Nat → Int32)} {a_rcv : (Nat → Int32)} {a_unread : (Nat → Int32)} {a_unreadFrom : (Nat → Int32)} {a_cameBytes : (Nat → Int32)} {a_held : (Nat → Int32)} {a_heldFin : (Nat → Int32)} {a_wnd : (Nat → Int32)} {a_wndSeq : (Nat → Int32)} {a_wndAck : (Nat → Int32)} {a_peak : (Nat → Int32)} {a_half : (Nat → Int32)} {a_same : (Nat → Int32)} {a_rto : (Nat → Int32)} {a_tries : (Nat → Int32)} {a_retryAt : (Nat → Int32)} {a_ackAt : (Nat → Int32)} {a_waitTill : (Nat → Int32)} {a_timedAt : (Nat → Int32)} {a_timedSeq : (Nat → Int32)} {a_smoothed : (Nat → Int32)} {a_variance : (Nat → Int32)} {a_rowCount : (Nat → Int32)} {a_slotSeq : (Nat → Int32)} {a_slotFlags : (Nat → Int32)} {a_slotAck : (Nat → Int32)} {a_slotWindow : (Nat → Int32)} {a_slotSize : (Nat → Int32)} {a_slotBytes : (Nat → Int32)} {p x4 x6 : Int32} {d : Int} {P : SX → Prop} (hv : vx_S q G (f_now, f_sent, a_stateOf, a_error, a_iss, a_una, a_nxt, a_max, a_writtenTo, a_kept, a_keptBytes, a_rcv, a_unread, a_unreadFrom, a_cameBytes, a_held, a_heldFin, a_wnd, a_wndSeq, a_wndAck, a_peak, a_half, a_same, a_rto, a_tries, a_retryAt, a_ackAt, a_waitTill, a_timedAt, a_timedSeq, a_smoothed, a_variance, a_rowCount, a_slotSeq, a_slotFlags, a_slotAck, a_slotWindow, a_slotSize, a_slotBytes)) (hI : gv_I K G) (hp : vp_in p 2) (h4 : 4 ≤ G.1 0 p.toNatClampNeg) (hx4 : x4 = zi_n d) (hd0 : -10 ≤ d) (hd1 : d ≤ 100) (hd : G.1 12 p.toNatClampNeg = 0 → ((0 < d ∨ ¬ x6 = 0) ↔ (G.1 4 p.toNatClampNeg < G.1 6 p.toNatClampNeg ∨ (G.1 29 p.toNatClampNeg = 1 ∧ G.1 4 p.toNatClampNeg = G.1 6 p.toNatClampNeg)))) (hP : ∀ u', vx_S q (gp_rest G p.toNatClampNeg) u' → P u') : wX_flow_306 P p x4 x6 f_now f_sent a_stateOf a_error a_iss a_una a_nxt a_max a_writtenTo a_kept a_keptBytes a_rcv a_unread a_unreadFrom a_cameBytes a_held a_heldFin a_wnd a_wndSeq a_wndAck a_peak a_half a_same a_rto a_tries a_retryAt a_ackAt a_waitTill a_timedAt a_timedSeq a_smoothed a_variance a_rowCount a_slotSeq a_slotFlags a_slotAck a_slotWindow a_slotSize a_slotBytes := sorry
theorem xf_202 {q K : Int} {G : gm_T} {f_now : Int32} {f_sent : Int32} {a_stateOf : (Nat → Int32)} {a_error : (Nat → Int32)} {a_iss : (Nat → Int32)} {a_una : (Nat → Int32)} {a_nxt : (Nat → Int32)} {a_max : (Nat → Int32)} {a_writtenTo : (Nat → Int32)} {a_kept : (Nat → Int32)} {a_keptBytes : (Nat → Int32)} {a_rcv : (Nat → Int32)} {a_unread : (Nat → Int32)} {a_unreadFrom : (Nat → Int32)} {a_cameBytes : (Nat → Int32)} {a_held : (Nat → Int32)} {a_heldFin : (Nat → Int32)} {a_wnd : (Nat → Int32)} {a_wndSeq : (Nat → Int32)} {a_wndAck : (Nat → Int32)} {a_peak : (Nat → Int32)} {a_half : (Nat → Int32)} {a_same : (Nat → Int32)} {a_rto : (Nat → Int32)} {a_tries : (Nat → Int32)} {a_retryAt : (Nat → Int32)} {a_ackAt : (Nat → Int32)} {a_waitTill : (Nat → Int32)} {a_timedAt : (Nat → Int32)} {a_timedSeq : (Nat → Int32)} {a_smoothed : (Nat → Int32)} {a_variance : (Nat → Int32)} {a_rowCount : (Nat → Int32)} {a_slotSeq : (Nat → Int32)} {a_slotFlags : (Nat → Int32)} {a_slotAck : (Nat → Int32)} {a_slotWindow : (Nat → Int32)} {a_slotSize : (Nat → Int32)} {a_slotBytes : (Nat → Int32)} {p x2 : Int32} {P : SX → Prop} (hv : vx_S q G (f_now, f_sent, a_stateOf, a_error, a_iss, a_una, a_nxt, a_max, a_writtenTo, a_kept, a_keptBytes, a_rcv, a_unread, a_unreadFrom, a_cameBytes, a_held, a_heldFin, a_wnd, a_wndSeq, a_wndAck, a_peak, a_half, a_same, a_rto, a_tries, a_retryAt, a_ackAt, a_waitTill, a_timedAt, a_timedSeq, a_smoothed, a_variance, a_rowCount, a_slotSeq, a_slotFlags, a_slotAck, a_slotWindow, a_slotSize, a_slotBytes)) (hI : gv_I K G) (hp : vp_in p 2) (h4 : 4 ≤ G.1 0 p.toNatClampNeg) (hx2 : x2 = zi_n (min (G.1 12 p.toNatClampNeg) (G.1 16 p.toNatClampNeg))) (hP : ∀ u', vx_S q (gp_rest (gp_fin G p.toNatClampNeg) p.toNatClampNeg) u' → P u') : wX_flow_202 P p x2 f_now f_sent a_stateOf a_error a_iss a_una a_nxt a_max a_writtenTo a_kept a_keptBytes a_rcv a_unread a_unreadFrom a_cameBytes a_held a_heldFin a_wnd a_wndSeq a_wndAck a_peak a_half a_same a_rto a_tries a_retryAt a_ackAt a_waitTill a_timedAt a_timedSeq a_smoothed a_variance a_rowCount a_slotSeq a_slotFlags a_slotAck a_slotWindow a_slotSize a_slotBytes := sorry
theorem vx_step {q : Int} {G G1 : gm_T} {f_now : Int32} {f_sent : Int32} {a_stateOf : (Nat → Int32)} {a_error : (Nat → Int32)} {a_iss : (Nat → Int32)} {a_una : (Nat → Int32)} {a_nxt : (Nat → Int32)} {a_max : (Nat → Int32)} {a_writtenTo : (Nat → Int32)} {a_kept : (Nat → Int32)} {a_keptBytes : (Nat → Int32)} {a_rcv : (Nat → Int32)} {a_unread : (Nat → Int32)} {a_unreadFrom : (Nat → Int32)} {a_cameBytes : (Nat → Int32)} {a_held : (Nat → Int32)} {a_heldFin : (Nat → Int32)} {a_wnd : (Nat → Int32)} {a_wndSeq : (Nat → Int32)} {a_wndAck : (Nat → Int32)} {a_peak : (Nat → Int32)} {a_half : (Nat → Int32)} {a_same : (Nat → Int32)} {a_rto : (Nat → Int32)} {a_tries : (Nat → Int32)} {a_retryAt : (Nat → Int32)} {a_ackAt : (Nat → Int32)} {a_waitTill : (Nat → Int32)} {a_timedAt : (Nat → Int32)} {a_timedSeq : (Nat → Int32)} {a_smoothed : (Nat → Int32)} {a_variance : (Nat → Int32)} {a_rowCount : (Nat → Int32)} {a_slotSeq : (Nat → Int32)} {a_slotFlags : (Nat → Int32)} {a_slotAck : (Nat → Int32)} {a_slotWindow : (Nat → Int32)} {a_slotSize : (Nat → Int32)} {a_slotBytes : (Nat → Int32)} {p : Int32} {y : Int32} {z : Int} (hv : vx_S q G1 (f_now, f_sent, a_stateOf, a_error, a_iss, a_una, a_nxt, a_max, a_writtenTo, a_kept, a_keptBytes, a_rcv, a_unread, a_unreadFrom, a_cameBytes, a_held, a_heldFin, a_wnd, a_wndSeq, a_wndAck, a_peak, a_half, a_same, a_rto, a_tries, a_retryAt, a_ackAt, a_waitTill, a_timedAt, a_timedSeq, a_smoothed, a_variance, a_rowCount, a_slotSeq, a_slotFlags, a_slotAck, a_slotWindow, a_slotSize, a_slotBytes)) (hy : y = zi_n ((G1.1 2 p.toNatClampNeg + z) % 65536)) : vx_S q (gp_put G1 4 p.toNatClampNeg z) (f_now, f_sent, a_stateOf, a_error, a_iss, a_una, upd a_nxt p.toNatClampNeg y, a_max, a_writtenTo, a_kept, a_keptBytes, a_rcv, a_unread, a_unreadFrom, a_cameBytes, a_held, a_heldFin, a_wnd, a_wndSeq, a_wndAck, a_peak, a_half, a_same, a_rto, a_tries, a_retryAt, a_ackAt, a_waitTill, a_timedAt, a_timedSeq, a_smoothed, a_variance, a_rowCount, a_slotSeq, a_slotFlags, a_slotAck, a_slotWindow, a_slotSize, a_slotBytes) := sorry
theorem xf_49 {q K : Int} {p x2 : Int32} {P : SX → Prop} (hp : vp_in p 2) : ∀ (k f r : Nat) (G : gm_T) (f_now : Int32) (f_sent : Int32) (a_stateOf : (Nat → Int32)) (a_error : (Nat → Int32)) (a_iss : (Nat → Int32)) (a_una : (Nat → Int32)) (a_nxt : (Nat → Int32)) (a_max : (Nat → Int32)) (a_writtenTo : (Nat → Int32)) (a_kept : (Nat → Int32)) (a_keptBytes : (Nat → Int32)) (a_rcv : (Nat → Int32)) (a_unread : (Nat → Int32)) (a_unreadFrom : (Nat → Int32)) (a_cameBytes : (Nat → Int32)) (a_held : (Nat → Int32)) (a_heldFin : (Nat → Int32)) (a_wnd : (Nat → Int32)) (a_wndSeq : (Nat → Int32)) (a_wndAck : (Nat → Int32)) (a_peak : (Nat → Int32)) (a_half : (Nat → Int32)) (a_same : (Nat → Int32)) (a_rto : (Nat → Int32)) (a_tries : (Nat → Int32)) (a_retryAt : (Nat → Int32)) (a_ackAt : (Nat → Int32)) (a_waitTill : (Nat → Int32)) (a_timedAt : (Nat → Int32)) (a_timedSeq : (Nat → Int32)) (a_smoothed : (Nat → Int32)) (a_variance : (Nat → Int32)) (a_rowCount : (Nat → Int32)) (a_slotSeq : (Nat → Int32)) (a_slotFlags : (Nat → Int32)) (a_slotAck : (Nat → Int32)) (a_slotWindow : (Nat → Int32)) (a_slotSize : (Nat → Int32)) (a_slotBytes : (Nat → Int32)), r + k = 33 → k + 1 < f → vx_S q G (f_now, f_sent, a_stateOf, a_error, a_iss, a_una, a_nxt, a_max, a_writtenTo, a_kept, a_keptBytes, a_rcv, a_unread, a_unreadFrom, a_cameBytes, a_held, a_heldFin, a_wnd, a_wndSeq, a_wndAck, a_peak, a_half, a_same, a_rto, a_tries, a_retryAt, a_ackAt, a_waitTill, a_timedAt, a_timedSeq, a_smoothed, a_variance, a_rowCount, a_slotSeq, a_slotFlags, a_slotAck, a_slotWindow, a_slotSize, a_slotBytes) → gv_I K G → 4 ≤ G.1 0 p.toNatClampNeg → x2 = zi_n (min (G.1 12 p.toNatClampNeg) (G.1 16 p.toNatClampNeg)) → (∀ u', vx_S q (gp_rest (gp_fin (gp_loop k G p.toNatClampNeg) p.toNatClampNeg) p.toNatClampNeg) u' → P u') → wX_flow_49 P p x2 f 1 (nI r) f_now f_sent a_stateOf a_error a_iss a_una a_nxt a_max a_writtenTo a_kept a_keptBytes a_rcv a_unread a_unreadFrom a_cameBytes a_held a_heldFin a_wnd a_wndSeq a_wndAck a_peak a_half a_same a_rto a_tries a_retryAt a_ackAt a_waitTill a_timedAt a_timedSeq a_smoothed a_variance a_rowCount a_slotSeq a_slotFlags a_slotAck a_slotWindow a_slotSize a_slotBytes := sorry
theorem xl_flow {q K : Int} {G : gm_T} {u : SX} {p : Int32} {P : SX → Prop} (hv : vx_S q G u) (hI : gv_I K G) (hp : vp_in p 2) (hP : ∀ u', vx_S q (gp_flow G p.toNatClampNeg) u' → P u') : wpX_flow P u p := sorry
end
section
/-! the class: measured; acknowledgements -/
def mq_ok (G : gm_T) (e : Nat) : Prop := 0 ≤ G.1 24 e ∧ 0 ≤ gm_N G ∧ gm_N G ≤ 1000000 ∧ 0 ≤ G.1 25 e ∧ G.1 25 e ≤ gm_N G ∧ (G.1 26 e = 0 ∨ G.1 26 e = 1) ∧ (G.1 26 e = 1 → 0 ≤ G.1 27 e ∧ G.1 27 e ≤ 8 * gm_N G) ∧ 0 ≤ G.1 28 e ∧ G.1 28 e ≤ 4 * gm_N G + 3
theorem mq_r {G : gm_T} {e : Nat} (h : mq_ok G e) : (0 ≤ gp_so G e ∧ gp_so G e ≤ 8000000) ∧ (0 ≤ gp_va G e ∧ gp_va G e ≤ 8000000) := sorry
theorem mq_of {K : Int} {G : gm_T} {e : Nat} (hI : gv_I K G) (he : e < 2) (ht : 0 ≤ G.1 24 e) : mq_ok G e := sorry
theorem xm_94 {P : SX → Prop} {f_now : Int32} {f_sent : Int32} {a_stateOf : (Nat → Int32)} {a_error : (Nat → Int32)} {a_iss : (Nat → Int32)} {a_una : (Nat → Int32)} {a_nxt : (Nat → Int32)} {a_max : (Nat → Int32)} {a_writtenTo : (Nat → Int32)} {a_kept : (Nat → Int32)} {a_keptBytes : (Nat → Int32)} {a_rcv : (Nat → Int32)} {a_unread : (Nat → Int32)} {a_unreadFrom : (Nat → Int32)} {a_cameBytes : (Nat → Int32)} {a_held : (Nat → Int32)} {a_heldFin : (Nat → Int32)} {a_wnd : (Nat → Int32)} {a_wndSeq : (Nat → Int32)} {a_wndAck : (Nat → Int32)} {a_peak : (Nat → Int32)} {a_half : (Nat → Int32)} {a_same : (Nat → Int32)} {a_rto : (Nat → Int32)} {a_tries : (Nat → Int32)} {a_retryAt : (Nat → Int32)} {a_ackAt : (Nat → Int32)} {a_waitTill : (Nat → Int32)} {a_timedAt : (Nat → Int32)} {a_timedSeq : (Nat → Int32)} {a_smoothed : (Nat → Int32)} {a_variance : (Nat → Int32)} {a_rowCount : (Nat → Int32)} {a_slotSeq : (Nat → Int32)} {a_slotFlags : (Nat → Int32)} {a_slotAck : (Nat → Int32)} {a_slotWindow : (Nat → Int32)} {a_slotSize : (Nat → Int32)} {a_slotBytes : (Nat → Int32)} {p : Int32} {so va : Int} (hp : vp_in p 2) (hs : a_smoothed p.toNatClampNeg = zi_n so) (hva : a_variance p.toNatClampNeg = zi_n va) (h0 : 0 ≤ so) (h1 : so ≤ 8000000) (h2 : 0 ≤ va) (h3 : va ≤ 8000000) (hP : P (f_now, f_sent, a_stateOf, a_error, a_iss, a_una, a_nxt, a_max, a_writtenTo, a_kept, a_keptBytes, a_rcv, a_unread, a_unreadFrom, a_cameBytes, a_held, a_heldFin, a_wnd, a_wndSeq, a_wndAck, a_peak, a_half, a_same, upd a_rto p.toNatClampNeg (zi_n (if so / 8 + va < 2 then 2 else if 64 < so / 8 + va then 64 else so / 8 + va)), a_tries, a_retryAt, a_ackAt, a_waitTill, upd a_timedAt p.toNatClampNeg (-1), a_timedSeq, a_smoothed, a_variance, a_rowCount, a_slotSeq, a_slotFlags, a_slotAck, a_slotWindow, a_slotSize, a_slotBytes)) : wX_measure_94 P p f_now f_sent a_stateOf a_error a_iss a_una a_nxt a_max a_writtenTo a_kept a_keptBytes a_rcv a_unread a_unreadFrom a_cameBytes a_held a_heldFin a_wnd a_wndSeq a_wndAck a_peak a_half a_same a_rto a_tries a_retryAt a_ackAt a_waitTill a_timedAt a_timedSeq a_smoothed a_variance a_rowCount a_slotSeq a_slotFlags a_slotAck a_slotWindow a_slotSize a_slotBytes := sorry
theorem xl_measure {q : Int} {G : gm_T} {u : SX} {p : Int32} {P : SX → Prop} (hv : vx_S q G u) (hp : vp_in p 2) (ok : mq_ok G p.toNatClampNeg) (hP : ∀ u', vx_S q (gp_meas G p.toNatClampNeg) u' → P u') : wpX_measure P u p := sorry
theorem xl_widenPeak {P : SX → Prop} {f_now : Int32} {f_sent : Int32} {a_stateOf : (Nat → Int32)} {a_error : (Nat → Int32)} {a_iss : (Nat → Int32)} {a_una : (Nat → Int32)} {a_nxt : (Nat → Int32)} {a_max : (Nat → Int32)} {a_writtenTo : (Nat → Int32)} {a_kept : (Nat → Int32)} {a_keptBytes : (Nat → Int32)} {a_rcv : (Nat → Int32)} {a_unread : (Nat → Int32)} {a_unreadFrom : (Nat → Int32)} {a_cameBytes : (Nat → Int32)} {a_held : (Nat → Int32)} {a_heldFin : (Nat → Int32)} {a_wnd : (Nat → Int32)} {a_wndSeq : (Nat → Int32)} {a_wndAck : (Nat → Int32)} {a_peak : (Nat → Int32)} {a_half : (Nat → Int32)} {a_same : (Nat → Int32)} {a_rto : (Nat → Int32)} {a_tries : (Nat → Int32)} {a_retryAt : (Nat → Int32)} {a_ackAt : (Nat → Int32)} {a_waitTill : (Nat → Int32)} {a_timedAt : (Nat → Int32)} {a_timedSeq : (Nat → Int32)} {a_smoothed : (Nat → Int32)} {a_variance : (Nat → Int32)} {a_rowCount : (Nat → Int32)} {a_slotSeq : (Nat → Int32)} {a_slotFlags : (Nat → Int32)} {a_slotAck : (Nat → Int32)} {a_slotWindow : (Nat → Int32)} {a_slotSize : (Nat → Int32)} {a_slotBytes : (Nat → Int32)} {p x : Int32} {pk st : Int} (hp : vp_in p 2) (hk : a_peak p.toNatClampNeg = zi_n pk) (hx : x = zi_n st) (h0 : 0 ≤ pk) (h1 : pk ≤ 1000) (h2 : 0 ≤ st) (h3 : st ≤ 1000) (hP : P (f_now, f_sent, a_stateOf, a_error, a_iss, a_una, a_nxt, a_max, a_writtenTo, a_kept, a_keptBytes, a_rcv, a_unread, a_unreadFrom, a_cameBytes, a_held, a_heldFin, a_wnd, a_wndSeq, a_wndAck, upd a_peak p.toNatClampNeg (zi_n (min 64 (pk + st))), a_half, a_same, a_rto, a_tries, a_retryAt, a_ackAt, a_waitTill, a_timedAt, a_timedSeq, a_smoothed, a_variance, a_rowCount, a_slotSeq, a_slotFlags, a_slotAck, a_slotWindow, a_slotSize, a_slotBytes)) : wpX_widenPeak P (f_now, f_sent, a_stateOf, a_error, a_iss, a_una, a_nxt, a_max, a_writtenTo, a_kept, a_keptBytes, a_rcv, a_unread, a_unreadFrom, a_cameBytes, a_held, a_heldFin, a_wnd, a_wndSeq, a_wndAck, a_peak, a_half, a_same, a_rto, a_tries, a_retryAt, a_ackAt, a_waitTill, a_timedAt, a_timedSeq, a_smoothed, a_variance, a_rowCount, a_slotSeq, a_slotFlags, a_slotAck, a_slotWindow, a_slotSize, a_slotBytes) p x := sorry
theorem xl_growPeak {P : SX → Prop} {f_now : Int32} {f_sent : Int32} {a_stateOf : (Nat → Int32)} {a_error : (Nat → Int32)} {a_iss : (Nat → Int32)} {a_una : (Nat → Int32)} {a_nxt : (Nat → Int32)} {a_max : (Nat → Int32)} {a_writtenTo : (Nat → Int32)} {a_kept : (Nat → Int32)} {a_keptBytes : (Nat → Int32)} {a_rcv : (Nat → Int32)} {a_unread : (Nat → Int32)} {a_unreadFrom : (Nat → Int32)} {a_cameBytes : (Nat → Int32)} {a_held : (Nat → Int32)} {a_heldFin : (Nat → Int32)} {a_wnd : (Nat → Int32)} {a_wndSeq : (Nat → Int32)} {a_wndAck : (Nat → Int32)} {a_peak : (Nat → Int32)} {a_half : (Nat → Int32)} {a_same : (Nat → Int32)} {a_rto : (Nat → Int32)} {a_tries : (Nat → Int32)} {a_retryAt : (Nat → Int32)} {a_ackAt : (Nat → Int32)} {a_waitTill : (Nat → Int32)} {a_timedAt : (Nat → Int32)} {a_timedSeq : (Nat → Int32)} {a_smoothed : (Nat → Int32)} {a_variance : (Nat → Int32)} {a_rowCount : (Nat → Int32)} {a_slotSeq : (Nat → Int32)} {a_slotFlags : (Nat → Int32)} {a_slotAck : (Nat → Int32)} {a_slotWindow : (Nat → Int32)} {a_slotSize : (Nat → Int32)} {a_slotBytes : (Nat → Int32)} {p : Int32} {pk hf sm : Int} (hp : vp_in p 2) (hk : a_peak p.toNatClampNeg = zi_n pk) (hh : a_half p.toNatClampNeg = zi_n hf) (hs : a_same p.toNatClampNeg = zi_n sm) (h0 : 8 ≤ pk) (h1 : pk ≤ 64) (h2 : 8 ≤ hf) (h3 : hf ≤ 64) (h4 : 0 ≤ sm) (h5 : sm ≤ 100000) (hP : P (f_now, f_sent, a_stateOf, a_error, a_iss, a_una, a_nxt, a_max, a_writtenTo, a_kept, a_keptBytes, a_rcv, a_unread, a_unreadFrom, a_cameBytes, a_held, a_heldFin, a_wnd, a_wndSeq, a_wndAck, upd a_peak p.toNatClampNeg (zi_n (if 3 ≤ sm then hf else min 64 (pk + (if pk < hf then 8 else 64 / pk)))), a_half, a_same, a_rto, a_tries, a_retryAt, a_ackAt, a_waitTill, a_timedAt, a_timedSeq, a_smoothed, a_variance, a_rowCount, a_slotSeq, a_slotFlags, a_slotAck, a_slotWindow, a_slotSize, a_slotBytes)) : wpX_growPeak P (f_now, f_sent, a_stateOf, a_error, a_iss, a_una, a_nxt, a_max, a_writtenTo, a_kept, a_keptBytes, a_rcv, a_unread, a_unreadFrom, a_cameBytes, a_held, a_heldFin, a_wnd, a_wndSeq, a_wndAck, a_peak, a_half, a_same, a_rto, a_tries, a_retryAt, a_ackAt, a_waitTill, a_timedAt, a_timedSeq, a_smoothed, a_variance, a_rowCount, a_slotSeq, a_slotFlags, a_slotAck, a_slotWindow, a_slotSize, a_slotBytes) p := sorry
def aq_ok (G : gm_T) (e : Nat) (a : Int) : Prop := 0 < a ∧ a ≤ G.1 5 e - G.1 3 e ∧ 0 ≤ G.1 3 e ∧ G.1 5 e - G.1 3 e ≤ 40 ∧ G.1 5 e ≤ G.1 6 e + 1 ∧ G.1 6 e - G.1 3 e ≤ 33 ∧ G.1 3 e ≤ G.1 4 e ∧ G.1 4 e ≤ G.1 5 e ∧ G.1 5 e ≤ 1000000 ∧ 0 ≤ G.1 12 e ∧ G.1 12 e ≤ 24 ∧ -1 ≤ G.1 24 e ∧ (0 ≤ G.1 24 e → G.1 3 e ≤ G.1 24 e ∧ G.1 24 e < G.1 5 e ∧ mq_ok G e) ∧ 8 ≤ G.1 16 e ∧ G.1 16 e ≤ 64 ∧ 8 ≤ G.1 17 e ∧ G.1 17 e ≤ 64 ∧ 0 ≤ G.1 18 e ∧ G.1 18 e ≤ 100000 ∧ G.1 32 e = G.1 3 e ∧ G.1 33 e = G.1 6 e ∧ G.1 34 e = G.1 18 e
theorem xa_119 {q : Int} {G : gm_T} {f_now : Int32} {f_sent : Int32} {a_stateOf : (Nat → Int32)} {a_error : (Nat → Int32)} {a_iss : (Nat → Int32)} {a_una : (Nat → Int32)} {a_nxt : (Nat → Int32)} {a_max : (Nat → Int32)} {a_writtenTo : (Nat → Int32)} {a_kept : (Nat → Int32)} {a_keptBytes : (Nat → Int32)} {a_rcv : (Nat → Int32)} {a_unread : (Nat → Int32)} {a_unreadFrom : (Nat → Int32)} {a_cameBytes : (Nat → Int32)} {a_held : (Nat → Int32)} {a_heldFin : (Nat → Int32)} {a_wnd : (Nat → Int32)} {a_wndSeq : (Nat → Int32)} {a_wndAck : (Nat → Int32)} {a_peak : (Nat → Int32)} {a_half : (Nat → Int32)} {a_same : (Nat → Int32)} {a_rto : (Nat → Int32)} {a_tries : (Nat → Int32)} {a_retryAt : (Nat → Int32)} {a_ackAt : (Nat → Int32)} {a_waitTill : (Nat → Int32)} {a_timedAt : (Nat → Int32)} {a_timedSeq : (Nat → Int32)} {a_smoothed : (Nat → Int32)} {a_variance : (Nat → Int32)} {a_rowCount : (Nat → Int32)} {a_slotSeq : (Nat → Int32)} {a_slotFlags : (Nat → Int32)} {a_slotAck : (Nat → Int32)} {a_slotWindow : (Nat → Int32)} {a_slotSize : (Nat → Int32)} {a_slotBytes : (Nat → Int32)} {p : Int32} {P : SX → Prop} (hv : vx_S q G (f_now, f_sent, a_stateOf, a_error, a_iss, a_una, a_nxt, a_max, a_writtenTo, a_kept, a_keptBytes, a_rcv, a_unread, a_unreadFrom, a_cameBytes, a_held, a_heldFin, a_wnd, a_wndSeq, a_wndAck, a_peak, a_half, a_same, a_rto, a_tries, a_retryAt, a_ackAt, a_waitTill, a_timedAt, a_timedSeq, a_smoothed, a_variance, a_rowCount, a_slotSeq, a_slotFlags, a_slotAck, a_slotWindow, a_slotSize, a_slotBytes)) (hp : vp_in p 2) (h0 : 8 ≤ G.1 16 p.toNatClampNeg) (h1 : G.1 16 p.toNatClampNeg ≤ 64) (h2 : 8 ≤ G.1 17 p.toNatClampNeg) (h3 : G.1 17 p.toNatClampNeg ≤ 64) (h4 : 0 ≤ G.1 18 p.toNatClampNeg) (h5 : G.1 18 p.toNatClampNeg ≤ 100000) (h6 : -100 ≤ G.1 5 p.toNatClampNeg - G.1 3 p.toNatClampNeg) (h7 : G.1 5 p.toNatClampNeg - G.1 3 p.toNatClampNeg ≤ 100) (hP : ∀ u', vx_S q (gp_adv3 G p.toNatClampNeg) u' → P u') : wX_takeNewAck_119 P p f_now f_sent a_stateOf a_error a_iss a_una a_nxt a_max a_writtenTo a_kept a_keptBytes a_rcv a_unread a_unreadFrom a_cameBytes a_held a_heldFin a_wnd a_wndSeq a_wndAck a_peak a_half a_same a_rto a_tries a_retryAt a_ackAt a_waitTill a_timedAt a_timedSeq a_smoothed a_variance a_rowCount a_slotSeq a_slotFlags a_slotAck a_slotWindow a_slotSize a_slotBytes := sorry
theorem xl_takeNewAck {q : Int} {G : gm_T} {u : SX} {p x1 x2 : Int32} {P : SX → Prop} {a : Int} (hv : vx_S q G u) (hp : vp_in p 2) (ok : aq_ok G p.toNatClampNeg a) (hx1 : x1 = zi_n ((G.1 2 p.toNatClampNeg + (G.1 3 p.toNatClampNeg + a)) % 65536)) (hx2 : x2 = zi_n a) (hP : ∀ u', vx_S q (gp_adv3 (gp_adv2 (gp_adv1 G p.toNatClampNeg a) p.toNatClampNeg) p.toNatClampNeg) u' → P u') : wpX_takeNewAck P u p x1 x2 := sorry
end
section
/-! the class: acknowledged FINs, pieces, windows; a segment arrives at an end that is closed, listens or opens -/
theorem vx_put {q : Int} {G : gm_T} {f_now : Int32} {f_sent : Int32} {a_stateOf : (Nat → Int32)} {a_error : (Nat → Int32)} {a_iss : (Nat → Int32)} {a_una : (Nat → Int32)} {a_nxt : (Nat → Int32)} {a_max : (Nat → Int32)} {a_writtenTo : (Nat → Int32)} {a_kept : (Nat → Int32)} {a_keptBytes : (Nat → Int32)} {a_rcv : (Nat → Int32)} {a_unread : (Nat → Int32)} {a_unreadFrom : (Nat → Int32)} {a_cameBytes : (Nat → Int32)} {a_held : (Nat → Int32)} {a_heldFin : (Nat → Int32)} {a_wnd : (Nat → Int32)} {a_wndSeq : (Nat → Int32)} {a_wndAck : (Nat → Int32)} {a_peak : (Nat → Int32)} {a_half : (Nat → Int32)} {a_same : (Nat → Int32)} {a_rto : (Nat → Int32)} {a_tries : (Nat → Int32)} {a_retryAt : (Nat → Int32)} {a_ackAt : (Nat → Int32)} {a_waitTill : (Nat → Int32)} {a_timedAt : (Nat → Int32)} {a_timedSeq : (Nat → Int32)} {a_smoothed : (Nat → Int32)} {a_variance : (Nat → Int32)} {a_rowCount : (Nat → Int32)} {a_slotSeq : (Nat → Int32)} {a_slotFlags : (Nat → Int32)} {a_slotAck : (Nat → Int32)} {a_slotWindow : (Nat → Int32)} {a_slotSize : (Nat → Int32)} {a_slotBytes : (Nat → Int32)} {e : Nat} {s : Int} {y : Int32} (hv : vx_S q G (f_now, f_sent, a_stateOf, a_error, a_iss, a_una, a_nxt, a_max, a_writtenTo, a_kept, a_keptBytes, a_rcv, a_unread, a_unreadFrom, a_cameBytes, a_held, a_heldFin, a_wnd, a_wndSeq, a_wndAck, a_peak, a_half, a_same, a_rto, a_tries, a_retryAt, a_ackAt, a_waitTill, a_timedAt, a_timedSeq, a_smoothed, a_variance, a_rowCount, a_slotSeq, a_slotFlags, a_slotAck, a_slotWindow, a_slotSize, a_slotBytes)) (hy : y = zi_n s) : vx_S q (gp_put G 0 e s) (f_now, f_sent, upd a_stateOf e y, a_error, a_iss, a_una, a_nxt, a_max, a_writtenTo, a_kept, a_keptBytes, a_rcv, a_unread, a_unreadFrom, a_cameBytes, a_held, a_heldFin, a_wnd, a_wndSeq, a_wndAck, a_peak, a_half, a_same, a_rto, a_tries, a_retryAt, a_ackAt, a_waitTill, a_timedAt, a_timedSeq, a_smoothed, a_variance, a_rowCount, a_slotSeq, a_slotFlags, a_slotAck, a_slotWindow, a_slotSize, a_slotBytes) := sorry
theorem vx_wait {q : Int} {G : gm_T} {f_now : Int32} {f_sent : Int32} {a_stateOf : (Nat → Int32)} {a_error : (Nat → Int32)} {a_iss : (Nat → Int32)} {a_una : (Nat → Int32)} {a_nxt : (Nat → Int32)} {a_max : (Nat → Int32)} {a_writtenTo : (Nat → Int32)} {a_kept : (Nat → Int32)} {a_keptBytes : (Nat → Int32)} {a_rcv : (Nat → Int32)} {a_unread : (Nat → Int32)} {a_unreadFrom : (Nat → Int32)} {a_cameBytes : (Nat → Int32)} {a_held : (Nat → Int32)} {a_heldFin : (Nat → Int32)} {a_wnd : (Nat → Int32)} {a_wndSeq : (Nat → Int32)} {a_wndAck : (Nat → Int32)} {a_peak : (Nat → Int32)} {a_half : (Nat → Int32)} {a_same : (Nat → Int32)} {a_rto : (Nat → Int32)} {a_tries : (Nat → Int32)} {a_retryAt : (Nat → Int32)} {a_ackAt : (Nat → Int32)} {a_waitTill : (Nat → Int32)} {a_timedAt : (Nat → Int32)} {a_timedSeq : (Nat → Int32)} {a_smoothed : (Nat → Int32)} {a_variance : (Nat → Int32)} {a_rowCount : (Nat → Int32)} {a_slotSeq : (Nat → Int32)} {a_slotFlags : (Nat → Int32)} {a_slotAck : (Nat → Int32)} {a_slotWindow : (Nat → Int32)} {a_slotSize : (Nat → Int32)} {a_slotBytes : (Nat → Int32)} {e : Nat} (hv : vx_S q G (f_now, f_sent, a_stateOf, a_error, a_iss, a_una, a_nxt, a_max, a_writtenTo, a_kept, a_keptBytes, a_rcv, a_unread, a_unreadFrom, a_cameBytes, a_held, a_heldFin, a_wnd, a_wndSeq, a_wndAck, a_peak, a_half, a_same, a_rto, a_tries, a_retryAt, a_ackAt, a_waitTill, a_timedAt, a_timedSeq, a_smoothed, a_variance, a_rowCount, a_slotSeq, a_slotFlags, a_slotAck, a_slotWindow, a_slotSize, a_slotBytes)) : vx_S q (gp_wait G e) (f_now, f_sent, upd a_stateOf e 10, a_error, a_iss, a_una, a_nxt, a_max, a_writtenTo, a_kept, a_keptBytes, a_rcv, a_unread, a_unreadFrom, a_cameBytes, a_held, a_heldFin, a_wnd, a_wndSeq, a_wndAck, a_peak, a_half, a_same, a_rto, a_tries, a_retryAt, a_ackAt, upd a_waitTill e (f_now + 20), a_timedAt, a_timedSeq, a_smoothed, a_variance, a_rowCount, a_slotSeq, a_slotFlags, a_slotAck, a_slotWindow, a_slotSize, a_slotBytes) := sorry
theorem xl_takeFinAck {q K : Int} {G : gm_T} {u : SX} {p : Int32} {P : SX → Prop} (hv : vx_S q G u) (hI : gv_I K G) (hp : vp_in p 2) (h4 : 4 ≤ G.1 0 p.toNatClampNeg) (hP : ∀ u', vx_S q (gp_finack G p.toNatClampNeg) u' → P u') : wpX_takeFinAck P u p := sorry
theorem xl_halve {P : SX → Prop} {f_now : Int32} {f_sent : Int32} {a_stateOf : (Nat → Int32)} {a_error : (Nat → Int32)} {a_iss : (Nat → Int32)} {a_una : (Nat → Int32)} {a_nxt : (Nat → Int32)} {a_max : (Nat → Int32)} {a_writtenTo : (Nat → Int32)} {a_kept : (Nat → Int32)} {a_keptBytes : (Nat → Int32)} {a_rcv : (Nat → Int32)} {a_unread : (Nat → Int32)} {a_unreadFrom : (Nat → Int32)} {a_cameBytes : (Nat → Int32)} {a_held : (Nat → Int32)} {a_heldFin : (Nat → Int32)} {a_wnd : (Nat → Int32)} {a_wndSeq : (Nat → Int32)} {a_wndAck : (Nat → Int32)} {a_peak : (Nat → Int32)} {a_half : (Nat → Int32)} {a_same : (Nat → Int32)} {a_rto : (Nat → Int32)} {a_tries : (Nat → Int32)} {a_retryAt : (Nat → Int32)} {a_ackAt : (Nat → Int32)} {a_waitTill : (Nat → Int32)} {a_timedAt : (Nat → Int32)} {a_timedSeq : (Nat → Int32)} {a_smoothed : (Nat → Int32)} {a_variance : (Nat → Int32)} {a_rowCount : (Nat → Int32)} {a_slotSeq : (Nat → Int32)} {a_slotFlags : (Nat → Int32)} {a_slotAck : (Nat → Int32)} {a_slotWindow : (Nat → Int32)} {a_slotSize : (Nat → Int32)} {a_slotBytes : (Nat → Int32)} {p : Int32} {i m v : Int} (hp : vp_in p 2) (hm : a_max p.toNatClampNeg = zi_n ((i + m) % 65536)) (hu : a_una p.toNatClampNeg = zi_n ((i + v) % 65536)) (h0 : 0 ≤ m - v) (h1 : m - v ≤ 100) (hP : P (f_now, f_sent, a_stateOf, a_error, a_iss, a_una, a_nxt, a_max, a_writtenTo, a_kept, a_keptBytes, a_rcv, a_unread, a_unreadFrom, a_cameBytes, a_held, a_heldFin, a_wnd, a_wndSeq, a_wndAck, a_peak, upd a_half p.toNatClampNeg (zi_n (max 8 ((m - v) / 2))), a_same, a_rto, a_tries, a_retryAt, a_ackAt, a_waitTill, a_timedAt, a_timedSeq, a_smoothed, a_variance, a_rowCount, a_slotSeq, a_slotFlags, a_slotAck, a_slotWindow, a_slotSize, a_slotBytes)) : wpX_halve P (f_now, f_sent, a_stateOf, a_error, a_iss, a_una, a_nxt, a_max, a_writtenTo, a_kept, a_keptBytes, a_rcv, a_unread, a_unreadFrom, a_cameBytes, a_held, a_heldFin, a_wnd, a_wndSeq, a_wndAck, a_peak, a_half, a_same, a_rto, a_tries, a_retryAt, a_ackAt, a_waitTill, a_timedAt, a_timedSeq, a_smoothed, a_variance, a_rowCount, a_slotSeq, a_slotFlags, a_slotAck, a_slotWindow, a_slotSize, a_slotBytes) p := sorry
theorem xl_piece {q K : Int} {G : gm_T} {u : SX} {p : Int32} {P : SX → Prop} (hv : vx_S q G u) (hI : gv_I K G) (hp : vp_in p 2) (h4 : 4 ≤ G.1 0 p.toNatClampNeg) (hum : G.1 3 p.toNatClampNeg < G.1 5 p.toNatClampNeg) (hP : ∀ u', vx_S q (gp_piece G p.toNatClampNeg) u' → P u') : wpX_sendFirstPiece P u p := sorry
theorem xl_again {q K : Int} {G : gm_T} {u : SX} {p x : Int32} {P : SX → Prop} {w : Int} (hv : vx_S q G u) (hI : gv_I K G) (hK : K + 1 ≤ 5000) (hp : vp_in p 2) (h4 : 4 ≤ G.1 0 p.toNatClampNeg) (hx : x = zi_n w) (h0 : 0 ≤ w) (h1 : w ≤ 24) (hP : ∀ u', vx_S q (if w = G.1 12 p.toNatClampNeg ∧ G.1 3 p.toNatClampNeg ≠ G.1 5 p.toNatClampNeg then gp_again G p.toNatClampNeg else G) u' → P u') : wpX_takeSameAck P u p x := sorry
theorem zs_r (z : Int) : -32768 ≤ zi_s z ∧ zi_s z < 32768 := sorry
/-- the slot of a segment -/
theorem sl_in {k : Nat} (hk : k < 32) : vp_in (zi_n (k : Int)) 33 := sorry
theorem sl_c {k : Nat} (hk : k < 33) : (zi_n (k : Int)).toNatClampNeg = k := sorry
theorem xl_takeWindow {q K : Int} {G : gm_T} {u : SX} {p x : Int32} {P : SX → Prop} {k : Nat} (hv : vx_S q G u) (hI : gv_I K G) (hp : vp_in p 2) (hk : k < 32) (hx : x = zi_n (k : Int)) (hP : ∀ u', vx_S q (gp_win G p.toNatClampNeg k) u' → P u') : wpX_takeWindow P u p x := sorry
theorem xl_reset {q K : Int} {G : gm_T} {u : SX} {p : Int32} {P : SX → Prop} (hv : vx_S q G u) (hI : gv_I K G) (hp : vp_in p 2) (hs : 1 ≤ G.1 0 p.toNatClampNeg) (hP : ∀ u', vx_S q (gp_reset G p.toNatClampNeg) u' → P u') : wpX_reset P u p := sorry
theorem xl_answerReset {q K : Int} {G : gm_T} {u : SX} {p x : Int32} {P : SX → Prop} {k : Nat} (hv : vx_S q G u) (hI : gv_I K G) (hp : vp_in p 2) (hk : k < 32) (hx : x = zi_n (k : Int)) (hP : ∀ u', vx_S q (if gm_L G 1 k / 2 % 2 = 1 then gp_rst G p.toNatClampNeg (gm_L G 2 k) 8 0 else gp_rst G p.toNatClampNeg 0 10 ((gm_L G 0 k + gp_slen G k) % 65536)) u' → P u') : wpX_answerReset P u p x := sorry
theorem xl_arriveClosed {q K : Int} {G : gm_T} {u : SX} {p x : Int32} {P : SX → Prop} {k : Nat} (hv : vx_S q G u) (hI : gv_I K G) (hp : vp_in p 2) (hk : k < 32) (hx : x = zi_n (k : Int)) (hP : ∀ u', vx_S q (gp_toClosed G p.toNatClampNeg k) u' → P u') : wpX_arriveClosed P u p x := sorry
theorem xl_meetOther {q : Int} {G : gm_T} {u : SX} {p x : Int32} {P : SX → Prop} {k : Nat} (hv : vx_S q G u) (hp : vp_in p 2) (hk : k < 32) (hx : x = zi_n (k : Int)) (hur : G.1 9 p.toNatClampNeg = 0) (hfa : G.1 11 p.toNatClampNeg < 0) (hh : ∀ p', gm_H G p.toNatClampNeg p' = false) (hP : ∀ u', vx_S q (gp_hear G p.toNatClampNeg k) u' → P u') : wpX_meetOther P u p x := sorry
end
section
/-! the class: listening, opening -/
theorem gv_idle {K : Int} {G : gm_T} {e : Nat} (hI : gv_I K G) (he : e < 2) (hs : G.1 0 e = 1 ∨ G.1 0 e = 2) : G.1 9 e = 0 ∧ G.1 11 e < 0 ∧ (∀ p, gm_H G e p = false) := sorry
/-- what a first SYN asks -/
theorem sk_syn {K : Int} {G : gm_T} {e : Nat} {s : Int} (hI : gv_I K (gp_put G 0 e 1)) (he : e < 2) (hs : s = 2 ∨ s = 3) : sq_ok (gp_put G 0 e s) e 0 1 0 := sorry
theorem xl_arriveListen {q K : Int} {G : gm_T} {u : SX} {p x : Int32} {P : SX → Prop} {k : Nat} (hv : vx_S q G u) (hI : gv_I K G) (hp : vp_in p 2) (hk : k < 32) (hx : x = zi_n (k : Int)) (hs : G.1 0 p.toNatClampNeg = 1) (hP : ∀ u', vx_S q (gp_toListen G p.toNatClampNeg k) u' → P u') : wpX_arriveListen P u p x := sorry
theorem xl_arriveSynSent {q K : Int} {G : gm_T} {u : SX} {p x : Int32} {P : SX → Prop} {k : Nat} (hv : vx_S q G u) (hI : gv_I K G) (hp : vp_in p 2) (hk : k < 32) (hx : x = zi_n (k : Int)) (hs : G.1 0 p.toNatClampNeg = 2) (hP : ∀ u', vx_S q (gp_toOpen G p.toNatClampNeg k) u' → P u') : wpX_arriveSynSent P u p x := sorry
end
section
/-! the class: bytes put in order -/
theorem an_iff {G : gm_T} {e : Nat} : gp_any G e = true ↔ (0 ≤ G.1 11 e ∨ ∃ p, G.1 8 e ≤ p ∧ p < G.1 8 e + 24 ∧ gm_H G e p = true) := sorry
theorem xl_isAcceptable {P : Int32 → Prop} {f_now : Int32} {f_sent : Int32} {a_stateOf : (Nat → Int32)} {a_error : (Nat → Int32)} {a_iss : (Nat → Int32)} {a_una : (Nat → Int32)} {a_nxt : (Nat → Int32)} {a_max : (Nat → Int32)} {a_writtenTo : (Nat → Int32)} {a_kept : (Nat → Int32)} {a_keptBytes : (Nat → Int32)} {a_rcv : (Nat → Int32)} {a_unread : (Nat → Int32)} {a_unreadFrom : (Nat → Int32)} {a_cameBytes : (Nat → Int32)} {a_held : (Nat → Int32)} {a_heldFin : (Nat → Int32)} {a_wnd : (Nat → Int32)} {a_wndSeq : (Nat → Int32)} {a_wndAck : (Nat → Int32)} {a_peak : (Nat → Int32)} {a_half : (Nat → Int32)} {a_same : (Nat → Int32)} {a_rto : (Nat → Int32)} {a_tries : (Nat → Int32)} {a_retryAt : (Nat → Int32)} {a_ackAt : (Nat → Int32)} {a_waitTill : (Nat → Int32)} {a_timedAt : (Nat → Int32)} {a_timedSeq : (Nat → Int32)} {a_smoothed : (Nat → Int32)} {a_variance : (Nat → Int32)} {a_rowCount : (Nat → Int32)} {a_slotSeq : (Nat → Int32)} {a_slotFlags : (Nat → Int32)} {a_slotAck : (Nat → Int32)} {a_slotWindow : (Nat → Int32)} {a_slotSize : (Nat → Int32)} {a_slotBytes : (Nat → Int32)} {p x1 x2 : Int32} {ur o len : Int} (hp : vp_in p 2) (hr : a_unread p.toNatClampNeg = zi_n ur) (h0 : 0 ≤ ur) (h1 : ur ≤ 24) (hx1 : x1 = zi_n o) (hx2 : x2 = zi_n len) (ho0 : -32768 ≤ o) (ho1 : o < 32768) (hl0 : 0 ≤ len) (hl1 : len ≤ 20) (ht : gp_ok (24 - ur) o len → P 1) (hf : ¬ gp_ok (24 - ur) o len → P 0) : wpX_isAcceptable P (f_now, f_sent, a_stateOf, a_error, a_iss, a_una, a_nxt, a_max, a_writtenTo, a_kept, a_keptBytes, a_rcv, a_unread, a_unreadFrom, a_cameBytes, a_held, a_heldFin, a_wnd, a_wndSeq, a_wndAck, a_peak, a_half, a_same, a_rto, a_tries, a_retryAt, a_ackAt, a_waitTill, a_timedAt, a_timedSeq, a_smoothed, a_variance, a_rowCount, a_slotSeq, a_slotFlags, a_slotAck, a_slotWindow, a_slotSize, a_slotBytes) p x1 x2 := sorry
theorem xh_18 {P : Int32 → Prop} {f_now : Int32} {f_sent : Int32} {a_stateOf : (Nat → Int32)} {a_error : (Nat → Int32)} {a_iss : (Nat → Int32)} {a_una : (Nat → Int32)} {a_nxt : (Nat → Int32)} {a_max : (Nat → Int32)} {a_writtenTo : (Nat → Int32)} {a_kept : (Nat → Int32)} {a_keptBytes : (Nat → Int32)} {a_rcv : (Nat → Int32)} {a_unread : (Nat → Int32)} {a_unreadFrom : (Nat → Int32)} {a_cameBytes : (Nat → Int32)} {a_held : (Nat → Int32)} {a_heldFin : (Nat → Int32)} {a_wnd : (Nat → Int32)} {a_wndSeq : (Nat → Int32)} {a_wndAck : (Nat → Int32)} {a_peak : (Nat → Int32)} {a_half : (Nat → Int32)} {a_same : (Nat → Int32)} {a_rto : (Nat → Int32)} {a_tries : (Nat → Int32)} {a_retryAt : (Nat → Int32)} {a_ackAt : (Nat → Int32)} {a_waitTill : (Nat → Int32)} {a_timedAt : (Nat → Int32)} {a_timedSeq : (Nat → Int32)} {a_smoothed : (Nat → Int32)} {a_variance : (Nat → Int32)} {a_rowCount : (Nat → Int32)} {a_slotSeq : (Nat → Int32)} {a_slotFlags : (Nat → Int32)} {a_slotAck : (Nat → Int32)} {a_slotWindow : (Nat → Int32)} {a_slotSize : (Nat → Int32)} {a_slotBytes : (Nat → Int32)} {p : Int32} (hp : vp_in p 2) : ∀ (f i : Nat) (b : Int32), i ≤ 32 → 32 - i < f → (b = 0 ∨ b = 1) → ((b = 1 ∨ ∃ j, i ≤ j ∧ j < 32 ∧ ¬ a_held (32 * p.toNatClampNeg + j) = 0) → P 1) → (¬ (b = 1 ∨ ∃ j, i ≤ j ∧ j < 32 ∧ ¬ a_held (32 * p.toNatClampNeg + j) = 0) → P 0) → wX_holdsAny_18 P p f_now f_sent a_stateOf a_error a_iss a_una a_nxt a_max a_writtenTo a_kept a_keptBytes a_rcv a_unread a_unreadFrom a_cameBytes a_held a_heldFin a_wnd a_wndSeq a_wndAck a_peak a_half a_same a_rto a_tries a_retryAt a_ackAt a_waitTill a_timedAt a_timedSeq a_smoothed a_variance a_rowCount a_slotSeq a_slotFlags a_slotAck a_slotWindow a_slotSize a_slotBytes f b (nI i) := sorry
theorem xl_holdsAny {q K : Int} {G : gm_T} {u : SX} {p : Int32} {P : Int32 → Prop} (hv : vx_S q G u) (hI : gv_I K G) (hp : vp_in p 2) (ht : gp_any G p.toNatClampNeg = true → P 1) (hf : gp_any G p.toNatClampNeg = false → P 0) : wpX_holdsAny P u p := sorry
theorem bb_E {b : Nat → Int → Int} {e : Nat} {g : Int → Int} {p : Int} : gm_b b e g e p = g p := sorry
theorem bb_O {b : Nat → Int → Int} {e e' : Nat} {g : Int → Int} {p : Int} (q : e' ≠ e) : gm_b b e g e' p = b e' p := sorry
theorem ho_p {G : gm_T} {e k : Nat} {o : Int} (h : gm_L G 1 k / 4 % 2 = 1 ∧ G.1 11 e < 0 ∧ 0 ≤ o + gm_L G 4 k ∧ o + gm_L G 4 k < 24 - G.1 9 e) : (gp_hold G e k o).1 11 e = G.1 8 e + o + gm_L G 4 k := sorry
theorem ho_f {G : gm_T} {e k f e' : Nat} {o : Int} (h : f ≠ 11) : (gp_hold G e k o).1 f e' = G.1 f e' := sorry
theorem ho_o {G : gm_T} {e k f e' : Nat} {o : Int} (q : e' ≠ e) : (gp_hold G e k o).1 f e' = G.1 f e' := sorry
theorem ho_n {G : gm_T} {e k : Nat} {o : Int} (h : ¬ (gm_L G 1 k / 4 % 2 = 1 ∧ G.1 11 e < 0 ∧ 0 ≤ o + gm_L G 4 k ∧ o + gm_L G 4 k < 24 - G.1 9 e)) : gp_hold G e k o = gp_hold1 G e k o (gm_L G 4 k) := sorry
/-- the class's rings behind a byte that is held -/
theorem vx_hkeep {q : Int} {G : gm_T} {f_now : Int32} {f_sent : Int32} {a_stateOf : (Nat → Int32)} {a_error : (Nat → Int32)} {a_iss : (Nat → Int32)} {a_una : (Nat → Int32)} {a_nxt : (Nat → Int32)} {a_max : (Nat → Int32)} {a_writtenTo : (Nat → Int32)} {a_kept : (Nat → Int32)} {a_keptBytes : (Nat → Int32)} {a_rcv : (Nat → Int32)} {a_unread : (Nat → Int32)} {a_unreadFrom : (Nat → Int32)} {a_cameBytes : (Nat → Int32)} {a_held : (Nat → Int32)} {a_heldFin : (Nat → Int32)} {a_wnd : (Nat → Int32)} {a_wndSeq : (Nat → Int32)} {a_wndAck : (Nat → Int32)} {a_peak : (Nat → Int32)} {a_half : (Nat → Int32)} {a_same : (Nat → Int32)} {a_rto : (Nat → Int32)} {a_tries : (Nat → Int32)} {a_retryAt : (Nat → Int32)} {a_ackAt : (Nat → Int32)} {a_waitTill : (Nat → Int32)} {a_timedAt : (Nat → Int32)} {a_timedSeq : (Nat → Int32)} {a_smoothed : (Nat → Int32)} {a_variance : (Nat → Int32)} {a_rowCount : (Nat → Int32)} {a_slotSeq : (Nat → Int32)} {a_slotFlags : (Nat → Int32)} {a_slotAck : (Nat → Int32)} {a_slotWindow : (Nat → Int32)} {a_slotSize : (Nat → Int32)} {a_slotBytes : (Nat → Int32)} {e k : Nat} {o i : Int} (hv : vx_S q (gp_hold1 G e k o i) (f_now, f_sent, a_stateOf, a_error, a_iss, a_una, a_nxt, a_max, a_writtenTo, a_kept, a_keptBytes, a_rcv, a_unread, a_unreadFrom, a_cameBytes, a_held, a_heldFin, a_wnd, a_wndSeq, a_wndAck, a_peak, a_half, a_same, a_rto, a_tries, a_retryAt, a_ackAt, a_waitTill, a_timedAt, a_timedSeq, a_smoothed, a_variance, a_rowCount, a_slotSeq, a_slotFlags, a_slotAck, a_slotWindow, a_slotSize, a_slotBytes)) (h : ∀ p, gp_new G e k o (i + 1) p = true → gp_new G e k o i p = true ∨ gm_H G e p = true) : vx_S q (gp_hold1 G e k o (i + 1)) (f_now, f_sent, a_stateOf, a_error, a_iss, a_una, a_nxt, a_max, a_writtenTo, a_kept, a_keptBytes, a_rcv, a_unread, a_unreadFrom, a_cameBytes, a_held, a_heldFin, a_wnd, a_wndSeq, a_wndAck, a_peak, a_half, a_same, a_rto, a_tries, a_retryAt, a_ackAt, a_waitTill, a_timedAt, a_timedSeq, a_smoothed, a_variance, a_rowCount, a_slotSeq, a_slotFlags, a_slotAck, a_slotWindow, a_slotSize, a_slotBytes) := sorry
theorem vx_hset {q : Int} {G : gm_T} {f_now : Int32} {f_sent : Int32} {a_stateOf : (Nat → Int32)} {a_error : (Nat → Int32)} {a_iss : (Nat → Int32)} {a_una : (Nat → Int32)} {a_nxt : (Nat → Int32)} {a_max : (Nat → Int32)} {a_writtenTo : (Nat → Int32)} {a_kept : (Nat → Int32)} {a_keptBytes : (Nat → Int32)} {a_rcv : (Nat → Int32)} {a_unread : (Nat → Int32)} {a_unreadFrom : (Nat → Int32)} {a_cameBytes : (Nat → Int32)} {a_held : (Nat → Int32)} {a_heldFin : (Nat → Int32)} {a_wnd : (Nat → Int32)} {a_wndSeq : (Nat → Int32)} {a_wndAck : (Nat → Int32)} {a_peak : (Nat → Int32)} {a_half : (Nat → Int32)} {a_same : (Nat → Int32)} {a_rto : (Nat → Int32)} {a_tries : (Nat → Int32)} {a_retryAt : (Nat → Int32)} {a_ackAt : (Nat → Int32)} {a_waitTill : (Nat → Int32)} {a_timedAt : (Nat → Int32)} {a_timedSeq : (Nat → Int32)} {a_smoothed : (Nat → Int32)} {a_variance : (Nat → Int32)} {a_rowCount : (Nat → Int32)} {a_slotSeq : (Nat → Int32)} {a_slotFlags : (Nat → Int32)} {a_slotAck : (Nat → Int32)} {a_slotWindow : (Nat → Int32)} {a_slotSize : (Nat → Int32)} {a_slotBytes : (Nat → Int32)} {e k i : Nat} {o : Int} (hv : vx_S q (gp_hold1 G e k o (i : Int)) (f_now, f_sent, a_stateOf, a_error, a_iss, a_una, a_nxt, a_max, a_writtenTo, a_kept, a_keptBytes, a_rcv, a_unread, a_unreadFrom, a_cameBytes, a_held, a_heldFin, a_wnd, a_wndSeq, a_wndAck, a_peak, a_half, a_same, a_rto, a_tries, a_retryAt, a_ackAt, a_waitTill, a_timedAt, a_timedSeq, a_smoothed, a_variance, a_rowCount, a_slotSeq, a_slotFlags, a_slotAck, a_slotWindow, a_slotSize, a_slotBytes)) (he : e < 2) (hk : k < 32) (hi : i < 8) (hur0 : 0 ≤ G.1 9 e) (huf : G.1 10 e + G.1 9 e = G.1 8 e) (hH : ∀ p, gm_H G e p = true → G.1 8 e ≤ p ∧ p < G.1 8 e + 24 - G.1 9 e) (h0 : 0 ≤ o + i) (h1 : o + i < 24 - G.1 9 e) (hfa : G.1 11 e < 0 ∨ G.1 8 e + o + i < G.1 11 e) (hn : gm_H G e (G.1 8 e + o + i) = false) : vx_S q (gp_hold1 G e k o ((i : Int) + 1)) (f_now, f_sent, a_stateOf, a_error, a_iss, a_una, a_nxt, a_max, a_writtenTo, a_kept, a_keptBytes, a_rcv, a_unread, a_unreadFrom, upd a_cameBytes (32 * e + ((G.1 7 e + (G.1 8 e + o + i)) % 32).toNat) (zi_n (zi_b (gm_D G (8 * k + i)))), upd a_held (32 * e + ((G.1 7 e + (G.1 8 e + o + i)) % 32).toNat) 1, a_heldFin, a_wnd, a_wndSeq, a_wndAck, a_peak, a_half, a_same, a_rto, a_tries, a_retryAt, a_ackAt, a_waitTill, a_timedAt, a_timedSeq, a_smoothed, a_variance, a_rowCount, a_slotSeq, a_slotFlags, a_slotAck, a_slotWindow, a_slotSize, a_slotBytes) := sorry
theorem xl_hold {q K : Int} {G : gm_T} {u : SX} {p x : Int32} {P : SX → Prop} {k : Nat} (hv : vx_S q G u) (hI : gv_I K G) (hp : vp_in p 2) (hk : k < 32) (hx : x = zi_n (k : Int)) (h4 : 4 ≤ G.1 0 p.toNatClampNeg) (h6 : G.1 0 p.toNatClampNeg ≤ 6) (ho0 : -100 ≤ gp_o G p.toNatClampNeg k) (ho1 : gp_o G p.toNatClampNeg k ≤ 100) (hP : ∀ u', vx_S q (gp_hold G p.toNatClampNeg k (gp_o G p.toNatClampNeg k)) u' → P u') : wpX_hold P u p x := sorry
end
section
/-! the class: bytes go on, content -/
theorem xl_takeFin {q : Int} {G : gm_T} {u : SX} {p : Int32} {P : SX → Prop} (hv : vx_S q G u) (hp : vp_in p 2) (h4 : 4 ≤ G.1 0 p.toNatClampNeg) (h6 : G.1 0 p.toNatClampNeg ≤ 6) (hP : ∀ u', vx_S q (gp_gst G p.toNatClampNeg) u' → P u') : wpX_takeFin P u p := by
  obtain ⟨f_now, f_sent, a_stateOf, a_error, a_iss, a_una, a_nxt, a_max, a_writtenTo, a_kept, a_keptBytes, a_rcv, a_unread, a_unreadFrom, a_cameBytes, a_held, a_heldFin, a_wnd, a_wndSeq, a_wndAck, a_peak, a_half, a_same, a_rto, a_tries, a_retryAt, a_ackAt, a_waitTill, a_timedAt, a_timedSeq, a_smoothed, a_variance, a_rowCount, a_slotSeq, a_slotFlags, a_slotAck, a_slotWindow, a_slotSize, a_slotBytes⟩ := u
  have hv0 := hv
  obtain ⟨h_now, h_sent, h_stateOf, h_error, h_iss, h_una, h_nxt, h_max, h_writtenTo, h_kept, h_keptBytes, h_rcv, h_unread, h_unreadFrom, h_cameBytes, h_held, h_heldFin, h_wnd, h_wndSeq, h_wndAck, h_peak, h_half, h_same, h_rto, h_tries, h_retryAt, h_ackAt, h_waitTill, h_timedAt, h_timedSeq, h_smoothed, h_variance, h_rowCount, h_slotSeq, h_slotFlags, h_slotAck, h_slotWindow, h_slotSize, h_slotBytes⟩ := hv0
  have he := pe_lt hp
  have hs := h_stateOf _ he
  unfold wpX_takeFin
  have h3 : G.1 0 p.toNatClampNeg = 4 ∨ G.1 0 p.toNatClampNeg = 5 ∨ G.1 0 p.toNatClampNeg = 6 := by omega
  unfold gp_gst at hP
  rcases h3 with w | w | w
  · rw [w] at hP hs
    exact ⟨hp, nm_r (e' := zi_n 4) hs (br_t (by decide) ⟨hp, nm_e (hP _ (vx_put hv rfl))⟩)⟩
  · rw [w] at hP hs
    exact ⟨hp, nm_r (e' := zi_n 5) hs (br_f (by decide) (br_t (by decide) ⟨hp, nm_e (hP _ (vx_put hv rfl))⟩))⟩
  · rw [w] at hP hs
    exact ⟨hp, nm_r (e' := zi_n 6) hs (br_f (by decide) (br_f (by decide) ⟨hp, nm_e ⟨hp, nm_e (hP _ (vx_wait hv))⟩⟩))⟩
theorem xg_fin {B K : Int} {G : gm_T} {e : Nat} {x y : Int32} (hI : gw_I B K G e) (hx : x = zi_n ((G.1 7 e + G.1 8 e) % 65536)) (hy : y = zi_n (if G.1 11 e < 0 then -1 else (G.1 7 e + G.1 11 e) % 65536)) : x = y ↔ G.1 8 e = G.1 11 e := by
  obtain ⟨a1, a2, a3, a4, a5, a9, b6, a6, a7, a8⟩ := hI
  obtain ⟨q1, q2, q3, q4, q5, q6, q7, q8, q9, qa, qb, qc, qd⟩ := b6
  rw [hx, hy]
  by_cases w : G.1 11 e < 0
  · rw [if_pos w, zi_eq (by omega) (by omega) (by omega) (by omega)]; omega
  · have := qc (by omega)
    rw [if_neg w, zi_eq (by omega) (by omega) (by omega) (by omega)]; omega
theorem xg_89 {q B K : Int} {G : gm_T} {f_now : Int32} {f_sent : Int32} {a_stateOf : (Nat → Int32)} {a_error : (Nat → Int32)} {a_iss : (Nat → Int32)} {a_una : (Nat → Int32)} {a_nxt : (Nat → Int32)} {a_max : (Nat → Int32)} {a_writtenTo : (Nat → Int32)} {a_kept : (Nat → Int32)} {a_keptBytes : (Nat → Int32)} {a_rcv : (Nat → Int32)} {a_unread : (Nat → Int32)} {a_unreadFrom : (Nat → Int32)} {a_cameBytes : (Nat → Int32)} {a_held : (Nat → Int32)} {a_heldFin : (Nat → Int32)} {a_wnd : (Nat → Int32)} {a_wndSeq : (Nat → Int32)} {a_wndAck : (Nat → Int32)} {a_peak : (Nat → Int32)} {a_half : (Nat → Int32)} {a_same : (Nat → Int32)} {a_rto : (Nat → Int32)} {a_tries : (Nat → Int32)} {a_retryAt : (Nat → Int32)} {a_ackAt : (Nat → Int32)} {a_waitTill : (Nat → Int32)} {a_timedAt : (Nat → Int32)} {a_timedSeq : (Nat → Int32)} {a_smoothed : (Nat → Int32)} {a_variance : (Nat → Int32)} {a_rowCount : (Nat → Int32)} {a_slotSeq : (Nat → Int32)} {a_slotFlags : (Nat → Int32)} {a_slotAck : (Nat → Int32)} {a_slotWindow : (Nat → Int32)} {a_slotSize : (Nat → Int32)} {a_slotBytes : (Nat → Int32)} {p : Int32} {P : SX → Prop} (hv : vx_S q G (f_now, f_sent, a_stateOf, a_error, a_iss, a_una, a_nxt, a_max, a_writtenTo, a_kept, a_keptBytes, a_rcv, a_unread, a_unreadFrom, a_cameBytes, a_held, a_heldFin, a_wnd, a_wndSeq, a_wndAck, a_peak, a_half, a_same, a_rto, a_tries, a_retryAt, a_ackAt, a_waitTill, a_timedAt, a_timedSeq, a_smoothed, a_variance, a_rowCount, a_slotSeq, a_slotFlags, a_slotAck, a_slotWindow, a_slotSize, a_slotBytes)) (hI : gw_I B K G p.toNatClampNeg) (hp : vp_in p 2) (hP : ∀ u', vx_S q (gp_gfin G p.toNatClampNeg) u' → P u') : wX_goOn_89 P p f_now f_sent a_stateOf a_error a_iss a_una a_nxt a_max a_writtenTo a_kept a_keptBytes a_rcv a_unread a_unreadFrom a_cameBytes a_held a_heldFin a_wnd a_wndSeq a_wndAck a_peak a_half a_same a_rto a_tries a_retryAt a_ackAt a_waitTill a_timedAt a_timedSeq a_smoothed a_variance a_rowCount a_slotSeq a_slotFlags a_slotAck a_slotWindow a_slotSize a_slotBytes := by
  have hv0 := hv
  obtain ⟨h_now, h_sent, h_stateOf, h_error, h_iss, h_una, h_nxt, h_max, h_writtenTo, h_kept, h_keptBytes, h_rcv, h_unread, h_unreadFrom, h_cameBytes, h_held, h_heldFin, h_wnd, h_wndSeq, h_wndAck, h_peak, h_half, h_same, h_rto, h_tries, h_retryAt, h_ackAt, h_waitTill, h_timedAt, h_timedSeq, h_smoothed, h_variance, h_rowCount, h_slotSeq, h_slotFlags, h_slotAck, h_slotWindow, h_slotSize, h_slotBytes⟩ := hv0
  have he := pe_lt hp
  have hfin := xg_fin hI (h_rcv _ he) (h_heldFin _ he)
  obtain ⟨a1, a2, a3, a4, a5, a9, b6, a6, a7, a8⟩ := hI
  obtain ⟨q1, q2, q3, q4, q5, q6, q7, q8, q9, qa, qb, qc, qd⟩ := b6
  unfold wX_goOn_89
  refine ⟨hp, hp, ?_⟩
  by_cases w : G.1 8 p.toNatClampNeg = G.1 11 p.toNatClampNeg
  · have e1 : gp_gfin G p.toNatClampNeg = gp_gst (gp_gend G p.toNatClampNeg) p.toNatClampNeg := if_pos w
    rw [e1] at hP
    refine br_t (hfin.mpr w) ⟨hp, xl_behind (h_rcv _ he) zk_1 ⟨hp, nm_e (xl_holdNothing hp fun A hA1 hA2 => ?_)⟩⟩
    have hst : (gp_gend G p.toNatClampNeg).1 0 p.toNatClampNeg = G.1 0 p.toNatClampNeg := by simp +decide only [gp_gend, gs_f]
    refine xl_takeFin (G := gp_gend G p.toNatClampNeg) ?_ hp (by rw [hst]; exact q8) (by rw [hst]; exact q9) hP
    generalize p.toNatClampNeg = e at *
    have o : ∀ e' f, e' ≠ e → (gp_gend G e).1 f e' = G.1 f e' := fun e' f y => by simp only [gp_gend, gs_e y]
    refine (vx_mk h_now h_sent h_stateOf h_error h_iss h_una h_nxt h_max h_writtenTo h_kept h_keptBytes (vu_e h_rcv ?a1 (fun e' y => by rw [o _ _ y, o _ _ y])) h_unread h_unreadFrom (fun e' he' p' z => ?a2) (vh_none hA1 hA2 (fun e' he' _ => h_held e' he') (fun e' y => o _ _ y) (fun e' y => o _ _ y)) (vu_e h_heldFin ?a3 (fun e' y => by simp only [o _ _ y])) h_wnd h_wndSeq h_wndAck h_peak h_half h_same h_rto h_tries h_retryAt h_ackAt h_waitTill h_timedAt h_timedSeq h_smoothed h_variance h_rowCount h_slotSeq h_slotFlags h_slotAck h_slotWindow h_slotSize h_slotBytes)
    case a1 => simp +decide only [gp_gend, gs_s, gs_f]; congr 1; omega
    case a2 =>
      refine h_cameBytes e' he' p' ?_
      rcases z with z | z
      · exact Or.inl z
      · exact Or.inr (nn_H z)
    case a3 => simp +decide only [gp_gend, gs_s, gs_f] <;> rfl
  · have e1 : gp_gfin G p.toNatClampNeg = G := if_neg w
    rw [e1] at hP
    exact br_f (fun z => w (hfin.mp z)) (hP _ hv)
theorem vx_gstep {q B K : Int} {G : gm_T} {f_now : Int32} {f_sent : Int32} {a_stateOf : (Nat → Int32)} {a_error : (Nat → Int32)} {a_iss : (Nat → Int32)} {a_una : (Nat → Int32)} {a_nxt : (Nat → Int32)} {a_max : (Nat → Int32)} {a_writtenTo : (Nat → Int32)} {a_kept : (Nat → Int32)} {a_keptBytes : (Nat → Int32)} {a_rcv : (Nat → Int32)} {a_unread : (Nat → Int32)} {a_unreadFrom : (Nat → Int32)} {a_cameBytes : (Nat → Int32)} {a_held : (Nat → Int32)} {a_heldFin : (Nat → Int32)} {a_wnd : (Nat → Int32)} {a_wndSeq : (Nat → Int32)} {a_wndAck : (Nat → Int32)} {a_peak : (Nat → Int32)} {a_half : (Nat → Int32)} {a_same : (Nat → Int32)} {a_rto : (Nat → Int32)} {a_tries : (Nat → Int32)} {a_retryAt : (Nat → Int32)} {a_ackAt : (Nat → Int32)} {a_waitTill : (Nat → Int32)} {a_timedAt : (Nat → Int32)} {a_timedSeq : (Nat → Int32)} {a_smoothed : (Nat → Int32)} {a_variance : (Nat → Int32)} {a_rowCount : (Nat → Int32)} {a_slotSeq : (Nat → Int32)} {a_slotFlags : (Nat → Int32)} {a_slotAck : (Nat → Int32)} {a_slotWindow : (Nat → Int32)} {a_slotSize : (Nat → Int32)} {a_slotBytes : (Nat → Int32)} {e : Nat} (hv : vx_S q G (f_now, f_sent, a_stateOf, a_error, a_iss, a_una, a_nxt, a_max, a_writtenTo, a_kept, a_keptBytes, a_rcv, a_unread, a_unreadFrom, a_cameBytes, a_held, a_heldFin, a_wnd, a_wndSeq, a_wndAck, a_peak, a_half, a_same, a_rto, a_tries, a_retryAt, a_ackAt, a_waitTill, a_timedAt, a_timedSeq, a_smoothed, a_variance, a_rowCount, a_slotSeq, a_slotFlags, a_slotAck, a_slotWindow, a_slotSize, a_slotBytes)) (hI : gw_I B K G e) (he : e < 2) (hh : gm_H G e (G.1 8 e) = true) : vx_S q (gp_gstep G e) (f_now, f_sent, a_stateOf, a_error, a_iss, a_una, a_nxt, a_max, a_writtenTo, a_kept, a_keptBytes, upd a_rcv e (zi_n (((G.1 7 e + G.1 8 e) % 65536 + 1) % 65536)), upd a_unread e (zi_n (G.1 9 e + 1)), a_unreadFrom, a_cameBytes, upd a_held (32 * e + ((G.1 7 e + G.1 8 e) % 32).toNat) 0, a_heldFin, a_wnd, a_wndSeq, a_wndAck, a_peak, a_half, a_same, a_rto, a_tries, a_retryAt, a_ackAt, a_waitTill, a_timedAt, a_timedSeq, a_smoothed, a_variance, a_rowCount, a_slotSeq, a_slotFlags, a_slotAck, a_slotWindow, a_slotSize, a_slotBytes) := by
  obtain ⟨h_now, h_sent, h_stateOf, h_error, h_iss, h_una, h_nxt, h_max, h_writtenTo, h_kept, h_keptBytes, h_rcv, h_unread, h_unreadFrom, h_cameBytes, h_held, h_heldFin, h_wnd, h_wndSeq, h_wndAck, h_peak, h_half, h_same, h_rto, h_tries, h_retryAt, h_ackAt, h_waitTill, h_timedAt, h_timedSeq, h_smoothed, h_variance, h_rowCount, h_slotSeq, h_slotFlags, h_slotAck, h_slotWindow, h_slotSize, h_slotBytes⟩ := hv
  obtain ⟨a1, a2, a3, a4, a5, a9, b6, a6, a7, a8⟩ := hI
  obtain ⟨q1, q2, q3, q4, q5, q6, q7, q8, q9, qa, qb, qc, qd⟩ := b6
  have o : ∀ e' f, e' ≠ e → (gp_gstep G e).1 f e' = G.1 f e' := fun e' f y => by simp only [gp_gstep, gs_e y]
  have vR : (gp_gstep G e).1 8 e = G.1 8 e + 1 := by simp +decide only [gp_gstep, gs_s, gs_f]
  have vU : (gp_gstep G e).1 9 e = G.1 9 e + 1 := by simp +decide only [gp_gstep, gs_s, gs_f]
  have vI : ∀ e', (gp_gstep G e).1 7 e' = G.1 7 e' := fun e' => gs_st (by decide) (by decide) e'
  have vF : ∀ e', (gp_gstep G e).1 10 e' = G.1 10 e' := fun e' => gs_st (by decide) (by decide) e'
  have hHe : gm_H (gp_gstep G e) e = fun p => if p = G.1 8 e then false else gm_H G e p := hh_E
  have hHo : ∀ e', e' ≠ e → gm_H (gp_gstep G e) e' = gm_H G e' := fun e' y => hh_O y
  have hBB : gm_B (gp_gstep G e) = gm_B G := rfl
  refine (vx_mk h_now h_sent h_stateOf h_error h_iss h_una h_nxt h_max h_writtenTo h_kept h_keptBytes (vu_e h_rcv ?a1 (fun e' y => by rw [o _ _ y, o _ _ y])) (vu_e h_unread ?a2 (fun e' y => o _ _ y)) (vk_e h_unreadFrom (fun e' _ => by rw [vI, vF])) (fun e' he' p' z => ?a3) (fun e' he' p' z1 z2 => ?a4) h_heldFin h_wnd h_wndSeq h_wndAck h_peak h_half h_same h_rto h_tries h_retryAt h_ackAt h_waitTill h_timedAt h_timedSeq h_smoothed h_variance h_rowCount h_slotSeq h_slotFlags h_slotAck h_slotWindow h_slotSize h_slotBytes)
  case a1 => rw [vI, vR]; congr 1; omega
  case a2 => rw [vU]
  case a3 =>
    rw [vI, hBB]
    refine h_cameBytes e' he' p' ?_
    by_cases y : e' = e
    · subst y
      rw [vF, vU, hHe] at z
      rcases z with z | z
      · by_cases y2 : p' = G.1 8 e'
        · rw [y2]; exact Or.inr hh
        · exact Or.inl (by omega)
      · dsimp only at z
        split at z
        · cases z
        · exact Or.inr z
    · rw [vF, o _ _ y, hHo e' y] at z
      exact z
  case a4 =>
    rw [vI]
    by_cases y : e' = e
    · subst y
      rw [vR] at z1 z2
      rw [hHe]
      by_cases y2 : p' = G.1 8 e' + 32
      · subst y2
        rw [show ((G.1 7 e' + (G.1 8 e' + 32)) % 32).toNat = ((G.1 7 e' + G.1 8 e') % 32).toNat from by omega, zu_s]
        dsimp only
        have e1 : (if G.1 8 e' + 32 = G.1 8 e' then false else gm_H G e' (G.1 8 e' + 32)) = gm_H G e' (G.1 8 e' + 32) := if_neg (by omega)
        have : ¬ gm_H G e' (G.1 8 e' + 32) = true := fun w => by have := qd _ w; omega
        simp only [e1, if_neg this]
      · dsimp only
        have e1 : (if p' = G.1 8 e' then false else gm_H G e' p') = gm_H G e' p' := if_neg (by omega)
        rw [zu_n (by omega)]
        simp only [e1]
        exact h_held e' he' p' (by omega) (by omega)
    · rw [o _ _ y] at z1 z2
      rw [zu_n (by omega), hHo e' y]
      exact h_held e' he' p' z1 z2
theorem xg_2 {q B K : Int} {p : Int32} {P : SX → Prop} (hp : vp_in p 2) : ∀ (k f r : Nat) (G : gm_T) (f_now : Int32) (f_sent : Int32) (a_stateOf : (Nat → Int32)) (a_error : (Nat → Int32)) (a_iss : (Nat → Int32)) (a_una : (Nat → Int32)) (a_nxt : (Nat → Int32)) (a_max : (Nat → Int32)) (a_writtenTo : (Nat → Int32)) (a_kept : (Nat → Int32)) (a_keptBytes : (Nat → Int32)) (a_rcv : (Nat → Int32)) (a_unread : (Nat → Int32)) (a_unreadFrom : (Nat → Int32)) (a_cameBytes : (Nat → Int32)) (a_held : (Nat → Int32)) (a_heldFin : (Nat → Int32)) (a_wnd : (Nat → Int32)) (a_wndSeq : (Nat → Int32)) (a_wndAck : (Nat → Int32)) (a_peak : (Nat → Int32)) (a_half : (Nat → Int32)) (a_same : (Nat → Int32)) (a_rto : (Nat → Int32)) (a_tries : (Nat → Int32)) (a_retryAt : (Nat → Int32)) (a_ackAt : (Nat → Int32)) (a_waitTill : (Nat → Int32)) (a_timedAt : (Nat → Int32)) (a_timedSeq : (Nat → Int32)) (a_smoothed : (Nat → Int32)) (a_variance : (Nat → Int32)) (a_rowCount : (Nat → Int32)) (a_slotSeq : (Nat → Int32)) (a_slotFlags : (Nat → Int32)) (a_slotAck : (Nat → Int32)) (a_slotWindow : (Nat → Int32)) (a_slotSize : (Nat → Int32)) (a_slotBytes : (Nat → Int32)), r + k = 24 → k < f → vx_S q G (f_now, f_sent, a_stateOf, a_error, a_iss, a_una, a_nxt, a_max, a_writtenTo, a_kept, a_keptBytes, a_rcv, a_unread, a_unreadFrom, a_cameBytes, a_held, a_heldFin, a_wnd, a_wndSeq, a_wndAck, a_peak, a_half, a_same, a_rto, a_tries, a_retryAt, a_ackAt, a_waitTill, a_timedAt, a_timedSeq, a_smoothed, a_variance, a_rowCount, a_slotSeq, a_slotFlags, a_slotAck, a_slotWindow, a_slotSize, a_slotBytes) → gw_I B K G p.toNatClampNeg → (∀ u', vx_S q (gp_gfin (gp_gloop k G p.toNatClampNeg) p.toNatClampNeg) u' → P u') → wX_goOn_2 P p f_now f_sent f (nI r) a_stateOf a_error a_iss a_una a_nxt a_max a_writtenTo a_kept a_keptBytes a_rcv a_unread a_unreadFrom a_cameBytes a_held a_heldFin a_wnd a_wndSeq a_wndAck a_peak a_half a_same a_rto a_tries a_retryAt a_ackAt a_waitTill a_timedAt a_timedSeq a_smoothed a_variance a_rowCount a_slotSeq a_slotFlags a_slotAck a_slotWindow a_slotSize a_slotBytes := by
  have he := pe_lt hp
  have hz := pe_z hp
  intro k
  induction k with
  | zero =>
    intro f r G f_now f_sent a_stateOf a_error a_iss a_una a_nxt a_max a_writtenTo a_kept a_keptBytes a_rcv a_unread a_unreadFrom a_cameBytes a_held a_heldFin a_wnd a_wndSeq a_wndAck a_peak a_half a_same a_rto a_tries a_retryAt a_ackAt a_waitTill a_timedAt a_timedSeq a_smoothed a_variance a_rowCount a_slotSeq a_slotFlags a_slotAck a_slotWindow a_slotSize a_slotBytes hr hf hv hI hP
    obtain ⟨f, rfl⟩ : ∃ g, f = g + 1 := ⟨f - 1, by omega⟩
    obtain rfl : r = 24 := by omega
    exact br_t (by decide) (xg_89 hv hI hp hP)
  | succ k ih =>
    intro f r G f_now f_sent a_stateOf a_error a_iss a_una a_nxt a_max a_writtenTo a_kept a_keptBytes a_rcv a_unread a_unreadFrom a_cameBytes a_held a_heldFin a_wnd a_wndSeq a_wndAck a_peak a_half a_same a_rto a_tries a_retryAt a_ackAt a_waitTill a_timedAt a_timedSeq a_smoothed a_variance a_rowCount a_slotSeq a_slotFlags a_slotAck a_slotWindow a_slotSize a_slotBytes hr hf hv hI hP
    obtain ⟨f, rfl⟩ : ∃ g, f = g + 1 := ⟨f - 1, by omega⟩
    have hv0 := hv
    obtain ⟨h_now, h_sent, h_stateOf, h_error, h_iss, h_una, h_nxt, h_max, h_writtenTo, h_kept, h_keptBytes, h_rcv, h_unread, h_unreadFrom, h_cameBytes, h_held, h_heldFin, h_wnd, h_wndSeq, h_wndAck, h_peak, h_half, h_same, h_rto, h_tries, h_retryAt, h_ackAt, h_waitTill, h_timedAt, h_timedSeq, h_smoothed, h_variance, h_rowCount, h_slotSeq, h_slotFlags, h_slotAck, h_slotWindow, h_slotSize, h_slotBytes⟩ := hv0
    have hI0 := hI
    have hfin := xg_fin hI (h_rcv _ he) (h_heldFin _ he)
    obtain ⟨a1, a2, a3, a4, a5, a9, b6, a6, a7, a8⟩ := hI
    obtain ⟨q1, q2, q3, q4, q5, q6, q7, q8, q9, qa, qb, qc, qd⟩ := b6
    have i1 : (p * 32 + (a_rcv p.toNatClampNeg &&& 31)) = zi_n (32 * (p.toNatClampNeg : Int) + (G.1 7 p.toNatClampNeg + G.1 8 p.toNatClampNeg) % 32) := by
      rw [h_rcv _ he]
      generalize p.toNatClampNeg = e at *
      rw [hz, zk_32, zi_mul, zi_a5, zi_add]; congr 1; omega
    have i2 : (zi_n (32 * (p.toNatClampNeg : Int) + (G.1 7 p.toNatClampNeg + G.1 8 p.toNatClampNeg) % 32)).toNatClampNeg = 32 * p.toNatClampNeg + ((G.1 7 p.toNatClampNeg + G.1 8 p.toNatClampNeg) % 32).toNat := by
      rw [zi_cl (by omega) (by omega)]; omega
    have hin6 : vp_in (zi_n (32 * (p.toNatClampNeg : Int) + (G.1 7 p.toNatClampNeg + G.1 8 p.toNatClampNeg) % 32)) 64 := zi_in (by omega) (by omega) (by omega)
    have hcell := h_held _ he (G.1 8 p.toNatClampNeg) (by omega) (by omega)
    refine br_f (by rw [zk_24, zi_nI, zi_le (by omega) (by omega) (by omega) (by omega)]; omega) ⟨hp, nm_r i1 ⟨hin6, ?_⟩⟩
    rw [i2]
    have stop : ¬ (gm_H G p.toNatClampNeg (G.1 8 p.toNatClampNeg) = true ∧ G.1 8 p.toNatClampNeg ≠ G.1 11 p.toNatClampNeg) → wX_goOn_89 P p f_now f_sent a_stateOf a_error a_iss a_una a_nxt a_max a_writtenTo a_kept a_keptBytes a_rcv a_unread a_unreadFrom a_cameBytes a_held a_heldFin a_wnd a_wndSeq a_wndAck a_peak a_half a_same a_rto a_tries a_retryAt a_ackAt a_waitTill a_timedAt a_timedSeq a_smoothed a_variance a_rowCount a_slotSeq a_slotFlags a_slotAck a_slotWindow a_slotSize a_slotBytes := by
      intro z
      have e1 : gp_gloop (k + 1) G p.toNatClampNeg = G := if_neg z
      rw [e1] at hP
      exact xg_89 hv hI0 hp hP
    by_cases w : gm_H G p.toNatClampNeg (G.1 8 p.toNatClampNeg) = true
    · rw [if_pos w] at hcell
      refine br_f (by rw [hcell]; decide) ⟨hp, hp, ?_⟩
      by_cases w2 : G.1 8 p.toNatClampNeg = G.1 11 p.toNatClampNeg
      · exact br_t (hfin.mpr w2) (stop (fun z => z.2 w2))
      · have e1 : gp_gloop (k + 1) G p.toNatClampNeg = gp_gloop k (gp_gstep G p.toNatClampNeg) p.toNatClampNeg := if_pos ⟨w, w2⟩
        rw [e1] at hP
        refine br_f (fun z => w2 (hfin.mp z)) ⟨hin6, nm_e ⟨hp, hp, nm_e ⟨hp, xl_behind (h_rcv _ he) zk_1 ⟨hp, nm_e (nm_r (nI_1 r) ?_)⟩⟩⟩⟩
        rw [h_unread _ he, zk_1, zi_add]
        exact ih f (r + 1) (gp_gstep G p.toNatClampNeg) f_now f_sent a_stateOf a_error a_iss a_una a_nxt a_max a_writtenTo a_kept a_keptBytes (upd a_rcv p.toNatClampNeg (zi_n (((G.1 7 p.toNatClampNeg + G.1 8 p.toNatClampNeg) % 65536 + 1) % 65536))) (upd a_unread p.toNatClampNeg (zi_n (G.1 9 p.toNatClampNeg + 1))) a_unreadFrom a_cameBytes (upd a_held (32 * p.toNatClampNeg + ((G.1 7 p.toNatClampNeg + G.1 8 p.toNatClampNeg) % 32).toNat) 0) a_heldFin a_wnd a_wndSeq a_wndAck a_peak a_half a_same a_rto a_tries a_retryAt a_ackAt a_waitTill a_timedAt a_timedSeq a_smoothed a_variance a_rowCount a_slotSeq a_slotFlags a_slotAck a_slotWindow a_slotSize a_slotBytes (by omega) (by omega) (vx_gstep hv hI0 he w) (iv_gstep hI0 w w2) hP
    · rw [if_neg w] at hcell
      exact br_t hcell (stop (fun z => w z.1))
theorem xl_goOn {q B K : Int} {G : gm_T} {u : SX} {p : Int32} {P : SX → Prop} (hv : vx_S q G u) (hI : gw_I B K G p.toNatClampNeg) (hp : vp_in p 2) (hP : ∀ u', vx_S q (gp_goOn G p.toNatClampNeg) u' → P u') : wpX_goOn P u p := by
  obtain ⟨f_now, f_sent, a_stateOf, a_error, a_iss, a_una, a_nxt, a_max, a_writtenTo, a_kept, a_keptBytes, a_rcv, a_unread, a_unreadFrom, a_cameBytes, a_held, a_heldFin, a_wnd, a_wndSeq, a_wndAck, a_peak, a_half, a_same, a_rto, a_tries, a_retryAt, a_ackAt, a_waitTill, a_timedAt, a_timedSeq, a_smoothed, a_variance, a_rowCount, a_slotSeq, a_slotFlags, a_slotAck, a_slotWindow, a_slotSize, a_slotBytes⟩ := u
  unfold wpX_goOn
  exact ⟨25, xg_2 hp 24 25 0 G f_now f_sent a_stateOf a_error a_iss a_una a_nxt a_max a_writtenTo a_kept a_keptBytes a_rcv a_unread a_unreadFrom a_cameBytes a_held a_heldFin a_wnd a_wndSeq a_wndAck a_peak a_half a_same a_rto a_tries a_retryAt a_ackAt a_waitTill a_timedAt a_timedSeq a_smoothed a_variance a_rowCount a_slotSeq a_slotFlags a_slotAck a_slotWindow a_slotSize a_slotBytes rfl (by omega) hv hI hP⟩
theorem gl_rv {e : Nat} : ∀ (k : Nat) (G : gm_T), G.1 8 e ≤ (gp_gloop k G e).1 8 e ∧ (gp_gloop k G e).1 8 e ≤ G.1 8 e + k := by
  intro k
  induction k with
  | zero => intro G; exact ⟨Int.le_refl _, by show G.1 8 e ≤ G.1 8 e + ((0 : Nat) : Int); omega⟩
  | succ k ih =>
    intro G
    unfold gp_gloop
    split
    · have h := ih (gp_gstep G e)
      have vR : (gp_gstep G e).1 8 e = G.1 8 e + 1 := by simp +decide only [gp_gstep, gs_s, gs_f]
      omega
    · omega
theorem tk_rv {G : gm_T} {e k : Nat} {o : Int} : G.1 8 e ≤ (gp_take G e k o).1 8 e ∧ (gp_take G e k o).1 8 e ≤ G.1 8 e + 25 := by
  unfold gp_take
  split
  · have h := gl_rv (e := e) 24 (gp_hold G e k o)
    have v0 : (gp_hold G e k o).1 8 e = G.1 8 e := by simp +decide only [gp_hold, gp_hold1, gp_put, gs_f]
    unfold gp_goOn gp_gfin
    split
    · have v1 : (gp_gst (gp_gend (gp_gloop 24 (gp_hold G e k o) e) e) e).1 8 e = (gp_gloop 24 (gp_hold G e k o) e).1 8 e + 1 := by
        unfold gp_gst
        split
        · rw [pu_f (by decide)]; simp +decide only [gp_gend, gs_s, gs_f]
        · split
          · rw [pu_f (by decide)]; simp +decide only [gp_gend, gs_s, gs_f]
          · simp +decide only [gp_wait, gp_gend, gs_s, gs_f]
      omega
    · omega
  · omega
theorem tk_f {G : gm_T} {e k e' : Nat} {o : Int} {f : Nat} (h1 : f ≠ 9) (h2 : f ≠ 8) (h3 : f ≠ 11) (h4 : f ≠ 0) (h5 : f ≠ 23) : (gp_take G e k o).1 f e' = G.1 f e' := by
  unfold gp_take
  split
  · have v0 : (gp_gloop 24 (gp_hold G e k o) e).1 f e' = G.1 f e' := by rw [gl_f h1 h2]; simp only [gp_hold, gp_hold1, gp_put, gs_f h3]
    unfold gp_goOn gp_gfin
    split
    · unfold gp_gst
      split
      · rw [pu_f h4]; simp only [gp_gend, gs_f h2, gs_f h3]; exact v0
      · split
        · rw [pu_f h4]; simp only [gp_gend, gs_f h2, gs_f h3]; exact v0
        · simp only [gp_wait, gp_gend, gs_f h2, gs_f h3, gs_f h4, gs_f h5]; exact v0
    · exact v0
  · rfl
theorem xl_takesBytes {P : Int32 → Prop} {x : Int32} {s : Int} (hx : x = zi_n s) (h0 : 0 ≤ s) (h1 : s ≤ 10) (ht : (3 < s ∧ s < 7) → P 1) (hf : ¬ (3 < s ∧ s < 7) → P 0) : wpX_takesBytes P x := by
  unfold wpX_takesBytes
  rw [hx, zk_4, zk_5, zk_6]
  simp only [zi_eq (a := s) (b := 4) (by omega) (by omega) (by omega) (by omega), zi_eq (a := s) (b := 5) (by omega) (by omega) (by omega) (by omega), zi_eq (a := s) (b := 6) (by omega) (by omega) (by omega) (by omega)]
  refine ⟨fun h => ht (by omega), fun _ => ⟨fun h => ht (by omega), fun _ => ⟨fun h => ht (by omega), fun _ => hf (by omega)⟩⟩⟩
theorem xl_takeContent {q K : Int} {G : gm_T} {u : SX} {p x y : Int32} {P : SX → Prop} {k : Nat} {o : Int} (hv : vx_S q G u) (hI : gv_I K G) (hp : vp_in p 2) (hk : k < 32) (hK : K + 7 ≤ 5000) (hx : x = zi_n (k : Int)) (h4 : 4 ≤ G.1 0 p.toNatClampNeg) (ho : gp_o G p.toNatClampNeg k = o) (ho0 : -100 ≤ o) (ho1 : o ≤ 100) (hy : y = zi_n (gp_slen G k)) (hP : ∀ u', vx_S q (gp_content G p.toNatClampNeg k o) u' → P u') : wpX_takeContent P u p x y := by
  obtain ⟨f_now, f_sent, a_stateOf, a_error, a_iss, a_una, a_nxt, a_max, a_writtenTo, a_kept, a_keptBytes, a_rcv, a_unread, a_unreadFrom, a_cameBytes, a_held, a_heldFin, a_wnd, a_wndSeq, a_wndAck, a_peak, a_half, a_same, a_rto, a_tries, a_retryAt, a_ackAt, a_waitTill, a_timedAt, a_timedSeq, a_smoothed, a_variance, a_rowCount, a_slotSeq, a_slotFlags, a_slotAck, a_slotWindow, a_slotSize, a_slotBytes⟩ := u
  have hv0 := hv
  obtain ⟨h_now, h_sent, h_stateOf, h_error, h_iss, h_una, h_nxt, h_max, h_writtenTo, h_kept, h_keptBytes, h_rcv, h_unread, h_unreadFrom, h_cameBytes, h_held, h_heldFin, h_wnd, h_wndSeq, h_wndAck, h_peak, h_half, h_same, h_rto, h_tries, h_retryAt, h_ackAt, h_waitTill, h_timedAt, h_timedSeq, h_smoothed, h_variance, h_rowCount, h_slotSeq, h_slotFlags, h_slotAck, h_slotWindow, h_slotSize, h_slotBytes⟩ := hv0
  have he := pe_lt hp
  have l1 := hI.2.2.2.2.2.1.1 k hk
  have hlen : 0 ≤ gp_slen G k ∧ gp_slen G k ≤ 10 := by unfold gp_slen gp_len; omega
  obtain ⟨b1, b2, b3, b4, b5, b6⟩ := hI.2.2.2.2.1 _ he
  have n2 := hI.2.1
  have n3 := hI.2.2.1
  have n4 := hI.2.2.2.1
  unfold gv_a at b1
  unfold gv_d at b4
  have hr := hI.2.2.2.2.1 _ he
  unfold wpX_takeContent
  by_cases w0 : gp_slen G k = 0
  · have e0 : gp_content G p.toNatClampNeg k o = G := if_pos w0
    rw [e0] at hP
    exact br_t (by rw [hy, w0]; rfl) (hP _ hv)
  · refine br_f (by rw [hy, zk_0, zi_eq (by omega) (by omega) (by omega) (by omega)]; exact w0) ⟨hp, nm_r (h_rcv _ he) ?_⟩
    have e0 : gp_content G p.toNatClampNeg k o = if 6 < (gp_take G p.toNatClampNeg k o).1 0 p.toNatClampNeg ∨ (gp_take G p.toNatClampNeg k o).1 8 p.toNatClampNeg = G.1 8 p.toNatClampNeg ∨ gp_any G p.toNatClampNeg = true ∨ gp_any (gp_take G p.toNatClampNeg k o) p.toNatClampNeg = true ∨ 0 ≤ (gp_take G p.toNatClampNeg k o).1 22 p.toNatClampNeg then gp_ack (gp_take G p.toNatClampNeg k o) p.toNatClampNeg else gp_put (gp_take G p.toNatClampNeg k o) 22 p.toNatClampNeg (gm_N G + 2) := if_neg w0
    rw [e0] at hP
    have hIt := iv_take (o := o) hI he hk hK
    have hst := tk_ST (k := k) (o := o) h4
    have hrv := tk_rv (G := G) (e := p.toNatClampNeg) (k := k) (o := o)
    have hir : (gp_take G p.toNatClampNeg k o).1 7 p.toNatClampNeg = G.1 7 p.toNatClampNeg := tk_f (by decide) (by decide) (by decide) (by decide) (by decide)
    have hnn : gm_N (gp_take G p.toNatClampNeg k o) = gm_N G := tk_N
    -- behind the bytes
    have k43 : ∀ (x5 : Int32) (u1 : SX), ((gp_any G p.toNatClampNeg = true ∧ x5 = 1) ∨ (gp_any G p.toNatClampNeg = false ∧ x5 = 0)) → vx_S q (gp_take G p.toNatClampNeg k o) u1 → (match u1 with | (f_now, f_sent, a_stateOf, a_error, a_iss, a_una, a_nxt, a_max, a_writtenTo, a_kept, a_keptBytes, a_rcv, a_unread, a_unreadFrom, a_cameBytes, a_held, a_heldFin, a_wnd, a_wndSeq, a_wndAck, a_peak, a_half, a_same, a_rto, a_tries, a_retryAt, a_ackAt, a_waitTill, a_timedAt, a_timedSeq, a_smoothed, a_variance, a_rowCount, a_slotSeq, a_slotFlags, a_slotAck, a_slotWindow, a_slotSize, a_slotBytes) => wX_takeContent_43 P p (zi_n ((G.1 7 p.toNatClampNeg + G.1 8 p.toNatClampNeg) % 65536)) x5 f_now f_sent a_stateOf a_error a_iss a_una a_nxt a_max a_writtenTo a_kept a_keptBytes a_rcv a_unread a_unreadFrom a_cameBytes a_held a_heldFin a_wnd a_wndSeq a_wndAck a_peak a_half a_same a_rto a_tries a_retryAt a_ackAt a_waitTill a_timedAt a_timedSeq a_smoothed a_variance a_rowCount a_slotSeq a_slotFlags a_slotAck a_slotWindow a_slotSize a_slotBytes) := by
      intro x5 u1 hx5 hv1
      generalize gp_take G p.toNatClampNeg k o = G1 at *
      obtain ⟨f_now, f_sent, a_stateOf, a_error, a_iss, a_una, a_nxt, a_max, a_writtenTo, a_kept, a_keptBytes, a_rcv, a_unread, a_unreadFrom, a_cameBytes, a_held, a_heldFin, a_wnd, a_wndSeq, a_wndAck, a_peak, a_half, a_same, a_rto, a_tries, a_retryAt, a_ackAt, a_waitTill, a_timedAt, a_timedSeq, a_smoothed, a_variance, a_rowCount, a_slotSeq, a_slotFlags, a_slotAck, a_slotWindow, a_slotSize, a_slotBytes⟩ := u1
      show wX_takeContent_43 P p _ x5 f_now f_sent a_stateOf a_error a_iss a_una a_nxt a_max a_writtenTo a_kept a_keptBytes a_rcv a_unread a_unreadFrom a_cameBytes a_held a_heldFin a_wnd a_wndSeq a_wndAck a_peak a_half a_same a_rto a_tries a_retryAt a_ackAt a_waitTill a_timedAt a_timedSeq a_smoothed a_variance a_rowCount a_slotSeq a_slotFlags a_slotAck a_slotWindow a_slotSize a_slotBytes
      have hv2 := hv1
      clear h_stateOf h_rcv h_ackAt h_now
      obtain ⟨h_now, h_sent, h_stateOf, h_error, h_iss, h_una, h_nxt, h_max, h_writtenTo, h_kept, h_keptBytes, h_rcv, h_unread, h_unreadFrom, h_cameBytes, h_held, h_heldFin, h_wnd, h_wndSeq, h_wndAck, h_peak, h_half, h_same, h_rto, h_tries, h_retryAt, h_ackAt, h_waitTill, h_timedAt, h_timedSeq, h_smoothed, h_variance, h_rowCount, h_slotSeq, h_slotFlags, h_slotAck, h_slotWindow, h_slotSize, h_slotBytes⟩ := hv2
      obtain ⟨c1, c2, c3, c4, c5, c6⟩ := hIt.2.2.2.2.1 _ he
      unfold gv_a at c1
      unfold gv_p at c2
      unfold gv_d at c4
      have c7 := c2.2.2.2.2.1 hst
      have k100 : (6 < G1.1 0 p.toNatClampNeg ∨ G1.1 8 p.toNatClampNeg = G.1 8 p.toNatClampNeg ∨ gp_any G p.toNatClampNeg = true ∨ gp_any G1 p.toNatClampNeg = true ∨ 0 ≤ G1.1 22 p.toNatClampNeg) → wX_takeContent_100 P p f_now f_sent a_stateOf a_error a_iss a_una a_nxt a_max a_writtenTo a_kept a_keptBytes a_rcv a_unread a_unreadFrom a_cameBytes a_held a_heldFin a_wnd a_wndSeq a_wndAck a_peak a_half a_same a_rto a_tries a_retryAt a_ackAt a_waitTill a_timedAt a_timedSeq a_smoothed a_variance a_rowCount a_slotSeq a_slotFlags a_slotAck a_slotWindow a_slotSize a_slotBytes := by
        intro z
        rw [if_pos z] at hP
        unfold wX_takeContent_100
        exact xl_sendAck hv1 hp (sk_of hIt he (by omega) (Or.inl rfl) (by omega) (by omega) (by omega) (by omega) (by omega)) hP
      have k61 : ∀ z0 : Int32, (z0 = 0 ↔ ¬ (gp_any G p.toNatClampNeg = true ∨ gp_any G1 p.toNatClampNeg = true)) → wX_takeContent_61 P p (zi_n ((G.1 7 p.toNatClampNeg + G.1 8 p.toNatClampNeg) % 65536)) z0 f_now f_sent a_stateOf a_error a_iss a_una a_nxt a_max a_writtenTo a_kept a_keptBytes a_rcv a_unread a_unreadFrom a_cameBytes a_held a_heldFin a_wnd a_wndSeq a_wndAck a_peak a_half a_same a_rto a_tries a_retryAt a_ackAt a_waitTill a_timedAt a_timedSeq a_smoothed a_variance a_rowCount a_slotSeq a_slotFlags a_slotAck a_slotWindow a_slotSize a_slotBytes := by
        intro z0 hz0
        unfold wX_takeContent_61
        refine ⟨hp, ?_⟩
        by_cases w1 : 6 < G1.1 0 p.toNatClampNeg
        · exact br_t (by rw [h_stateOf _ he, zk_6, zi_lt (by omega) (by omega) (by omega) (by omega)]; exact w1) (k100 (Or.inl w1))
        · refine br_f (by rw [h_stateOf _ he, zk_6, zi_lt (by omega) (by omega) (by omega) (by omega)]; exact w1) ⟨hp, ?_⟩
          by_cases w2 : G1.1 8 p.toNatClampNeg = G.1 8 p.toNatClampNeg
          · exact br_t (by rw [h_rcv _ he, hir, w2]) (k100 (Or.inr (Or.inl w2)))
          · refine br_f (by rw [h_rcv _ he, hir, zi_eq (by omega) (by omega) (by omega) (by omega)]; omega) ?_
            by_cases w3 : z0 = 0
            · have w3' := hz0.mp w3
              refine br_t w3 ⟨hp, ?_⟩
              by_cases w4 : G1.1 22 p.toNatClampNeg < 0
              · refine br_t (by rw [h_ackAt _ he, zk_m1]; congr 1; omega) ⟨hp, nm_e ?_⟩
                have hc : ¬ (6 < G1.1 0 p.toNatClampNeg ∨ G1.1 8 p.toNatClampNeg = G.1 8 p.toNatClampNeg ∨ gp_any G p.toNatClampNeg = true ∨ gp_any G1 p.toNatClampNeg = true ∨ 0 ≤ G1.1 22 p.toNatClampNeg) := by
                  rintro (h | h | h | h | h)
                  · exact w1 h
                  · exact w2 h
                  · exact w3' (Or.inl h)
                  · exact w3' (Or.inr h)
                  · omega
                rw [if_neg hc] at hP
                refine hP _ ?_
                refine (vx_mk h_now h_sent h_stateOf h_error h_iss h_una h_nxt h_max h_writtenTo h_kept h_keptBytes h_rcv h_unread h_unreadFrom h_cameBytes h_held h_heldFin h_wnd h_wndSeq h_wndAck h_peak h_half h_same h_rto h_tries h_retryAt (vu_e h_ackAt ?_ (fun e' y => pu_o y _)) h_waitTill h_timedAt h_timedSeq h_smoothed h_variance h_rowCount h_slotSeq h_slotFlags h_slotAck h_slotWindow h_slotSize h_slotBytes)
                rw [pu_s, h_now, zk_2, zi_add, hnn]
              · exact br_f (by rw [h_ackAt _ he, zk_m1, zi_eq (by omega) (by omega) (by omega) (by omega)]; omega) (k100 (Or.inr (Or.inr (Or.inr (Or.inr (by omega))))))
            · refine br_f w3 (k100 ?_)
              have : gp_any G p.toNatClampNeg = true ∨ gp_any G1 p.toNatClampNeg = true := Classical.byContradiction (fun h => w3 (hz0.mpr h))
              rcases this with h | h
              · exact Or.inr (Or.inr (Or.inl h))
              · exact Or.inr (Or.inr (Or.inr (Or.inl h)))
      unfold wX_takeContent_43
      rcases hx5 with ⟨h, rfl⟩ | ⟨h, rfl⟩
      · refine br_f (by decide) ?_
        unfold wX_takeContent_56
        exact k61 1 ⟨fun z => absurd z (by decide), fun z => absurd (Or.inl h) z⟩
      · refine br_t rfl (xl_holdsAny hv1 hIt hp (fun z => ?_) (fun z => ?_))
        · refine br_f (by decide) ?_
          unfold wX_takeContent_56
          exact k61 1 ⟨fun z => absurd z (by decide), fun y => absurd (Or.inr z) y⟩
        · refine br_t rfl (k61 0 ⟨fun _ => ?_, fun _ => rfl⟩)
          rw [h, z]; rintro (y | y) <;> cases y
    have kk : ∀ x5 : Int32, ((gp_any G p.toNatClampNeg = true ∧ x5 = 1) ∨ (gp_any G p.toNatClampNeg = false ∧ x5 = 0)) → wpX_takesBytes (fun r_45 => (((r_45 = 0 → (wX_takeContent_43 P p (zi_n ((G.1 7 p.toNatClampNeg + G.1 8 p.toNatClampNeg) % 65536)) x5 f_now f_sent a_stateOf a_error a_iss a_una a_nxt a_max a_writtenTo a_kept a_keptBytes a_rcv a_unread a_unreadFrom a_cameBytes a_held a_heldFin a_wnd a_wndSeq a_wndAck a_peak a_half a_same a_rto a_tries a_retryAt a_ackAt a_waitTill a_timedAt a_timedSeq a_smoothed a_variance a_rowCount a_slotSeq a_slotFlags a_slotAck a_slotWindow a_slotSize a_slotBytes)) ∧ (¬ r_45 = 0 → (wpX_hold (fun u => match u with | (f_now, f_sent, a_stateOf, a_error, a_iss, a_una, a_nxt, a_max, a_writtenTo, a_kept, a_keptBytes, a_rcv, a_unread, a_unreadFrom, a_cameBytes, a_held, a_heldFin, a_wnd, a_wndSeq, a_wndAck, a_peak, a_half, a_same, a_rto, a_tries, a_retryAt, a_ackAt, a_waitTill, a_timedAt, a_timedSeq, a_smoothed, a_variance, a_rowCount, a_slotSeq, a_slotFlags, a_slotAck, a_slotWindow, a_slotSize, a_slotBytes) => (wpX_goOn (fun u => match u with | (f_now, f_sent, a_stateOf, a_error, a_iss, a_una, a_nxt, a_max, a_writtenTo, a_kept, a_keptBytes, a_rcv, a_unread, a_unreadFrom, a_cameBytes, a_held, a_heldFin, a_wnd, a_wndSeq, a_wndAck, a_peak, a_half, a_same, a_rto, a_tries, a_retryAt, a_ackAt, a_waitTill, a_timedAt, a_timedSeq, a_smoothed, a_variance, a_rowCount, a_slotSeq, a_slotFlags, a_slotAck, a_slotWindow, a_slotSize, a_slotBytes) => (wX_takeContent_43 P p (zi_n ((G.1 7 p.toNatClampNeg + G.1 8 p.toNatClampNeg) % 65536)) x5 f_now f_sent a_stateOf a_error a_iss a_una a_nxt a_max a_writtenTo a_kept a_keptBytes a_rcv a_unread a_unreadFrom a_cameBytes a_held a_heldFin a_wnd a_wndSeq a_wndAck a_peak a_half a_same a_rto a_tries a_retryAt a_ackAt a_waitTill a_timedAt a_timedSeq a_smoothed a_variance a_rowCount a_slotSeq a_slotFlags a_slotAck a_slotWindow a_slotSize a_slotBytes)) (f_now, f_sent, a_stateOf, a_error, a_iss, a_una, a_nxt, a_max, a_writtenTo, a_kept, a_keptBytes, a_rcv, a_unread, a_unreadFrom, a_cameBytes, a_held, a_heldFin, a_wnd, a_wndSeq, a_wndAck, a_peak, a_half, a_same, a_rto, a_tries, a_retryAt, a_ackAt, a_waitTill, a_timedAt, a_timedSeq, a_smoothed, a_variance, a_rowCount, a_slotSeq, a_slotFlags, a_slotAck, a_slotWindow, a_slotSize, a_slotBytes) p)) (f_now, f_sent, a_stateOf, a_error, a_iss, a_una, a_nxt, a_max, a_writtenTo, a_kept, a_keptBytes, a_rcv, a_unread, a_unreadFrom, a_cameBytes, a_held, a_heldFin, a_wnd, a_wndSeq, a_wndAck, a_peak, a_half, a_same, a_rto, a_tries, a_retryAt, a_ackAt, a_waitTill, a_timedAt, a_timedSeq, a_smoothed, a_variance, a_rowCount, a_slotSeq, a_slotFlags, a_slotAck, a_slotWindow, a_slotSize, a_slotBytes) p x))))) (a_stateOf p.toNatClampNeg) := by
      intro x5 hx5
      refine xl_takesBytes (h_stateOf _ he) (by omega) (by omega) (fun w => ?_) (fun w => ?_)
      · have e2 : gp_take G p.toNatClampNeg k o = gp_goOn (gp_hold G p.toNatClampNeg k o) p.toNatClampNeg := if_pos w
        refine br_f (by decide) (xl_hold hv hI hp hk hx (by omega) (by omega) (by rw [ho]; exact ho0) (by rw [ho]; exact ho1) fun u1 hv1 => ?_)
        rw [ho] at hv1
        obtain ⟨f_now, f_sent, a_stateOf, a_error, a_iss, a_una, a_nxt, a_max, a_writtenTo, a_kept, a_keptBytes, a_rcv, a_unread, a_unreadFrom, a_cameBytes, a_held, a_heldFin, a_wnd, a_wndSeq, a_wndAck, a_peak, a_half, a_same, a_rto, a_tries, a_retryAt, a_ackAt, a_waitTill, a_timedAt, a_timedSeq, a_smoothed, a_variance, a_rowCount, a_slotSeq, a_slotFlags, a_slotAck, a_slotWindow, a_slotSize, a_slotBytes⟩ := u1
        exact xl_goOn hv1 (iv_hold hI he hk hK (by omega) (by omega)) hp fun u2 hv2 => k43 x5 u2 hx5 (by rw [e2]; exact hv2)
      · have e2 : gp_take G p.toNatClampNeg k o = G := if_neg w
        exact br_t rfl (k43 x5 (f_now, f_sent, a_stateOf, a_error, a_iss, a_una, a_nxt, a_max, a_writtenTo, a_kept, a_keptBytes, a_rcv, a_unread, a_unreadFrom, a_cameBytes, a_held, a_heldFin, a_wnd, a_wndSeq, a_wndAck, a_peak, a_half, a_same, a_rto, a_tries, a_retryAt, a_ackAt, a_waitTill, a_timedAt, a_timedSeq, a_smoothed, a_variance, a_rowCount, a_slotSeq, a_slotFlags, a_slotAck, a_slotWindow, a_slotSize, a_slotBytes) hx5 (by rw [e2]; exact hv))
    refine xl_holdsAny hv hI hp (fun z => ⟨hp, kk 1 (Or.inl ⟨z, rfl⟩)⟩) (fun z => ⟨hp, kk 0 (Or.inr ⟨z, rfl⟩)⟩)
end
section
/-! the class: a segment arrives at an end that is connected -/
theorem xl_answerOutside {q K : Int} {G : gm_T} {u : SX} {p x : Int32} {P : SX → Prop} {k : Nat} (hv : vx_S q G u) (hI : gv_I K G) (hp : vp_in p 2) (hk : k < 32) (hx : x = zi_n (gm_L G 1 k)) (h3 : 3 ≤ G.1 0 p.toNatClampNeg) (hP : ∀ u', vx_S q (gp_out G p.toNatClampNeg k) u' → P u') : wpX_answerOutside P u p x := sorry
theorem xl_isAckUsable {q K : Int} {G : gm_T} {u : SX} {p x y : Int32} {P : Int32 → SX → Prop} {k : Nat} {a : Int} (hv : vx_S q G u) (hI : gv_I K G) (hp : vp_in p 2) (hk : k < 32) (hx : x = zi_n (k : Int)) (hy : y = zi_n a) (ha0 : -32768 ≤ a) (ha1 : a < 32768) (h3 : 3 ≤ G.1 0 p.toNatClampNeg) (hA : G.1 0 p.toNatClampNeg = 3 ∧ a ≠ 1 → ∀ u', vx_S q (gp_rst G p.toNatClampNeg (gm_L G 2 k) 8 0) u' → P 0 u') (hB : ¬ (G.1 0 p.toNatClampNeg = 3 ∧ a ≠ 1) → G.1 5 p.toNatClampNeg - G.1 3 p.toNatClampNeg < a → ∀ u', vx_S q (gp_ack (gp_est G p.toNatClampNeg) p.toNatClampNeg) u' → P 0 u') (hC : ¬ (G.1 0 p.toNatClampNeg = 3 ∧ a ≠ 1) → ¬ G.1 5 p.toNatClampNeg - G.1 3 p.toNatClampNeg < a → ∀ u', vx_S q (gp_est G p.toNatClampNeg) u' → P 1 u') : wpX_isAckUsable P u p x y := sorry
/-- what a send leaves of the other row -/
theorem sd_L {G : gm_T} {e : Nat} {fr fl n : Int} {f k : Nat} (h0 : 0 ≤ G.1 30 e) (hk : k < 16 * e ∨ 16 * e + 16 ≤ k) : gm_L (gp_send G e fr fl n) f k = gm_L G f k := sorry
theorem pc_L {G : gm_T} {e f k : Nat} (h0 : 0 ≤ G.1 30 e) (hk : k < 16 * e ∨ 16 * e + 16 ≤ k) : gm_L (gp_piece G e) f k = gm_L G f k := sorry
theorem nk_L {G : gm_T} {e f k k' : Nat} {a : Int} (h0 : 0 ≤ G.1 30 e) (hk : k < 16 * e ∨ 16 * e + 16 ≤ k) : gm_L (gp_newack G e k' a) f k = gm_L G f k := sorry
theorem nk_f {G : gm_T} {e e' k : Nat} {a : Int} {f : Nat} (hf : f = 7 ∨ f = 8 ∨ f = 9) : (gp_newack G e k a).1 f e' = G.1 f e' := sorry
theorem wi_f {G : gm_T} {e e' k : Nat} {f : Nat} (h1 : f ≠ 13) (h2 : f ≠ 14) (h3 : f ≠ 15) (h4 : f ≠ 12) : (gp_win G e k).1 f e' = G.1 f e' := sorry
theorem wi_L {G : gm_T} {e k : Nat} : gm_L (gp_win G e k) = gm_L G := sorry
theorem aq_of {K : Int} {G : gm_T} {e : Nat} {a : Int} (hI : gv_I K G) (he : e < 2) (hs : 3 ≤ G.1 0 e) (ha : 0 < a) (ham : a ≤ G.1 5 e - G.1 3 e) : aq_ok (gp_est G e) e a := sorry
theorem xc_186 {q K : Int} {G : gm_T} {f_now : Int32} {f_sent : Int32} {a_stateOf : (Nat → Int32)} {a_error : (Nat → Int32)} {a_iss : (Nat → Int32)} {a_una : (Nat → Int32)} {a_nxt : (Nat → Int32)} {a_max : (Nat → Int32)} {a_writtenTo : (Nat → Int32)} {a_kept : (Nat → Int32)} {a_keptBytes : (Nat → Int32)} {a_rcv : (Nat → Int32)} {a_unread : (Nat → Int32)} {a_unreadFrom : (Nat → Int32)} {a_cameBytes : (Nat → Int32)} {a_held : (Nat → Int32)} {a_heldFin : (Nat → Int32)} {a_wnd : (Nat → Int32)} {a_wndSeq : (Nat → Int32)} {a_wndAck : (Nat → Int32)} {a_peak : (Nat → Int32)} {a_half : (Nat → Int32)} {a_same : (Nat → Int32)} {a_rto : (Nat → Int32)} {a_tries : (Nat → Int32)} {a_retryAt : (Nat → Int32)} {a_ackAt : (Nat → Int32)} {a_waitTill : (Nat → Int32)} {a_timedAt : (Nat → Int32)} {a_timedSeq : (Nat → Int32)} {a_smoothed : (Nat → Int32)} {a_variance : (Nat → Int32)} {a_rowCount : (Nat → Int32)} {a_slotSeq : (Nat → Int32)} {a_slotFlags : (Nat → Int32)} {a_slotAck : (Nat → Int32)} {a_slotWindow : (Nat → Int32)} {a_slotSize : (Nat → Int32)} {a_slotBytes : (Nat → Int32)} {p x x4 : Int32} {P : SX → Prop} {k : Nat} {o : Int} (hv : vx_S q G (f_now, f_sent, a_stateOf, a_error, a_iss, a_una, a_nxt, a_max, a_writtenTo, a_kept, a_keptBytes, a_rcv, a_unread, a_unreadFrom, a_cameBytes, a_held, a_heldFin, a_wnd, a_wndSeq, a_wndAck, a_peak, a_half, a_same, a_rto, a_tries, a_retryAt, a_ackAt, a_waitTill, a_timedAt, a_timedSeq, a_smoothed, a_variance, a_rowCount, a_slotSeq, a_slotFlags, a_slotAck, a_slotWindow, a_slotSize, a_slotBytes)) (hI : gv_I K G) (hp : vp_in p 2) (hk : k < 32) (hK : K + 7 ≤ 5000) (hx : x = zi_n (k : Int)) (h4 : 4 ≤ G.1 0 p.toNatClampNeg) (ho : gp_o G p.toNatClampNeg k = o) (ho0 : -100 ≤ o) (ho1 : o ≤ 100) (hx4 : x4 = zi_n (gp_slen G k)) (hP : ∀ u', vx_S q (gp_flow (gp_content G p.toNatClampNeg k o) p.toNatClampNeg) u' → P u') : wX_arriveConnected_186 P p x x4 f_now f_sent a_stateOf a_error a_iss a_una a_nxt a_max a_writtenTo a_kept a_keptBytes a_rcv a_unread a_unreadFrom a_cameBytes a_held a_heldFin a_wnd a_wndSeq a_wndAck a_peak a_half a_same a_rto a_tries a_retryAt a_ackAt a_waitTill a_timedAt a_timedSeq a_smoothed a_variance a_rowCount a_slotSeq a_slotFlags a_slotAck a_slotWindow a_slotSize a_slotBytes := sorry
theorem xl_arriveConnected {q K : Int} {G : gm_T} {u : SX} {p x : Int32} {P : SX → Prop} {k : Nat} (hv : vx_S q G u) (hI : gv_I K G) (hp : vp_in p 2) (hk : k < 32) (hrow : k < 16 * p.toNatClampNeg ∨ 16 * p.toNatClampNeg + 16 ≤ k) (hK : K + 8 ≤ 5000) (hx : x = zi_n (k : Int)) (h3 : 3 ≤ G.1 0 p.toNatClampNeg) (hP : ∀ u', vx_S q (gp_conn G p.toNatClampNeg k) u' → P u') : wpX_arriveConnected P u p x := sorry
end
section
/-! the class: the rows of the link -/
theorem xk_62 {P : SX → Prop} {f_now : Int32} {f_sent : Int32} {a_stateOf : (Nat → Int32)} {a_error : (Nat → Int32)} {a_iss : (Nat → Int32)} {a_una : (Nat → Int32)} {a_nxt : (Nat → Int32)} {a_max : (Nat → Int32)} {a_writtenTo : (Nat → Int32)} {a_kept : (Nat → Int32)} {a_keptBytes : (Nat → Int32)} {a_rcv : (Nat → Int32)} {a_unread : (Nat → Int32)} {a_unreadFrom : (Nat → Int32)} {a_cameBytes : (Nat → Int32)} {a_held : (Nat → Int32)} {a_heldFin : (Nat → Int32)} {a_wnd : (Nat → Int32)} {a_wndSeq : (Nat → Int32)} {a_wndAck : (Nat → Int32)} {a_peak : (Nat → Int32)} {a_half : (Nat → Int32)} {a_same : (Nat → Int32)} {a_rto : (Nat → Int32)} {a_tries : (Nat → Int32)} {a_retryAt : (Nat → Int32)} {a_ackAt : (Nat → Int32)} {a_waitTill : (Nat → Int32)} {a_timedAt : (Nat → Int32)} {a_timedSeq : (Nat → Int32)} {a_smoothed : (Nat → Int32)} {a_variance : (Nat → Int32)} {a_rowCount : (Nat → Int32)} {a_slotSeq : (Nat → Int32)} {a_slotFlags : (Nat → Int32)} {a_slotAck : (Nat → Int32)} {a_slotWindow : (Nat → Int32)} {a_slotSize : (Nat → Int32)} {a_slotBytes : (Nat → Int32)} {x1 x2 : Int32} {a b : Nat} (hx1 : x1 = zi_n (a : Int)) (hx2 : x2 = zi_n (b : Int)) (ha : a < 32) (hb : b < 32) (hab : a ≠ b) (hbt : ∀ j, j < 256 → ∃ z : Int, a_slotBytes j = zi_n (zi_b z)) (hP : ∀ SB : Nat → Int32, (∀ j, SB j = if 8 * b ≤ j ∧ j < 8 * b + 8 then a_slotBytes (8 * a + (j - 8 * b)) else a_slotBytes j) → P (f_now, f_sent, a_stateOf, a_error, a_iss, a_una, a_nxt, a_max, a_writtenTo, a_kept, a_keptBytes, a_rcv, a_unread, a_unreadFrom, a_cameBytes, a_held, a_heldFin, a_wnd, a_wndSeq, a_wndAck, a_peak, a_half, a_same, a_rto, a_tries, a_retryAt, a_ackAt, a_waitTill, a_timedAt, a_timedSeq, a_smoothed, a_variance, a_rowCount, a_slotSeq, a_slotFlags, a_slotAck, a_slotWindow, a_slotSize, SB)) :
    ∀ (f i : Nat) (SB : Nat → Int32), i ≤ 8 → 8 - i < f → (∀ j, SB j = if 8 * b ≤ j ∧ j < 8 * b + i then a_slotBytes (8 * a + (j - 8 * b)) else a_slotBytes j) → wX_copySlot_62 P x1 x2 f_now f_sent f (nI i) a_stateOf a_error a_iss a_una a_nxt a_max a_writtenTo a_kept a_keptBytes a_rcv a_unread a_unreadFrom a_cameBytes a_held a_heldFin a_wnd a_wndSeq a_wndAck a_peak a_half a_same a_rto a_tries a_retryAt a_ackAt a_waitTill a_timedAt a_timedSeq a_smoothed a_variance a_rowCount a_slotSeq a_slotFlags a_slotAck a_slotWindow a_slotSize (SB) := by
  intro f
  induction f with
  | zero => intro i SB h1 h2; omega
  | succ f ih =>
    intro i SB h1 h2 h3
    by_cases q : i = 8
    · subst q
      exact br_t (by decide) (hP SB h3)
    · have i1 : x1 * 8 + nI i = zi_n (8 * (a : Int) + i) := by rw [hx1, zi_nI, zk_8, zi_mul, zi_add]; congr 1; omega
      have i2 : x2 * 8 + nI i = zi_n (8 * (b : Int) + i) := by rw [hx2, zi_nI, zk_8, zi_mul, zi_add]; congr 1; omega
      have i3 : (x1 * 8 + nI i).toNatClampNeg = 8 * a + i := by rw [i1, zi_cl (by omega) (by omega)]; omega
      have i4 : (x2 * 8 + nI i).toNatClampNeg = 8 * b + i := by rw [i2, zi_cl (by omega) (by omega)]; omega
      refine br_f (by rw [zk_8, zi_nI, zi_le (by omega) (by omega) (by omega) (by omega)]; omega) ⟨by rw [i1]; exact zi_in (by omega) (by omega) (by omega), by rw [i2]; exact zi_in (by omega) (by omega) (by omega), nm_e (nm_r (nI_1 i) (ih (i + 1) _ (by omega) (by omega) ?_))⟩
      intro j
      rw [i3, i4]
      have e1 : SB (8 * a + i) = a_slotBytes (8 * a + i) := by rw [h3, if_neg (by omega)]
      obtain ⟨z, hz⟩ := hbt (8 * a + i) (by omega)
      rw [e1, hz, vn_byte, zb_b, ← hz]
      by_cases w : j = 8 * b + i
      · rw [w, zu_s, if_pos (by omega)]; congr 1; omega
      · rw [zu_n w, h3 j]
        by_cases w2 : 8 * b ≤ j ∧ j < 8 * b + i
        · rw [if_pos w2, if_pos (by omega)]
        · rw [if_neg w2, if_neg (by omega)]
theorem xl_copySlot {P : SX → Prop} {f_now : Int32} {f_sent : Int32} {a_stateOf : (Nat → Int32)} {a_error : (Nat → Int32)} {a_iss : (Nat → Int32)} {a_una : (Nat → Int32)} {a_nxt : (Nat → Int32)} {a_max : (Nat → Int32)} {a_writtenTo : (Nat → Int32)} {a_kept : (Nat → Int32)} {a_keptBytes : (Nat → Int32)} {a_rcv : (Nat → Int32)} {a_unread : (Nat → Int32)} {a_unreadFrom : (Nat → Int32)} {a_cameBytes : (Nat → Int32)} {a_held : (Nat → Int32)} {a_heldFin : (Nat → Int32)} {a_wnd : (Nat → Int32)} {a_wndSeq : (Nat → Int32)} {a_wndAck : (Nat → Int32)} {a_peak : (Nat → Int32)} {a_half : (Nat → Int32)} {a_same : (Nat → Int32)} {a_rto : (Nat → Int32)} {a_tries : (Nat → Int32)} {a_retryAt : (Nat → Int32)} {a_ackAt : (Nat → Int32)} {a_waitTill : (Nat → Int32)} {a_timedAt : (Nat → Int32)} {a_timedSeq : (Nat → Int32)} {a_smoothed : (Nat → Int32)} {a_variance : (Nat → Int32)} {a_rowCount : (Nat → Int32)} {a_slotSeq : (Nat → Int32)} {a_slotFlags : (Nat → Int32)} {a_slotAck : (Nat → Int32)} {a_slotWindow : (Nat → Int32)} {a_slotSize : (Nat → Int32)} {a_slotBytes : (Nat → Int32)} {x1 x2 : Int32} {a b : Nat} (hx1 : x1 = zi_n (a : Int)) (hx2 : x2 = zi_n (b : Int)) (ha : a < 32) (hb : b < 32) (hab : a ≠ b) (hbt : ∀ j, j < 256 → ∃ z : Int, a_slotBytes j = zi_n (zi_b z)) (hP : ∀ SB : Nat → Int32, (∀ j, SB j = if 8 * b ≤ j ∧ j < 8 * b + 8 then a_slotBytes (8 * a + (j - 8 * b)) else a_slotBytes j) → P (f_now, f_sent, a_stateOf, a_error, a_iss, a_una, a_nxt, a_max, a_writtenTo, a_kept, a_keptBytes, a_rcv, a_unread, a_unreadFrom, a_cameBytes, a_held, a_heldFin, a_wnd, a_wndSeq, a_wndAck, a_peak, a_half, a_same, a_rto, a_tries, a_retryAt, a_ackAt, a_waitTill, a_timedAt, a_timedSeq, a_smoothed, a_variance, a_rowCount, upd a_slotSeq b (a_slotSeq a), upd a_slotFlags b (a_slotFlags a), upd a_slotAck b (a_slotAck a), upd a_slotWindow b (a_slotWindow a), upd a_slotSize b (a_slotSize a), SB)) : wpX_copySlot P (f_now, f_sent, a_stateOf, a_error, a_iss, a_una, a_nxt, a_max, a_writtenTo, a_kept, a_keptBytes, a_rcv, a_unread, a_unreadFrom, a_cameBytes, a_held, a_heldFin, a_wnd, a_wndSeq, a_wndAck, a_peak, a_half, a_same, a_rto, a_tries, a_retryAt, a_ackAt, a_waitTill, a_timedAt, a_timedSeq, a_smoothed, a_variance, a_rowCount, a_slotSeq, a_slotFlags, a_slotAck, a_slotWindow, a_slotSize, a_slotBytes) x1 x2 := by
  have hi1 : vp_in x1 33 := by rw [hx1]; exact sl_in ha
  have hi2 : vp_in x2 33 := by rw [hx2]; exact sl_in hb
  have c1 : x1.toNatClampNeg = a := by rw [hx1]; exact sl_c (by omega)
  have c2 : x2.toNatClampNeg = b := by rw [hx2]; exact sl_c (by omega)
  unfold wpX_copySlot
  rw [c1, c2]
  refine ⟨hi1, hi2, nm_e ⟨hi1, hi2, nm_e ⟨hi1, hi2, nm_e ⟨hi1, hi2, nm_e ⟨hi1, hi2, nm_e ⟨9, ?_⟩⟩⟩⟩⟩⟩
  exact xk_62 hx1 hx2 ha hb hab hbt hP 9 0 a_slotBytes (by omega) (by omega) (fun j => by rw [if_neg (by omega)])
/-- a row moves up -/
def gq_sh (G : gm_T) (e k m : Nat) : gm_T := (G.1, gm_W G, gm_B G, gm_H G, (fun f i => if 16 * e + k ≤ i ∧ i < 16 * e + m then gm_L G f (i + 1) else gm_L G f i), (fun j => if 8 * (16 * e + k) ≤ j ∧ j < 8 * (16 * e + m) then gm_D G (j + 8) else gm_D G j), gm_N G, gm_S G)
theorem sh_0 {G : gm_T} {e k : Nat} : gq_sh G e k k = G := by
  have h1 : (fun f i => if 16 * e + k ≤ i ∧ i < 16 * e + k then gm_L G f (i + 1) else gm_L G f i) = gm_L G := by
    funext f i; rw [if_neg (by omega)]
  have h2 : (fun j => if 8 * (16 * e + k) ≤ j ∧ j < 8 * (16 * e + k) then gm_D G (j + 8) else gm_D G j) = gm_D G := by
    funext j; rw [if_neg (by omega)]
  unfold gq_sh
  rw [h1, h2]
theorem vx_sh {q : Int} {G : gm_T} {f_now : Int32} {f_sent : Int32} {a_stateOf : (Nat → Int32)} {a_error : (Nat → Int32)} {a_iss : (Nat → Int32)} {a_una : (Nat → Int32)} {a_nxt : (Nat → Int32)} {a_max : (Nat → Int32)} {a_writtenTo : (Nat → Int32)} {a_kept : (Nat → Int32)} {a_keptBytes : (Nat → Int32)} {a_rcv : (Nat → Int32)} {a_unread : (Nat → Int32)} {a_unreadFrom : (Nat → Int32)} {a_cameBytes : (Nat → Int32)} {a_held : (Nat → Int32)} {a_heldFin : (Nat → Int32)} {a_wnd : (Nat → Int32)} {a_wndSeq : (Nat → Int32)} {a_wndAck : (Nat → Int32)} {a_peak : (Nat → Int32)} {a_half : (Nat → Int32)} {a_same : (Nat → Int32)} {a_rto : (Nat → Int32)} {a_tries : (Nat → Int32)} {a_retryAt : (Nat → Int32)} {a_ackAt : (Nat → Int32)} {a_waitTill : (Nat → Int32)} {a_timedAt : (Nat → Int32)} {a_timedSeq : (Nat → Int32)} {a_smoothed : (Nat → Int32)} {a_variance : (Nat → Int32)} {a_rowCount : (Nat → Int32)} {a_slotSeq : (Nat → Int32)} {a_slotFlags : (Nat → Int32)} {a_slotAck : (Nat → Int32)} {a_slotWindow : (Nat → Int32)} {a_slotSize : (Nat → Int32)} {a_slotBytes : (Nat → Int32)} {e k m : Nat} {SB : Nat → Int32} (hv : vx_S q (gq_sh G e k m) (f_now, f_sent, a_stateOf, a_error, a_iss, a_una, a_nxt, a_max, a_writtenTo, a_kept, a_keptBytes, a_rcv, a_unread, a_unreadFrom, a_cameBytes, a_held, a_heldFin, a_wnd, a_wndSeq, a_wndAck, a_peak, a_half, a_same, a_rto, a_tries, a_retryAt, a_ackAt, a_waitTill, a_timedAt, a_timedSeq, a_smoothed, a_variance, a_rowCount, a_slotSeq, a_slotFlags, a_slotAck, a_slotWindow, a_slotSize, a_slotBytes)) (hk : k ≤ m) (hm : 16 * e + m + 1 < 32) (hSB : ∀ j, SB j = if 8 * (16 * e + m) ≤ j ∧ j < 8 * (16 * e + m) + 8 then a_slotBytes (8 * (16 * e + m + 1) + (j - 8 * (16 * e + m))) else a_slotBytes j) : vx_S q (gq_sh G e k (m + 1)) (f_now, f_sent, a_stateOf, a_error, a_iss, a_una, a_nxt, a_max, a_writtenTo, a_kept, a_keptBytes, a_rcv, a_unread, a_unreadFrom, a_cameBytes, a_held, a_heldFin, a_wnd, a_wndSeq, a_wndAck, a_peak, a_half, a_same, a_rto, a_tries, a_retryAt, a_ackAt, a_waitTill, a_timedAt, a_timedSeq, a_smoothed, a_variance, a_rowCount, upd a_slotSeq (16 * e + m) (a_slotSeq (16 * e + m + 1)), upd a_slotFlags (16 * e + m) (a_slotFlags (16 * e + m + 1)), upd a_slotAck (16 * e + m) (a_slotAck (16 * e + m + 1)), upd a_slotWindow (16 * e + m) (a_slotWindow (16 * e + m + 1)), upd a_slotSize (16 * e + m) (a_slotSize (16 * e + m + 1)), SB) := by
  obtain ⟨h_now, h_sent, h_stateOf, h_error, h_iss, h_una, h_nxt, h_max, h_writtenTo, h_kept, h_keptBytes, h_rcv, h_unread, h_unreadFrom, h_cameBytes, h_held, h_heldFin, h_wnd, h_wndSeq, h_wndAck, h_peak, h_half, h_same, h_rto, h_tries, h_retryAt, h_ackAt, h_waitTill, h_timedAt, h_timedSeq, h_smoothed, h_variance, h_rowCount, h_slotSeq, h_slotFlags, h_slotAck, h_slotWindow, h_slotSize, h_slotBytes⟩ := hv
  have key : ∀ (f : Nat) (A : Nat → Int32), (∀ i, i < 32 → A i = zi_n (gm_L (gq_sh G e k m) f i)) → ∀ i, i < 32 → upd A (16 * e + m) (A (16 * e + m + 1)) i = zi_n (gm_L (gq_sh G e k (m + 1)) f i) := by
    intro f A hA i hi
    have t1 : ∀ i, gm_L (gq_sh G e k m) f i = if 16 * e + k ≤ i ∧ i < 16 * e + m then gm_L G f (i + 1) else gm_L G f i := fun i => rfl
    have t2 : gm_L (gq_sh G e k (m + 1)) f i = if 16 * e + k ≤ i ∧ i < 16 * e + (m + 1) then gm_L G f (i + 1) else gm_L G f i := rfl
    rw [t2]
    by_cases w : i = 16 * e + m
    · rw [w, zu_s, hA _ hm, t1, if_neg (by omega), if_pos (by omega)]
    · rw [zu_n w, hA i hi, t1]
      by_cases w2 : 16 * e + k ≤ i ∧ i < 16 * e + m
      · rw [if_pos w2, if_pos (by omega)]
      · rw [if_neg w2, if_neg (by omega)]
  refine (vx_mk h_now h_sent h_stateOf h_error h_iss h_una h_nxt h_max h_writtenTo h_kept h_keptBytes h_rcv h_unread h_unreadFrom h_cameBytes h_held h_heldFin h_wnd h_wndSeq h_wndAck h_peak h_half h_same h_rto h_tries h_retryAt h_ackAt h_waitTill h_timedAt h_timedSeq h_smoothed h_variance h_rowCount (key 0 _ h_slotSeq) (key 1 _ h_slotFlags) (key 2 _ h_slotAck) (key 3 _ h_slotWindow) (key 4 _ h_slotSize) (fun j hj => ?_))
  have t1 : ∀ j, gm_D (gq_sh G e k m) j = if 8 * (16 * e + k) ≤ j ∧ j < 8 * (16 * e + m) then gm_D G (j + 8) else gm_D G j := fun j => rfl
  have t2 : gm_D (gq_sh G e k (m + 1)) j = if 8 * (16 * e + k) ≤ j ∧ j < 8 * (16 * e + (m + 1)) then gm_D G (j + 8) else gm_D G j := rfl
  rw [t2, hSB]
  by_cases w : 8 * (16 * e + m) ≤ j ∧ j < 8 * (16 * e + m) + 8
  · rw [if_pos w, h_slotBytes _ (by omega), t1, if_neg (by omega), if_pos (by omega)]
    congr 3; omega
  · rw [if_neg w, h_slotBytes j hj, t1]
    by_cases w2 : 8 * (16 * e + k) ≤ j ∧ j < 8 * (16 * e + m)
    · rw [if_pos w2, if_pos (by omega)]
    · rw [if_neg w2, if_neg (by omega)]
theorem vx_bt {q : Int} {G : gm_T} {f_now : Int32} {f_sent : Int32} {a_stateOf : (Nat → Int32)} {a_error : (Nat → Int32)} {a_iss : (Nat → Int32)} {a_una : (Nat → Int32)} {a_nxt : (Nat → Int32)} {a_max : (Nat → Int32)} {a_writtenTo : (Nat → Int32)} {a_kept : (Nat → Int32)} {a_keptBytes : (Nat → Int32)} {a_rcv : (Nat → Int32)} {a_unread : (Nat → Int32)} {a_unreadFrom : (Nat → Int32)} {a_cameBytes : (Nat → Int32)} {a_held : (Nat → Int32)} {a_heldFin : (Nat → Int32)} {a_wnd : (Nat → Int32)} {a_wndSeq : (Nat → Int32)} {a_wndAck : (Nat → Int32)} {a_peak : (Nat → Int32)} {a_half : (Nat → Int32)} {a_same : (Nat → Int32)} {a_rto : (Nat → Int32)} {a_tries : (Nat → Int32)} {a_retryAt : (Nat → Int32)} {a_ackAt : (Nat → Int32)} {a_waitTill : (Nat → Int32)} {a_timedAt : (Nat → Int32)} {a_timedSeq : (Nat → Int32)} {a_smoothed : (Nat → Int32)} {a_variance : (Nat → Int32)} {a_rowCount : (Nat → Int32)} {a_slotSeq : (Nat → Int32)} {a_slotFlags : (Nat → Int32)} {a_slotAck : (Nat → Int32)} {a_slotWindow : (Nat → Int32)} {a_slotSize : (Nat → Int32)} {a_slotBytes : (Nat → Int32)} (hv : vx_S q G (f_now, f_sent, a_stateOf, a_error, a_iss, a_una, a_nxt, a_max, a_writtenTo, a_kept, a_keptBytes, a_rcv, a_unread, a_unreadFrom, a_cameBytes, a_held, a_heldFin, a_wnd, a_wndSeq, a_wndAck, a_peak, a_half, a_same, a_rto, a_tries, a_retryAt, a_ackAt, a_waitTill, a_timedAt, a_timedSeq, a_smoothed, a_variance, a_rowCount, a_slotSeq, a_slotFlags, a_slotAck, a_slotWindow, a_slotSize, a_slotBytes)) : ∀ j, j < 256 → ∃ z : Int, a_slotBytes j = zi_n (zi_b z) := by
  obtain ⟨h_now, h_sent, h_stateOf, h_error, h_iss, h_una, h_nxt, h_max, h_writtenTo, h_kept, h_keptBytes, h_rcv, h_unread, h_unreadFrom, h_cameBytes, h_held, h_heldFin, h_wnd, h_wndSeq, h_wndAck, h_peak, h_half, h_same, h_rto, h_tries, h_retryAt, h_ackAt, h_waitTill, h_timedAt, h_timedSeq, h_smoothed, h_variance, h_rowCount, h_slotSeq, h_slotFlags, h_slotAck, h_slotWindow, h_slotSize, h_slotBytes⟩ := hv
  exact fun j hj => ⟨_, h_slotBytes j hj⟩
theorem xk_22 {q : Int} {G : gm_T} {p x3 : Int32} {P : SX → Prop} {k r : Nat} (hp : vp_in p 2) (hr : G.1 30 p.toNatClampNeg = (r : Int) + 1) (hr16 : r < 16) (hx3 : x3 = zi_n (16 * (p.toNatClampNeg : Int) + r)) (hP : ∀ u', vx_S q (gp_rm G p.toNatClampNeg k) u' → P u') : ∀ (d m f : Nat) (f_now : Int32) (f_sent : Int32) (a_stateOf : (Nat → Int32)) (a_error : (Nat → Int32)) (a_iss : (Nat → Int32)) (a_una : (Nat → Int32)) (a_nxt : (Nat → Int32)) (a_max : (Nat → Int32)) (a_writtenTo : (Nat → Int32)) (a_kept : (Nat → Int32)) (a_keptBytes : (Nat → Int32)) (a_rcv : (Nat → Int32)) (a_unread : (Nat → Int32)) (a_unreadFrom : (Nat → Int32)) (a_cameBytes : (Nat → Int32)) (a_held : (Nat → Int32)) (a_heldFin : (Nat → Int32)) (a_wnd : (Nat → Int32)) (a_wndSeq : (Nat → Int32)) (a_wndAck : (Nat → Int32)) (a_peak : (Nat → Int32)) (a_half : (Nat → Int32)) (a_same : (Nat → Int32)) (a_rto : (Nat → Int32)) (a_tries : (Nat → Int32)) (a_retryAt : (Nat → Int32)) (a_ackAt : (Nat → Int32)) (a_waitTill : (Nat → Int32)) (a_timedAt : (Nat → Int32)) (a_timedSeq : (Nat → Int32)) (a_smoothed : (Nat → Int32)) (a_variance : (Nat → Int32)) (a_rowCount : (Nat → Int32)) (a_slotSeq : (Nat → Int32)) (a_slotFlags : (Nat → Int32)) (a_slotAck : (Nat → Int32)) (a_slotWindow : (Nat → Int32)) (a_slotSize : (Nat → Int32)) (a_slotBytes : (Nat → Int32)), m + d = r → k ≤ m → d < f → vx_S q (gq_sh G p.toNatClampNeg k m) (f_now, f_sent, a_stateOf, a_error, a_iss, a_una, a_nxt, a_max, a_writtenTo, a_kept, a_keptBytes, a_rcv, a_unread, a_unreadFrom, a_cameBytes, a_held, a_heldFin, a_wnd, a_wndSeq, a_wndAck, a_peak, a_half, a_same, a_rto, a_tries, a_retryAt, a_ackAt, a_waitTill, a_timedAt, a_timedSeq, a_smoothed, a_variance, a_rowCount, a_slotSeq, a_slotFlags, a_slotAck, a_slotWindow, a_slotSize, a_slotBytes) → wX_takeOut_22 P p x3 f (zi_n (16 * (p.toNatClampNeg : Int) + m)) f_now f_sent a_stateOf a_error a_iss a_una a_nxt a_max a_writtenTo a_kept a_keptBytes a_rcv a_unread a_unreadFrom a_cameBytes a_held a_heldFin a_wnd a_wndSeq a_wndAck a_peak a_half a_same a_rto a_tries a_retryAt a_ackAt a_waitTill a_timedAt a_timedSeq a_smoothed a_variance a_rowCount a_slotSeq a_slotFlags a_slotAck a_slotWindow a_slotSize a_slotBytes := by
  have he := pe_lt hp
  intro d
  induction d with
  | zero =>
    intro m f f_now f_sent a_stateOf a_error a_iss a_una a_nxt a_max a_writtenTo a_kept a_keptBytes a_rcv a_unread a_unreadFrom a_cameBytes a_held a_heldFin a_wnd a_wndSeq a_wndAck a_peak a_half a_same a_rto a_tries a_retryAt a_ackAt a_waitTill a_timedAt a_timedSeq a_smoothed a_variance a_rowCount a_slotSeq a_slotFlags a_slotAck a_slotWindow a_slotSize a_slotBytes hm hk hf hv
    obtain ⟨f, rfl⟩ : ∃ g, f = g + 1 := ⟨f - 1, by omega⟩
    obtain rfl : m = r := by omega
    refine br_t (by rw [hx3]; exact Int32.le_refl _) ⟨hp, hp, nm_e (hP _ ?_)⟩
    obtain ⟨h_now, h_sent, h_stateOf, h_error, h_iss, h_una, h_nxt, h_max, h_writtenTo, h_kept, h_keptBytes, h_rcv, h_unread, h_unreadFrom, h_cameBytes, h_held, h_heldFin, h_wnd, h_wndSeq, h_wndAck, h_peak, h_half, h_same, h_rto, h_tries, h_retryAt, h_ackAt, h_waitTill, h_timedAt, h_timedSeq, h_smoothed, h_variance, h_rowCount, h_slotSeq, h_slotFlags, h_slotAck, h_slotWindow, h_slotSize, h_slotBytes⟩ := hv
    have tL : gm_L (gp_rm G p.toNatClampNeg k) = gm_L (gq_sh G p.toNatClampNeg k m) := by
      funext f i
      show (if 16 * p.toNatClampNeg + k ≤ i ∧ (i : Int) < 16 * p.toNatClampNeg + G.1 30 p.toNatClampNeg - 1 then gm_L G f (i + 1) else gm_L G f i) = (if 16 * p.toNatClampNeg + k ≤ i ∧ i < 16 * p.toNatClampNeg + m then gm_L G f (i + 1) else gm_L G f i)
      by_cases w : 16 * p.toNatClampNeg + k ≤ i ∧ i < 16 * p.toNatClampNeg + m
      · rw [if_pos w, if_pos (by omega)]
      · rw [if_neg w, if_neg (by omega)]
    have tD : gm_D (gp_rm G p.toNatClampNeg k) = gm_D (gq_sh G p.toNatClampNeg k m) := by
      funext j
      show (if 8 * (16 * p.toNatClampNeg + k) ≤ j ∧ (j : Int) < 8 * (16 * p.toNatClampNeg + G.1 30 p.toNatClampNeg - 1) then gm_D G (j + 8) else gm_D G j) = (if 8 * (16 * p.toNatClampNeg + k) ≤ j ∧ j < 8 * (16 * p.toNatClampNeg + m) then gm_D G (j + 8) else gm_D G j)
      by_cases w : 8 * (16 * p.toNatClampNeg + k) ≤ j ∧ j < 8 * (16 * p.toNatClampNeg + m)
      · rw [if_pos w, if_pos (by omega)]
      · rw [if_neg w, if_neg (by omega)]
    refine (vx_mk h_now h_sent h_stateOf h_error h_iss h_una h_nxt h_max h_writtenTo h_kept h_keptBytes h_rcv h_unread h_unreadFrom h_cameBytes h_held h_heldFin h_wnd h_wndSeq h_wndAck h_peak h_half h_same h_rto h_tries h_retryAt h_ackAt h_waitTill h_timedAt h_timedSeq h_smoothed h_variance (vu_e h_rowCount ?_ (fun e' y => gs_e y)) ((by rw [tL]; exact h_slotSeq)) ((by rw [tL]; exact h_slotFlags)) ((by rw [tL]; exact h_slotAck)) ((by rw [tL]; exact h_slotWindow)) ((by rw [tL]; exact h_slotSize)) ((by rw [tD]; exact h_slotBytes)))
    show _ = zi_n (gs_c _ _ _ _ _ _)
    rw [gs_s, h_rowCount _ he, zk_1, zi_sub]; rfl
  | succ d ih =>
    intro m f f_now f_sent a_stateOf a_error a_iss a_una a_nxt a_max a_writtenTo a_kept a_keptBytes a_rcv a_unread a_unreadFrom a_cameBytes a_held a_heldFin a_wnd a_wndSeq a_wndAck a_peak a_half a_same a_rto a_tries a_retryAt a_ackAt a_waitTill a_timedAt a_timedSeq a_smoothed a_variance a_rowCount a_slotSeq a_slotFlags a_slotAck a_slotWindow a_slotSize a_slotBytes hm hk hf hv
    obtain ⟨f, rfl⟩ : ∃ g, f = g + 1 := ⟨f - 1, by omega⟩
    refine br_f (by rw [hx3, zi_le (by omega) (by omega) (by omega) (by omega)]; omega) ?_
    refine xl_copySlot (a := 16 * p.toNatClampNeg + m + 1) (b := 16 * p.toNatClampNeg + m) (by rw [zk_1, zi_add]; congr 1; omega) (by congr 1; omega) (by omega) (by omega) (by omega) (vx_bt hv) fun SB hSB => ?_
    refine nm_r (e' := zi_n (16 * (p.toNatClampNeg : Int) + ((m + 1 : Nat) : Int))) (by rw [zk_1, zi_add]; congr 1; omega) ?_
    exact ih (m + 1) f f_now f_sent a_stateOf a_error a_iss a_una a_nxt a_max a_writtenTo a_kept a_keptBytes a_rcv a_unread a_unreadFrom a_cameBytes a_held a_heldFin a_wnd a_wndSeq a_wndAck a_peak a_half a_same a_rto a_tries a_retryAt a_ackAt a_waitTill a_timedAt a_timedSeq a_smoothed a_variance a_rowCount (upd a_slotSeq (16 * p.toNatClampNeg + m) (a_slotSeq (16 * p.toNatClampNeg + m + 1))) (upd a_slotFlags (16 * p.toNatClampNeg + m) (a_slotFlags (16 * p.toNatClampNeg + m + 1))) (upd a_slotAck (16 * p.toNatClampNeg + m) (a_slotAck (16 * p.toNatClampNeg + m + 1))) (upd a_slotWindow (16 * p.toNatClampNeg + m) (a_slotWindow (16 * p.toNatClampNeg + m + 1))) (upd a_slotSize (16 * p.toNatClampNeg + m) (a_slotSize (16 * p.toNatClampNeg + m + 1))) (SB) (by omega) (by omega) (by omega) (vx_sh hv hk (by omega) hSB)
theorem xl_takeOut {q : Int} {G : gm_T} {u : SX} {p x : Int32} {P : SX → Prop} {k : Nat} (hv : vx_S q G u) (hp : vp_in p 2) (hx : x = zi_n (k : Int)) (hk : (k : Int) < G.1 30 p.toNatClampNeg) (h16 : G.1 30 p.toNatClampNeg ≤ 16) (hP : ∀ u', vx_S q (gp_rm G p.toNatClampNeg k) u' → P u') : wpX_takeOut P u p x := by
  obtain ⟨f_now, f_sent, a_stateOf, a_error, a_iss, a_una, a_nxt, a_max, a_writtenTo, a_kept, a_keptBytes, a_rcv, a_unread, a_unreadFrom, a_cameBytes, a_held, a_heldFin, a_wnd, a_wndSeq, a_wndAck, a_peak, a_half, a_same, a_rto, a_tries, a_retryAt, a_ackAt, a_waitTill, a_timedAt, a_timedSeq, a_smoothed, a_variance, a_rowCount, a_slotSeq, a_slotFlags, a_slotAck, a_slotWindow, a_slotSize, a_slotBytes⟩ := u
  have hv0 := hv
  obtain ⟨h_now, h_sent, h_stateOf, h_error, h_iss, h_una, h_nxt, h_max, h_writtenTo, h_kept, h_keptBytes, h_rcv, h_unread, h_unreadFrom, h_cameBytes, h_held, h_heldFin, h_wnd, h_wndSeq, h_wndAck, h_peak, h_half, h_same, h_rto, h_tries, h_retryAt, h_ackAt, h_waitTill, h_timedAt, h_timedSeq, h_smoothed, h_variance, h_rowCount, h_slotSeq, h_slotFlags, h_slotAck, h_slotWindow, h_slotSize, h_slotBytes⟩ := hv0
  have he := pe_lt hp
  have hz := pe_z hp
  obtain ⟨r, hr⟩ : ∃ r : Nat, G.1 30 p.toNatClampNeg = (r : Int) + 1 := ⟨(G.1 30 p.toNatClampNeg - 1).toNat, by omega⟩
  unfold wpX_takeOut
  refine ⟨hp, nm_r (e' := zi_n (16 * (p.toNatClampNeg : Int) + r)) ?_ (nm_r (e' := zi_n (16 * (p.toNatClampNeg : Int) + k)) ?_ ⟨17, ?_⟩)⟩
  · rw [h_rowCount _ he, hr]
    generalize p.toNatClampNeg = e at *
    rw [hz, zk_16, zk_1, zi_mul, zi_add, zi_sub]; congr 1; omega
  · rw [hx]
    generalize p.toNatClampNeg = e at *
    rw [hz, zk_16, zi_mul, zi_add]; congr 1; omega
  · exact xk_22 hp hr (by omega) rfl hP (r - k) k 17 f_now f_sent a_stateOf a_error a_iss a_una a_nxt a_max a_writtenTo a_kept a_keptBytes a_rcv a_unread a_unreadFrom a_cameBytes a_held a_heldFin a_wnd a_wndSeq a_wndAck a_peak a_half a_same a_rto a_tries a_retryAt a_ackAt a_waitTill a_timedAt a_timedSeq a_smoothed a_variance a_rowCount a_slotSeq a_slotFlags a_slotAck a_slotWindow a_slotSize a_slotBytes (by omega) (by omega) (by omega) (by rw [sh_0]; exact hv)
end
section
/-! the class: time -/
theorem xl_sendAgain {q K : Int} {G : gm_T} {u : SX} {p : Int32} {P : SX → Prop} (hv : vx_S q G u) (hI : gv_I K G) (hI2 : gv_I K (gp_late2 G p.toNatClampNeg)) (hp : vp_in p 2) (h4 : 4 ≤ G.1 0 p.toNatClampNeg) (hum : G.1 3 p.toNatClampNeg < G.1 5 p.toNatClampNeg) (hP : ∀ u', vx_S q (if G.1 12 p.toNatClampNeg = 0 then gp_piece (gp_late2 G p.toNatClampNeg) p.toNatClampNeg else gp_flow (gp_late2 G p.toNatClampNeg) p.toNatClampNeg) u' → P u') : wpX_sendAgain P u p := by
  obtain ⟨f_now, f_sent, a_stateOf, a_error, a_iss, a_una, a_nxt, a_max, a_writtenTo, a_kept, a_keptBytes, a_rcv, a_unread, a_unreadFrom, a_cameBytes, a_held, a_heldFin, a_wnd, a_wndSeq, a_wndAck, a_peak, a_half, a_same, a_rto, a_tries, a_retryAt, a_ackAt, a_waitTill, a_timedAt, a_timedSeq, a_smoothed, a_variance, a_rowCount, a_slotSeq, a_slotFlags, a_slotAck, a_slotWindow, a_slotSize, a_slotBytes⟩ := u
  have hv0 := hv
  obtain ⟨h_now, h_sent, h_stateOf, h_error, h_iss, h_una, h_nxt, h_max, h_writtenTo, h_kept, h_keptBytes, h_rcv, h_unread, h_unreadFrom, h_cameBytes, h_held, h_heldFin, h_wnd, h_wndSeq, h_wndAck, h_peak, h_half, h_same, h_rto, h_tries, h_retryAt, h_ackAt, h_waitTill, h_timedAt, h_timedSeq, h_smoothed, h_variance, h_rowCount, h_slotSeq, h_slotFlags, h_slotAck, h_slotWindow, h_slotSize, h_slotBytes⟩ := hv0
  have he := pe_lt hp
  have n2 := hI.2.1
  obtain ⟨b1, b2, b3, b4, b5, b6⟩ := hI.2.2.2.2.1 _ he
  unfold gv_p at b2
  unfold gv_c at b3
  have hu := (b2.2.2.2.2.1 h4)
  have hk := b2.2.2.2.2.2
  unfold wpX_sendAgain
  refine xl_halve hp (h_max _ he) (h_una _ he) (by omega) (by omega) ⟨hp, nm_e ⟨hp, nm_e ⟨hp, hp, nm_e ⟨hp, ?_⟩⟩⟩⟩
  have hv2 : vx_S q (gp_late2 G p.toNatClampNeg) (f_now, f_sent, a_stateOf, a_error, a_iss, a_una, upd a_nxt p.toNatClampNeg (a_una p.toNatClampNeg), a_max, a_writtenTo, a_kept, a_keptBytes, a_rcv, a_unread, a_unreadFrom, a_cameBytes, a_held, a_heldFin, a_wnd, a_wndSeq, a_wndAck, upd a_peak p.toNatClampNeg 8, upd a_half p.toNatClampNeg (zi_n (max 8 ((G.1 5 p.toNatClampNeg - G.1 3 p.toNatClampNeg) / 2))), upd a_same p.toNatClampNeg 0, a_rto, a_tries, a_retryAt, a_ackAt, a_waitTill, a_timedAt, a_timedSeq, a_smoothed, a_variance, a_rowCount, a_slotSeq, a_slotFlags, a_slotAck, a_slotWindow, a_slotSize, a_slotBytes) := by
    generalize p.toNatClampNeg = e at *
    have o : ∀ e' f, e' ≠ e → (gp_late2 G e).1 f e' = G.1 f e' := fun e' f y => by simp only [gp_late2, gs_e y]
    refine (vx_mk h_now h_sent h_stateOf h_error h_iss h_una (vu_e h_nxt ?a4 (fun e' y => by rw [o _ _ y, o _ _ y])) h_max h_writtenTo h_kept h_keptBytes h_rcv h_unread h_unreadFrom h_cameBytes h_held h_heldFin h_wnd h_wndSeq h_wndAck (vu_e h_peak ?a2 (fun e' y => o _ _ y)) (vu_e h_half ?a1 (fun e' y => o _ _ y)) (vu_e h_same ?a3 (fun e' y => o _ _ y)) h_rto h_tries h_retryAt h_ackAt h_waitTill h_timedAt h_timedSeq h_smoothed h_variance h_rowCount h_slotSeq h_slotFlags h_slotAck h_slotWindow h_slotSize h_slotBytes)
    case a1 => simp +decide only [gp_late2, gs_s, gs_f] <;> rfl
    case a2 => simp +decide only [gp_late2, gs_s, gs_f] <;> rfl
    case a3 => simp +decide only [gp_late2, gs_s, gs_f] <;> rfl
    case a4 => simp +decide only [gp_late2, gs_s, gs_f]; exact h_una e he
  have s1 : (gp_late2 G p.toNatClampNeg).1 0 p.toNatClampNeg = G.1 0 p.toNatClampNeg := by simp +decide only [gp_late2, gs_f]
  have s2 : (gp_late2 G p.toNatClampNeg).1 3 p.toNatClampNeg = G.1 3 p.toNatClampNeg := by simp +decide only [gp_late2, gs_f]
  have s3 : (gp_late2 G p.toNatClampNeg).1 5 p.toNatClampNeg = G.1 5 p.toNatClampNeg := by simp +decide only [gp_late2, gs_f]
  by_cases w : G.1 12 p.toNatClampNeg = 0
  · rw [if_pos w] at hP
    exact br_t (by rw [h_wnd _ he, w]; rfl) (xl_piece hv2 hI2 hp (by rw [s1]; exact h4) (by rw [s2, s3]; exact hum) hP)
  · rw [if_neg w] at hP
    exact br_f (by rw [h_wnd _ he, zk_0, zi_eq (by omega) (by omega) (by omega) (by omega)]; exact w) (xl_flow hv2 hI2 hp hP)
theorem xl_retry {q K : Int} {G : gm_T} {u : SX} {p : Int32} {P : SX → Prop} (hv : vx_S q G u) (hI : gv_I K G) (hp : vp_in p 2) (hs : 2 ≤ G.1 0 p.toNatClampNeg) (hP : ∀ u', vx_S q (gp_late G p.toNatClampNeg) u' → P u') : wpX_retry P u p := by
  obtain ⟨f_now, f_sent, a_stateOf, a_error, a_iss, a_una, a_nxt, a_max, a_writtenTo, a_kept, a_keptBytes, a_rcv, a_unread, a_unreadFrom, a_cameBytes, a_held, a_heldFin, a_wnd, a_wndSeq, a_wndAck, a_peak, a_half, a_same, a_rto, a_tries, a_retryAt, a_ackAt, a_waitTill, a_timedAt, a_timedSeq, a_smoothed, a_variance, a_rowCount, a_slotSeq, a_slotFlags, a_slotAck, a_slotWindow, a_slotSize, a_slotBytes⟩ := u
  have hv0 := hv
  obtain ⟨h_now, h_sent, h_stateOf, h_error, h_iss, h_una, h_nxt, h_max, h_writtenTo, h_kept, h_keptBytes, h_rcv, h_unread, h_unreadFrom, h_cameBytes, h_held, h_heldFin, h_wnd, h_wndSeq, h_wndAck, h_peak, h_half, h_same, h_rto, h_tries, h_retryAt, h_ackAt, h_waitTill, h_timedAt, h_timedSeq, h_smoothed, h_variance, h_rowCount, h_slotSeq, h_slotFlags, h_slotAck, h_slotWindow, h_slotSize, h_slotBytes⟩ := hv0
  have he := pe_lt hp
  have n2 := hI.2.1
  obtain ⟨b1, b2, b3, b4, b5, b6⟩ := hI.2.2.2.2.1 _ he
  have hIl := hI.2.2.2.2.1 _ he
  unfold gv_a at b1
  unfold gv_p at b2
  unfold gv_c at b3
  have hpos : 0 ≤ G.1 3 p.toNatClampNeg ∧ G.1 3 p.toNatClampNeg ≤ G.1 5 p.toNatClampNeg ∧ G.1 5 p.toNatClampNeg - G.1 3 p.toNatClampNeg ≤ 40 ∧ (G.1 0 p.toNatClampNeg < 4 → G.1 3 p.toNatClampNeg = 0 ∧ G.1 5 p.toNatClampNeg = 1) := by
    have r2 := b2.2.2.2.2.2
    by_cases w : 4 ≤ G.1 0 p.toNatClampNeg
    · have := b2.2.2.2.2.1 w; omega
    · have := b2.2.2.2.1 (by omega); omega
  have htr : G.1 20 p.toNatClampNeg ≤ 5 := (b3.2.2.2.2.2.2.2.2.2.2.2.2.2.2.2.1 (by omega)).1
  have hIL : ¬ (G.1 3 p.toNatClampNeg ≠ G.1 5 p.toNatClampNeg ∧ G.1 20 p.toNatClampNeg + 1 = 6) → gv_I K (gp_late1 G p.toNatClampNeg) := by
    intro hn
    obtain ⟨a1, a2, a3, a4, a5, a6, a7, a8⟩ := hI
    obtain ⟨b1, b2, b3, b4, b5, b6⟩ := a5 _ he
    have htr : 0 ≤ gp_tr G p.toNatClampNeg ∧ gp_tr G p.toNatClampNeg ≤ 5 := by unfold gp_tr; unfold gv_c at b3; split <;> omega
    refine ⟨a1, a2, a3, a4, gv_up (e := p.toNatClampNeg) (n := gm_N G) a5 (fun e' q f => ?_) (fun e' q => rfl) ?_, a6, a7, a8⟩
    · simp only [gp_late1, gs_e q]
    · unfold gv_E
      simp +decide only [gp_late1, gs_s, gs_f]
      generalize gp_tr G p.toNatClampNeg = tr at *
      refine ⟨b1, b2, ?_, ?_, ?_, b6⟩
      · unfold gv_c at *; omega
      · unfold gv_c gv_d at *; omega
      · unfold gv_t at *; omega
  have s0 : ∀ f, f = 0 ∨ f = 3 ∨ f = 5 ∨ f = 2 ∨ f = 6 ∨ f = 12 → (gp_late1 G p.toNatClampNeg).1 f p.toNatClampNeg = G.1 f p.toNatClampNeg := by
    intro f hf
    rcases hf with rfl | rfl | rfl | rfl | rfl | rfl <;> simp +decide only [gp_late1, gs_f]
  have k90 : ∀ (TX : Nat → Int32) (x2 z0 : Int32), ¬ (G.1 3 p.toNatClampNeg ≠ G.1 5 p.toNatClampNeg ∧ G.1 20 p.toNatClampNeg + 1 = 6) → (∀ e', e' < 2 → TX e' = zi_n ((gp_late1 G p.toNatClampNeg).1 20 e')) → (x2 = 0 ↔ G.1 3 p.toNatClampNeg = G.1 5 p.toNatClampNeg) → z0 = zi_n (min 64 (2 * G.1 19 p.toNatClampNeg)) → wX_retry_90 P p x2 z0 p f_now f_sent a_stateOf a_error a_iss a_una a_nxt a_max a_writtenTo a_kept a_keptBytes a_rcv a_unread a_unreadFrom a_cameBytes a_held a_heldFin a_wnd a_wndSeq a_wndAck a_peak a_half a_same a_rto (TX) a_retryAt a_ackAt a_waitTill a_timedAt a_timedSeq a_smoothed a_variance a_rowCount a_slotSeq a_slotFlags a_slotAck a_slotWindow a_slotSize a_slotBytes := by
    intro TX x2 z0 hn hTX hx2 hz0
    have hI1 := hIL hn
    have hv1 : vx_S q (gp_late1 G p.toNatClampNeg) (f_now, f_sent, a_stateOf, a_error, a_iss, a_una, a_nxt, a_max, a_writtenTo, a_kept, a_keptBytes, a_rcv, a_unread, a_unreadFrom, a_cameBytes, a_held, a_heldFin, a_wnd, a_wndSeq, a_wndAck, a_peak, a_half, a_same, upd a_rto p.toNatClampNeg z0, TX, upd a_retryAt p.toNatClampNeg (f_now + z0), a_ackAt, a_waitTill, upd a_timedAt p.toNatClampNeg (-1), a_timedSeq, a_smoothed, a_variance, a_rowCount, a_slotSeq, a_slotFlags, a_slotAck, a_slotWindow, a_slotSize, a_slotBytes) := by
      have o : ∀ e' f, e' ≠ p.toNatClampNeg → (gp_late1 G p.toNatClampNeg).1 f e' = G.1 f e' := fun e' f y => by simp only [gp_late1, gs_e y]
      generalize p.toNatClampNeg = e at *
      refine (vx_mk h_now h_sent h_stateOf h_error h_iss h_una h_nxt h_max h_writtenTo h_kept h_keptBytes h_rcv h_unread h_unreadFrom h_cameBytes h_held h_heldFin h_wnd h_wndSeq h_wndAck h_peak h_half h_same (vu_e h_rto ?a1 (fun e' y => o _ _ y)) (hTX) (vu_e h_retryAt ?a2 (fun e' y => o _ _ y)) h_ackAt h_waitTill (vu_e h_timedAt ?a3 (fun e' y => by simp only [o _ _ y])) (fun e' he' z => ?a4) h_smoothed h_variance h_rowCount h_slotSeq h_slotFlags h_slotAck h_slotWindow h_slotSize h_slotBytes)
      case a1 => simp +decide only [gp_late1, gs_s, gs_f]; exact hz0
      case a2 => simp +decide only [gp_late1, gs_s, gs_f]; rw [h_now, hz0, zi_add]
      case a3 => simp +decide only [gp_late1, gs_s, gs_f] <;> rfl
      case a4 =>
        by_cases y : e' = e
        · subst y; simp +decide only [gp_late1, gs_s, gs_f] at z <;> omega
        · simp only [o _ _ y] at z ⊢; exact h_timedSeq e' he' z
    unfold wX_retry_90
    refine ⟨hp, nm_e ⟨hp, hp, nm_r (e' := upd a_retryAt p.toNatClampNeg (f_now + z0)) (by rw [zu_s]) ⟨hp, nm_e ?_⟩⟩⟩
    by_cases w : G.1 3 p.toNatClampNeg = G.1 5 p.toNatClampNeg
    · have hl : gp_late G p.toNatClampNeg = gp_send (gp_late1 G p.toNatClampNeg) p.toNatClampNeg (G.1 3 p.toNatClampNeg - 1) 0 0 := by unfold gp_late; rw [if_neg hn, if_pos w]
      rw [hl] at hP
      refine br_t (hx2.mpr w) ⟨hp, xl_behind (h_una _ he) zk_m1 ?_⟩
      refine xl_send hv1 hp ?_ zk_0 zk_0 (sk_of hI1 he (by rw [s0 0 (by omega)]; omega) (Or.inl rfl) (by omega) (by omega) (by rw [s0 3 (by omega)]; omega) (by rw [s0 5 (by omega)]; omega) (by omega)) hP
      rw [s0 2 (by omega)]; congr 1; omega
    · refine br_f (fun z => w (hx2.mp z)) ⟨hp, ?_⟩
      have k161 : G.1 0 p.toNatClampNeg < 4 → wX_retry_161 P p f_now f_sent a_stateOf a_error a_iss a_una a_nxt a_max a_writtenTo a_kept a_keptBytes a_rcv a_unread a_unreadFrom a_cameBytes a_held a_heldFin a_wnd a_wndSeq a_wndAck a_peak a_half a_same (upd a_rto p.toNatClampNeg z0) (TX) (upd a_retryAt p.toNatClampNeg (f_now + z0)) a_ackAt a_waitTill (upd a_timedAt p.toNatClampNeg (-1)) a_timedSeq a_smoothed a_variance a_rowCount a_slotSeq a_slotFlags a_slotAck a_slotWindow a_slotSize a_slotBytes := by
        intro h4
        have hl : gp_late G p.toNatClampNeg = gp_send (gp_late1 G p.toNatClampNeg) p.toNatClampNeg 0 1 0 := by unfold gp_late; rw [if_neg hn, if_neg w, if_pos h4]
        rw [hl] at hP
        have := hpos.2.2.2 h4
        unfold wX_retry_161
        refine ⟨hp, xl_send hv1 hp ?_ zk_1 zk_0 (sk_of hI1 he (by rw [s0 0 (by omega)]; omega) (Or.inr (Or.inl rfl)) (by omega) (by omega) (by rw [s0 3 (by omega)]; omega) (by rw [s0 5 (by omega)]; omega) (by omega)) hP⟩
        rw [s0 2 (by omega), h_iss _ he]; congr 1; omega
      by_cases w2 : G.1 0 p.toNatClampNeg = 2
      · exact br_t (by rw [h_stateOf _ he, w2]; rfl) (k161 (by omega))
      · refine br_f (by rw [h_stateOf _ he, zk_2, zi_eq (by omega) (by omega) (by omega) (by omega)]; exact w2) ⟨hp, ?_⟩
        by_cases w3 : G.1 0 p.toNatClampNeg = 3
        · exact br_t (by rw [h_stateOf _ he, w3]; rfl) (k161 (by omega))
        · have hl : gp_late G p.toNatClampNeg = if G.1 12 p.toNatClampNeg = 0 then gp_piece (gp_late2 (gp_late1 G p.toNatClampNeg) p.toNatClampNeg) p.toNatClampNeg else gp_flow (gp_late2 (gp_late1 G p.toNatClampNeg) p.toNatClampNeg) p.toNatClampNeg := by unfold gp_late; rw [if_neg hn, if_neg w, if_neg (by omega)]
          rw [hl, ← s0 12 (by omega)] at hP
          refine br_f (by rw [h_stateOf _ he, zk_3, zi_eq (by omega) (by omega) (by omega) (by omega)]; exact w3) ?_
          exact xl_sendAgain hv1 hI1 (iv_late2 hI1 he (by rw [s0 0 (by omega)]; omega)) hp (by rw [s0 0 (by omega)]; omega) (by rw [s0 3 (by omega), s0 5 (by omega)]; omega) hP
  have k59 : ∀ (TX : Nat → Int32) (x2 : Int32), ¬ (G.1 3 p.toNatClampNeg ≠ G.1 5 p.toNatClampNeg ∧ G.1 20 p.toNatClampNeg + 1 = 6) → (∀ e', e' < 2 → TX e' = zi_n ((gp_late1 G p.toNatClampNeg).1 20 e')) → (x2 = 0 ↔ G.1 3 p.toNatClampNeg = G.1 5 p.toNatClampNeg) → wX_retry_59 P p x2 f_now f_sent a_stateOf a_error a_iss a_una a_nxt a_max a_writtenTo a_kept a_keptBytes a_rcv a_unread a_unreadFrom a_cameBytes a_held a_heldFin a_wnd a_wndSeq a_wndAck a_peak a_half a_same a_rto (TX) a_retryAt a_ackAt a_waitTill a_timedAt a_timedSeq a_smoothed a_variance a_rowCount a_slotSeq a_slotFlags a_slotAck a_slotWindow a_slotSize a_slotBytes := by
    intro TX x2 hn hTX hx2
    have e1 : 2 * a_rto p.toNatClampNeg = zi_n (2 * G.1 19 p.toNatClampNeg) := by rw [h_rto _ he, zk_2, zi_mul]
    unfold wX_retry_59
    refine ⟨hp, ?_⟩
    by_cases w : 64 ≤ 2 * G.1 19 p.toNatClampNeg
    · exact br_t (by rw [e1, zk_64, zi_le (by omega) (by omega) (by omega) (by omega)]; exact w) (k90 TX x2 64 hn hTX hx2 (by rw [zk_64]; congr 1; omega))
    · exact br_f (by rw [e1, zk_64, zi_le (by omega) (by omega) (by omega) (by omega)]; exact w) ⟨hp, k90 TX x2 _ hn hTX hx2 (by rw [e1]; congr 1; omega)⟩
  have vTR : (gp_late1 G p.toNatClampNeg).1 20 p.toNatClampNeg = gp_tr G p.toNatClampNeg := by simp +decide only [gp_late1, gs_s, gs_f]
  have oTR : ∀ e', e' ≠ p.toNatClampNeg → (gp_late1 G p.toNatClampNeg).1 20 e' = G.1 20 e' := fun e' y => by simp only [gp_late1, gs_e y]
  unfold wpX_retry
  refine ⟨hp, hp, ?_⟩
  by_cases w : G.1 3 p.toNatClampNeg = G.1 5 p.toNatClampNeg
  · refine br_t (by rw [h_una _ he, h_max _ he, w]) ?_
    unfold wX_retry_20
    refine br_t rfl (k59 a_tries 0 (fun z => z.1 w) (fun e' he' => ?_) ⟨fun _ => w, fun _ => rfl⟩)
    by_cases y : e' = p.toNatClampNeg
    · rw [y, vTR]; unfold gp_tr; rw [if_pos w]; exact h_tries _ he
    · rw [oTR e' y]; exact h_tries e' he'
  · refine br_f (by rw [h_una _ he, h_max _ he, zi_eq (by omega) (by omega) (by omega) (by omega)]; omega) ?_
    unfold wX_retry_20
    refine br_f (by decide) ⟨hp, hp, nm_r (e' := upd a_tries p.toNatClampNeg (zi_n (G.1 20 p.toNatClampNeg + 1))) (by rw [h_tries _ he, zk_1, zi_add]) ⟨hp, ?_⟩⟩
    by_cases w2 : G.1 20 p.toNatClampNeg + 1 = 6
    · have hl : gp_late G p.toNatClampNeg = gp_over (gp_put G 20 p.toNatClampNeg 6) p.toNatClampNeg 2 := if_pos ⟨w, w2⟩
      rw [hl] at hP
      refine br_t (by rw [zu_s, w2]; rfl) ⟨hp, nm_e ?_⟩
      have hv1 : vx_S q (gp_put (gp_put G 20 p.toNatClampNeg 6) 1 p.toNatClampNeg 2) (f_now, f_sent, a_stateOf, upd a_error p.toNatClampNeg 2, a_iss, a_una, a_nxt, a_max, a_writtenTo, a_kept, a_keptBytes, a_rcv, a_unread, a_unreadFrom, a_cameBytes, a_held, a_heldFin, a_wnd, a_wndSeq, a_wndAck, a_peak, a_half, a_same, a_rto, upd a_tries p.toNatClampNeg (zi_n (G.1 20 p.toNatClampNeg + 1)), a_retryAt, a_ackAt, a_waitTill, a_timedAt, a_timedSeq, a_smoothed, a_variance, a_rowCount, a_slotSeq, a_slotFlags, a_slotAck, a_slotWindow, a_slotSize, a_slotBytes) := by
        refine (vx_mk h_now h_sent h_stateOf (vu_e h_error ?a3 (fun e' y => ?a4)) h_iss h_una h_nxt h_max h_writtenTo h_kept h_keptBytes h_rcv h_unread h_unreadFrom h_cameBytes h_held h_heldFin h_wnd h_wndSeq h_wndAck h_peak h_half h_same h_rto (vu_e h_tries ?a1 (fun e' y => ?a2)) h_retryAt h_ackAt h_waitTill h_timedAt h_timedSeq h_smoothed h_variance h_rowCount h_slotSeq h_slotFlags h_slotAck h_slotWindow h_slotSize h_slotBytes)
        case a1 => rw [pu_f (by decide), pu_s, w2]
        case a2 => rw [pu_o y, pu_o y]
        case a3 => rw [pu_s]; rfl
        case a4 => rw [pu_o y, pu_o y]
      refine xl_endAll hv1 hp fun u' hv' => hP u' (vx_ext (G := gp_over (gp_put (gp_put G 20 p.toNatClampNeg 6) 1 p.toNatClampNeg 2) p.toNatClampNeg ((gp_put (gp_put G 20 p.toNatClampNeg 6) 1 p.toNatClampNeg 2).1 1 p.toNatClampNeg)) (G' := gp_over (gp_put G 20 p.toNatClampNeg 6) p.toNatClampNeg 2) ?_ rfl hv')
      intro e' he' f
      rw [pu_s]
      by_cases y : e' = p.toNatClampNeg
      · subst y
        simp only [gp_over, gp_put, gs_c]
        by_cases z : f = 1
        · subst z; simp +decide only [true_and, and_true, ↓reduceIte]
        · simp only [z, false_and, ↓reduceIte]
      · rw [ov_o y, ov_o y, pu_o y, pu_o y, pu_o y]
    · refine br_f (by rw [zu_s, zk_6, zi_eq (by omega) (by omega) (by omega) (by omega)]; exact w2) (k59 _ 1 (fun z => w2 z.2) (fun e' he' => ?_) ⟨fun z => absurd z (by decide), fun z => absurd z w⟩)
      by_cases y : e' = p.toNatClampNeg
      · rw [y, vTR, zu_s]; unfold gp_tr; rw [if_neg w]
      · rw [oTR e' y, zu_n y]; exact h_tries e' he'
end
