section
/-! whole numbers as ints and longs: zi_n z, zl_n z; sums and differences without bounds, comparisons with -/
def zi_n (z : Int) : Int32 := Int32.ofInt z
def zl_n (z : Int) : Int64 := Int64.ofInt z
theorem zi_add (a b : Int) : zi_n a + zi_n b = zi_n (a + b) := (Int32.ofInt_add a b).symm
theorem zi_sub (a b : Int) : zi_n a - zi_n b = zi_n (a - b) := (Int32.ofInt_sub a b).symm
theorem zi_mul (a b : Int) : zi_n a * zi_n b = zi_n (a * b) := (Int32.ofInt_mul a b).symm
theorem zi_neg (a : Int) : - zi_n a = zi_n (-a) := (Int32.ofInt_neg a).symm
theorem zl_add (a b : Int) : zl_n a + zl_n b = zl_n (a + b) := (Int64.ofInt_add a b).symm
theorem zl_sub (a b : Int) : zl_n a - zl_n b = zl_n (a - b) := (Int64.ofInt_sub a b).symm
theorem zi_T {a : Int} (h : -2147483648 ≤ a) (h' : a < 2147483648) : (zi_n a).toInt = a := Int32.toInt_ofInt_of_le (by omega) (by omega)
theorem zl_T {a : Int} (h : -9223372036854775808 ≤ a) (h' : a < 9223372036854775808) : (zl_n a).toInt = a := Int64.toInt_ofInt_of_le (by omega) (by omega)
theorem zi_of (x : Int32) : ∃ z : Int, -2147483648 ≤ z ∧ z < 2147483648 ∧ x = zi_n z := ⟨x.toInt, by have := x.le_toInt; omega, by have := x.toInt_lt; omega, (Int32.ofInt_toInt x).symm⟩
theorem zi_lt {a b : Int} (h1 : -2147483648 ≤ a) (h2 : a < 2147483648) (h3 : -2147483648 ≤ b) (h4 : b < 2147483648) : zi_n a < zi_n b ↔ a < b := by
  rw [Int32.lt_iff_toInt_lt, zi_T h1 h2, zi_T h3 h4]
theorem zi_le {a b : Int} (h1 : -2147483648 ≤ a) (h2 : a < 2147483648) (h3 : -2147483648 ≤ b) (h4 : b < 2147483648) : zi_n a ≤ zi_n b ↔ a ≤ b := by
  rw [Int32.le_iff_toInt_le, zi_T h1 h2, zi_T h3 h4]
theorem zi_eq {a b : Int} (h1 : -2147483648 ≤ a) (h2 : a < 2147483648) (h3 : -2147483648 ≤ b) (h4 : b < 2147483648) : zi_n a = zi_n b ↔ a = b := by
  rw [← Int32.toInt_inj, zi_T h1 h2, zi_T h3 h4]
theorem zl_lt {a b : Int} (h1 : -9223372036854775808 ≤ a) (h2 : a < 9223372036854775808) (h3 : -9223372036854775808 ≤ b) (h4 : b < 9223372036854775808) : zl_n a < zl_n b ↔ a < b := by
  rw [Int64.lt_iff_toInt_lt, zl_T h1 h2, zl_T h3 h4]
theorem zl_le {a b : Int} (h1 : -9223372036854775808 ≤ a) (h2 : a < 9223372036854775808) (h3 : -9223372036854775808 ≤ b) (h4 : b < 9223372036854775808) : zl_n a ≤ zl_n b ↔ a ≤ b := by
  rw [Int64.le_iff_toInt_le, zl_T h1 h2, zl_T h3 h4]
theorem zl_eq {a b : Int} (h1 : -9223372036854775808 ≤ a) (h2 : a < 9223372036854775808) (h3 : -9223372036854775808 ≤ b) (h4 : b < 9223372036854775808) : zl_n a = zl_n b ↔ a = b := by
  rw [← Int64.toInt_inj, zl_T h1 h2, zl_T h3 h4]
theorem zi_cl {a : Int} (h : -2147483648 ≤ a) (h' : a < 2147483648) : (zi_n a).toNatClampNeg = a.toNat := Int32.toNatClampNeg_ofInt_of_le (by omega) (by omega)
theorem zi_in {a : Int} {n : Nat} (h : 0 ≤ a) (h' : a < n) (hn : n < 2147483648) : vp_in (zi_n a) n := by
  rw [vp_in_iff, zi_T (by omega) (by omega)]
  exact ⟨h, h'⟩
theorem zi_nI (n : Nat) : nI n = zi_n (n : Int) := (Int32.ofInt_eq_ofNat (n := n)).symm
theorem zl_i (a : Int) : (zl_n a).toInt32 = zi_n a := Int64.toInt32_ofInt
theorem zi_l {a : Int} (h : -2147483648 ≤ a) (h' : a < 2147483648) : (zi_n a).toInt64 = zl_n a := Int64.toInt_inj.mp (by rw [Int32.toInt_toInt64, zi_T h h', zl_T (by omega) (by omega)])
theorem zi_md (a : Int) : zi_n (a % 4294967296) = zi_n a := by
  apply Int32.toInt_inj.mp
  show (Int32.ofInt _).toInt = (Int32.ofInt _).toInt
  rw [Int32.toInt_ofInt, Int32.toInt_ofInt]
  simp only [Int.bmod_def, Int32.size]
  omega
theorem zi_and (a : Int) {m : Int32} (k : Nat) (q : Int) (hm : m.toBitVec.toNat = 2 ^ k - 1) (hq : q = (2 ^ k : Nat)) (hk : k ≤ 31) : zi_n a &&& m = zi_n (a % q) := by
  apply Int32.toBitVec_inj.mp
  apply BitVec.eq_of_toNat_eq
  rw [Int32.toBitVec_and, BitVec.toNat_and, hm, Nat.and_two_pow_sub_one_eq_mod]
  show (BitVec.ofInt 32 a).toNat % 2 ^ k = (BitVec.ofInt 32 (a % q)).toNat
  rw [BitVec.toNat_ofInt, BitVec.toNat_ofInt]
  have hd : (2 ^ k : Nat) ∣ 2 ^ 32 := Nat.pow_dvd_pow 2 (by omega)
  have hlt : (2 ^ k : Nat) ≤ 2 ^ 31 := Nat.pow_le_pow_right (by decide) hk
  have hp : 0 < (2 ^ k : Nat) := Nat.two_pow_pos k
  subst hq
  have e1 : a % ((2 ^ k : Nat) : Int) % ((2 ^ 32 : Nat) : Int) = a % ((2 ^ k : Nat) : Int) := Int.emod_eq_of_lt (Int.emod_nonneg _ (by omega)) (by have := Int.emod_lt_of_pos a (b := ((2 ^ k : Nat) : Int)) (by omega); omega)
  rw [e1]
  apply Int.ofNat.inj
  show (((a % ((2 ^ 32 : Nat) : Int)).toNat % 2 ^ k : Nat) : Int) = ((a % ((2 ^ k : Nat) : Int)).toNat : Int)
  rw [Int.natCast_emod, Int.toNat_of_nonneg (Int.emod_nonneg _ (by decide)), Int.toNat_of_nonneg (Int.emod_nonneg _ (by omega))]
  exact Int.emod_emod_of_dvd a (Int.natCast_dvd_natCast.mpr hd)
theorem zi_a16 (a : Int) : zi_n a &&& 65535 = zi_n (a % 65536) := zi_and a 16 65536 (by decide) (by decide) (by decide)
theorem zi_a5 (a : Int) : zi_n a &&& 31 = zi_n (a % 32) := zi_and a 5 32 (by decide) (by decide) (by decide)
theorem zi_a8 (a : Int) : zi_n a &&& 255 = zi_n (a % 256) := zi_and a 8 256 (by decide) (by decide) (by decide)
theorem zl_a6 (a : Int) : zl_n a &&& 63 = zl_n (a % 64) := by
  apply Int64.toBitVec_inj.mp
  apply BitVec.eq_of_toNat_eq
  rw [Int64.toBitVec_and, BitVec.toNat_and, show (63 : Int64).toBitVec.toNat = 2 ^ 6 - 1 from by decide, Nat.and_two_pow_sub_one_eq_mod]
  show (BitVec.ofInt 64 a).toNat % 2 ^ 6 = (BitVec.ofInt 64 (a % 64)).toNat
  rw [BitVec.toNat_ofInt, BitVec.toNat_ofInt]
  omega
/-- a number as a short, as a byte -/
def zi_s (z : Int) : Int := (z + 32768) % 65536 - 32768
def zi_b (z : Int) : Int := (z + 128) % 256 - 128
theorem zi_s_e (z : Int) : zi_s z = (z + 32768) % 65536 - 32768 := rfl
theorem zi_b_e (z : Int) : zi_b z = (z + 128) % 256 - 128 := rfl
theorem zi_short (a : Int) : (zi_n a).toInt16.toInt32 = zi_n (zi_s a) := by
  apply Int32.toInt_inj.mp
  rw [zi_s_e, zi_T (by omega) (by omega), Int16.toInt_toInt32]
  show (Int32.ofInt a).toInt16.toInt = _
  rw [Int32.toInt16_ofInt, Int16.toInt_ofInt]
  simp only [Int.bmod_def, Int16.size]
  omega
theorem zi_byte (a : Int) : (zi_n a).toInt8.toInt32 = zi_n (zi_b a) := by
  apply Int32.toInt_inj.mp
  rw [zi_b_e, zi_T (by omega) (by omega), Int8.toInt_toInt32]
  show (Int32.ofInt a).toInt8.toInt = _
  rw [Int32.toInt8_ofInt, Int8.toInt_ofInt]
  simp only [Int.bmod_def, Int8.size]
  omega
theorem zi_div {a b : Int} (h : 0 ≤ a) (h' : a < 2147483648) (hb : 0 < b) (hb' : b < 2147483648) : zi_n a / zi_n b = zi_n (a / b) := by
  apply Int32.toInt_inj.mp
  have h1 : a / b ≤ a := Int.ediv_le_self b h
  have h2 : 0 ≤ a / b := Int.ediv_nonneg h (by omega)
  rw [lg_idiv_nonneg (by rw [zi_T (by omega) h']; omega) (by rw [zi_T (by omega) hb']; omega), zi_T (by omega) h', zi_T (by omega) hb', zi_T (by omega) (by omega)]
/-- the offset of two numbers that lie near each other -/
theorem zi_off {i a b : Int} (h : -32768 ≤ a - b) (h' : a - b < 32768) : zi_s ((i + a) % 65536 - (i + b) % 65536) = a - b := by
  rw [zi_s_e]; omega
/-- stores -/
theorem zu_s {f : Nat → Int32} {k : Nat} {x : Int32} : upd f k x k = x := if_pos rfl
theorem zu_n {f : Nat → Int32} {k j : Nat} {x : Int32} (h : j ≠ k) : upd f k x j = f j := if_neg h
theorem zv_s {f : Nat → Int64} {k : Nat} {x : Int64} : vp_updL f k x k = x := if_pos rfl
theorem zv_n {f : Nat → Int64} {k j : Nat} {x : Int64} (h : j ≠ k) : vp_updL f k x j = f j := if_neg h
end
section
/-! the pure picture of the two ends: G = (c, w, b, h, l, d, n, s): c slot end: the whole numbers of an end (positions, not numbers that wrap); w: bytes written by position; b: bytes that came by position; h: what is held, by position; l field slot, d: the link; n: now; s: how much was sent -/
abbrev gm_T : Type := (Nat → Nat → Int) × (Nat → Int → Int) × (Nat → Int → Int) × (Nat → Int → Bool) × (Nat → Nat → Int) × (Nat → Int) × Int × Int
abbrev gm_W (G : gm_T) : Nat → Int → Int := G.2.1
abbrev gm_B (G : gm_T) : Nat → Int → Int := G.2.2.1
abbrev gm_H (G : gm_T) : Nat → Int → Bool := G.2.2.2.1
abbrev gm_L (G : gm_T) : Nat → Nat → Int := G.2.2.2.2.1
abbrev gm_D (G : gm_T) : Nat → Int := G.2.2.2.2.2.1
abbrev gm_N (G : gm_T) : Int := G.2.2.2.2.2.2.1
abbrev gm_S (G : gm_T) : Int := G.2.2.2.2.2.2.2
def gs_c (c : Nat → Nat → Int) (f e : Nat) (z : Int) : Nat → Nat → Int := fun f' e' => if f' = f ∧ e' = e then z else c f' e'
def gm_l (l : Nat → Nat → Int) (k : Nat) (a0 a1 a2 a3 a4 : Int) : Nat → Nat → Int := fun f i => if i = k then (if f = 0 then a0 else if f = 1 then a1 else if f = 2 then a2 else if f = 3 then a3 else if f = 4 then a4 else l f i) else l f i
def gm_d (d : Nat → Int) (k : Nat) (n : Int) (g : Int → Int) : Nat → Int := fun j => if 8 * (k : Int) ≤ j ∧ (j : Int) < 8 * (k : Int) + n then g ((j : Int) - 8 * (k : Int)) else d j
def gm_h (h : Nat → Int → Bool) (e : Nat) (q : Int → Bool) : Nat → Int → Bool := fun e' p => if e' = e then q p else h e' p
def gm_b (b : Nat → Int → Int) (e : Nat) (q : Int → Int) : Nat → Int → Int := fun e' p => if e' = e then q p else b e' p
/-- a segment into the row of end e, lost when the row is full -/
def gp_post (G : gm_T) (e : Nat) (num flag ack win n : Int) (g : Int → Int) : gm_T :=
  (gs_c G.1 30 e (if G.1 30 e < 16 then G.1 30 e + 1 else G.1 30 e), gm_W G, gm_B G, gm_H G,
    (if G.1 30 e < 16 then gm_l (gm_L G) (16 * e + (G.1 30 e).toNat) num flag ack win n else gm_L G),
    (if G.1 30 e < 16 then gm_d (gm_D G) (16 * e + (G.1 30 e).toNat) n g else gm_D G), gm_N G, gm_S G + 1)
def gp_len (flag n : Int) : Int := n + flag % 2 + flag / 4 % 2
def gt_1 (G : gm_T) (e : Nat) : gm_T := (gs_c G.1 22 e (-1), G.2)
def gt_2 (G : gm_T) (e : Nat) (fr len : Int) : gm_T := (gs_c (gs_c G.1 25 e (if len ≠ 0 ∧ fr = G.1 5 e ∧ G.1 24 e < 0 then gm_N G else G.1 25 e)) 24 e (if len ≠ 0 ∧ fr = G.1 5 e ∧ G.1 24 e < 0 then fr else G.1 24 e), G.2)
def gt_3 (G : gm_T) (e : Nat) (fr len : Int) : gm_T := (gs_c G.1 5 e (if len ≠ 0 ∧ G.1 5 e < fr + len then fr + len else G.1 5 e), G.2)
def gt_4 (G : gm_T) (e : Nat) (len : Int) : gm_T := (gs_c G.1 21 e (if len ≠ 0 ∧ G.1 21 e < 0 then gm_N G + G.1 19 e else G.1 21 e), G.2)
def gp_sp (G : gm_T) (e : Nat) (fr flag n : Int) : gm_T := gp_post G e ((G.1 2 e + fr) % 65536) (if G.1 0 e = 2 then flag else flag + 2) (if G.1 0 e = 2 then 0 else (G.1 7 e + G.1 8 e) % 65536) (24 - G.1 9 e) n (fun i => gm_W G e (fr + i))
def gp_send (G : gm_T) (e : Nat) (fr flag n : Int) : gm_T := gt_4 (gt_3 (gt_2 (gt_1 (gp_sp G e fr flag n) e) e fr (gp_len flag n)) e fr (gp_len flag n)) e (gp_len flag n)
def gp_ack (G : gm_T) (e : Nat) : gm_T := gp_send G e (G.1 5 e) 0 0
def gp_nn (G : gm_T) (e : Nat) : Int := min (min (G.1 6 e - G.1 4 e) (min (G.1 12 e) (G.1 16 e) - (G.1 4 e - G.1 3 e))) 8
def gp_step (G : gm_T) (e : Nat) : gm_T := (gs_c (gp_send G e (G.1 4 e) 0 (gp_nn G e)).1 4 e (G.1 4 e + gp_nn G e), (gp_send G e (G.1 4 e) 0 (gp_nn G e)).2)
def gp_loop : Nat → gm_T → Nat → gm_T
  | 0, G, _ => G
  | k + 1, G, e => if gp_nn G e = 8 ∨ (0 < gp_nn G e ∧ G.1 4 e = G.1 3 e) then gp_loop k (gp_step G e) e else G
def gp_fin (G : gm_T) (e : Nat) : gm_T :=
  if G.1 29 e = 1 ∧ G.1 4 e = G.1 6 e ∧ 0 < min (G.1 12 e) (G.1 16 e) - (G.1 4 e - G.1 3 e) then (gs_c (gp_send G e (G.1 4 e) 4 0).1 4 e (G.1 4 e + 1), (gp_send G e (G.1 4 e) 4 0).2) else G
def gp_rest (G : gm_T) (e : Nat) : gm_T :=
  (gs_c G.1 21 e (if G.1 12 e = 0 ∧ G.1 4 e = G.1 3 e ∧ (G.1 4 e < G.1 6 e ∨ (G.1 29 e = 1 ∧ G.1 4 e = G.1 6 e)) ∧ G.1 21 e < 0 then gm_N G + G.1 19 e else G.1 21 e), G.2)
def gp_flow (G : gm_T) (e : Nat) : gm_T := if G.1 0 e = 4 ∨ G.1 0 e = 5 ∨ G.1 0 e = 7 ∨ G.1 0 e = 8 ∨ G.1 0 e = 9 then gp_rest (gp_fin (gp_loop 33 G e) e) e else G
def gp_pn (G : gm_T) (e : Nat) : Int := min (min (G.1 5 e) (G.1 6 e) - G.1 3 e) 8
def gp_piece (G : gm_T) (e : Nat) : gm_T := if 0 < gp_pn G e then gp_send G e (G.1 3 e) 0 (gp_pn G e) else gp_send G e (G.1 3 e) 4 0
/-- measured -/
def gp_so (G : gm_T) (e : Nat) : Int := if G.1 26 e = 1 then G.1 27 e + ((gm_N G - G.1 25 e) - G.1 27 e / 8) else 8 * (gm_N G - G.1 25 e)
def gp_va (G : gm_T) (e : Nat) : Int := if G.1 26 e = 1 then G.1 28 e + ((if (gm_N G - G.1 25 e) - G.1 27 e / 8 < 0 then - ((gm_N G - G.1 25 e) - G.1 27 e / 8) else (gm_N G - G.1 25 e) - G.1 27 e / 8) - G.1 28 e / 4) else 2 * (gm_N G - G.1 25 e)
def gp_rt (G : gm_T) (e : Nat) : Int := if gp_so G e / 8 + gp_va G e < 2 then 2 else if 64 < gp_so G e / 8 + gp_va G e then 64 else gp_so G e / 8 + gp_va G e
def gp_meas (G : gm_T) (e : Nat) : gm_T :=
  (gs_c (gs_c (gs_c (gs_c (gs_c G.1 27 e (gp_so G e)) 28 e (gp_va G e)) 26 e 1) 19 e (gp_rt G e)) 24 e (-1), G.2)
/-- all ends; an end begins -/
def gp_none (h : Nat → Int → Bool) (e : Nat) : Nat → Int → Bool := gm_h h e (fun _ => false)
def gp_over (G : gm_T) (e : Nat) (code : Int) : gm_T :=
  (gs_c (gs_c (gs_c (gs_c (gs_c (gs_c (gs_c (gs_c (gs_c (gs_c (gs_c (gs_c (gs_c G.1 0 e 0) 1 e code) 31 e 0) 11 e (-1)) 21 e (-1)) 22 e (-1)) 23 e (-1)) 24 e (-1)) 29 e 0) 32 e 1) 33 e 1) 34 e 0) 35 e 0, gm_W G, gm_B G, gp_none (gm_H G) e, gm_L G, gm_D G, gm_N G, gm_S G)
def gp_begin (G : gm_T) (e : Nat) (iss : Int) : gm_T :=
  (fun f e' => if e' = e then (if f = 0 then 0 else if f = 1 then 0 else if f = 2 then iss else if f = 3 then 0 else if f = 4 then 0 else if f = 5 then 0 else if f = 6 then 1 else if f = 7 then 0 else if f = 8 then 0 else if f = 9 then 0 else if f = 10 then 0 else if f = 11 then -1 else if f = 12 then 0 else if f = 13 then 0 else if f = 16 then 16 else if f = 17 then 64 else if f = 18 then 0 else if f = 19 then 8 else if f = 20 then 0 else if f = 21 then -1 else if f = 22 then -1 else if f = 23 then -1 else if f = 24 then -1 else if f = 26 then 0 else if f = 27 then 0 else if f = 28 then 0 else if f = 29 then 0 else if f = 31 then 0 else if f = 32 then 0 else if f = 33 then 1 else if f = 34 then 0 else if f = 35 then 0 else G.1 f e') else G.1 f e', gm_W G, gm_B G, gp_none (gm_H G) e, gm_L G, gm_D G, gm_N G, gm_S G)
def gp_reset (G : gm_T) (e : Nat) : gm_T := gp_over G e (if G.1 0 e > 7 then 0 else 1)
/-- the segment in slot k -/
def gp_slen (G : gm_T) (k : Nat) : Int := gp_len (gm_L G 1 k) (gm_L G 4 k)
def gp_rst (G : gm_T) (e : Nat) (num flag ack : Int) : gm_T := gp_post G e num flag ack 0 0 (fun _ => 0)
def gp_toClosed (G : gm_T) (e k : Nat) : gm_T :=
  if gm_L G 1 k / 8 % 2 = 1 then G else if gm_L G 1 k / 2 % 2 = 1 then gp_rst G e (gm_L G 2 k) 8 0 else gp_rst G e 0 10 ((gm_L G 0 k + gp_slen G k) % 65536)
def gp_hear (G : gm_T) (e k : Nat) : gm_T := (gs_c (gs_c (gs_c (gs_c G.1 7 e (gm_L G 0 k)) 8 e 1) 10 e 1) 12 e (gm_L G 3 k), G.2)
def gp_put (G : gm_T) (f e : Nat) (z : Int) : gm_T := (gs_c G.1 f e z, G.2)
def gp_toListen (G : gm_T) (e k : Nat) : gm_T :=
  if gm_L G 1 k / 8 % 2 = 1 then G else if gm_L G 1 k / 2 % 2 = 1 then gp_rst G e (gm_L G 2 k) 8 0 else if gm_L G 1 k % 2 = 1 then gp_put (gp_send (gp_put (gp_hear G e k) 0 e 3) e 0 1 0) 4 e 1 else G
def gp_opened (G : gm_T) (e : Nat) : gm_T := (gs_c (gs_c (gs_c (gs_c (gs_c G.1 3 e 1) 32 e 1) 21 e (-1)) 20 e 0) 35 e 0, G.2)
def gp_tmeas (G : gm_T) (e : Nat) : gm_T := if 0 ≤ G.1 24 e then gp_meas G e else G
def gp_toOpen (G : gm_T) (e k : Nat) : gm_T :=
  if gm_L G 1 k / 2 % 2 = 1 ∧ gm_L G 2 k ≠ (G.1 2 e + 1) % 65536 then (if gm_L G 1 k / 8 % 2 = 1 then G else gp_rst G e (gm_L G 2 k) 8 0)
  else if gm_L G 1 k / 8 % 2 = 1 then (if gm_L G 1 k / 2 % 2 = 1 then gp_reset G e else G)
  else if gm_L G 1 k % 2 = 1 then (if gm_L G 1 k / 2 % 2 = 1 then gp_flow (gp_ack (gp_put (gp_tmeas (gp_opened (gp_hear G e k) e) e) 0 e 4) e) e
    else gp_flow (gp_send (gp_put (gp_hear G e k) 0 e 3) e 0 1 0) e)
  else G
abbrev gp_ok (w o len : Int) : Prop := (len = 0 ∧ 0 ≤ o ∧ o ≤ w) ∨ (len ≠ 0 ∧ ((0 ≤ o ∧ o < w) ∨ (0 ≤ o + len - 1 ∧ o + len - 1 < w)))
/-- an acknowledgement of new numbers -/
def gp_adv1 (G : gm_T) (e : Nat) (a : Int) : gm_T :=
  (gs_c (gs_c (gs_c (gs_c (gs_c (gs_c (gs_c G.1 3 e (G.1 3 e + a)) 32 e (G.1 3 e + a)) 31 e (max (G.1 6 e - (G.1 3 e + a)) 0)) 4 e (max (G.1 4 e) (G.1 3 e + a))) 12 e (max (G.1 12 e - a) 0)) 20 e 0) 35 e 0, G.2)
def gp_adv2 (G : gm_T) (e : Nat) : gm_T := if 0 ≤ G.1 24 e ∧ G.1 24 e < G.1 3 e then gp_meas G e else G
def gp_adv3 (G : gm_T) (e : Nat) : gm_T :=
  (gs_c (gs_c (gs_c (gs_c G.1 16 e (if 3 ≤ G.1 18 e then G.1 17 e else min 64 (G.1 16 e + (if G.1 16 e < G.1 17 e then 8 else 64 / G.1 16 e)))) 18 e 0) 34 e 0) 21 e (if G.1 3 e = G.1 5 e then -1 else gm_N G + G.1 19 e), G.2)
def gp_wait (G : gm_T) (e : Nat) : gm_T := (gs_c (gs_c G.1 0 e 10) 23 e (gm_N G + 20), G.2)
def gp_finack (G : gm_T) (e : Nat) : gm_T :=
  if G.1 29 e = 1 ∧ G.1 6 e < G.1 3 e then (if G.1 0 e = 5 then gp_put G 0 e 6 else if G.1 0 e = 8 then gp_wait G e else if G.1 0 e = 9 then gp_over G e (G.1 1 e) else G) else G
def gp_adv (G : gm_T) (e : Nat) (a : Int) : gm_T := gp_finack (gp_adv3 (gp_adv2 (gp_adv1 G e a) e) e) e
def gp_hv (G : gm_T) (e : Nat) : Int := max 8 ((G.1 5 e - G.1 3 e) / 2)
def gp_again1 (G : gm_T) (e : Nat) : gm_T := (gs_c (gs_c (gs_c (gs_c G.1 18 e (G.1 18 e + 1)) 34 e (G.1 18 e + 1)) 17 e (gp_hv G e)) 24 e (-1), G.2)
def gp_again (G : gm_T) (e : Nat) : gm_T :=
  if G.1 18 e + 1 = 3 then gp_put (gp_piece (gp_again1 G e) e) 16 e (gp_hv G e + 24)
  else (gs_c (gs_c (gs_c G.1 18 e (G.1 18 e + 1)) 34 e (G.1 18 e + 1)) 16 e (if 3 < G.1 18 e + 1 then min 64 (G.1 16 e + 8) else G.1 16 e), G.2)
def gp_same (G : gm_T) (e k : Nat) : gm_T := if gm_L G 3 k = G.1 12 e ∧ G.1 3 e ≠ G.1 5 e then gp_again G e else G
def gp_win (G : gm_T) (e k : Nat) : gm_T :=
  if G.1 13 e = 0 ∨ 0 < zi_s (gm_L G 0 k - G.1 14 e) ∨ (zi_s (gm_L G 0 k - G.1 14 e) = 0 ∧ 0 ≤ zi_s (gm_L G 2 k - G.1 15 e)) then (gs_c (gs_c (gs_c (gs_c G.1 13 e 1) 14 e (gm_L G 0 k)) 15 e (gm_L G 2 k)) 12 e (gm_L G 3 k), G.2) else G
/-- bytes put in order -/
def gp_any (G : gm_T) (e : Nat) : Bool := decide (0 ≤ G.1 11 e) || (List.range 24).any (fun i => gm_H G e (G.1 8 e + (i : Int)))
def gp_new (G : gm_T) (e k : Nat) (o m p : Int) : Bool := decide (0 ≤ p - G.1 8 e - o ∧ p - G.1 8 e - o < m ∧ 0 ≤ p - G.1 8 e ∧ p - G.1 8 e < 24 - G.1 9 e ∧ (G.1 11 e < 0 ∨ p < G.1 11 e))
def gp_hold1 (G : gm_T) (e k : Nat) (o m : Int) : gm_T :=
  (G.1, gm_W G, gm_b (gm_B G) e (fun p => if gm_H G e p = false ∧ gp_new G e k o m p = true then gm_D G (8 * k + (p - G.1 8 e - o).toNat) else gm_B G e p), gm_h (gm_H G) e (fun p => gm_H G e p || gp_new G e k o m p), gm_L G, gm_D G, gm_N G, gm_S G)
def gp_hold (G : gm_T) (e k : Nat) (o : Int) : gm_T :=
  gp_put (gp_hold1 G e k o (gm_L G 4 k)) 11 e (if gm_L G 1 k / 4 % 2 = 1 ∧ G.1 11 e < 0 ∧ 0 ≤ o + gm_L G 4 k ∧ o + gm_L G 4 k < 24 - G.1 9 e then G.1 8 e + o + gm_L G 4 k else G.1 11 e)
def gp_gstep (G : gm_T) (e : Nat) : gm_T :=
  (gs_c (gs_c G.1 9 e (G.1 9 e + 1)) 8 e (G.1 8 e + 1), gm_W G, gm_B G, gm_h (gm_H G) e (fun p => if p = G.1 8 e then false else gm_H G e p), gm_L G, gm_D G, gm_N G, gm_S G)
def gp_gloop : Nat → gm_T → Nat → gm_T
  | 0, G, _ => G
  | k + 1, G, e => if gm_H G e (G.1 8 e) = true ∧ G.1 8 e ≠ G.1 11 e then gp_gloop k (gp_gstep G e) e else G
def gp_gend (G : gm_T) (e : Nat) : gm_T := (gs_c (gs_c G.1 8 e (G.1 8 e + 1)) 11 e (-1), gm_W G, gm_B G, gp_none (gm_H G) e, gm_L G, gm_D G, gm_N G, gm_S G)
def gp_gst (G : gm_T) (e : Nat) : gm_T := if G.1 0 e = 4 then gp_put G 0 e 7 else if G.1 0 e = 5 then gp_put G 0 e 8 else gp_wait G e
def gp_gfin (G : gm_T) (e : Nat) : gm_T := if G.1 8 e = G.1 11 e then gp_gst (gp_gend G e) e else G
def gp_goOn (G : gm_T) (e : Nat) : gm_T := gp_gfin (gp_gloop 24 G e) e
def gp_take (G : gm_T) (e k : Nat) (o : Int) : gm_T := if 3 < G.1 0 e ∧ G.1 0 e < 7 then gp_goOn (gp_hold G e k o) e else G
def gp_content (G : gm_T) (e k : Nat) (o : Int) : gm_T :=
  if gp_slen G k = 0 then G
  else if 6 < (gp_take G e k o).1 0 e ∨ (gp_take G e k o).1 8 e = G.1 8 e ∨ gp_any G e = true ∨ gp_any (gp_take G e k o) e = true ∨ 0 ≤ (gp_take G e k o).1 22 e then gp_ack (gp_take G e k o) e else gp_put (gp_take G e k o) 22 e (gm_N G + 2)
/-- a segment arrives at an end that is neither closed, listening nor opening -/
def gp_newack (G : gm_T) (e k : Nat) (a : Int) : gm_T := if 0 < a then gp_adv G e a else if a = 0 ∧ gp_slen G k = 0 then gp_same G e k else G
def gp_go (G : gm_T) (e k : Nat) (o a : Int) : gm_T :=
  if (gp_newack G e k a).1 0 e = 0 then gp_newack G e k a
  else gp_flow (gp_content (if 0 ≤ a then gp_win (gp_newack G e k a) e k else gp_newack G e k a) e k o) e
def gp_est (G : gm_T) (e : Nat) : gm_T := if G.1 0 e = 3 then gp_put G 0 e 4 else G
def gp_acked (G : gm_T) (e k : Nat) (o a : Int) : gm_T :=
  if G.1 0 e = 3 ∧ a ≠ 1 then gp_rst G e (gm_L G 2 k) 8 0
  else
  if G.1 5 e - G.1 3 e < a then gp_ack (gp_est G e) e else gp_go (gp_est G e) e k o a
def gp_out1 (G : gm_T) (e k : Nat) : gm_T := if G.1 0 e = 10 ∧ gm_L G 1 k / 4 % 2 = 1 then gp_put G 23 e (gm_N G + 20) else G
def gp_out (G : gm_T) (e k : Nat) : gm_T := if gm_L G 1 k / 8 % 2 = 1 then gp_out1 G e k else gp_ack (gp_out1 G e k) e
def gp_o (G : gm_T) (e k : Nat) : Int := zi_s (gm_L G 0 k - (G.1 7 e + G.1 8 e) % 65536)
def gp_a (G : gm_T) (e k : Nat) : Int := zi_s (gm_L G 2 k - (G.1 2 e + G.1 3 e) % 65536)
def gp_conn (G : gm_T) (e k : Nat) : gm_T :=
  if gp_ok (24 - G.1 9 e) (gp_o G e k) (gp_slen G k) then
    (if gm_L G 1 k / 8 % 2 = 1 then (if gp_o G e k = 0 then gp_reset G e else gp_ack G e)
     else if gm_L G 1 k % 2 = 1 then gp_ack G e
     else if gm_L G 1 k / 2 % 2 = 1 then gp_acked G e k (gp_o G e k) (gp_a G e k)
     else G)
  else gp_out G e k
def gp_arrive (G : gm_T) (e k : Nat) : gm_T :=
  if G.1 0 e = 0 then gp_toClosed G e k else if G.1 0 e = 1 then gp_toListen G e k else if G.1 0 e = 2 then gp_toOpen G e k else gp_conn G e k
/-- the rows -/
def gp_rm (G : gm_T) (e k : Nat) : gm_T :=
  (gs_c G.1 30 e (G.1 30 e - 1), gm_W G, gm_B G, gm_H G,
    (fun f i => if 16 * e + k ≤ i ∧ (i : Int) < 16 * e + G.1 30 e - 1 then gm_L G f (i + 1) else gm_L G f i),
    (fun j => if 8 * (16 * e + k) ≤ j ∧ (j : Int) < 8 * (16 * e + G.1 30 e - 1) then gm_D G (j + 8) else gm_D G j), gm_N G, gm_S G)
def gp_twice (G : gm_T) (e k : Nat) : gm_T := 
  (gs_c G.1 30 e (G.1 30 e + 1), gm_W G, gm_B G, gm_H G,
    gm_l (gm_L G) (16 * e + (G.1 30 e).toNat) (gm_L G 0 (16 * e + k)) (gm_L G 1 (16 * e + k)) (gm_L G 2 (16 * e + k)) (gm_L G 3 (16 * e + k)) (gm_L G 4 (16 * e + k)),
    gm_d (gm_D G) (16 * e + (G.1 30 e).toNat) 8 (fun i => gm_D G (8 * (16 * e + k) + i.toNat)), gm_N G, gm_S G)
def gp_zero (G : gm_T) : gm_T := (G.1, gm_W G, gm_B G, gm_H G, gm_L G, gm_D G, gm_N G, 0)
def gp_deliver (G : gm_T) (e k : Nat) : gm_T := gp_rm (gp_arrive (gp_zero G) (1 - e) (16 * e + k)) e k
/-- time -/
def gp_tr (G : gm_T) (e : Nat) : Int := if G.1 3 e = G.1 5 e then G.1 20 e else G.1 20 e + 1
def gp_late1 (G : gm_T) (e : Nat) : gm_T := (gs_c (gs_c (gs_c (gs_c (gs_c G.1 20 e (gp_tr G e)) 35 e (gp_tr G e)) 19 e (min 64 (2 * G.1 19 e))) 21 e (gm_N G + min 64 (2 * G.1 19 e))) 24 e (-1), G.2)
def gp_late2 (G : gm_T) (e : Nat) : gm_T := (gs_c (gs_c (gs_c (gs_c (gs_c G.1 17 e (gp_hv G e)) 16 e 8) 18 e 0) 34 e 0) 4 e (G.1 3 e), G.2)
def gp_late (G : gm_T) (e : Nat) : gm_T :=
  if G.1 3 e ≠ G.1 5 e ∧ G.1 20 e + 1 = 6 then gp_over (gp_put G 20 e 6) e 2
  else if G.1 3 e = G.1 5 e then gp_send (gp_late1 G e) e (G.1 3 e - 1) 0 0
  else if G.1 0 e < 4 then gp_send (gp_late1 G e) e 0 1 0
  else if G.1 12 e = 0 then gp_piece (gp_late2 (gp_late1 G e) e) e else gp_flow (gp_late2 (gp_late1 G e) e) e
def gp_pass1 (G : gm_T) (e : Nat) : gm_T := if G.1 21 e = gm_N G then gp_late G e else G
def gp_pass2 (G : gm_T) (e : Nat) : gm_T := if G.1 22 e = gm_N G then gp_ack G e else G
def gp_pass3 (G : gm_T) (e : Nat) : gm_T := if G.1 23 e = gm_N G then gp_over G e (G.1 1 e) else G
def gp_pass (G : gm_T) (e : Nat) : gm_T := gp_pass3 (gp_pass2 (gp_pass1 G e) e) e
def gp_now (G : gm_T) : gm_T := (G.1, gm_W G, gm_B G, gm_H G, gm_L G, gm_D G, gm_N G + 1, gm_S G)
def gp_ticks : Nat → gm_T → gm_T
  | 0, G => G
  | k + 1, G => gp_ticks k (gp_pass (gp_pass (gp_now G) 0) 1)
/-- the calls of the user -/
def gp_open (G : gm_T) (e : Nat) (act : Bool) (iss : Int) : gm_T :=
  if act = true then gp_put (gp_send (gp_put (gp_begin G e iss) 0 e 2) e 0 1 0) 4 e 1 else gp_put (gp_begin G e iss) 0 e 1
def gp_wr (G : gm_T) (e : Nat) (cnt : Int) (g : Int → Int) : gm_T :=
  (gs_c (gs_c (gs_c G.1 6 e (G.1 6 e + cnt)) 33 e (G.1 6 e + cnt)) 31 e (G.1 31 e + cnt), gm_b (gm_W G) e (fun p => if G.1 6 e ≤ p ∧ p < G.1 6 e + cnt then g (p - G.1 6 e) else gm_W G e p), G.2.2)
def gp_write (G : gm_T) (e : Nat) (n : Int) (g : Int → Int) : gm_T := gp_flow (gp_wr G e (min n (32 - G.1 31 e)) g) e
def gp_rd (G : gm_T) (e : Nat) (m : Int) : gm_T := (gs_c (gs_c G.1 9 e (G.1 9 e - m)) 10 e (G.1 10 e + m), G.2)
def gp_read (G : gm_T) (e : Nat) (m : Int) : gm_T :=
  if 24 - G.1 9 e < 8 ∧ 7 < 24 - (G.1 9 e - m) ∧ 3 < G.1 0 e ∧ G.1 0 e < 7 then gp_ack (gp_rd G e m) e else gp_rd G e m
def gp_close (G : gm_T) (e : Nat) : gm_T :=
  if G.1 0 e = 1 ∨ G.1 0 e = 2 then gp_over G e 0
  else if G.1 0 e = 4 then gp_flow (gs_c (gs_c G.1 0 e 5) 29 e 1, G.2) e
  else if G.1 0 e = 7 then gp_flow (gs_c (gs_c G.1 0 e 9) 29 e 1, G.2) e
  else G
def gp_abort (G : gm_T) (e : Nat) : gm_T :=
  if 2 < G.1 0 e ∧ G.1 0 e < 10 then gp_over (gp_rst G e ((G.1 2 e + G.1 4 e) % 65536) 8 0) e 0 else gp_over G e 0
def gp_forge (G : gm_T) (e : Nat) (num flag ack win n : Int) (b : Int) : gm_T :=
  (gs_c G.1 30 e (G.1 30 e + 1), gm_W G, gm_B G, gm_H G, gm_l (gm_L G) (16 * e + (G.1 30 e).toNat) num flag ack win n, gm_d (gm_D G) (16 * e + (G.1 30 e).toNat) n (fun i => (b + i) % 256), gm_N G, gm_S G)
end
section
/-! what holds of the picture at every turn -/
theorem gs_f {c : Nat → Nat → Int} {f e : Nat} {z : Int} {f' e' : Nat} (h : f' ≠ f) : gs_c c f e z f' e' = c f' e' := if_neg (fun q => h q.1)
theorem gs_e {c : Nat → Nat → Int} {f e : Nat} {z : Int} {f' e' : Nat} (h : e' ≠ e) : gs_c c f e z f' e' = c f' e' := if_neg (fun q => h q.2)
theorem gs_s {c : Nat → Nat → Int} {f e : Nat} {z : Int} : gs_c c f e z f e = z := if_pos ⟨rfl, rfl⟩
theorem gs_id {c : Nat → Nat → Int} {f e : Nat} {z : Int} (h : z = c f e) : gs_c c f e z = c := by
  funext f' e'
  unfold gs_c
  split
  · rename_i q; rw [q.1, q.2]; exact h
  · rfl
theorem pu_f {G : gm_T} {f e : Nat} {z : Int} {f' e' : Nat} (h : f' ≠ f) : (gp_put G f e z).1 f' e' = G.1 f' e' := gs_f h
theorem pu_s {G : gm_T} {f e : Nat} {z : Int} : (gp_put G f e z).1 f e = z := gs_s
theorem nn_H {h : Nat → Int → Bool} {e e' : Nat} {p : Int} (w : gp_none h e e' p = true) : h e' p = true := by
  unfold gp_none gm_h at w
  split at w
  · cases w
  · exact w
theorem nn_e {h : Nat → Int → Bool} {e : Nat} {p : Int} : gp_none h e e p = false := by unfold gp_none gm_h; rw [if_pos rfl]
theorem nn_o {h : Nat → Int → Bool} {e e' : Nat} (q : e' ≠ e) {p : Int} : gp_none h e e' p = h e' p := by unfold gp_none gm_h; rw [if_neg q]
theorem nn_E {h : Nat → Int → Bool} {e : Nat} : gp_none h e e = fun _ => false := by funext p; exact nn_e
theorem nn_O {h : Nat → Int → Bool} {e e' : Nat} (q : e' ≠ e) : gp_none h e e' = h e' := by funext p; exact nn_o q
theorem hh_E {h : Nat → Int → Bool} {e : Nat} {g : Int → Bool} : gm_h h e g e = g := by funext p; exact if_pos rfl
theorem hh_O {h : Nat → Int → Bool} {e e' : Nat} {g : Int → Bool} (q : e' ≠ e) : gm_h h e g e' = h e' := by funext p; exact if_neg q
def gv_a (ST ER IS RW : Int) : Prop := 0 ≤ ST ∧ ST ≤ 10 ∧ 0 ≤ ER ∧ ER ≤ 2 ∧ (ST ≠ 0 → ER = 0) ∧ 0 ≤ IS ∧ IS ≤ 65535 ∧ 0 ≤ RW ∧ RW ≤ 16
def gv_p (K ST U N M L CL KP YU YL : Int) : Prop :=
  (ST ≠ 0 → 1 ≤ L ∧ L ≤ K + 1 ∧ YU = U ∧ YL = L) ∧ (ST = 0 → KP = 0 ∧ YL = 1 ∧ (YU = 0 ∨ YU = 1)) ∧ (ST = 1 → U = 0 ∧ N = 0 ∧ M = 0 ∧ L = 1 ∧ KP = 0) ∧ (ST = 2 ∨ ST = 3 → U = 0 ∧ N = 1 ∧ M = 1 ∧ KP = L - 1) ∧ (4 ≤ ST → 1 ≤ U ∧ U ≤ N ∧ N ≤ M ∧ M ≤ L + CL ∧ KP = max (L - U) 0) ∧ 0 ≤ KP ∧ KP ≤ 32
    ∧ (CL = 0 ∨ CL = 1) ∧ (CL = 1 ↔ (ST = 5 ∨ ST = 6 ∨ ST = 8 ∨ ST = 9 ∨ ST = 10))
def gv_c (K ST WN TD WS WA PK HF SM YS TR YT RT : Int) : Prop :=
  0 ≤ WN ∧ WN ≤ 24 ∧ (TD = 0 ∨ TD = 1) ∧ 0 ≤ WS ∧ WS ≤ 65535 ∧ 0 ≤ WA ∧ WA ≤ 65535 ∧ 8 ≤ PK ∧ PK ≤ 64 ∧ 8 ≤ HF ∧ HF ≤ 64 ∧ 0 ≤ SM ∧ SM ≤ K ∧ 0 ≤ TR ∧ TR ≤ 6 ∧ (ST ≠ 0 → TR ≤ 5 ∧ YS = SM ∧ YT = TR) ∧ 2 ≤ RT ∧ RT ≤ 64
def gv_d (n ST RY AK WT : Int) : Prop := -1 ≤ RY ∧ RY ≤ n + 64 ∧ (ST ≤ 1 → RY = -1) ∧ -1 ≤ AK ∧ AK ≤ n + 2 ∧ (ST ≤ 2 → AK = -1) ∧ -1 ≤ WT ∧ WT ≤ n + 20
def gv_t (n ST U M TM TA SP SO VA : Int) : Prop := -1 ≤ TM ∧ (0 ≤ TM → 2 ≤ ST ∧ U ≤ TM ∧ TM < M ∧ 0 ≤ TA ∧ TA ≤ n) ∧ (SP = 0 ∨ SP = 1) ∧ (SP = 1 → 0 ≤ SO ∧ SO ≤ 8 * n) ∧ 0 ≤ VA ∧ VA ≤ 4 * n + 3
def gv_r (K ST IR RV UR UF FA : Int) (h : Int → Bool) : Prop :=
  0 ≤ IR ∧ IR ≤ 65535 ∧ 0 ≤ RV ∧ RV ≤ 4 * K + 4 ∧ 0 ≤ UR ∧ UR ≤ 24 ∧ 0 ≤ UF ∧ (ST = 1 ∨ ST = 2 → UR = 0) ∧ (3 ≤ ST → ST ≤ 6 → UF + UR = RV) ∧ -1 ≤ FA ∧ (0 ≤ FA → 4 ≤ ST ∧ ST ≤ 6 ∧ RV < FA ∧ FA < RV + 24 - UR) ∧ (∀ p, h p = true → 4 ≤ ST ∧ ST ≤ 6 ∧ RV < p ∧ p < RV + 24 - UR)
def gv_E (K n : Int) (c : Nat → Nat → Int) (h : Nat → Int → Bool) (e : Nat) : Prop :=
  gv_a (c 0 e) (c 1 e) (c 2 e) (c 30 e) ∧ gv_p K (c 0 e) (c 3 e) (c 4 e) (c 5 e) (c 6 e) (c 29 e) (c 31 e) (c 32 e) (c 33 e) ∧ gv_c K (c 0 e) (c 12 e) (c 13 e) (c 14 e) (c 15 e) (c 16 e) (c 17 e) (c 18 e) (c 34 e) (c 20 e) (c 35 e) (c 19 e) ∧ gv_d n (c 0 e) (c 21 e) (c 22 e) (c 23 e) ∧ gv_t n (c 0 e) (c 3 e) (c 5 e) (c 24 e) (c 25 e) (c 26 e) (c 27 e) (c 28 e) ∧ gv_r K (c 0 e) (c 7 e) (c 8 e) (c 9 e) (c 10 e) (c 11 e) (h e)
def gv_L (l : Nat → Nat → Int) (d : Nat → Int) : Prop :=
  (∀ i, i < 32 → 0 ≤ l 0 i ∧ l 0 i ≤ 65535 ∧ 0 ≤ l 1 i ∧ l 1 i ≤ 15 ∧ 0 ≤ l 2 i ∧ l 2 i ≤ 65535 ∧ 0 ≤ l 3 i ∧ l 3 i ≤ 24 ∧ 0 ≤ l 4 i ∧ l 4 i ≤ 8) ∧ (∀ j, j < 256 → 0 ≤ d j ∧ d j ≤ 255)
def gv_W (w : Nat → Int → Int) : Prop := ∀ e, e < 2 → ∀ p, 0 ≤ w e p ∧ w e p ≤ 255
def gv_I (K : Int) (G : gm_T) : Prop := 0 ≤ K ∧ K ≤ 5000 ∧ 0 ≤ gm_N G ∧ gm_N G ≤ 125 * K ∧ (∀ e, e < 2 → gv_E K (gm_N G) G.1 (gm_H G) e) ∧ gv_L (gm_L G) (gm_D G) ∧ gv_W (gm_W G) ∧ gv_W (gm_B G)
theorem gv_o {K n : Int} {c c' : Nat → Nat → Int} {h h' : Nat → Int → Bool} {e : Nat} (hc : ∀ f, c' f e = c f e) (hh : h' e = h e) (H : gv_E K n c h e) : gv_E K n c' h' e := by
  unfold gv_E at *
  simp only [hc, hh]
  exact H
theorem gv_up {K n : Int} {c c' : Nat → Nat → Int} {h h' : Nat → Int → Bool} {e : Nat} (hE : ∀ e, e < 2 → gv_E K n c h e) (hc : ∀ e', e' ≠ e → ∀ f, c' f e' = c f e') (hh : ∀ e', e' ≠ e → h' e' = h e') (H : gv_E K n c' h' e) : ∀ e, e < 2 → gv_E K n c' h' e := by
  intro e' he'
  by_cases q : e' = e
  · rw [q]; exact H
  · exact gv_o (hc e' q) (hh e' q) (hE e' he')
theorem gv_mono {K K' : Int} {G : gm_T} (h : K ≤ K') (h' : K' ≤ 5000) (H : gv_I K G) : gv_I K' G := by
  obtain ⟨a1, a2, a3, a4, a5, a6, a7, a8⟩ := H
  refine ⟨by omega, h', a3, by omega, fun e he => ?_, a6, a7, a8⟩
  obtain ⟨b1, b2, b3, b4, b5, b6⟩ := a5 e he
  refine ⟨b1, ?_, ?_, b4, b5, ?_⟩
  · obtain ⟨q1, q2⟩ := b2
    exact ⟨fun z => ⟨(q1 z).1, by have := (q1 z).2.1; omega, (q1 z).2.2⟩, q2⟩
  · obtain ⟨q1, q2, q3, q4, q5, q6, q7, q8, q9, qa, qb, qc, qd, qe⟩ := b3
    exact ⟨q1, q2, q3, q4, q5, q6, q7, q8, q9, qa, qb, qc, by omega, qe⟩
  · obtain ⟨q1, q2, q3, q4, qe⟩ := b6
    exact ⟨q1, q2, q3, by omega, qe⟩
theorem gv_lpost {l : Nat → Nat → Int} {d : Nat → Int} {k : Nat} {num flag ack win n : Int} {g : Int → Int} (h : gv_L l d) (h1 : 0 ≤ num ∧ num ≤ 65535) (h2 : 0 ≤ flag ∧ flag ≤ 15) (h3 : 0 ≤ ack ∧ ack ≤ 65535) (h4 : 0 ≤ win ∧ win ≤ 24) (h5 : 0 ≤ n ∧ n ≤ 8) (h6 : ∀ i, 0 ≤ i → i < n → 0 ≤ g i ∧ g i ≤ 255) : gv_L (gm_l l k num flag ack win n) (gm_d d k n g) := by
  refine ⟨fun i hi => ?_, fun j hj => ?_⟩
  · by_cases q : i = k
    · have e0 : gm_l l k num flag ack win n 0 i = num := by unfold gm_l; rw [if_pos q]; rfl
      have e1 : gm_l l k num flag ack win n 1 i = flag := by unfold gm_l; rw [if_pos q]; rfl
      have e2 : gm_l l k num flag ack win n 2 i = ack := by unfold gm_l; rw [if_pos q]; rfl
      have e3 : gm_l l k num flag ack win n 3 i = win := by unfold gm_l; rw [if_pos q]; rfl
      have e4 : gm_l l k num flag ack win n 4 i = n := by unfold gm_l; rw [if_pos q]; rfl
      rw [e0, e1, e2, e3, e4]
      exact ⟨h1.1, h1.2, h2.1, h2.2, h3.1, h3.2, h4.1, h4.2, h5.1, h5.2⟩
    · have e0 : ∀ f, gm_l l k num flag ack win n f i = l f i := fun f => by unfold gm_l; rw [if_neg q]
      simp only [e0]
      exact h.1 i hi
  · unfold gm_d
    split
    · rename_i q; exact h6 _ (by omega) (by omega)
    · exact h.2 j hj
end
section
/-! the bounds last: sending -/
theorem iv_post {K : Int} {G : gm_T} {e : Nat} {num flag ack win n : Int} {g : Int → Int} (hI : gv_I K G) (he : e < 2) (h1 : 0 ≤ num ∧ num ≤ 65535) (h2 : 0 ≤ flag ∧ flag ≤ 15) (h3 : 0 ≤ ack ∧ ack ≤ 65535) (h4 : 0 ≤ win ∧ win ≤ 24) (h5 : 0 ≤ n ∧ n ≤ 8) (h6 : ∀ i, 0 ≤ i → i < n → 0 ≤ g i ∧ g i ≤ 255) : gv_I K (gp_post G e num flag ack win n g) := by
  obtain ⟨a1, a2, a3, a4, a5, a6, a7, a8⟩ := hI
  refine ⟨a1, a2, a3, a4, gv_up (e := e) a5 (fun e' q f => gs_e q) (fun e' q => rfl) ?_, ?_, a7, a8⟩
  · obtain ⟨b1, b2, b3, b4, b5, b6⟩ := a5 e he
    refine ⟨?_, b2, b3, b4, b5, b6⟩
    show gv_a (G.1 0 e) (G.1 1 e) (G.1 2 e) (gs_c G.1 30 e _ 30 e)
    rw [gs_s]
    unfold gv_a at *
    split <;> omega
  · show gv_L (if G.1 30 e < 16 then _ else _) (if G.1 30 e < 16 then _ else _)
    by_cases q : G.1 30 e < 16
    · rw [if_pos q, if_pos q]; exact gv_lpost a6 h1 h2 h3 h4 h5 h6
    · rw [if_neg q, if_neg q]; exact a6
theorem iv_rst {K : Int} {G : gm_T} {e : Nat} {num flag ack : Int} (hI : gv_I K G) (he : e < 2) (h1 : 0 ≤ num ∧ num ≤ 65535) (h2 : 0 ≤ flag ∧ flag ≤ 15) (h3 : 0 ≤ ack ∧ ack ≤ 65535) : gv_I K (gp_rst G e num flag ack) :=
  iv_post hI he h1 h2 h3 (by omega) (by omega) (fun i _ _ => by omega)
/-- the values behind a send -/
theorem sd_M {G : gm_T} {e : Nat} {fr flag n : Int} : (gp_send G e fr flag n).1 5 e = (if gp_len flag n ≠ 0 ∧ G.1 5 e < fr + gp_len flag n then fr + gp_len flag n else G.1 5 e) := by
  simp +decide only [gp_send, gt_4, gt_3, gt_2, gt_1, gp_sp, gp_post, gs_s, gs_f, gm_N]
theorem sd_RY {G : gm_T} {e : Nat} {fr flag n : Int} : (gp_send G e fr flag n).1 21 e = (if gp_len flag n ≠ 0 ∧ G.1 21 e < 0 then gm_N G + G.1 19 e else G.1 21 e) := by
  simp +decide only [gp_send, gt_4, gt_3, gt_2, gt_1, gp_sp, gp_post, gs_s, gs_f, gm_N]
theorem sd_TM {G : gm_T} {e : Nat} {fr flag n : Int} : (gp_send G e fr flag n).1 24 e = (if gp_len flag n ≠ 0 ∧ fr = G.1 5 e ∧ G.1 24 e < 0 then fr else G.1 24 e) := by
  simp +decide only [gp_send, gt_4, gt_3, gt_2, gt_1, gp_sp, gp_post, gs_s, gs_f, gm_N]
theorem sd_TA {G : gm_T} {e : Nat} {fr flag n : Int} : (gp_send G e fr flag n).1 25 e = (if gp_len flag n ≠ 0 ∧ fr = G.1 5 e ∧ G.1 24 e < 0 then gm_N G else G.1 25 e) := by
  simp +decide only [gp_send, gt_4, gt_3, gt_2, gt_1, gp_sp, gp_post, gs_s, gs_f, gm_N]
theorem sd_AK {G : gm_T} {e : Nat} {fr flag n : Int} : (gp_send G e fr flag n).1 22 e = -1 := by
  simp +decide only [gp_send, gt_4, gt_3, gt_2, gt_1, gp_sp, gp_post, gs_s, gs_f, gm_N]
theorem sd_RW {G : gm_T} {e : Nat} {fr flag n : Int} : (gp_send G e fr flag n).1 30 e = (if G.1 30 e < 16 then G.1 30 e + 1 else G.1 30 e) := by
  simp +decide only [gp_send, gt_4, gt_3, gt_2, gt_1, gp_sp, gp_post, gs_s, gs_f, gm_N]
theorem sd_o {G : gm_T} {e e' : Nat} {fr flag n : Int} (q : e' ≠ e) (f : Nat) : (gp_send G e fr flag n).1 f e' = G.1 f e' := by
  simp only [gp_send, gt_4, gt_3, gt_2, gt_1, gp_sp, gp_post, gs_e q]
theorem iv_send {K : Int} {G : gm_T} {e : Nat} {fr flag n : Int} (hI : gv_I K G) (he : e < 2) (hs : 2 ≤ G.1 0 e) (hf : flag = 0 ∨ flag = 1 ∨ flag = 4) (hn : 0 ≤ n) (hn8 : n ≤ 8) (hm : fr + gp_len flag n ≤ G.1 5 e ∨ gp_len flag n = 0 ∨ (4 ≤ G.1 0 e ∧ fr + gp_len flag n ≤ G.1 6 e + G.1 29 e)) : gv_I K (gp_send G e fr flag n) := by
  have hp0 := hI
  obtain ⟨a1, a2, a3, a4, a5, a6, a7, a8⟩ := hI
  obtain ⟨b1, b2, b3, b4, b5, b6⟩ := a5 e he
  have hl : 0 ≤ gp_len flag n := by unfold gp_len; omega
  have hp := iv_post (K := K) (G := G) (e := e) (num := (G.1 2 e + fr) % 65536) (flag := if G.1 0 e = 2 then flag else flag + 2) (ack := if G.1 0 e = 2 then 0 else (G.1 7 e + G.1 8 e) % 65536) (win := 24 - G.1 9 e) (n := n) (g := fun i => gm_W G e (fr + i)) hp0 he (by omega) (by split <;> omega) (by split <;> omega) (by unfold gv_r at b6; omega) ⟨hn, hn8⟩ (fun i _ _ => a7 e he _)
  obtain ⟨p1, p2, p3, p4, p5, p6, p7, p8⟩ := hp
  refine ⟨a1, a2, a3, a4, gv_up (e := e) a5 (fun e' q f => sd_o q f) (fun e' q => rfl) ?_, p6, a7, a8⟩
  unfold gv_E
  rw [sd_M, sd_RY, sd_TM, sd_TA, sd_AK, sd_RW]
  refine ⟨?_, ?_, b3, ?_, ?_, b6⟩
  · show gv_a (G.1 0 e) (G.1 1 e) (G.1 2 e) _
    unfold gv_a at *
    split <;> omega
  · show gv_p K (G.1 0 e) (G.1 3 e) (G.1 4 e) _ (G.1 6 e) (G.1 29 e) (G.1 31 e) (G.1 32 e) (G.1 33 e)
    generalize gp_len flag n = len at *
    unfold gv_p at *
    obtain ⟨q1, q2, q3, q4, q5, q6⟩ := b2
    refine ⟨q1, q2, fun z => by omega, fun z => ?_, fun z => ?_, q6⟩
    · have := q4 z; split <;> omega
    · have := q5 z; split <;> omega
  · show gv_d (gm_N G) (G.1 0 e) _ _ (G.1 23 e)
    unfold gv_d gv_c at *
    split <;> omega
  · show gv_t (gm_N G) (G.1 0 e) (G.1 3 e) _ _ _ (G.1 26 e) (G.1 27 e) (G.1 28 e)
    generalize gp_len flag n = len at *
    unfold gv_t gv_p at *
    obtain ⟨q1, q2, q3⟩ := b5
    obtain ⟨r1, r2, r3, r4, r5, r6⟩ := b2
    have hM : 0 ≤ G.1 5 e ∧ G.1 3 e ≤ G.1 5 e := by omega
    refine ⟨?_, ?_, q3⟩
    · split <;> omega
    · intro z
      by_cases w : len ≠ 0 ∧ fr = G.1 5 e ∧ G.1 24 e < 0
      · rw [if_pos w, if_pos w]
        rw [if_pos ⟨w.1, by omega⟩]
        omega
      · rw [if_neg w] at z ⊢
        rw [if_neg w]
        have := q2 z
        split <;> omega
theorem iv_ack {K : Int} {G : gm_T} {e : Nat} (hI : gv_I K G) (he : e < 2) (hs : 2 ≤ G.1 0 e) : gv_I K (gp_ack G e) :=
  iv_send hI he hs (Or.inl rfl) (by omega) (by omega) (Or.inr (Or.inl rfl))
theorem sd_f {G : gm_T} {e e' : Nat} {fr flag n : Int} {f : Nat} (h1 : f ≠ 30) (h2 : f ≠ 22) (h3 : f ≠ 25) (h4 : f ≠ 24) (h5 : f ≠ 5) (h6 : f ≠ 21) : (gp_send G e fr flag n).1 f e' = G.1 f e' := by
  simp only [gp_send, gt_4, gt_3, gt_2, gt_1, gp_sp, gp_post, gs_f h1, gs_f h2, gs_f h3, gs_f h4, gs_f h5, gs_f h6]
theorem iv_put {K : Int} {G : gm_T} {f e : Nat} {z : Int} (hI : gv_I K G) (H : gv_E K (gm_N G) (gs_c G.1 f e z) (gm_H G) e) : gv_I K (gp_put G f e z) := by
  obtain ⟨a1, a2, a3, a4, a5, a6, a7, a8⟩ := hI
  exact ⟨a1, a2, a3, a4, gv_up (e := e) a5 (fun e' q f => gs_e q) (fun e' q => rfl) H, a6, a7, a8⟩
theorem iv_setN {K : Int} {G : gm_T} {e : Nat} {z : Int} (hI : gv_I K G) (he : e < 2) (hs : 4 ≤ G.1 0 e) (h1 : G.1 3 e ≤ z) (h2 : z ≤ G.1 5 e) : gv_I K (gp_put G 4 e z) := by
  obtain ⟨b1, b2, b3, b4, b5, b6⟩ := hI.2.2.2.2.1 e he
  refine iv_put hI ⟨b1, ?_, b3, b4, b5, b6⟩
  show gv_p K (G.1 0 e) (G.1 3 e) (gs_c G.1 4 e z 4 e) (G.1 5 e) (G.1 6 e) (G.1 29 e) (G.1 31 e) (G.1 32 e) (G.1 33 e)
  rw [gs_s]
  obtain ⟨q1, q2, q3, q4, q5, q6⟩ := b2
  exact ⟨q1, q2, fun z => by omega, fun z => by omega, fun z => by have := q5 z; omega, q6⟩
theorem iv_setRY {K : Int} {G : gm_T} {e : Nat} {z : Int} (hI : gv_I K G) (he : e < 2) (hs : 2 ≤ G.1 0 e) (h1 : -1 ≤ z) (h2 : z ≤ gm_N G + 64) : gv_I K (gp_put G 21 e z) := by
  obtain ⟨b1, b2, b3, b4, b5, b6⟩ := hI.2.2.2.2.1 e he
  refine iv_put hI ⟨b1, b2, b3, ?_, b5, b6⟩
  show gv_d (gm_N G) (G.1 0 e) (gs_c G.1 21 e z 21 e) (G.1 22 e) (G.1 23 e)
  rw [gs_s]
  unfold gv_d at *
  omega
/-- one round of the flow -/
theorem iv_step {K : Int} {G : gm_T} {e : Nat} (hI : gv_I K G) (he : e < 2) (hs : 4 ≤ G.1 0 e) (hn : 0 < gp_nn G e) : gv_I K (gp_step G e) := by
  have h8 : gp_nn G e ≤ 8 ∧ gp_nn G e ≤ G.1 6 e - G.1 4 e := by unfold gp_nn; omega
  obtain ⟨b1, b2, b3, b4, b5, b6⟩ := hI.2.2.2.2.1 e he
  have hcl : 0 ≤ G.1 29 e ∧ G.1 3 e ≤ G.1 4 e := by unfold gv_p at b2; omega
  have hl : gp_len 0 (gp_nn G e) = gp_nn G e := by unfold gp_len; omega
  refine iv_setN (iv_send hI he (by omega) (Or.inl rfl) (by omega) (by omega) (Or.inr (Or.inr ⟨hs, by omega⟩))) he ?_ ?_ ?_
  · rw [sd_f (by decide) (by decide) (by decide) (by decide) (by decide) (by decide)]; exact hs
  · rw [sd_f (by decide) (by decide) (by decide) (by decide) (by decide) (by decide)]; omega
  · rw [sd_M, hl]; split <;> omega
theorem st_f {G : gm_T} {e e' : Nat} {f : Nat} (h1 : f ≠ 30) (h2 : f ≠ 22) (h3 : f ≠ 25) (h4 : f ≠ 24) (h5 : f ≠ 5) (h6 : f ≠ 21) (h7 : f ≠ 4) : (gp_step G e).1 f e' = G.1 f e' := by
  show gs_c _ _ _ _ _ _ = _
  rw [gs_f h7, sd_f h1 h2 h3 h4 h5 h6]
theorem st_N {G : gm_T} {e : Nat} : (gp_step G e).1 4 e = G.1 4 e + gp_nn G e := gs_s
theorem lo_f {f : Nat} (h1 : f ≠ 30) (h2 : f ≠ 22) (h3 : f ≠ 25) (h4 : f ≠ 24) (h5 : f ≠ 5) (h6 : f ≠ 21) (h7 : f ≠ 4) : ∀ (k : Nat) (G : gm_T) (e e' : Nat), (gp_loop k G e).1 f e' = G.1 f e' := by
  intro k
  induction k with
  | zero => intro G e e'; rfl
  | succ k ih =>
    intro G e e'
    unfold gp_loop
    split
    · rw [ih, st_f h1 h2 h3 h4 h5 h6 h7]
    · rfl
theorem iv_loop {K : Int} {e : Nat} (he : e < 2) : ∀ (k : Nat) (G : gm_T), gv_I K G → 4 ≤ G.1 0 e → gv_I K (gp_loop k G e) := by
  intro k
  induction k with
  | zero => intro G hI _; exact hI
  | succ k ih =>
    intro G hI hs
    unfold gp_loop
    split
    · refine ih _ (iv_step hI he hs (by omega)) ?_
      rw [st_f (by decide) (by decide) (by decide) (by decide) (by decide) (by decide) (by decide)]; exact hs
    · exact hI
theorem iv_fin {K : Int} {G : gm_T} {e : Nat} (hI : gv_I K G) (he : e < 2) (hs : 4 ≤ G.1 0 e) : gv_I K (gp_fin G e) := by
  unfold gp_fin
  split
  · rename_i q
    obtain ⟨b1, b2, b3, b4, b5, b6⟩ := hI.2.2.2.2.1 e he
    have hu : G.1 3 e ≤ G.1 4 e := by unfold gv_p at b2; omega
    have hl : gp_len 4 0 = 1 := by decide
    refine iv_setN (iv_send hI he (by omega) (Or.inr (Or.inr rfl)) (by omega) (by omega) (Or.inr (Or.inr ⟨hs, by omega⟩))) he ?_ ?_ ?_
    · rw [sd_f (by decide) (by decide) (by decide) (by decide) (by decide) (by decide)]; exact hs
    · rw [sd_f (by decide) (by decide) (by decide) (by decide) (by decide) (by decide)]; omega
    · rw [sd_M, hl]; split <;> omega
  · exact hI
theorem fi_f {G : gm_T} {e e' : Nat} {f : Nat} (h1 : f ≠ 30) (h2 : f ≠ 22) (h3 : f ≠ 25) (h4 : f ≠ 24) (h5 : f ≠ 5) (h6 : f ≠ 21) (h7 : f ≠ 4) : (gp_fin G e).1 f e' = G.1 f e' := by
  unfold gp_fin
  split
  · show gs_c _ _ _ _ _ _ = _
    rw [gs_f h7, sd_f h1 h2 h3 h4 h5 h6]
  · rfl
theorem iv_rest {K : Int} {G : gm_T} {e : Nat} (hI : gv_I K G) (he : e < 2) (hs : 4 ≤ G.1 0 e) : gv_I K (gp_rest G e) := by
  obtain ⟨b1, b2, b3, b4, b5, b6⟩ := hI.2.2.2.2.1 e he
  refine iv_setRY hI he (by omega) ?_ ?_
  · unfold gv_d gv_c at *; have := hI.2.2.1; split <;> omega
  · unfold gv_d gv_c at *; split <;> omega
theorem fl_f {f : Nat} (h1 : f ≠ 30) (h2 : f ≠ 22) (h3 : f ≠ 25) (h4 : f ≠ 24) (h5 : f ≠ 5) (h6 : f ≠ 21) (h7 : f ≠ 4) {G : gm_T} {e e' : Nat} : (gp_flow G e).1 f e' = G.1 f e' := by
  unfold gp_flow
  split
  · show gs_c _ _ _ _ _ _ = _
    rw [gs_f h6, fi_f h1 h2 h3 h4 h5 h6 h7, lo_f h1 h2 h3 h4 h5 h6 h7]
  · rfl
theorem iv_flow {K : Int} {G : gm_T} {e : Nat} (hI : gv_I K G) (he : e < 2) : gv_I K (gp_flow G e) := by
  unfold gp_flow
  split
  · have hs : 4 ≤ G.1 0 e := by omega
    have h1 : 4 ≤ (gp_loop 33 G e).1 0 e := by rw [lo_f (by decide) (by decide) (by decide) (by decide) (by decide) (by decide) (by decide)]; exact hs
    have h2 : 4 ≤ (gp_fin (gp_loop 33 G e) e).1 0 e := by rw [fi_f (by decide) (by decide) (by decide) (by decide) (by decide) (by decide) (by decide)]; exact h1
    exact iv_rest (iv_fin (iv_loop he 33 G hI hs) he h1) he h2
  · exact hI
theorem iv_piece {K : Int} {G : gm_T} {e : Nat} (hI : gv_I K G) (he : e < 2) (hs : 4 ≤ G.1 0 e) (hu : G.1 3 e < G.1 5 e) : gv_I K (gp_piece G e) := by
  have h8 : gp_pn G e ≤ 8 ∧ gp_pn G e ≤ G.1 5 e - G.1 3 e := by unfold gp_pn; omega
  unfold gp_piece
  split
  · have hl : gp_len 0 (gp_pn G e) = gp_pn G e := by unfold gp_len; omega
    exact iv_send hI he (by omega) (Or.inl rfl) (by omega) (by omega) (Or.inl (by omega))
  · have hl : gp_len 4 0 = 1 := by decide
    exact iv_send hI he (by omega) (Or.inr (Or.inr rfl)) (by omega) (by omega) (Or.inl (by omega))
theorem pc_f {f : Nat} (h1 : f ≠ 30) (h2 : f ≠ 22) (h3 : f ≠ 25) (h4 : f ≠ 24) (h5 : f ≠ 5) (h6 : f ≠ 21) {G : gm_T} {e e' : Nat} : (gp_piece G e).1 f e' = G.1 f e' := by
  unfold gp_piece
  split <;> rw [sd_f h1 h2 h3 h4 h5 h6]
theorem iv_meas {K : Int} {G : gm_T} {e : Nat} (hI : gv_I K G) (he : e < 2) (ht : 0 ≤ G.1 24 e) : gv_I K (gp_meas G e) := by
  obtain ⟨a1, a2, a3, a4, a5, a6, a7, a8⟩ := hI
  obtain ⟨b1, b2, b3, b4, b5, b6⟩ := a5 e he
  refine ⟨a1, a2, a3, a4, gv_up (e := e) a5 (fun e' q f => ?_) (fun e' q => rfl) ?_, a6, a7, a8⟩
  · show gs_c (gs_c (gs_c (gs_c (gs_c _ _ _ _) _ _ _) _ _ _) _ _ _) _ _ _ _ _ = _
    rw [gs_e q, gs_e q, gs_e q, gs_e q, gs_e q]
  · refine ⟨b1, b2, ?_, b4, ?_, b6⟩
    · show gv_c K (G.1 0 e) (G.1 12 e) (G.1 13 e) (G.1 14 e) (G.1 15 e) (G.1 16 e) (G.1 17 e) (G.1 18 e) (G.1 34 e) (G.1 20 e) (G.1 35 e) (gs_c (gs_c _ _ _ _) _ _ _ _ _)
      rw [gs_f (by decide), gs_s]
      have : 2 ≤ gp_rt G e ∧ gp_rt G e ≤ 64 := by unfold gp_rt; split <;> (try split) <;> omega
      unfold gv_c at *
      omega
    · show gv_t (gm_N G) (G.1 0 e) (G.1 3 e) (G.1 5 e) (gs_c _ _ _ _ _ _) (G.1 25 e) (gs_c (gs_c (gs_c _ _ _ _) _ _ _) _ _ _ _ _) (gs_c (gs_c (gs_c (gs_c (gs_c _ _ _ _) _ _ _) _ _ _) _ _ _) _ _ _ _ _) (gs_c (gs_c (gs_c (gs_c _ _ _ _) _ _ _) _ _ _) _ _ _ _ _)
      simp +decide only [gs_s, gs_f]
      unfold gv_t at *
      have h1 : 0 ≤ gp_so G e ∧ gp_so G e ≤ 8 * gm_N G := by unfold gp_so; split <;> omega
      have h2 : 0 ≤ gp_va G e ∧ gp_va G e ≤ 4 * gm_N G + 3 := by unfold gp_va; split <;> (try split) <;> omega
      omega
theorem iv_over {K : Int} {G : gm_T} {e : Nat} {code : Int} (hI : gv_I K G) (he : e < 2) (h1 : 0 ≤ code) (h2 : code ≤ 2) : gv_I K (gp_over G e code) := by
  obtain ⟨a1, a2, a3, a4, a5, a6, a7, a8⟩ := hI
  obtain ⟨b1, b2, b3, b4, b5, b6⟩ := a5 e he
  refine ⟨a1, a2, a3, a4, gv_up (e := e) a5 (fun e' q f => ?_) (fun e' q => ?_) ?_, a6, a7, a8⟩
  · simp only [gp_over, gs_e q]
  · exact nn_O q
  · have hh : gm_H (gp_over G e code) e = fun _ => false := nn_E
    unfold gv_E
    rw [hh]
    simp +decide only [gp_over, gs_s, gs_f]
    refine ⟨?_, ?_, ?_, ?_, ?_, ?_⟩
    · unfold gv_a at *; omega
    · unfold gv_p at *; omega
    · unfold gv_c at *; omega
    · unfold gv_d at *; omega
    · unfold gv_t at *; omega
    · unfold gv_r at *
      obtain ⟨q1, q2, q3, q4, q5, q6, q7, q8⟩ := b6
      exact ⟨q1, q2, q3, q4, q5, q6, q7, by omega, by omega, by omega, by omega, fun p z => by cases z⟩
end
section
/-! the bounds last: an end begins, opens, takes acknowledgements -/
theorem bg_o {G : gm_T} {e e' : Nat} {iss : Int} (q : e' ≠ e) (f : Nat) : (gp_begin G e iss).1 f e' = G.1 f e' := by
  simp only [gp_begin, if_neg q]
theorem bg_H {G : gm_T} {e : Nat} {iss : Int} : gm_H (gp_begin G e iss) e = fun _ => false := nn_E
theorem iv_listen {K : Int} {G : gm_T} {e : Nat} {iss : Int} (hI : gv_I K G) (he : e < 2) (h1 : 0 ≤ iss) (h2 : iss ≤ 65535) : gv_I K (gp_put (gp_begin G e iss) 0 e 1) := by
  obtain ⟨a1, a2, a3, a4, a5, a6, a7, a8⟩ := hI
  obtain ⟨b1, b2, b3, b4, b5, b6⟩ := a5 e he
  refine ⟨a1, a2, a3, a4, gv_up (e := e) a5 (fun e' q f => ?_) (fun e' q => ?_) ?_, a6, a7, a8⟩
  · simp only [gp_put, gs_e q, bg_o q]
  · exact nn_O q
  · have hh : gm_H (gp_put (gp_begin G e iss) 0 e 1) e = fun _ => false := bg_H
    unfold gv_E
    rw [hh]
    simp +decide only [gp_put, gp_begin, gs_s, gs_f, ↓reduceIte]
    refine ⟨?_, ?_, ?_, ?_, ?_, ?_⟩
    · unfold gv_a at *; omega
    · unfold gv_p at *; omega
    · unfold gv_c at *; omega
    · unfold gv_d at *; omega
    · unfold gv_t at *; omega
    · unfold gv_r at *
      exact ⟨by omega, by omega, by omega, by omega, by omega, by omega, by omega, by omega, by omega, by omega, by omega, fun p z => by cases z⟩
/-- the first segment of an end -/
theorem iv_syn {K : Int} {G : gm_T} {e : Nat} {s : Int} (hI : gv_I K (gp_put G 0 e 1)) (he : e < 2) (hs : s = 2 ∨ s = 3) (hu : s = 3 → G.1 10 e + G.1 9 e = G.1 8 e) : gv_I K (gp_put (gp_send (gp_put G 0 e s) e 0 1 0) 4 e 1) := by
  obtain ⟨a1, a2, a3, a4, a5, a6, a7, a8⟩ := hI
  obtain ⟨b1, b2, b3, b4, b5, b6⟩ := a5 e he
  simp +decide only [gp_put, gs_s, gs_f] at b1 b2 b3 b4 b5 b6
  have hl : gp_len 1 0 = 1 := by decide
  refine ⟨a1, a2, a3, a4, gv_up (e := e) a5 (fun e' q f => ?_) (fun e' q => rfl) ?_, ?_, a7, a8⟩
  · show gs_c _ _ _ _ _ _ = gs_c _ _ _ _ _ _
    rw [gs_e q, sd_o q, gs_e q]
    exact gs_e q
  · have e1 : (gp_put G 0 e s).1 5 e = 0 := by show gs_c _ _ _ _ _ _ = _; rw [gs_f (by decide)]; unfold gv_p at b2; omega
    have e2 : (gp_put G 0 e s).1 24 e < 0 := by show gs_c _ _ _ _ _ _ < _; rw [gs_f (by decide)]; unfold gv_t at b5; omega
    have e3 : (gp_put G 0 e s).1 21 e < 0 := by show gs_c _ _ _ _ _ _ < _; rw [gs_f (by decide)]; unfold gv_d at b4; omega
    have sM : (gp_send (gp_put G 0 e s) e 0 1 0).1 5 e = 1 := by rw [sd_M, hl, e1]; rfl
    have sT : (gp_send (gp_put G 0 e s) e 0 1 0).1 24 e = 0 := by rw [sd_TM, hl, if_pos ⟨by decide, e1.symm, e2⟩]
    have sA : (gp_send (gp_put G 0 e s) e 0 1 0).1 25 e = gm_N G := by rw [sd_TA, hl, if_pos ⟨by decide, e1.symm, e2⟩]; rfl
    have sR : (gp_send (gp_put G 0 e s) e 0 1 0).1 21 e = gm_N G + G.1 19 e := by rw [sd_RY, hl, if_pos ⟨by decide, e3⟩]; rfl
    have sW : (gp_send (gp_put G 0 e s) e 0 1 0).1 30 e = if G.1 30 e < 16 then G.1 30 e + 1 else G.1 30 e := by rw [sd_RW]; rfl
    have sS : (gp_send (gp_put G 0 e s) e 0 1 0).1 0 e = s := by rw [sd_f (by decide) (by decide) (by decide) (by decide) (by decide) (by decide)]; exact gs_s
    have sf : ∀ f, f ≠ 30 → f ≠ 22 → f ≠ 25 → f ≠ 24 → f ≠ 5 → f ≠ 21 → f ≠ 0 → (gp_send (gp_put G 0 e s) e 0 1 0).1 f e = G.1 f e := fun f h1 h2 h3 h4 h5 h6 h7 => by rw [sd_f h1 h2 h3 h4 h5 h6]; exact gs_f h7
    unfold gv_E
    simp +decide only [gp_put, gs_s, gs_f]
    simp only [gp_put] at sM sT sA sR sW sS sf
    rw [sM, sT, sA, sR, sW, sS, sd_AK]
    simp +decide only [sf]
    refine ⟨?_, ?_, ?_, ?_, ?_, ?_⟩
    · unfold gv_a at *; split <;> omega
    · unfold gv_p at *; omega
    · unfold gv_c at *; omega
    · unfold gv_c at b3; unfold gv_d at *; omega
    · unfold gv_p at b2; unfold gv_t at *; omega
    · unfold gv_r at *
      obtain ⟨q1, q2, q3, q4, q5, q6, q7, q8, q9, qa, qb, qc⟩ := b6
      exact ⟨q1, q2, q3, q4, q5, q6, q7, by omega, by omega, qa, by omega, fun p z => by have := qc p z; omega⟩
  · have := (iv_post (K := K) (G := gp_put G 0 e 1) (e := e) (num := ((gp_put G 0 e s).1 2 e + 0) % 65536) (flag := if (gp_put G 0 e s).1 0 e = 2 then 1 else 1 + 2) (ack := if (gp_put G 0 e s).1 0 e = 2 then 0 else ((gp_put G 0 e s).1 7 e + (gp_put G 0 e s).1 8 e) % 65536) (win := 24 - (gp_put G 0 e s).1 9 e) (n := 0) (g := fun i => gm_W (gp_put G 0 e s) e (0 + i)) ⟨a1, a2, a3, a4, a5, a6, a7, a8⟩ he (by omega) (by split <;> omega) (by split <;> omega) (by show 0 ≤ 24 - G.1 9 e ∧ 24 - G.1 9 e ≤ 24; unfold gv_r at b6; omega) (by omega) (fun i _ _ => a7 e he _)).2.2.2.2.2.1
    exact this
theorem iv_open {K : Int} {G : gm_T} {e : Nat} {act : Bool} {iss : Int} (hI : gv_I K G) (he : e < 2) (h1 : 0 ≤ iss) (h2 : iss ≤ 65535) : gv_I K (gp_open G e act iss) := by
  unfold gp_open
  split
  · exact iv_syn (iv_listen hI he h1 h2) he (Or.inl rfl) (fun z => by omega)
  · exact iv_listen hI he h1 h2
theorem iv_hear {K : Int} {G : gm_T} {e k : Nat} (hI : gv_I K G) (he : e < 2) (hk : k < 32) (hs : G.1 0 e = 1 ∨ G.1 0 e = 2) : gv_I K (gp_hear G e k) := by
  obtain ⟨a1, a2, a3, a4, a5, a6, a7, a8⟩ := hI
  obtain ⟨b1, b2, b3, b4, b5, b6⟩ := a5 e he
  have l1 := a6.1 k hk
  refine ⟨a1, a2, a3, a4, gv_up (e := e) a5 (fun e' q f => ?_) (fun e' q => rfl) ?_, a6, a7, a8⟩
  · simp only [gp_hear, gs_e q]
  · unfold gv_E
    simp +decide only [gp_hear, gs_s, gs_f]
    refine ⟨b1, b2, ?_, b4, b5, ?_⟩
    · unfold gv_c at *; omega
    · unfold gv_r at *
      obtain ⟨q1, q2, q3, q4, q5, q6, q7, q8, q9, qa, qb, qc⟩ := b6
      exact ⟨by omega, by omega, by omega, by omega, q5, q6, by omega, q8, by omega, qa, by omega, fun p z => by have := qc p z; omega⟩
theorem iv_toListen {K : Int} {G : gm_T} {e k : Nat} (hI : gv_I K G) (he : e < 2) (hk : k < 32) (hs : G.1 0 e = 1) : gv_I K (gp_toListen G e k) := by
  have l1 := hI.2.2.2.2.2.1.1 k hk
  unfold gp_toListen
  split
  · exact hI
  · split
    · exact iv_rst hI he (by omega) (by omega) (by omega)
    · split
      · have h1 := iv_hear hI he hk (Or.inl hs)
        refine iv_syn ?_ he (Or.inr rfl) (fun _ => ?_)
        · have e1 : gs_c (gp_hear G e k).1 0 e 1 = (gp_hear G e k).1 := by
            funext f e'
            by_cases q : f = 0 ∧ e' = e
            · obtain ⟨rfl, rfl⟩ := q
              rw [gs_s]; simp +decide only [gp_hear, gs_f]; exact hs.symm
            · exact if_neg q
          show gv_I K (gs_c (gp_hear G e k).1 0 e 1, (gp_hear G e k).2)
          rw [e1]; exact h1
        · simp +decide only [gp_hear, gs_s, gs_f]
          obtain ⟨b1, b2, b3, b4, b5, b6⟩ := hI.2.2.2.2.1 e he
          unfold gv_r at b6; omega
      · exact hI
theorem iv_toClosed {K : Int} {G : gm_T} {e k : Nat} (hI : gv_I K G) (he : e < 2) (hk : k < 32) : gv_I K (gp_toClosed G e k) := by
  have l1 := hI.2.2.2.2.2.1.1 k hk
  unfold gp_toClosed
  split
  · exact hI
  · split
    · exact iv_rst hI he (by omega) (by omega) (by omega)
    · exact iv_rst hI he (by omega) (by omega) (by omega)
theorem iv_reset {K : Int} {G : gm_T} {e : Nat} (hI : gv_I K G) (he : e < 2) : gv_I K (gp_reset G e) := iv_over hI he (by split <;> omega) (by split <;> omega)
theorem iv_opened {K : Int} {G : gm_T} {e : Nat} (hI : gv_I K G) (he : e < 2) (hs : G.1 0 e = 2) (hu : G.1 10 e + G.1 9 e = G.1 8 e) : gv_I K (gp_put (gp_tmeas (gp_opened G e) e) 0 e 4) := by
  obtain ⟨a1, a2, a3, a4, a5, a6, a7, a8⟩ := hI
  obtain ⟨b1, b2, b3, b4, b5, b6⟩ := a5 e he
  have hT : (gp_opened G e).1 24 e = G.1 24 e := by simp +decide only [gp_opened, gs_f]
  have hr : 2 ≤ gp_rt (gp_opened G e) e ∧ gp_rt (gp_opened G e) e ≤ 64 := by unfold gp_rt; split <;> (try split) <;> omega
  unfold gp_tmeas
  rw [hT]
  by_cases z : 0 ≤ G.1 24 e
  · rw [if_pos z]
    have hso : 0 ≤ gp_so (gp_opened G e) e ∧ gp_so (gp_opened G e) e ≤ 8 * gm_N G := by
      unfold gp_so; simp +decide only [gp_opened, gs_f, gm_N]; unfold gv_t at b5; split <;> omega
    have hva : 0 ≤ gp_va (gp_opened G e) e ∧ gp_va (gp_opened G e) e ≤ 4 * gm_N G + 3 := by
      unfold gp_va; simp +decide only [gp_opened, gs_f, gm_N]; unfold gv_t at b5; split <;> (try split) <;> omega
    refine ⟨a1, a2, a3, a4, gv_up (e := e) a5 (fun e' q f => ?_) (fun e' q => rfl) ?_, a6, a7, a8⟩
    · simp only [gp_put, gp_meas, gp_opened, gs_e q]
    · unfold gv_E
      generalize gp_so (gp_opened G e) e = so at *
      generalize gp_va (gp_opened G e) e = va at *
      simp +decide only [gp_put, gp_meas, gs_s, gs_f]
      generalize gp_rt (gp_opened G e) e = rt at *
      simp +decide only [gp_opened, gs_s, gs_f]
      refine ⟨?_, ?_, ?_, ?_, ?_, ?_⟩
      · unfold gv_a at *; omega
      · unfold gv_p at *; omega
      · unfold gv_c at *; omega
      · unfold gv_d at *; omega
      · unfold gv_t at *; omega
      · unfold gv_r at *
        obtain ⟨q1, q2, q3, q4, q5, q6, q7, q8, q9, qa, qb, qc⟩ := b6
        exact ⟨q1, q2, q3, q4, q5, q6, q7, by omega, by omega, qa, by omega, fun p z => by have := qc p z; omega⟩
  · rw [if_neg z]
    refine ⟨a1, a2, a3, a4, gv_up (e := e) a5 (fun e' q f => ?_) (fun e' q => rfl) ?_, a6, a7, a8⟩
    · simp only [gp_put, gp_opened, gs_e q]
    · unfold gv_E
      simp +decide only [gp_put, gp_opened, gs_s, gs_f]
      refine ⟨?_, ?_, ?_, ?_, ?_, ?_⟩
      · unfold gv_a at *; omega
      · unfold gv_p at *; omega
      · unfold gv_c at *; omega
      · unfold gv_d at *; omega
      · unfold gv_t at *; omega
      · unfold gv_r at *
        obtain ⟨q1, q2, q3, q4, q5, q6, q7, q8, q9, qa, qb, qc⟩ := b6
        exact ⟨q1, q2, q3, q4, q5, q6, q7, by omega, by omega, qa, by omega, fun p z => by have := qc p z; omega⟩
theorem iv_half {K : Int} {G : gm_T} {e : Nat} (hI : gv_I K G) (he : e < 2) (hs : G.1 0 e = 2) (hu : G.1 10 e + G.1 9 e = G.1 8 e) : gv_I K (gp_put G 0 e 3) := by
  obtain ⟨b1, b2, b3, b4, b5, b6⟩ := hI.2.2.2.2.1 e he
  refine iv_put hI ?_
  unfold gv_E
  simp +decide only [gs_s, gs_f]
  refine ⟨?_, ?_, ?_, ?_, ?_, ?_⟩
  · unfold gv_a at *; omega
  · unfold gv_p at *; omega
  · unfold gv_c at *; omega
  · unfold gv_d at *; omega
  · unfold gv_t at *; omega
  · unfold gv_r at *
    obtain ⟨q1, q2, q3, q4, q5, q6, q7, q8, q9, qa, qb, qc⟩ := b6
    exact ⟨q1, q2, q3, q4, q5, q6, q7, by omega, by omega, qa, by omega, fun p z => by have := qc p z; omega⟩
theorem iv_toOpen {K : Int} {G : gm_T} {e k : Nat} (hI : gv_I K G) (he : e < 2) (hk : k < 32) (hs : G.1 0 e = 2) : gv_I K (gp_toOpen G e k) := by
  have l1 := hI.2.2.2.2.2.1.1 k hk
  have hh := iv_hear hI he hk (Or.inr hs)
  have h2 : (gp_hear G e k).1 0 e = 2 := by simp +decide only [gp_hear, gs_f]; exact hs
  have h3 : (gp_hear G e k).1 10 e + (gp_hear G e k).1 9 e = (gp_hear G e k).1 8 e := by
    simp +decide only [gp_hear, gs_s, gs_f]
    obtain ⟨b1, b2, b3, b4, b5, b6⟩ := hI.2.2.2.2.1 e he
    unfold gv_r at b6; omega
  unfold gp_toOpen
  split
  · split
    · exact hI
    · exact iv_rst hI he (by omega) (by omega) (by omega)
  · split
    · split
      · exact iv_reset hI he
      · exact hI
    · split
      · split
        · refine iv_flow (iv_ack (iv_opened hh he h2 h3) he ?_) he
          show 2 ≤ gs_c _ _ _ _ _ _
          rw [gs_s]; decide
        · have h4 := iv_half hh he h2 h3
          refine iv_flow (iv_send h4 he ?_ (Or.inr (Or.inl rfl)) (by omega) (by omega) (Or.inl ?_)) he
          · show 2 ≤ gs_c _ _ _ _ _ _
            rw [gs_s]; decide
          · rw [pu_f (by decide), show gp_len 1 0 = 1 from by decide]
            obtain ⟨b1, b2, b3, b4, b5, b6⟩ := hh.2.2.2.2.1 e he
            unfold gv_p at b2; omega
      · exact hI
end
section
/-! the bounds last: acknowledgements, windows, time -/
theorem iv_adv12 {K : Int} {G : gm_T} {e : Nat} {a : Int} (hI : gv_I K G) (he : e < 2) (hs : 4 ≤ G.1 0 e) (ha : 0 < a) (ham : a ≤ G.1 5 e - G.1 3 e) (h3 : G.1 0 e = 3 → a = 1) : gv_I K (gp_adv2 (gp_adv1 G e a) e) := by
  obtain ⟨a1, a2, a3, a4, a5, a6, a7, a8⟩ := hI
  obtain ⟨b1, b2, b3, b4, b5, b6⟩ := a5 e he
  have hT : (gp_adv1 G e a).1 24 e = G.1 24 e := by simp +decide only [gp_adv1, gp_put, gs_f]
  have hU : (gp_adv1 G e a).1 3 e = G.1 3 e + a := by simp +decide only [gp_adv1, gp_put, gs_s, gs_f]
  have hr : 2 ≤ gp_rt (gp_adv1 G e a) e ∧ gp_rt (gp_adv1 G e a) e ≤ 64 := by unfold gp_rt; split <;> (try split) <;> omega
  unfold gp_adv2
  rw [hT, hU]
  by_cases z : 0 ≤ G.1 24 e ∧ G.1 24 e < G.1 3 e + a
  · rw [if_pos z]
    have hso : 0 ≤ gp_so (gp_adv1 G e a) e ∧ gp_so (gp_adv1 G e a) e ≤ 8 * gm_N G := by
      unfold gp_so; simp +decide only [gp_adv1, gp_put, gs_f, gm_N]; unfold gv_t at b5; split <;> omega
    have hva : 0 ≤ gp_va (gp_adv1 G e a) e ∧ gp_va (gp_adv1 G e a) e ≤ 4 * gm_N G + 3 := by
      unfold gp_va; simp +decide only [gp_adv1, gp_put, gs_f, gm_N]; unfold gv_t at b5; split <;> (try split) <;> omega
    refine ⟨a1, a2, a3, a4, gv_up (e := e) a5 (fun e' q f => ?_) (fun e' q => rfl) ?_, a6, a7, a8⟩
    · simp only [gp_put, gp_meas, gp_adv1, gs_e q]
    · unfold gv_E
      simp +decide only [gp_meas, gs_s, gs_f]
      generalize gp_so (gp_adv1 G e a) e = so at *
      generalize gp_va (gp_adv1 G e a) e = va at *
      generalize gp_rt (gp_adv1 G e a) e = rt at *
      simp +decide only [gp_adv1, gp_put, gs_s, gs_f]
      refine ⟨?_, ?_, ?_, ?_, ?_, ?_⟩
      · unfold gv_a at *; omega
      · unfold gv_p at *; omega
      · unfold gv_c at *; omega
      · unfold gv_d at *; omega
      · unfold gv_t at *; omega
      · unfold gv_r at *
        obtain ⟨q1, q2, q3, q4, q5, q6, q7, q8, q9, qa, qb, qc⟩ := b6
        exact ⟨q1, q2, q3, q4, q5, q6, q7, by omega, by omega, qa, by omega, fun p z => by have := qc p z; omega⟩
  · rw [if_neg z]
    refine ⟨a1, a2, a3, a4, gv_up (e := e) a5 (fun e' q f => ?_) (fun e' q => rfl) ?_, a6, a7, a8⟩
    · simp only [gp_put, gp_adv1, gs_e q]
    · unfold gv_E
      simp +decide only [gp_adv1, gp_put, gs_s, gs_f]
      refine ⟨?_, ?_, ?_, ?_, ?_, ?_⟩
      · unfold gv_a at *; omega
      · unfold gv_p at *; omega
      · unfold gv_c at *; omega
      · unfold gv_d at *; omega
      · unfold gv_t at *; omega
      · unfold gv_r at *
        obtain ⟨q1, q2, q3, q4, q5, q6, q7, q8, q9, qa, qb, qc⟩ := b6
        exact ⟨q1, q2, q3, q4, q5, q6, q7, by omega, by omega, qa, by omega, fun p z => by have := qc p z; omega⟩
theorem iv_adv12e {K : Int} {G : gm_T} {e : Nat} {a : Int} (hI : gv_I K G) (he : e < 2) (hs : G.1 0 e = 3) (ha : 0 < a) (ham : a ≤ G.1 5 e - G.1 3 e) (h3 : G.1 0 e = 3 → a = 1) : gv_I K (gp_adv2 (gp_adv1 (gp_put G 0 e 4) e a) e) := by
  obtain ⟨a1, a2, a3, a4, a5, a6, a7, a8⟩ := hI
  obtain ⟨b1, b2, b3, b4, b5, b6⟩ := a5 e he
  have hT : (gp_adv1 (gp_put G 0 e 4) e a).1 24 e = G.1 24 e := by simp +decide only [gp_adv1, gp_put, gs_f]
  have hU : (gp_adv1 (gp_put G 0 e 4) e a).1 3 e = G.1 3 e + a := by simp +decide only [gp_adv1, gp_put, gs_s, gs_f]
  have hr : 2 ≤ gp_rt (gp_adv1 (gp_put G 0 e 4) e a) e ∧ gp_rt (gp_adv1 (gp_put G 0 e 4) e a) e ≤ 64 := by unfold gp_rt; split <;> (try split) <;> omega
  unfold gp_adv2
  rw [hT, hU]
  by_cases z : 0 ≤ G.1 24 e ∧ G.1 24 e < G.1 3 e + a
  · rw [if_pos z]
    have hso : 0 ≤ gp_so (gp_adv1 (gp_put G 0 e 4) e a) e ∧ gp_so (gp_adv1 (gp_put G 0 e 4) e a) e ≤ 8 * gm_N G := by
      unfold gp_so; simp +decide only [gp_adv1, gp_put, gs_f, gm_N]; unfold gv_t at b5; split <;> omega
    have hva : 0 ≤ gp_va (gp_adv1 (gp_put G 0 e 4) e a) e ∧ gp_va (gp_adv1 (gp_put G 0 e 4) e a) e ≤ 4 * gm_N G + 3 := by
      unfold gp_va; simp +decide only [gp_adv1, gp_put, gs_f, gm_N]; unfold gv_t at b5; split <;> (try split) <;> omega
    refine ⟨a1, a2, a3, a4, gv_up (e := e) a5 (fun e' q f => ?_) (fun e' q => rfl) ?_, a6, a7, a8⟩
    · simp only [gp_put, gp_meas, gp_adv1, gs_e q]
    · unfold gv_E
      simp +decide only [gp_meas, gs_s, gs_f]
      generalize gp_so (gp_adv1 (gp_put G 0 e 4) e a) e = so at *
      generalize gp_va (gp_adv1 (gp_put G 0 e 4) e a) e = va at *
      generalize gp_rt (gp_adv1 (gp_put G 0 e 4) e a) e = rt at *
      simp +decide only [gp_adv1, gp_put, gs_s, gs_f]
      refine ⟨?_, ?_, ?_, ?_, ?_, ?_⟩
      · unfold gv_a at *; omega
      · unfold gv_p at *; omega
      · unfold gv_c at *; omega
      · unfold gv_d at *; omega
      · unfold gv_t at *; omega
      · unfold gv_r at *
        obtain ⟨q1, q2, q3, q4, q5, q6, q7, q8, q9, qa, qb, qc⟩ := b6
        exact ⟨q1, q2, q3, q4, q5, q6, q7, by omega, by omega, qa, by omega, fun p z => by have := qc p z; omega⟩
  · rw [if_neg z]
    refine ⟨a1, a2, a3, a4, gv_up (e := e) a5 (fun e' q f => ?_) (fun e' q => rfl) ?_, a6, a7, a8⟩
    · simp only [gp_put, gp_adv1, gs_e q]
    · unfold gv_E
      simp +decide only [gp_adv1, gp_put, gs_s, gs_f]
      refine ⟨?_, ?_, ?_, ?_, ?_, ?_⟩
      · unfold gv_a at *; omega
      · unfold gv_p at *; omega
      · unfold gv_c at *; omega
      · unfold gv_d at *; omega
      · unfold gv_t at *; omega
      · unfold gv_r at *
        obtain ⟨q1, q2, q3, q4, q5, q6, q7, q8, q9, qa, qb, qc⟩ := b6
        exact ⟨q1, q2, q3, q4, q5, q6, q7, by omega, by omega, qa, by omega, fun p z => by have := qc p z; omega⟩
theorem iv_adv3 {K : Int} {G : gm_T} {e : Nat} (hI : gv_I K G) (he : e < 2) (hs : 4 ≤ G.1 0 e) : gv_I K (gp_adv3 G e) := by
  obtain ⟨a1, a2, a3, a4, a5, a6, a7, a8⟩ := hI
  obtain ⟨b1, b2, b3, b4, b5, b6⟩ := a5 e he
  have hx : 0 ≤ 64 / G.1 16 e := Int.ediv_nonneg (by omega) (by unfold gv_c at b3; omega)
  refine ⟨a1, a2, a3, a4, gv_up (e := e) a5 (fun e' q f => ?_) (fun e' q => rfl) ?_, a6, a7, a8⟩
  · simp only [gp_adv3, gs_e q]
  · unfold gv_E
    simp +decide only [gp_adv3, gs_s, gs_f]
    generalize 64 / G.1 16 e = dv at *
    refine ⟨b1, b2, ?_, ?_, b5, b6⟩
    · unfold gv_c at *; split <;> (try split) <;> omega
    · unfold gv_c gv_d at *; split <;> omega
theorem iv_stput {K : Int} {G : gm_T} {e : Nat} {s : Int} (hI : gv_I K G) (he : e < 2) (h : (G.1 0 e = 5 ∧ s = 6) ∨ (G.1 0 e = 4 ∧ s = 7 ∧ G.1 11 e < 0 ∧ ∀ p, gm_H G e p = false) ∨ (G.1 0 e = 5 ∧ s = 8 ∧ G.1 11 e < 0 ∧ ∀ p, gm_H G e p = false)) : gv_I K (gp_put G 0 e s) := by
  obtain ⟨b1, b2, b3, b4, b5, b6⟩ := hI.2.2.2.2.1 e he
  refine iv_put hI ?_
  unfold gv_E
  simp +decide only [gs_s, gs_f]
  refine ⟨?_, ?_, ?_, ?_, ?_, ?_⟩
  · unfold gv_a at *; omega
  · unfold gv_p at *; omega
  · unfold gv_c at *; omega
  · unfold gv_d at *; omega
  · unfold gv_t at *; omega
  · unfold gv_r at *
    obtain ⟨q1, q2, q3, q4, q5, q6, q7, q8, q9, qa, qb, qc⟩ := b6
    refine ⟨q1, q2, q3, q4, q5, q6, q7, by omega, by omega, qa, by omega, fun p z => ?_⟩
    have := qc p z
    rcases h with h | h | h
    · omega
    · have := h.2.2.2 p; rw [z] at this; cases this
    · have := h.2.2.2 p; rw [z] at this; cases this
theorem iv_wait {K : Int} {G : gm_T} {e : Nat} (hI : gv_I K G) (he : e < 2) (h : G.1 0 e = 8 ∨ (G.1 0 e = 6 ∧ G.1 11 e < 0 ∧ ∀ p, gm_H G e p = false)) : gv_I K (gp_wait G e) := by
  obtain ⟨a1, a2, a3, a4, a5, a6, a7, a8⟩ := hI
  obtain ⟨b1, b2, b3, b4, b5, b6⟩ := a5 e he
  refine ⟨a1, a2, a3, a4, gv_up (e := e) a5 (fun e' q f => ?_) (fun e' q => rfl) ?_, a6, a7, a8⟩
  · simp only [gp_wait, gs_e q]
  · unfold gv_E
    simp +decide only [gp_wait, gs_s, gs_f]
    refine ⟨?_, ?_, ?_, ?_, ?_, ?_⟩
    · unfold gv_a at *; omega
    · unfold gv_p at *; omega
    · unfold gv_c at *; omega
    · unfold gv_d at *; omega
    · unfold gv_t at *; omega
    · unfold gv_r at *
      obtain ⟨q1, q2, q3, q4, q5, q6, q7, q8, q9, qa, qb, qc⟩ := b6
      refine ⟨q1, q2, q3, q4, q5, q6, q7, by omega, by omega, qa, by omega, fun p z => ?_⟩
      have := qc p z
      rcases h with h | h
      · omega
      · have := h.2.2 p; rw [z] at this; cases this
theorem iv_finack {K : Int} {G : gm_T} {e : Nat} (hI : gv_I K G) (he : e < 2) : gv_I K (gp_finack G e) := by
  unfold gp_finack
  obtain ⟨b1, b2, b3, b4, b5, b6⟩ := hI.2.2.2.2.1 e he
  split
  · split
    · rename_i h; exact iv_stput hI he (Or.inl ⟨h, rfl⟩)
    · split
      · rename_i h; exact iv_wait hI he (Or.inl h)
      · split
        · exact iv_over hI he (by unfold gv_a at b1; omega) (by unfold gv_a at b1; omega)
        · exact hI
  · exact hI
theorem a1_ST {G : gm_T} {e : Nat} {a : Int} : (gp_adv2 (gp_adv1 G e a) e).1 0 e = G.1 0 e := by
  unfold gp_adv2; split <;> simp +decide only [gp_meas, gp_adv1, gs_f]
theorem iv_adv {K : Int} {G : gm_T} {e : Nat} {a : Int} (hI : gv_I K G) (he : e < 2) (hs : 3 ≤ G.1 0 e) (ha : 0 < a) (ham : a ≤ G.1 5 e - G.1 3 e) (h3 : G.1 0 e = 3 → a = 1) : gv_I K (gp_adv (gp_est G e) e a) := by
  unfold gp_adv gp_est
  by_cases q : G.1 0 e = 3
  · rw [if_pos q]
    refine iv_finack (iv_adv3 (iv_adv12e hI he q ha ham h3) he ?_) he
    rw [a1_ST]; show 4 ≤ gs_c _ _ _ _ _ _; rw [gs_s]; decide
  · rw [if_neg q]
    refine iv_finack (iv_adv3 (iv_adv12 hI he (by omega) ha ham h3) he ?_) he
    rw [a1_ST]; omega
theorem iv_again {K : Int} {G : gm_T} {e : Nat} (hI : gv_I K G) (he : e < 2) (hK : K + 1 ≤ 5000) (hs : 4 ≤ G.1 0 e) (hu : G.1 3 e ≠ G.1 5 e) : gv_I (K + 1) (gp_again G e) := by
  have hI1 := gv_mono (K' := K + 1) (by omega) hK hI
  obtain ⟨a1, a2, a3, a4, a5, a6, a7, a8⟩ := hI1
  obtain ⟨b1, b2, b3, b4, b5, b6⟩ := a5 e he
  have c3 := (hI.2.2.2.2.1 e he).2.2.1
  have hv : 8 ≤ gp_hv G e ∧ gp_hv G e ≤ 20 := by unfold gp_hv; unfold gv_p at b2; omega
  unfold gp_again
  split
  · have h1 : gv_I (K + 1) (gp_again1 G e) := by
      refine ⟨a1, a2, a3, a4, gv_up (e := e) a5 (fun e' q f => ?_) (fun e' q => rfl) ?_, a6, a7, a8⟩
      · simp only [gp_again1, gs_e q]
      · unfold gv_E
        simp +decide only [gp_again1, gs_s, gs_f]
        generalize gp_hv G e = hv at *
        refine ⟨b1, b2, ?_, b4, ?_, b6⟩
        · unfold gv_c at *; omega
        · unfold gv_t at *; omega
    have h2 : gv_I (K + 1) (gp_piece (gp_again1 G e) e) := iv_piece h1 he (by simp +decide only [gp_again1, gs_f]; exact hs) (by simp +decide only [gp_again1, gs_f]; unfold gv_p at b2; omega)
    obtain ⟨d1, d2, d3, d4, d5, d6⟩ := h2.2.2.2.2.1 e he
    refine iv_put h2 ?_
    unfold gv_E
    simp +decide only [gs_s, gs_f]
    refine ⟨d1, d2, ?_, d4, d5, d6⟩
    unfold gv_c at *
    omega
  · refine ⟨a1, a2, a3, a4, gv_up (e := e) a5 (fun e' q f => ?_) (fun e' q => rfl) ?_, a6, a7, a8⟩
    · simp only [gs_e q]
    · unfold gv_E
      simp +decide only [gs_s, gs_f]
      refine ⟨b1, b2, ?_, b4, b5, b6⟩
      unfold gv_c at *; split <;> omega
theorem iv_win {K : Int} {G : gm_T} {e k : Nat} (hI : gv_I K G) (he : e < 2) (hk : k < 32) : gv_I K (gp_win G e k) := by
  obtain ⟨a1, a2, a3, a4, a5, a6, a7, a8⟩ := hI
  obtain ⟨b1, b2, b3, b4, b5, b6⟩ := a5 e he
  have l1 := a6.1 k hk
  unfold gp_win
  split
  · refine ⟨a1, a2, a3, a4, gv_up (e := e) a5 (fun e' q f => ?_) (fun e' q => rfl) ?_, a6, a7, a8⟩
    · simp only [gs_e q]
    · unfold gv_E
      simp +decide only [gs_s, gs_f]
      refine ⟨b1, b2, ?_, b4, b5, b6⟩
      unfold gv_c at *; omega
  · exact ⟨a1, a2, a3, a4, a5, a6, a7, a8⟩
theorem iv_over' {K : Int} {G : gm_T} {e : Nat} {z : Int} (hI : gv_I K G) (he : e < 2) (h1 : 0 ≤ z) (h2 : z ≤ 6) : gv_I K (gp_over (gp_put G 20 e z) e 2) := by
  obtain ⟨a1, a2, a3, a4, a5, a6, a7, a8⟩ := hI
  obtain ⟨b1, b2, b3, b4, b5, b6⟩ := a5 e he
  refine ⟨a1, a2, a3, a4, gv_up (e := e) a5 (fun e' q f => ?_) (fun e' q => ?_) ?_, a6, a7, a8⟩
  · simp only [gp_over, gp_put, gs_e q]
  · exact nn_O q
  · have hh : gm_H (gp_over (gp_put G 20 e z) e 2) e = fun _ => false := nn_E
    unfold gv_E
    rw [hh]
    simp +decide only [gp_over, gp_put, gs_s, gs_f]
    refine ⟨?_, ?_, ?_, ?_, ?_, ?_⟩
    · unfold gv_a at *; omega
    · unfold gv_p at *; omega
    · unfold gv_c at *; omega
    · unfold gv_d at *; omega
    · unfold gv_t at *; omega
    · unfold gv_r at *
      obtain ⟨q1, q2, q3, q4, q5, q6, q7, q8⟩ := b6
      exact ⟨q1, q2, q3, q4, q5, q6, q7, by omega, by omega, by omega, by omega, fun p z => by cases z⟩
theorem iv_late {K : Int} {G : gm_T} {e : Nat} (hI : gv_I K G) (he : e < 2) (hs : 2 ≤ G.1 0 e) : gv_I K (gp_late G e) := by
  have hI0 := hI
  obtain ⟨a1, a2, a3, a4, a5, a6, a7, a8⟩ := hI
  obtain ⟨b1, b2, b3, b4, b5, b6⟩ := a5 e he
  unfold gp_late
  split
  · exact iv_over' hI0 he (by decide) (by decide)
  · rename_i hn
    have htr : 0 ≤ gp_tr G e ∧ gp_tr G e ≤ 5 := by unfold gp_tr; unfold gv_c at b3; split <;> omega
    have h1 : gv_I K (gp_late1 G e) := by
      refine ⟨a1, a2, a3, a4, gv_up (e := e) a5 (fun e' q f => ?_) (fun e' q => rfl) ?_, a6, a7, a8⟩
      · simp only [gp_late1, gs_e q]
      · unfold gv_E
        simp +decide only [gp_late1, gs_s, gs_f]
        generalize gp_tr G e = tr at *
        refine ⟨b1, b2, ?_, ?_, ?_, b6⟩
        · unfold gv_c at *; omega
        · unfold gv_c gv_d at *; omega
        · unfold gv_t at *; omega
    have hST : (gp_late1 G e).1 0 e = G.1 0 e := by simp +decide only [gp_late1, gs_f]
    have hUU : (gp_late1 G e).1 3 e = G.1 3 e := by simp +decide only [gp_late1, gs_f]
    have hMM : (gp_late1 G e).1 5 e = G.1 5 e := by simp +decide only [gp_late1, gs_f]
    split
    · exact iv_send h1 he (by omega) (Or.inl rfl) (by omega) (by omega) (Or.inr (Or.inl rfl))
    · rename_i hum
      split
      · refine iv_send h1 he (by omega) (Or.inr (Or.inl rfl)) (by omega) (by omega) (Or.inl ?_)
        rw [hMM, show gp_len 1 0 = 1 from by decide]; unfold gv_p at b2; omega
      · rename_i h4
        have hv : 8 ≤ gp_hv (gp_late1 G e) e ∧ gp_hv (gp_late1 G e) e ≤ 20 := by unfold gp_hv; rw [hUU, hMM]; unfold gv_p at b2; omega
        have h2 : gv_I K (gp_late2 (gp_late1 G e) e) := by
          obtain ⟨a1, a2, a3, a4, a5, a6, a7, a8⟩ := h1
          obtain ⟨b1, b2, b3, b4, b5, b6⟩ := a5 e he
          refine ⟨a1, a2, a3, a4, gv_up (e := e) a5 (fun e' q f => ?_) (fun e' q => rfl) ?_, a6, a7, a8⟩
          · simp only [gp_late2, gs_e q]
          · unfold gv_E
            simp +decide only [gp_late2, gs_s, gs_f]
            generalize gp_hv (gp_late1 G e) e = hv at *
            refine ⟨b1, ?_, ?_, b4, b5, b6⟩
            · rw [hUU, hST] at *; unfold gv_p at *; omega
            · unfold gv_c at *; omega
        split
        · exact iv_piece h2 he (by simp +decide only [gp_late2, gs_f]; omega) (by simp +decide only [gp_late2, gs_f]; rw [hUU, hMM]; unfold gv_p at b2; omega)
        · exact iv_flow h2 he
end
section
/-! the bounds last: bytes put in order -/
def gw_r (B ST IR RV UR UF FA : Int) (h : Int → Bool) : Prop :=
  0 ≤ IR ∧ IR ≤ 65535 ∧ 0 ≤ RV ∧ RV + (24 - UR) ≤ B ∧ 0 ≤ UR ∧ UR ≤ 24 ∧ 0 ≤ UF ∧ 4 ≤ ST ∧ ST ≤ 6 ∧ UF + UR = RV ∧ -1 ≤ FA ∧ (0 ≤ FA → RV ≤ FA ∧ FA < RV + 24 - UR) ∧ (∀ p, h p = true → RV ≤ p ∧ p < RV + 24 - UR)
def gw_I (B K : Int) (G : gm_T) (e : Nat) : Prop := 0 ≤ K ∧ K + 7 ≤ 5000 ∧ 0 ≤ gm_N G ∧ gm_N G ≤ 125 * K ∧ (∀ e', e' < 2 → e' ≠ e → gv_E K (gm_N G) G.1 (gm_H G) e')
  ∧ (gv_a (G.1 0 e) (G.1 1 e) (G.1 2 e) (G.1 30 e) ∧ gv_p K (G.1 0 e) (G.1 3 e) (G.1 4 e) (G.1 5 e) (G.1 6 e) (G.1 29 e) (G.1 31 e) (G.1 32 e) (G.1 33 e) ∧ gv_c K (G.1 0 e) (G.1 12 e) (G.1 13 e) (G.1 14 e) (G.1 15 e) (G.1 16 e) (G.1 17 e) (G.1 18 e) (G.1 34 e) (G.1 20 e) (G.1 35 e) (G.1 19 e) ∧ gv_d (gm_N G) (G.1 0 e) (G.1 21 e) (G.1 22 e) (G.1 23 e) ∧ gv_t (gm_N G) (G.1 0 e) (G.1 3 e) (G.1 5 e) (G.1 24 e) (G.1 25 e) (G.1 26 e) (G.1 27 e) (G.1 28 e))
  ∧ gw_r B (G.1 0 e) (G.1 7 e) (G.1 8 e) (G.1 9 e) (G.1 10 e) (G.1 11 e) (gm_H G e) ∧ gv_L (gm_L G) (gm_D G) ∧ gv_W (gm_W G) ∧ gv_W (gm_B G)
theorem nw_e {G : gm_T} {e k : Nat} {o m p : Int} : gp_new G e k o m p = true ↔ (0 ≤ p - G.1 8 e - o ∧ p - G.1 8 e - o < m ∧ 0 ≤ p - G.1 8 e ∧ p - G.1 8 e < 24 - G.1 9 e ∧ (G.1 11 e < 0 ∨ p < G.1 11 e)) := by
  unfold gp_new; exact decide_eq_true_iff
theorem iv_hold {K : Int} {G : gm_T} {e k : Nat} {o : Int} (hI : gv_I K G) (he : e < 2) (hk : k < 32) (hK : K + 7 ≤ 5000) (h4 : 4 ≤ G.1 0 e) (h6 : G.1 0 e ≤ 6) : gw_I (4 * K + 28) K (gp_hold G e k o) e := by
  obtain ⟨a1, a2, a3, a4, a5, a6, a7, a8⟩ := hI
  obtain ⟨b1, b2, b3, b4, b5, b6⟩ := a5 e he
  have l1 := a6.1 k hk
  refine ⟨a1, hK, a3, a4, fun e' he' q => ?_, ⟨b1, b2, b3, b4, b5⟩, ?_, a6, a7, ?_⟩
  · exact gv_o (fun f => gs_e q) (hh_O q) (a5 e' he')
  · have hh : gm_H (gp_hold G e k o) e = fun p => gm_H G e p || gp_new G e k o (gm_L G 4 k) p := hh_E
    rw [hh]
    show gw_r _ (G.1 0 e) (G.1 7 e) (G.1 8 e) (G.1 9 e) (G.1 10 e) (gs_c G.1 11 e _ 11 e) _
    rw [gs_s]
    unfold gv_r at b6
    obtain ⟨q1, q2, q3, q4, q5, q6, q7, q8, q9, qa, qb, qc⟩ := b6
    refine ⟨q1, q2, q3, by omega, q5, q6, q7, h4, h6, q9 (by omega) h6, ?_, ?_, fun p z => ?_⟩
    · split <;> omega
    · split <;> omega
    · rw [Bool.or_eq_true, nw_e] at z
      rcases z with z | z
      · have := qc p z; omega
      · omega
  · intro e' he' p
    have hb : gm_B (gp_hold G e k o) e' p = if e' = e then (if gm_H G e p = false ∧ gp_new G e k o (gm_L G 4 k) p = true then gm_D G (8 * k + (p - G.1 8 e - o).toNat) else gm_B G e p) else gm_B G e' p := rfl
    rw [hb]
    split
    · split
      · rename_i z
        have := nw_e.mp z.2
        exact a6.2 _ (by omega)
      · exact a8 e he p
    · exact a8 e' he' p
theorem iv_gstep {B K : Int} {G : gm_T} {e : Nat} (hI : gw_I B K G e) (h : gm_H G e (G.1 8 e) = true) (h2 : G.1 8 e ≠ G.1 11 e) : gw_I B K (gp_gstep G e) e := by
  obtain ⟨a1, a2, a3, a4, a5, ⟨b1, b2, b3, b4, b5⟩, b6, a6, a7, a8⟩ := hI
  refine ⟨a1, a2, a3, a4, fun e' he' q => ?_, ⟨b1, b2, b3, b4, b5⟩, ?_, a6, a7, a8⟩
  · refine gv_o (fun f => ?_) ?_ (a5 e' he' q)
    · show gs_c (gs_c _ _ _ _) _ _ _ _ _ = _
      rw [gs_e q, gs_e q]
    · exact hh_O q
  · have hh : gm_H (gp_gstep G e) e = fun p => if p = G.1 8 e then false else gm_H G e p := hh_E
    rw [hh]
    simp +decide only [gp_gstep, gs_s, gs_f]
    obtain ⟨q1, q2, q3, q4, q5, q6, q7, q8, q9, qa, qb, qc, qd⟩ := b6
    have h0 := qd _ h
    refine ⟨q1, q2, by omega, by omega, by omega, by omega, q7, q8, q9, by omega, qb, fun z => ?_, fun p z => ?_⟩
    · have := qc z; omega
    · dsimp only at z
      split at z
      · cases z
      · rename_i ne
        have := qd p z; omega
theorem gs_st {G : gm_T} {e : Nat} {f : Nat} (h1 : f ≠ 9) (h2 : f ≠ 8) (e' : Nat) : (gp_gstep G e).1 f e' = G.1 f e' := by
  show gs_c (gs_c _ _ _ _) _ _ _ _ _ = _
  rw [gs_f h2, gs_f h1]
theorem iv_gloop {B K : Int} {e : Nat} : ∀ (k : Nat) (G : gm_T), gw_I B K G e → 24 - G.1 9 e ≤ k → gw_I B K (gp_gloop k G e) e ∧ ¬ (gm_H (gp_gloop k G e) e ((gp_gloop k G e).1 8 e) = true ∧ (gp_gloop k G e).1 8 e ≠ (gp_gloop k G e).1 11 e) := by
  intro k
  induction k with
  | zero =>
    intro G hI hk
    refine ⟨hI, fun z => ?_⟩
    obtain ⟨a1, a2, a3, a4, a5, a9, b6, a6, a7, a8⟩ := hI
    obtain ⟨q1, q2, q3, q4, q5, q6, q7, q8, q9, qa, qb, qc, qd⟩ := b6
    have := qd _ z.1
    have e0 : (gp_gloop 0 G e).1 8 e = G.1 8 e := rfl
    omega
  | succ k ih =>
    intro G hI hk
    unfold gp_gloop
    split
    · rename_i z
      refine ih _ (iv_gstep hI z.1 z.2) ?_
      simp +decide only [gp_gstep, gs_s, gs_f]; omega
    · rename_i z
      exact ⟨hI, z⟩
theorem gl_f {f : Nat} (h1 : f ≠ 9) (h2 : f ≠ 8) : ∀ (k : Nat) (G : gm_T) (e e' : Nat), (gp_gloop k G e).1 f e' = G.1 f e' := by
  intro k
  induction k with
  | zero => intro G e e'; rfl
  | succ k ih =>
    intro G e e'
    unfold gp_gloop
    split
    · rw [ih, gs_st h1 h2]
    · rfl
theorem iv_gfin {K : Int} {G : gm_T} {e : Nat} (hI : gw_I (4 * K + 28) K G e) (he : e < 2) (hn : ¬ (gm_H G e (G.1 8 e) = true ∧ G.1 8 e ≠ G.1 11 e)) : gv_I (K + 7) (gp_gfin G e) := by
  obtain ⟨a1, a2, a3, a4, a5, ⟨b1, b2, b3, b4, b5⟩, b6, a6, a7, a8⟩ := hI
  obtain ⟨q1, q2, q3, q4, q5, q6, q7, q8, q9, qa, qb, qc, qd⟩ := b6
  have oth : ∀ e', e' < 2 → e' ≠ e → gv_E (K + 7) (gm_N G) G.1 (gm_H G) e' := by
    intro e' he' q
    obtain ⟨b1, b2, b3, b4, b5, b6⟩ := a5 e' he' q
    refine ⟨b1, ?_, ?_, b4, b5, ?_⟩
    · unfold gv_p at *; omega
    · unfold gv_c at *; omega
    · unfold gv_r at *
      obtain ⟨q1, q2, q3, q4, qe⟩ := b6
      exact ⟨q1, q2, q3, by omega, qe⟩
  unfold gp_gfin
  by_cases z : G.1 8 e = G.1 11 e
  · rw [if_pos z]
    have hst : (gp_gend G e).1 0 e = G.1 0 e := by simp +decide only [gp_gend, gs_f]
    have hh : ∀ G', gm_H G' = gm_H (gp_gend G e) → gm_H G' e = fun _ => false := fun G' hG => by rw [hG]; exact nn_E
    have ho : ∀ e', e' ≠ e → gm_H (gp_gend G e) e' = gm_H G e' := fun e' q => nn_O q
    unfold gp_gst
    rw [hst]
    split
    · refine ⟨by omega, by omega, a3, by show gm_N G ≤ _; omega, fun e' he' => ?_, a6, a7, a8⟩
      by_cases q : e' = e
      · rw [q]
        unfold gv_E
        rw [show gm_H (gp_put (gp_gend G e) 0 e 7) e = fun _ => false from hh _ rfl]
        simp +decide only [gp_put, gp_gend, gs_s, gs_f]
        refine ⟨?_, ?_, ?_, ?_, ?_, ?_⟩
        · unfold gv_a at *; omega
        · unfold gv_p at *; omega
        · unfold gv_c at *; omega
        · unfold gv_d at *; omega
        · unfold gv_t at *; omega
        · unfold gv_r; exact ⟨q1, q2, by omega, by omega, q5, q6, q7, by omega, by omega, by omega, by omega, fun p z => by cases z⟩
      · exact gv_o (fun f => by simp only [gp_put, gp_gend, gs_e q]) (ho e' q) (oth e' he' q)
    · split
      · refine ⟨by omega, by omega, a3, by show gm_N G ≤ _; omega, fun e' he' => ?_, a6, a7, a8⟩
        by_cases q : e' = e
        · rw [q]
          unfold gv_E
          rw [show gm_H (gp_put (gp_gend G e) 0 e 8) e = fun _ => false from hh _ rfl]
          simp +decide only [gp_put, gp_gend, gs_s, gs_f]
          refine ⟨?_, ?_, ?_, ?_, ?_, ?_⟩
          · unfold gv_a at *; omega
          · unfold gv_p at *; omega
          · unfold gv_c at *; omega
          · unfold gv_d at *; omega
          · unfold gv_t at *; omega
          · unfold gv_r; exact ⟨q1, q2, by omega, by omega, q5, q6, q7, by omega, by omega, by omega, by omega, fun p z => by cases z⟩
        · exact gv_o (fun f => by simp only [gp_put, gp_gend, gs_e q]) (ho e' q) (oth e' he' q)
      · refine ⟨by omega, by omega, a3, by show gm_N G ≤ _; omega, fun e' he' => ?_, a6, a7, a8⟩
        by_cases q : e' = e
        · rw [q]
          unfold gv_E
          rw [show gm_H (gp_wait (gp_gend G e) e) e = fun _ => false from hh _ rfl]
          simp +decide only [gp_wait, gp_gend, gs_s, gs_f]
          refine ⟨?_, ?_, ?_, ?_, ?_, ?_⟩
          · unfold gv_a at *; omega
          · unfold gv_p at *; omega
          · unfold gv_c at *; omega
          · unfold gv_d at *; omega
          · unfold gv_t at *; omega
          · unfold gv_r; exact ⟨q1, q2, by omega, by omega, q5, q6, q7, by omega, by omega, by omega, by omega, fun p z => by cases z⟩
        · exact gv_o (fun f => by simp only [gp_wait, gp_gend, gs_e q]) (ho e' q) (oth e' he' q)
  · rw [if_neg z]
    have hr : gm_H G e (G.1 8 e) = true → False := fun w => hn ⟨w, z⟩
    refine ⟨by omega, by omega, a3, by omega, fun e' he' => ?_, a6, a7, a8⟩
    by_cases q : e' = e
    · rw [q]
      refine ⟨b1, ?_, ?_, b4, b5, ?_⟩
      · unfold gv_p at *; omega
      · unfold gv_c at *; omega
      · refine ⟨q1, q2, q3, by omega, q5, q6, q7, by omega, by omega, qb, fun w => by have := qc w; omega, fun p w => ?_⟩
        have h1 := qd p w
        have h2 : p ≠ G.1 8 e := fun h => hr (h ▸ w)
        omega
    · exact oth e' he' q
theorem iv_take {K : Int} {G : gm_T} {e k : Nat} {o : Int} (hI : gv_I K G) (he : e < 2) (hk : k < 32) (hK : K + 7 ≤ 5000) : gv_I (K + 7) (gp_take G e k o) := by
  unfold gp_take
  split
  · have h1 := iv_hold (o := o) hI he hk hK (by omega) (by omega)
    have h2 := iv_gloop 24 _ h1 (by
      simp +decide only [gp_hold, gp_hold1, gp_put, gs_f]
      have := (hI.2.2.2.2.1 e he).2.2.2.2.2
      unfold gv_r at this
      omega)
    exact iv_gfin h2.1 he h2.2
  · exact gv_mono (by omega) hK hI
theorem tk_ST {G : gm_T} {e k : Nat} {o : Int} (h : 4 ≤ G.1 0 e) : 4 ≤ (gp_take G e k o).1 0 e := by
  unfold gp_take
  split
  · unfold gp_goOn gp_gfin
    have e1 : (gp_gloop 24 (gp_hold G e k o) e).1 0 e = G.1 0 e := by rw [gl_f (by decide) (by decide)]; simp +decide only [gp_hold, gp_hold1, gp_put, gs_f]
    split
    · have e2 : (gp_gend (gp_gloop 24 (gp_hold G e k o) e) e).1 0 e = G.1 0 e := by rw [← e1]; simp +decide only [gp_gend, gs_f]
      unfold gp_gst
      split
      · simp only [gp_put, gs_s]; decide
      · split
        · simp only [gp_put, gs_s]; decide
        · simp +decide only [gp_wait, gs_s, gs_f]
    · rw [e1]; exact h
  · exact h
theorem iv_setAK {K : Int} {G : gm_T} {e : Nat} {z : Int} (hI : gv_I K G) (he : e < 2) (hs : 3 ≤ G.1 0 e) (h1 : -1 ≤ z) (h2 : z ≤ gm_N G + 2) : gv_I K (gp_put G 22 e z) := by
  obtain ⟨b1, b2, b3, b4, b5, b6⟩ := hI.2.2.2.2.1 e he
  refine iv_put hI ⟨b1, b2, b3, ?_, b5, b6⟩
  show gv_d (gm_N G) (G.1 0 e) (G.1 21 e) (gs_c G.1 22 e z 22 e) (G.1 23 e)
  rw [gs_s]
  unfold gv_d at *
  omega
theorem tk_N {G : gm_T} {e k : Nat} {o : Int} : gm_N (gp_take G e k o) = gm_N G := by
  have gl : ∀ (j : Nat) (G : gm_T), gm_N (gp_gloop j G e) = gm_N G := by
    intro j
    induction j with
    | zero => intro G; rfl
    | succ j ih =>
      intro G
      unfold gp_gloop
      split
      · rw [ih]; rfl
      · rfl
  unfold gp_take
  split
  · unfold gp_goOn gp_gfin
    split
    · unfold gp_gst
      split
      · exact gl 24 _
      · split
        · exact gl 24 _
        · exact gl 24 _
    · exact gl 24 _
  · rfl
theorem iv_content {K : Int} {G : gm_T} {e k : Nat} {o : Int} (hI : gv_I K G) (he : e < 2) (hk : k < 32) (hK : K + 7 ≤ 5000) (h4 : 4 ≤ G.1 0 e) : gv_I (K + 7) (gp_content G e k o) := by
  have h1 := iv_take (o := o) hI he hk hK
  have h2 := tk_ST (k := k) (o := o) h4
  have h3 := hI.2.2.1
  unfold gp_content
  split
  · exact gv_mono (by omega) hK hI
  · split
    · exact iv_ack h1 he (by omega)
    · exact iv_setAK h1 he (by omega) (by omega) (by rw [tk_N]; omega)
theorem iv_same {K : Int} {G : gm_T} {e k : Nat} (hI : gv_I K G) (he : e < 2) (hK : K + 1 ≤ 5000) (hs : 4 ≤ G.1 0 e) : gv_I (K + 1) (gp_same G e k) := by
  unfold gp_same
  split
  · rename_i h; exact iv_again hI he hK hs h.2
  · exact gv_mono (by omega) hK hI
end
section
/-! the bounds last: a segment arrives, rows, time, calls; the other end stays -/
theorem ps_o {G : gm_T} {e e' : Nat} {a0 a1 a2 a3 a4 : Int} {g : Int → Int} (q : e' ≠ e) (f : Nat) : (gp_post G e a0 a1 a2 a3 a4 g).1 f e' = G.1 f e' := gs_e q
theorem rs_o {G : gm_T} {e e' : Nat} {a0 a1 a2 : Int} (q : e' ≠ e) (f : Nat) : (gp_rst G e a0 a1 a2).1 f e' = G.1 f e' := gs_e q
theorem pu_o {G : gm_T} {e e' g : Nat} {z : Int} (q : e' ≠ e) (f : Nat) : (gp_put G g e z).1 f e' = G.1 f e' := gs_e q
theorem lo_o {e e' : Nat} (q : e' ≠ e) (f : Nat) : ∀ (k : Nat) (G : gm_T), (gp_loop k G e).1 f e' = G.1 f e' := by
  intro k
  induction k with
  | zero => intro G; rfl
  | succ k ih =>
    intro G
    unfold gp_loop
    split
    · rw [ih]; show gs_c _ _ _ _ _ _ = _; rw [gs_e q, sd_o q]
    · rfl
theorem fl_o {G : gm_T} {e e' : Nat} (q : e' ≠ e) (f : Nat) : (gp_flow G e).1 f e' = G.1 f e' := by
  unfold gp_flow
  split
  · show gs_c _ _ _ _ _ _ = _
    rw [gs_e q]
    unfold gp_fin
    split
    · show gs_c _ _ _ _ _ _ = _
      rw [gs_e q, sd_o q, lo_o q]
    · rw [lo_o q]
  · rfl
theorem pc_o {G : gm_T} {e e' : Nat} (q : e' ≠ e) (f : Nat) : (gp_piece G e).1 f e' = G.1 f e' := by
  unfold gp_piece
  split <;> rw [sd_o q]
theorem ms_o {G : gm_T} {e e' : Nat} (q : e' ≠ e) (f : Nat) : (gp_meas G e).1 f e' = G.1 f e' := by
  simp only [gp_meas, gs_e q]
theorem ov_o {G : gm_T} {e e' : Nat} {z : Int} (q : e' ≠ e) (f : Nat) : (gp_over G e z).1 f e' = G.1 f e' := by
  simp only [gp_over, gs_e q]
theorem he_o {G : gm_T} {e e' k : Nat} (q : e' ≠ e) (f : Nat) : (gp_hear G e k).1 f e' = G.1 f e' := by
  simp only [gp_hear, gs_e q]
theorem tc_o {G : gm_T} {e e' k : Nat} (q : e' ≠ e) (f : Nat) : (gp_toClosed G e k).1 f e' = G.1 f e' := by
  unfold gp_toClosed
  split
  · rfl
  · split <;> rw [rs_o q]
theorem tl_o {G : gm_T} {e e' k : Nat} (q : e' ≠ e) (f : Nat) : (gp_toListen G e k).1 f e' = G.1 f e' := by
  unfold gp_toListen
  split
  · rfl
  · split
    · rw [rs_o q]
    · split
      · rw [pu_o q, sd_o q, pu_o q, he_o q]
      · rfl
theorem to_o {G : gm_T} {e e' k : Nat} (q : e' ≠ e) (f : Nat) : (gp_toOpen G e k).1 f e' = G.1 f e' := by
  unfold gp_toOpen
  split
  · split
    · rfl
    · rw [rs_o q]
  · split
    · split
      · exact ov_o q f
      · rfl
    · split
      · split
        · rw [fl_o q]; unfold gp_ack; rw [sd_o q, pu_o q]
          unfold gp_tmeas
          split
          · rw [ms_o q]; simp only [gp_opened, gs_e q]; exact he_o q f
          · simp only [gp_opened, gs_e q]; exact he_o q f
        · rw [fl_o q, sd_o q, pu_o q, he_o q]
      · rfl
theorem ad_o {G : gm_T} {e e' : Nat} {a : Int} (q : e' ≠ e) (f : Nat) : (gp_adv G e a).1 f e' = G.1 f e' := by
  have h1 : (gp_adv1 G e a).1 f e' = G.1 f e' := by simp only [gp_adv1, gs_e q]
  have h2 : (gp_adv2 (gp_adv1 G e a) e).1 f e' = G.1 f e' := by
    unfold gp_adv2
    split
    · rw [ms_o q, h1]
    · exact h1
  have h3 : (gp_adv3 (gp_adv2 (gp_adv1 G e a) e) e).1 f e' = G.1 f e' := by simp only [gp_adv3, gs_e q]; exact h2
  unfold gp_adv gp_finack
  split
  · split
    · rw [pu_o q, h3]
    · split
      · simp only [gp_wait, gs_e q]; exact h3
      · split
        · rw [ov_o q, h3]
        · exact h3
  · exact h3
theorem sm_o {G : gm_T} {e e' k : Nat} (q : e' ≠ e) (f : Nat) : (gp_same G e k).1 f e' = G.1 f e' := by
  unfold gp_same gp_again
  split
  · split
    · rw [pu_o q, pc_o q]; simp only [gp_again1, gs_e q]
    · simp only [gs_e q]
  · rfl
theorem wi_o {G : gm_T} {e e' k : Nat} (q : e' ≠ e) (f : Nat) : (gp_win G e k).1 f e' = G.1 f e' := by
  unfold gp_win
  split
  · simp only [gs_e q]
  · rfl
theorem gl_o {e e' : Nat} (q : e' ≠ e) (f : Nat) : ∀ (k : Nat) (G : gm_T), (gp_gloop k G e).1 f e' = G.1 f e' := by
  intro k
  induction k with
  | zero => intro G; rfl
  | succ k ih =>
    intro G
    unfold gp_gloop
    split
    · rw [ih]; show gs_c (gs_c _ _ _ _) _ _ _ _ _ = _; rw [gs_e q, gs_e q]
    · rfl
theorem tk_o {G : gm_T} {e e' k : Nat} {o : Int} (q : e' ≠ e) (f : Nat) : (gp_take G e k o).1 f e' = G.1 f e' := by
  unfold gp_take
  split
  · have h1 : (gp_gloop 24 (gp_hold G e k o) e).1 f e' = G.1 f e' := by rw [gl_o q]; exact gs_e q
    unfold gp_goOn gp_gfin
    split
    · have h2 : (gp_gend (gp_gloop 24 (gp_hold G e k o) e) e).1 f e' = G.1 f e' := by simp only [gp_gend, gs_e q]; exact h1
      unfold gp_gst
      split
      · rw [pu_o q, h2]
      · split
        · rw [pu_o q, h2]
        · simp only [gp_wait, gs_e q]; exact h2
    · exact h1
  · rfl
theorem ct_o {G : gm_T} {e e' k : Nat} {o : Int} (q : e' ≠ e) (f : Nat) : (gp_content G e k o).1 f e' = G.1 f e' := by
  unfold gp_content
  split
  · rfl
  · split
    · unfold gp_ack; rw [sd_o q, tk_o q]
    · rw [pu_o q, tk_o q]
theorem nk_o {G : gm_T} {e e' k : Nat} {a : Int} (q : e' ≠ e) (f : Nat) : (gp_newack G e k a).1 f e' = G.1 f e' := by
  unfold gp_newack
  split
  · exact ad_o q f
  · split
    · exact sm_o q f
    · rfl
theorem es_o {G : gm_T} {e e' : Nat} (q : e' ≠ e) (f : Nat) : (gp_est G e).1 f e' = G.1 f e' := by
  unfold gp_est
  split
  · exact pu_o q f
  · rfl
theorem go_o {G : gm_T} {e e' k : Nat} {o a : Int} (q : e' ≠ e) (f : Nat) : (gp_go G e k o a).1 f e' = G.1 f e' := by
  unfold gp_go
  split
  · exact nk_o q f
  · rw [fl_o q, ct_o q]
    split
    · rw [wi_o q, nk_o q]
    · rw [nk_o q]
theorem cn_o {G : gm_T} {e e' k : Nat} (q : e' ≠ e) (f : Nat) : (gp_conn G e k).1 f e' = G.1 f e' := by
  unfold gp_conn
  split
  · split
    · split
      · exact ov_o q f
      · exact sd_o q f
    · split
      · exact sd_o q f
      · split
        · unfold gp_acked
          split
          · rw [rs_o q]
          · split
            · unfold gp_ack; rw [sd_o q, es_o q]
            · rw [go_o q, es_o q]
        · rfl
  · have h1 : (gp_out1 G e k).1 f e' = G.1 f e' := by
      unfold gp_out1
      split
      · exact pu_o q f
      · rfl
    unfold gp_out
    split
    · exact h1
    · unfold gp_ack; rw [sd_o q, h1]
theorem ar_o {G : gm_T} {e e' k : Nat} (q : e' ≠ e) (f : Nat) : (gp_arrive G e k).1 f e' = G.1 f e' := by
  unfold gp_arrive
  split
  · exact tc_o q f
  · split
    · exact tl_o q f
    · split
      · exact to_o q f
      · exact cn_o q f
/-- the state behind an acknowledgement -/
theorem nk_ST {G : gm_T} {e k : Nat} {a : Int} (h : 4 ≤ G.1 0 e) : (gp_newack G e k a).1 0 e = 0 ∨ 4 ≤ (gp_newack G e k a).1 0 e := by
  unfold gp_newack
  split
  · have h3 : (gp_adv3 (gp_adv2 (gp_adv1 G e a) e) e).1 0 e = G.1 0 e := by simp +decide only [gp_adv3, gs_f]; exact a1_ST
    unfold gp_adv gp_finack
    split
    · split
      · simp only [gp_put, gs_s]; omega
      · split
        · simp +decide only [gp_wait, gs_s, gs_f] <;> omega
        · split
          · simp +decide only [gp_over, gs_s, gs_f] <;> omega
          · omega
    · omega
  · split
    · unfold gp_same gp_again
      split
      · split
        · show _ = 0 ∨ 4 ≤ _
          have : (gp_put (gp_piece (gp_again1 G e) e) 16 e (gp_hv G e + 24)).1 0 e = G.1 0 e := by
            rw [pu_f (by decide), pc_f (by decide) (by decide) (by decide) (by decide) (by decide) (by decide)]
            simp +decide only [gp_again1, gs_f]
          omega
        · simp +decide only [gs_f]; omega
      · omega
    · omega
theorem iv_go {K : Int} {G : gm_T} {e k : Nat} {o a : Int} (hI : gv_I K G) (he : e < 2) (hk : k < 32) (hK : K + 8 ≤ 5000) (hs : 3 ≤ G.1 0 e) (ham : a ≤ G.1 5 e - G.1 3 e) (h3 : G.1 0 e = 3 → a = 1) : gv_I (K + 8) (gp_go (gp_est G e) e k o a) := by
  have hest : 4 ≤ (gp_est G e).1 0 e := by
    unfold gp_est
    split
    · simp only [gp_put, gs_s]; decide
    · omega
  have h1 : gv_I (K + 1) (gp_newack (gp_est G e) e k a) := by
    unfold gp_newack
    split
    · exact gv_mono (by omega) (by omega) (iv_adv hI he hs (by omega) ham h3)
    · have : gp_est G e = G := if_neg (fun h => by have := h3 h; omega)
      rw [this]
      split
      · exact iv_same hI he (by omega) (by rw [this] at hest; exact hest)
      · exact gv_mono (by omega) (by omega) hI
  unfold gp_go
  split
  · exact gv_mono (by omega) hK h1
  · rename_i hz
    have h4 := nk_ST (k := k) (a := a) hest
    have h5 : 4 ≤ (gp_newack (gp_est G e) e k a).1 0 e := by omega
    have h6 : gv_I (K + 1) (if 0 ≤ a then gp_win (gp_newack (gp_est G e) e k a) e k else gp_newack (gp_est G e) e k a) := by
      split
      · exact iv_win h1 he hk
      · exact h1
    have h7 : 4 ≤ (if 0 ≤ a then gp_win (gp_newack (gp_est G e) e k a) e k else gp_newack (gp_est G e) e k a).1 0 e := by
      split
      · unfold gp_win
        split
        · simp +decide only [gs_f]; exact h5
        · exact h5
      · exact h5
    have h8 := iv_content (o := o) h6 he hk (by omega) h7
    have h9 : K + 1 + 7 = K + 8 := by omega
    rw [h9] at h8
    exact iv_flow h8 he
theorem iv_conn {K : Int} {G : gm_T} {e k : Nat} (hI : gv_I K G) (he : e < 2) (hk : k < 32) (hK : K + 8 ≤ 5000) (hs : 3 ≤ G.1 0 e) : gv_I (K + 8) (gp_conn G e k) := by
  have l1 := hI.2.2.2.2.2.1.1 k hk
  have hI8 := gv_mono (K' := K + 8) (by omega) hK hI
  have n0 := hI.2.2.1
  unfold gp_conn
  split
  · split
    · split
      · exact iv_reset hI8 he
      · exact iv_ack hI8 he (by omega)
    · split
      · exact iv_ack hI8 he (by omega)
      · split
        · unfold gp_acked
          split
          · exact iv_rst hI8 he (by omega) (by omega) (by omega)
          · rename_i hz
            split
            · rename_i hlt
              have h3 : ¬ G.1 0 e = 3 := fun h => by
                have h1 : gp_a G e k = 1 := by omega
                obtain ⟨b1, b2, b3, b4, b5, b6⟩ := hI.2.2.2.2.1 e he
                unfold gv_p at b2
                omega
              have : gp_est G e = G := if_neg h3
              rw [this]
              exact iv_ack hI8 he (by omega)
            · exact iv_go hI he hk hK hs (by omega) (fun h => by omega)
        · exact hI8
  · have h1 : gv_I (K + 8) (gp_out1 G e k) ∧ (gp_out1 G e k).1 0 e = G.1 0 e := by
      unfold gp_out1
      split
      · refine ⟨iv_put hI8 ?_, pu_f (by decide)⟩
        obtain ⟨b1, b2, b3, b4, b5, b6⟩ := hI8.2.2.2.2.1 e he
        refine ⟨b1, b2, b3, ?_, b5, b6⟩
        show gv_d (gm_N G) (G.1 0 e) (G.1 21 e) (G.1 22 e) (gs_c _ _ _ _ _ _)
        rw [gs_s]
        unfold gv_d at *
        omega
      · exact ⟨hI8, rfl⟩
    unfold gp_out
    split
    · exact h1.1
    · exact iv_ack h1.1 he (by omega)
theorem iv_arrive {K : Int} {G : gm_T} {e k : Nat} (hI : gv_I K G) (he : e < 2) (hk : k < 32) (hK : K + 8 ≤ 5000) : gv_I (K + 8) (gp_arrive G e k) := by
  have hI8 := gv_mono (K' := K + 8) (by omega) hK hI
  have hst : 0 ≤ G.1 0 e := by
    obtain ⟨b1, b2, b3, b4, b5, b6⟩ := hI.2.2.2.2.1 e he
    unfold gv_a at b1; omega
  unfold gp_arrive
  split
  · exact iv_toClosed hI8 he hk
  · split
    · rename_i h; exact iv_toListen hI8 he hk h
    · split
      · rename_i h; exact iv_toOpen hI8 he hk h
      · exact iv_conn hI he hk hK (by omega)
theorem iv_rm {K : Int} {G : gm_T} {e k : Nat} (hI : gv_I K G) (he : e < 2) (h1 : 1 ≤ G.1 30 e) : gv_I K (gp_rm G e k) := by
  obtain ⟨a1, a2, a3, a4, a5, a6, a7, a8⟩ := hI
  obtain ⟨b1, b2, b3, b4, b5, b6⟩ := a5 e he
  have hrw : G.1 30 e ≤ 16 := by unfold gv_a at b1; omega
  refine ⟨a1, a2, a3, a4, gv_up (e := e) a5 (fun e' q f => gs_e q) (fun e' q => rfl) ?_, ?_, a7, a8⟩
  · refine ⟨?_, b2, b3, b4, b5, b6⟩
    show gv_a (G.1 0 e) (G.1 1 e) (G.1 2 e) (gs_c G.1 30 e _ 30 e)
    rw [gs_s]
    unfold gv_a at *
    omega
  · refine ⟨fun i hi => ?_, fun j hj => ?_⟩
    · by_cases q : 16 * e + k ≤ i ∧ (i : Int) < 16 * e + G.1 30 e - 1
      · have ee : ∀ f, gm_L (gp_rm G e k) f i = gm_L G f (i + 1) := fun f => if_pos q
        simp only [ee]
        exact a6.1 (i + 1) (by omega)
      · have ee : ∀ f, gm_L (gp_rm G e k) f i = gm_L G f i := fun f => if_neg q
        simp only [ee]
        exact a6.1 i hi
    · have hb : gm_D (gp_rm G e k) j = if 8 * (16 * e + k) ≤ j ∧ (j : Int) < 8 * (16 * e + G.1 30 e - 1) then gm_D G (j + 8) else gm_D G j := rfl
      rw [hb]
      split
      · exact a6.2 _ (by omega)
      · exact a6.2 j hj
theorem iv_zero {K : Int} {G : gm_T} (hI : gv_I K G) : gv_I K (gp_zero G) := hI
theorem iv_deliver {K : Int} {G : gm_T} {e k : Nat} (hI : gv_I K G) (he : e < 2) (hK : K + 8 ≤ 5000) (hk : (k : Int) < G.1 30 e) : gv_I (K + 8) (gp_deliver G e k) := by
  have hrw : G.1 30 e ≤ 16 := by
    obtain ⟨b1, b2, b3, b4, b5, b6⟩ := hI.2.2.2.2.1 e he
    unfold gv_a at b1; omega
  refine iv_rm (iv_arrive (iv_zero hI) (by omega) (by omega) hK) he ?_
  rw [ar_o (by omega)]
  show 1 ≤ G.1 30 e
  omega
theorem iv_slot {K : Int} {G : gm_T} {e : Nat} {l : Nat → Nat → Int} {d : Nat → Int} {s : Int} (hI : gv_I K G) (he : e < 2) (hr : G.1 30 e < 16) (hl : gv_L l d) : gv_I K (gs_c G.1 30 e (G.1 30 e + 1), gm_W G, gm_B G, gm_H G, l, d, gm_N G, s) := by
  obtain ⟨a1, a2, a3, a4, a5, a6, a7, a8⟩ := hI
  obtain ⟨b1, b2, b3, b4, b5, b6⟩ := a5 e he
  refine ⟨a1, a2, a3, a4, gv_up (e := e) a5 (fun e' q f => gs_e q) (fun e' q => rfl) ?_, hl, a7, a8⟩
  refine ⟨?_, b2, b3, b4, b5, b6⟩
  show gv_a (G.1 0 e) (G.1 1 e) (G.1 2 e) (gs_c G.1 30 e _ 30 e)
  rw [gs_s]
  unfold gv_a at *
  omega
theorem iv_forge {K : Int} {G : gm_T} {e : Nat} {num flag ack win n b : Int} (hI : gv_I K G) (he : e < 2) (hr : G.1 30 e < 16) (h1 : 0 ≤ num ∧ num ≤ 65535) (h2 : 0 ≤ flag ∧ flag ≤ 15) (h3 : 0 ≤ ack ∧ ack ≤ 65535) (h4 : 0 ≤ win ∧ win ≤ 24) (h5 : 0 ≤ n ∧ n ≤ 8) : gv_I K (gp_forge G e num flag ack win n b) :=
  iv_slot hI he hr (gv_lpost hI.2.2.2.2.2.1 h1 h2 h3 h4 h5 (fun i _ _ => by omega))
theorem iv_twice {K : Int} {G : gm_T} {e k : Nat} (hI : gv_I K G) (he : e < 2) (hr : G.1 30 e < 16) (hk : k < 16) : gv_I K (gp_twice G e k) := by
  have l1 := hI.2.2.2.2.2.1.1 (16 * e + k) (by omega)
  refine iv_slot hI he hr (gv_lpost hI.2.2.2.2.2.1 ?_ ?_ ?_ ?_ ?_ (fun i h h' => hI.2.2.2.2.2.1.2 _ (by omega)))
  all_goals omega
theorem gv_d1 {n ST RY AK WT : Int} (h : gv_d n ST RY AK WT) : gv_d (n + 1) ST RY AK WT := by unfold gv_d at *; omega
theorem iv_now {K : Int} {G : gm_T} (hI : gv_I K G) (h : gm_N G + 1 ≤ 125 * K) : gv_I K (gp_now G) := by
  obtain ⟨a1, a2, a3, a4, a5, a6, a7, a8⟩ := hI
  refine ⟨a1, a2, by show 0 ≤ gm_N G + 1; omega, h, fun e he => ?_, a6, a7, a8⟩
  obtain ⟨b1, b2, b3, b4, b5, b6⟩ := a5 e he
  refine ⟨b1, b2, b3, gv_d1 b4, ?_, b6⟩
  show gv_t (gm_N G + 1) (G.1 0 e) (G.1 3 e) (G.1 5 e) (G.1 24 e) (G.1 25 e) (G.1 26 e) (G.1 27 e) (G.1 28 e)
  unfold gv_t at *
  omega
theorem iv_pass {K : Int} {G : gm_T} {e : Nat} (hI : gv_I K G) (he : e < 2) : gv_I K (gp_pass G e) := by
  have h1 : gv_I K (gp_pass1 G e) := by
    unfold gp_pass1
    split
    · rename_i h
      refine iv_late hI he ?_
      obtain ⟨b1, b2, b3, b4, b5, b6⟩ := hI.2.2.2.2.1 e he
      have := hI.2.2.1
      unfold gv_d at b4
      omega
    · exact hI
  have h2 : gv_I K (gp_pass2 (gp_pass1 G e) e) := by
    unfold gp_pass2
    split
    · rename_i h
      refine iv_ack h1 he ?_
      obtain ⟨b1, b2, b3, b4, b5, b6⟩ := h1.2.2.2.2.1 e he
      have := h1.2.2.1
      unfold gv_d at b4
      omega
    · exact h1
  show gv_I K (gp_pass3 (gp_pass2 (gp_pass1 G e) e) e)
  unfold gp_pass3
  split
  · obtain ⟨b1, b2, b3, b4, b5, b6⟩ := h2.2.2.2.2.1 e he
    unfold gv_a at b1
    exact iv_over h2 he (by omega) (by omega)
  · exact h2
theorem iv_wr {K : Int} {G : gm_T} {e : Nat} {cnt : Int} {g : Int → Int} (hI : gv_I K G) (he : e < 2) (hK : K + 8 ≤ 5000) (hs : G.1 0 e = 2 ∨ G.1 0 e = 3 ∨ G.1 0 e = 4 ∨ G.1 0 e = 7) (h0 : 0 ≤ cnt) (h8 : cnt ≤ 8) (h32 : cnt ≤ 32 - G.1 31 e) (hg : ∀ i, 0 ≤ g i ∧ g i ≤ 255) : gv_I (K + 8) (gp_wr G e cnt g) := by
  obtain ⟨a1, a2, a3, a4, a5, a6, a7, a8⟩ := gv_mono (K' := K + 8) (by omega) hK hI
  obtain ⟨b1, b2, b3, b4, b5, b6⟩ := a5 e he
  have c2 := (hI.2.2.2.2.1 e he).2.1
  refine ⟨a1, a2, a3, a4, gv_up (e := e) a5 (fun e' q f => ?_) (fun e' q => rfl) ?_, a6, ?_, a8⟩
  · simp only [gp_wr, gs_e q]
  · unfold gv_E
    simp +decide only [gp_wr, gs_s, gs_f]
    refine ⟨b1, ?_, b3, b4, b5, b6⟩
    unfold gv_p at *
    omega
  · intro e' he' p
    show 0 ≤ gm_b (gm_W G) e _ e' p ∧ gm_b (gm_W G) e _ e' p ≤ 255
    unfold gm_b
    split
    · split
      · exact hg _
      · exact a7 e he p
    · exact a7 e' he' p
theorem iv_rd {K : Int} {G : gm_T} {e : Nat} {m : Int} (hI : gv_I K G) (he : e < 2) (h0 : 0 ≤ m) (h1 : m ≤ G.1 9 e) : gv_I K (gp_rd G e m) := by
  obtain ⟨a1, a2, a3, a4, a5, a6, a7, a8⟩ := hI
  obtain ⟨b1, b2, b3, b4, b5, b6⟩ := a5 e he
  refine ⟨a1, a2, a3, a4, gv_up (e := e) a5 (fun e' q f => ?_) (fun e' q => rfl) ?_, a6, a7, a8⟩
  · simp only [gp_rd, gs_e q]
  · unfold gv_E
    simp +decide only [gp_rd, gs_s, gs_f]
    refine ⟨b1, b2, b3, b4, b5, ?_⟩
    unfold gv_r at *
    obtain ⟨q1, q2, q3, q4, q5, q6, q7, q8, q9, qa, qb, qc⟩ := b6
    exact ⟨q1, q2, q3, q4, by omega, by omega, by omega, by omega, by omega, qa, by omega, fun p z => by have := qc p z; omega⟩
theorem iv_read {K : Int} {G : gm_T} {e : Nat} {m : Int} (hI : gv_I K G) (he : e < 2) (h0 : 0 ≤ m) (h1 : m ≤ G.1 9 e) : gv_I K (gp_read G e m) := by
  have h2 := iv_rd hI he h0 h1
  unfold gp_read
  split
  · refine iv_ack h2 he ?_
    simp +decide only [gp_rd, gs_f]
    omega
  · exact h2
theorem iv_cls {K : Int} {G : gm_T} {e : Nat} {s : Int} (hI : gv_I K G) (he : e < 2) (h : (G.1 0 e = 4 ∧ s = 5) ∨ (G.1 0 e = 7 ∧ s = 9)) : gv_I K (gs_c (gs_c G.1 0 e s) 29 e 1, G.2) := by
  obtain ⟨a1, a2, a3, a4, a5, a6, a7, a8⟩ := hI
  obtain ⟨b1, b2, b3, b4, b5, b6⟩ := a5 e he
  refine ⟨a1, a2, a3, a4, gv_up (e := e) a5 (fun e' q f => ?_) (fun e' q => rfl) ?_, a6, a7, a8⟩
  · simp only [gs_e q]
  · unfold gv_E
    simp +decide only [gs_s, gs_f]
    refine ⟨?_, ?_, ?_, ?_, ?_, ?_⟩
    · unfold gv_a at *; omega
    · unfold gv_p at *; omega
    · unfold gv_c at *; omega
    · unfold gv_d at *; omega
    · unfold gv_t at *; omega
    · unfold gv_r at *
      obtain ⟨q1, q2, q3, q4, q5, q6, q7, q8, q9, qa, qb, qc⟩ := b6
      exact ⟨q1, q2, q3, q4, q5, q6, q7, by omega, by omega, qa, by omega, fun p z => by have := qc p z; omega⟩
theorem iv_close {K : Int} {G : gm_T} {e : Nat} (hI : gv_I K G) (he : e < 2) : gv_I K (gp_close G e) := by
  unfold gp_close
  split
  · exact iv_over hI he (by decide) (by decide)
  · split
    · rename_i h; exact iv_flow (iv_cls hI he (Or.inl ⟨h, rfl⟩)) he
    · split
      · rename_i h; exact iv_flow (iv_cls hI he (Or.inr ⟨h, rfl⟩)) he
      · exact hI
theorem iv_abort {K : Int} {G : gm_T} {e : Nat} (hI : gv_I K G) (he : e < 2) : gv_I K (gp_abort G e) := by
  unfold gp_abort
  split
  · exact iv_over (iv_rst hI he (by omega) (by omega) (by omega)) he (by decide) (by decide)
  · exact iv_over hI he (by decide) (by decide)
end
section
/-! the two states as pictures of G -/
def vx_S (q : Int) (G : gm_T) (u : SX) : Prop := match u with
  | (f_now, f_sent, a_stateOf, a_error, a_iss, a_una, a_nxt, a_max, a_writtenTo, a_kept, a_keptBytes, a_rcv, a_unread, a_unreadFrom, a_cameBytes, a_held, a_heldFin, a_wnd, a_wndSeq, a_wndAck, a_peak, a_half, a_same, a_rto, a_tries, a_retryAt, a_ackAt, a_waitTill, a_timedAt, a_timedSeq, a_smoothed, a_variance, a_rowCount, a_slotSeq, a_slotFlags, a_slotAck, a_slotWindow, a_slotSize, a_slotBytes) => (f_now = zi_n (gm_N G)) ∧ (f_sent = zi_n (gm_S G + q)) ∧ (∀ e, e < 2 → a_stateOf e = zi_n (G.1 0 e)) ∧ (∀ e, e < 2 → a_error e = zi_n (G.1 1 e)) ∧ (∀ e, e < 2 → a_iss e = zi_n (G.1 2 e)) ∧ (∀ e, e < 2 → a_una e = zi_n ((G.1 2 e + G.1 3 e) % 65536)) ∧ (∀ e, e < 2 → a_nxt e = zi_n ((G.1 2 e + G.1 4 e) % 65536)) ∧ (∀ e, e < 2 → a_max e = zi_n ((G.1 2 e + G.1 5 e) % 65536)) ∧ (∀ e, e < 2 → a_writtenTo e = zi_n ((G.1 2 e + G.1 6 e) % 65536)) ∧ (∀ e, e < 2 → a_kept e = zi_n (G.1 31 e)) ∧ (∀ e, e < 2 → ∀ p : Int, 1 ≤ p → p < G.1 6 e → G.1 6 e - 32 ≤ p → a_keptBytes (32 * e + ((G.1 2 e + p) % 32).toNat) = zi_n (zi_b (gm_W G e p))) ∧ (∀ e, e < 2 → a_rcv e = zi_n ((G.1 7 e + G.1 8 e) % 65536)) ∧ (∀ e, e < 2 → a_unread e = zi_n (G.1 9 e)) ∧ (∀ e, e < 2 → a_unreadFrom e = zi_n ((G.1 7 e + G.1 10 e) % 65536)) ∧ (∀ e, e < 2 → ∀ p : Int, ((G.1 10 e ≤ p ∧ p < G.1 10 e + G.1 9 e) ∨ gm_H G e p = true) → a_cameBytes (32 * e + ((G.1 7 e + p) % 32).toNat) = zi_n (zi_b (gm_B G e p))) ∧ (∀ e, e < 2 → ∀ p : Int, G.1 8 e ≤ p → p < G.1 8 e + 32 → a_held (32 * e + ((G.1 7 e + p) % 32).toNat) = (if gm_H G e p = true then 1 else 0)) ∧ (∀ e, e < 2 → a_heldFin e = zi_n (if G.1 11 e < 0 then -1 else (G.1 7 e + G.1 11 e) % 65536)) ∧ (∀ e, e < 2 → a_wnd e = zi_n (G.1 12 e)) ∧ (∀ e, e < 2 → a_wndSeq e = zi_n (if G.1 13 e = 0 then -1 else G.1 14 e)) ∧ (∀ e, e < 2 → G.1 13 e ≠ 0 → a_wndAck e = zi_n (G.1 15 e)) ∧ (∀ e, e < 2 → a_peak e = zi_n (G.1 16 e)) ∧ (∀ e, e < 2 → a_half e = zi_n (G.1 17 e)) ∧ (∀ e, e < 2 → a_same e = zi_n (G.1 18 e)) ∧ (∀ e, e < 2 → a_rto e = zi_n (G.1 19 e)) ∧ (∀ e, e < 2 → a_tries e = zi_n (G.1 20 e)) ∧ (∀ e, e < 2 → a_retryAt e = zi_n (G.1 21 e)) ∧ (∀ e, e < 2 → a_ackAt e = zi_n (G.1 22 e)) ∧ (∀ e, e < 2 → a_waitTill e = zi_n (G.1 23 e)) ∧ (∀ e, e < 2 → a_timedAt e = zi_n (if G.1 24 e < 0 then -1 else G.1 25 e)) ∧ (∀ e, e < 2 → 0 ≤ G.1 24 e → a_timedSeq e = zi_n ((G.1 2 e + G.1 24 e) % 65536)) ∧ (∀ e, e < 2 → a_smoothed e = zi_n (if G.1 26 e = 0 then -1 else G.1 27 e)) ∧ (∀ e, e < 2 → a_variance e = zi_n (G.1 28 e)) ∧ (∀ e, e < 2 → a_rowCount e = zi_n (G.1 30 e)) ∧ (∀ i, i < 32 → a_slotSeq i = zi_n (gm_L G 0 i)) ∧ (∀ i, i < 32 → a_slotFlags i = zi_n (gm_L G 1 i)) ∧ (∀ i, i < 32 → a_slotAck i = zi_n (gm_L G 2 i)) ∧ (∀ i, i < 32 → a_slotWindow i = zi_n (gm_L G 3 i)) ∧ (∀ i, i < 32 → a_slotSize i = zi_n (gm_L G 4 i)) ∧ (∀ j, j < 256 → a_slotBytes j = zi_n (zi_b (gm_D G j)))
def vy_S (q : Int) (G : gm_T) (u : SY) : Prop := match u with
  | (f_now, f_sent, a_seq, a_flags, a_acked, a_window, a_many, a_data, a_rows, a_state, a_error, a_iss, a_una, a_nxt, a_max, a_last, a_closed, a_written, a_irs, a_unread, a_bytes, a_held, a_rcv, a_finAt, a_marked, a_wnd, a_peak, a_half, a_rto, a_same, a_tries, a_smooth, a_spread, a_byNumber, a_byAck, a_sampled, a_told, a_retry, a_ackAt, a_waitAt, a_timedAt, a_timed) => (f_now = zi_n (gm_N G)) ∧ (f_sent = zi_n (gm_S G + q)) ∧ (∀ i, i < 32 → a_seq i = zi_n (gm_L G 0 i)) ∧ (∀ i, i < 32 → a_flags i = zi_n (gm_L G 1 i)) ∧ (∀ i, i < 32 → a_acked i = zi_n (gm_L G 2 i)) ∧ (∀ i, i < 32 → a_window i = zi_n (gm_L G 3 i)) ∧ (∀ i, i < 32 → a_many i = zi_n (gm_L G 4 i)) ∧ (∀ j, j < 256 → a_data j = zi_n (gm_D G j)) ∧ (∀ e, e < 2 → a_rows e = zi_n (G.1 30 e)) ∧ (∀ e, e < 2 → a_state e = zi_n (G.1 0 e)) ∧ (∀ e, e < 2 → a_error e = zi_n (G.1 1 e)) ∧ (∀ e, e < 2 → a_iss e = zi_n (G.1 2 e)) ∧ (∀ e, e < 2 → a_una e = zl_n (G.1 32 e)) ∧ (∀ e, e < 2 → a_nxt e = zl_n (G.1 4 e)) ∧ (∀ e, e < 2 → a_max e = zl_n (G.1 5 e)) ∧ (∀ e, e < 2 → a_last e = zl_n (G.1 33 e)) ∧ (∀ e, e < 2 → a_closed e = zi_n (G.1 29 e)) ∧ (∀ e, e < 2 → ∀ p : Int, 1 ≤ p → p < G.1 33 e → G.1 33 e - 64 ≤ p → a_written (64 * e + (p % 64).toNat) = zi_n (gm_W G e p)) ∧ (∀ e, e < 2 → a_irs e = zi_n (G.1 7 e)) ∧ (∀ e, e < 2 → a_unread e = zi_n (G.1 9 e)) ∧ (∀ e, e < 2 → ∀ i : Nat, (i : Int) < G.1 9 e → a_bytes (24 * e + i) = zi_n (gm_B G e (G.1 10 e + i))) ∧ (∀ e, e < 2 → ∀ p : Int, gm_H G e p = true → a_held (64 * e + (p % 64).toNat) = zi_n (gm_B G e p)) ∧ (∀ e, e < 2 → a_rcv e = zl_n (G.1 8 e)) ∧ (∀ e, e < 2 → a_finAt e = zl_n (G.1 11 e)) ∧ (∀ e, e < 2 → ∀ p : Int, G.1 8 e ≤ p → p < G.1 8 e + 64 → a_marked (64 * e + (p % 64).toNat) = (if gm_H G e p = true then 1 else 0)) ∧ (∀ e, e < 2 → a_wnd e = zi_n (G.1 12 e)) ∧ (∀ e, e < 2 → a_peak e = zi_n (G.1 16 e)) ∧ (∀ e, e < 2 → a_half e = zi_n (G.1 17 e)) ∧ (∀ e, e < 2 → a_rto e = zi_n (G.1 19 e)) ∧ (∀ e, e < 2 → a_same e = zi_n (G.1 34 e)) ∧ (∀ e, e < 2 → a_tries e = zi_n (G.1 35 e)) ∧ (∀ e, e < 2 → a_smooth e = zi_n (G.1 27 e)) ∧ (∀ e, e < 2 → a_spread e = zi_n (G.1 28 e)) ∧ (∀ e, e < 2 → a_byNumber e = zi_n (G.1 14 e)) ∧ (∀ e, e < 2 → a_byAck e = zi_n (G.1 15 e)) ∧ (∀ e, e < 2 → a_sampled e = zi_n (G.1 26 e)) ∧ (∀ e, e < 2 → a_told e = zi_n (G.1 13 e)) ∧ (∀ e, e < 2 → a_retry e = zi_n (G.1 21 e)) ∧ (∀ e, e < 2 → a_ackAt e = zi_n (G.1 22 e)) ∧ (∀ e, e < 2 → a_waitAt e = zi_n (G.1 23 e)) ∧ (∀ e, e < 2 → a_timedAt e = zi_n (G.1 25 e)) ∧ (∀ e, e < 2 → a_timed e = zl_n (G.1 24 e))
theorem vx_mk {q : Int} {G : gm_T} {f_now : Int32} {f_sent : Int32} {a_stateOf : (Nat → Int32)} {a_error : (Nat → Int32)} {a_iss : (Nat → Int32)} {a_una : (Nat → Int32)} {a_nxt : (Nat → Int32)} {a_max : (Nat → Int32)} {a_writtenTo : (Nat → Int32)} {a_kept : (Nat → Int32)} {a_keptBytes : (Nat → Int32)} {a_rcv : (Nat → Int32)} {a_unread : (Nat → Int32)} {a_unreadFrom : (Nat → Int32)} {a_cameBytes : (Nat → Int32)} {a_held : (Nat → Int32)} {a_heldFin : (Nat → Int32)} {a_wnd : (Nat → Int32)} {a_wndSeq : (Nat → Int32)} {a_wndAck : (Nat → Int32)} {a_peak : (Nat → Int32)} {a_half : (Nat → Int32)} {a_same : (Nat → Int32)} {a_rto : (Nat → Int32)} {a_tries : (Nat → Int32)} {a_retryAt : (Nat → Int32)} {a_ackAt : (Nat → Int32)} {a_waitTill : (Nat → Int32)} {a_timedAt : (Nat → Int32)} {a_timedSeq : (Nat → Int32)} {a_smoothed : (Nat → Int32)} {a_variance : (Nat → Int32)} {a_rowCount : (Nat → Int32)} {a_slotSeq : (Nat → Int32)} {a_slotFlags : (Nat → Int32)} {a_slotAck : (Nat → Int32)} {a_slotWindow : (Nat → Int32)} {a_slotSize : (Nat → Int32)} {a_slotBytes : (Nat → Int32)} (h_now : f_now = zi_n (gm_N G)) (h_sent : f_sent = zi_n (gm_S G + q)) (h_stateOf : ∀ e, e < 2 → a_stateOf e = zi_n (G.1 0 e)) (h_error : ∀ e, e < 2 → a_error e = zi_n (G.1 1 e)) (h_iss : ∀ e, e < 2 → a_iss e = zi_n (G.1 2 e)) (h_una : ∀ e, e < 2 → a_una e = zi_n ((G.1 2 e + G.1 3 e) % 65536)) (h_nxt : ∀ e, e < 2 → a_nxt e = zi_n ((G.1 2 e + G.1 4 e) % 65536)) (h_max : ∀ e, e < 2 → a_max e = zi_n ((G.1 2 e + G.1 5 e) % 65536)) (h_writtenTo : ∀ e, e < 2 → a_writtenTo e = zi_n ((G.1 2 e + G.1 6 e) % 65536)) (h_kept : ∀ e, e < 2 → a_kept e = zi_n (G.1 31 e)) (h_keptBytes : ∀ e, e < 2 → ∀ p : Int, 1 ≤ p → p < G.1 6 e → G.1 6 e - 32 ≤ p → a_keptBytes (32 * e + ((G.1 2 e + p) % 32).toNat) = zi_n (zi_b (gm_W G e p))) (h_rcv : ∀ e, e < 2 → a_rcv e = zi_n ((G.1 7 e + G.1 8 e) % 65536)) (h_unread : ∀ e, e < 2 → a_unread e = zi_n (G.1 9 e)) (h_unreadFrom : ∀ e, e < 2 → a_unreadFrom e = zi_n ((G.1 7 e + G.1 10 e) % 65536)) (h_cameBytes : ∀ e, e < 2 → ∀ p : Int, ((G.1 10 e ≤ p ∧ p < G.1 10 e + G.1 9 e) ∨ gm_H G e p = true) → a_cameBytes (32 * e + ((G.1 7 e + p) % 32).toNat) = zi_n (zi_b (gm_B G e p))) (h_held : ∀ e, e < 2 → ∀ p : Int, G.1 8 e ≤ p → p < G.1 8 e + 32 → a_held (32 * e + ((G.1 7 e + p) % 32).toNat) = (if gm_H G e p = true then 1 else 0)) (h_heldFin : ∀ e, e < 2 → a_heldFin e = zi_n (if G.1 11 e < 0 then -1 else (G.1 7 e + G.1 11 e) % 65536)) (h_wnd : ∀ e, e < 2 → a_wnd e = zi_n (G.1 12 e)) (h_wndSeq : ∀ e, e < 2 → a_wndSeq e = zi_n (if G.1 13 e = 0 then -1 else G.1 14 e)) (h_wndAck : ∀ e, e < 2 → G.1 13 e ≠ 0 → a_wndAck e = zi_n (G.1 15 e)) (h_peak : ∀ e, e < 2 → a_peak e = zi_n (G.1 16 e)) (h_half : ∀ e, e < 2 → a_half e = zi_n (G.1 17 e)) (h_same : ∀ e, e < 2 → a_same e = zi_n (G.1 18 e)) (h_rto : ∀ e, e < 2 → a_rto e = zi_n (G.1 19 e)) (h_tries : ∀ e, e < 2 → a_tries e = zi_n (G.1 20 e)) (h_retryAt : ∀ e, e < 2 → a_retryAt e = zi_n (G.1 21 e)) (h_ackAt : ∀ e, e < 2 → a_ackAt e = zi_n (G.1 22 e)) (h_waitTill : ∀ e, e < 2 → a_waitTill e = zi_n (G.1 23 e)) (h_timedAt : ∀ e, e < 2 → a_timedAt e = zi_n (if G.1 24 e < 0 then -1 else G.1 25 e)) (h_timedSeq : ∀ e, e < 2 → 0 ≤ G.1 24 e → a_timedSeq e = zi_n ((G.1 2 e + G.1 24 e) % 65536)) (h_smoothed : ∀ e, e < 2 → a_smoothed e = zi_n (if G.1 26 e = 0 then -1 else G.1 27 e)) (h_variance : ∀ e, e < 2 → a_variance e = zi_n (G.1 28 e)) (h_rowCount : ∀ e, e < 2 → a_rowCount e = zi_n (G.1 30 e)) (h_slotSeq : ∀ i, i < 32 → a_slotSeq i = zi_n (gm_L G 0 i)) (h_slotFlags : ∀ i, i < 32 → a_slotFlags i = zi_n (gm_L G 1 i)) (h_slotAck : ∀ i, i < 32 → a_slotAck i = zi_n (gm_L G 2 i)) (h_slotWindow : ∀ i, i < 32 → a_slotWindow i = zi_n (gm_L G 3 i)) (h_slotSize : ∀ i, i < 32 → a_slotSize i = zi_n (gm_L G 4 i)) (h_slotBytes : ∀ j, j < 256 → a_slotBytes j = zi_n (zi_b (gm_D G j))) : vx_S q G (f_now, f_sent, a_stateOf, a_error, a_iss, a_una, a_nxt, a_max, a_writtenTo, a_kept, a_keptBytes, a_rcv, a_unread, a_unreadFrom, a_cameBytes, a_held, a_heldFin, a_wnd, a_wndSeq, a_wndAck, a_peak, a_half, a_same, a_rto, a_tries, a_retryAt, a_ackAt, a_waitTill, a_timedAt, a_timedSeq, a_smoothed, a_variance, a_rowCount, a_slotSeq, a_slotFlags, a_slotAck, a_slotWindow, a_slotSize, a_slotBytes) := by
  unfold vx_S
  exact ⟨h_now, h_sent, h_stateOf, h_error, h_iss, h_una, h_nxt, h_max, h_writtenTo, h_kept, h_keptBytes, h_rcv, h_unread, h_unreadFrom, h_cameBytes, h_held, h_heldFin, h_wnd, h_wndSeq, h_wndAck, h_peak, h_half, h_same, h_rto, h_tries, h_retryAt, h_ackAt, h_waitTill, h_timedAt, h_timedSeq, h_smoothed, h_variance, h_rowCount, h_slotSeq, h_slotFlags, h_slotAck, h_slotWindow, h_slotSize, h_slotBytes⟩
theorem vy_mk {q : Int} {G : gm_T} {f_now : Int32} {f_sent : Int32} {a_seq : (Nat → Int32)} {a_flags : (Nat → Int32)} {a_acked : (Nat → Int32)} {a_window : (Nat → Int32)} {a_many : (Nat → Int32)} {a_data : (Nat → Int32)} {a_rows : (Nat → Int32)} {a_state : (Nat → Int32)} {a_error : (Nat → Int32)} {a_iss : (Nat → Int32)} {a_una : (Nat → Int64)} {a_nxt : (Nat → Int64)} {a_max : (Nat → Int64)} {a_last : (Nat → Int64)} {a_closed : (Nat → Int32)} {a_written : (Nat → Int32)} {a_irs : (Nat → Int32)} {a_unread : (Nat → Int32)} {a_bytes : (Nat → Int32)} {a_held : (Nat → Int32)} {a_rcv : (Nat → Int64)} {a_finAt : (Nat → Int64)} {a_marked : (Nat → Int32)} {a_wnd : (Nat → Int32)} {a_peak : (Nat → Int32)} {a_half : (Nat → Int32)} {a_rto : (Nat → Int32)} {a_same : (Nat → Int32)} {a_tries : (Nat → Int32)} {a_smooth : (Nat → Int32)} {a_spread : (Nat → Int32)} {a_byNumber : (Nat → Int32)} {a_byAck : (Nat → Int32)} {a_sampled : (Nat → Int32)} {a_told : (Nat → Int32)} {a_retry : (Nat → Int32)} {a_ackAt : (Nat → Int32)} {a_waitAt : (Nat → Int32)} {a_timedAt : (Nat → Int32)} {a_timed : (Nat → Int64)} (h_now : f_now = zi_n (gm_N G)) (h_sent : f_sent = zi_n (gm_S G + q)) (h_seq : ∀ i, i < 32 → a_seq i = zi_n (gm_L G 0 i)) (h_flags : ∀ i, i < 32 → a_flags i = zi_n (gm_L G 1 i)) (h_acked : ∀ i, i < 32 → a_acked i = zi_n (gm_L G 2 i)) (h_window : ∀ i, i < 32 → a_window i = zi_n (gm_L G 3 i)) (h_many : ∀ i, i < 32 → a_many i = zi_n (gm_L G 4 i)) (h_data : ∀ j, j < 256 → a_data j = zi_n (gm_D G j)) (h_rows : ∀ e, e < 2 → a_rows e = zi_n (G.1 30 e)) (h_state : ∀ e, e < 2 → a_state e = zi_n (G.1 0 e)) (h_error : ∀ e, e < 2 → a_error e = zi_n (G.1 1 e)) (h_iss : ∀ e, e < 2 → a_iss e = zi_n (G.1 2 e)) (h_una : ∀ e, e < 2 → a_una e = zl_n (G.1 32 e)) (h_nxt : ∀ e, e < 2 → a_nxt e = zl_n (G.1 4 e)) (h_max : ∀ e, e < 2 → a_max e = zl_n (G.1 5 e)) (h_last : ∀ e, e < 2 → a_last e = zl_n (G.1 33 e)) (h_closed : ∀ e, e < 2 → a_closed e = zi_n (G.1 29 e)) (h_written : ∀ e, e < 2 → ∀ p : Int, 1 ≤ p → p < G.1 33 e → G.1 33 e - 64 ≤ p → a_written (64 * e + (p % 64).toNat) = zi_n (gm_W G e p)) (h_irs : ∀ e, e < 2 → a_irs e = zi_n (G.1 7 e)) (h_unread : ∀ e, e < 2 → a_unread e = zi_n (G.1 9 e)) (h_bytes : ∀ e, e < 2 → ∀ i : Nat, (i : Int) < G.1 9 e → a_bytes (24 * e + i) = zi_n (gm_B G e (G.1 10 e + i))) (h_held : ∀ e, e < 2 → ∀ p : Int, gm_H G e p = true → a_held (64 * e + (p % 64).toNat) = zi_n (gm_B G e p)) (h_rcv : ∀ e, e < 2 → a_rcv e = zl_n (G.1 8 e)) (h_finAt : ∀ e, e < 2 → a_finAt e = zl_n (G.1 11 e)) (h_marked : ∀ e, e < 2 → ∀ p : Int, G.1 8 e ≤ p → p < G.1 8 e + 64 → a_marked (64 * e + (p % 64).toNat) = (if gm_H G e p = true then 1 else 0)) (h_wnd : ∀ e, e < 2 → a_wnd e = zi_n (G.1 12 e)) (h_peak : ∀ e, e < 2 → a_peak e = zi_n (G.1 16 e)) (h_half : ∀ e, e < 2 → a_half e = zi_n (G.1 17 e)) (h_rto : ∀ e, e < 2 → a_rto e = zi_n (G.1 19 e)) (h_same : ∀ e, e < 2 → a_same e = zi_n (G.1 34 e)) (h_tries : ∀ e, e < 2 → a_tries e = zi_n (G.1 35 e)) (h_smooth : ∀ e, e < 2 → a_smooth e = zi_n (G.1 27 e)) (h_spread : ∀ e, e < 2 → a_spread e = zi_n (G.1 28 e)) (h_byNumber : ∀ e, e < 2 → a_byNumber e = zi_n (G.1 14 e)) (h_byAck : ∀ e, e < 2 → a_byAck e = zi_n (G.1 15 e)) (h_sampled : ∀ e, e < 2 → a_sampled e = zi_n (G.1 26 e)) (h_told : ∀ e, e < 2 → a_told e = zi_n (G.1 13 e)) (h_retry : ∀ e, e < 2 → a_retry e = zi_n (G.1 21 e)) (h_ackAt : ∀ e, e < 2 → a_ackAt e = zi_n (G.1 22 e)) (h_waitAt : ∀ e, e < 2 → a_waitAt e = zi_n (G.1 23 e)) (h_timedAt : ∀ e, e < 2 → a_timedAt e = zi_n (G.1 25 e)) (h_timed : ∀ e, e < 2 → a_timed e = zl_n (G.1 24 e)) : vy_S q G (f_now, f_sent, a_seq, a_flags, a_acked, a_window, a_many, a_data, a_rows, a_state, a_error, a_iss, a_una, a_nxt, a_max, a_last, a_closed, a_written, a_irs, a_unread, a_bytes, a_held, a_rcv, a_finAt, a_marked, a_wnd, a_peak, a_half, a_rto, a_same, a_tries, a_smooth, a_spread, a_byNumber, a_byAck, a_sampled, a_told, a_retry, a_ackAt, a_waitAt, a_timedAt, a_timed) := by
  unfold vy_S
  exact ⟨h_now, h_sent, h_seq, h_flags, h_acked, h_window, h_many, h_data, h_rows, h_state, h_error, h_iss, h_una, h_nxt, h_max, h_last, h_closed, h_written, h_irs, h_unread, h_bytes, h_held, h_rcv, h_finAt, h_marked, h_wnd, h_peak, h_half, h_rto, h_same, h_tries, h_smooth, h_spread, h_byNumber, h_byAck, h_sampled, h_told, h_retry, h_ackAt, h_waitAt, h_timedAt, h_timed⟩
theorem vu_e {a : Nat → Int32} {F F' : Nat → Int} {k : Nat} {x : Int32} (h : ∀ e, e < 2 → a e = zi_n (F e)) (hx : x = zi_n (F' k)) (ho : ∀ e, e ≠ k → F' e = F e) : ∀ e, e < 2 → upd a k x e = zi_n (F' e) := by
  intro e he
  by_cases q : e = k
  · subst q; rw [zu_s]; exact hx
  · rw [zu_n q, h e he, ho e q]
theorem vu_l {a : Nat → Int64} {F F' : Nat → Int} {k : Nat} {x : Int64} (h : ∀ e, e < 2 → a e = zl_n (F e)) (hx : x = zl_n (F' k)) (ho : ∀ e, e ≠ k → F' e = F e) : ∀ e, e < 2 → vp_updL a k x e = zl_n (F' e) := by
  intro e he
  by_cases q : e = k
  · subst q; rw [zv_s]; exact hx
  · rw [zv_n q, h e he, ho e q]
theorem vk_e {a : Nat → Int32} {F F' : Nat → Int} (h : ∀ e, e < 2 → a e = zi_n (F e)) (ho : ∀ e, e < 2 → F' e = F e) : ∀ e, e < 2 → a e = zi_n (F' e) := by
  intro e he
  rw [h e he, ho e he]
theorem vk_l {a : Nat → Int64} {F F' : Nat → Int} (h : ∀ e, e < 2 → a e = zl_n (F e)) (ho : ∀ e, e < 2 → F' e = F e) : ∀ e, e < 2 → a e = zl_n (F' e) := by
  intro e he
  rw [h e he, ho e he]
theorem pe_lt {p : Int32} (hp : vp_in p 2) : p.toNatClampNeg < 2 := by
  obtain ⟨j, hj, rfl⟩ := vp_in_of hp (by decide)
  rw [nI_clamp (by omega)]; exact hj
theorem pe_z {p : Int32} (hp : vp_in p 2) : p = zi_n (p.toNatClampNeg : Int) := by
  obtain ⟨j, hj, rfl⟩ := vp_in_of hp (by decide)
  rw [nI_clamp (by omega)]; exact zi_nI j
theorem zk_0 : (0 : Int32) = zi_n 0 := rfl
theorem zk_1 : (1 : Int32) = zi_n 1 := rfl
theorem zk_2 : (2 : Int32) = zi_n 2 := rfl
theorem zk_3 : (3 : Int32) = zi_n 3 := rfl
theorem zk_4 : (4 : Int32) = zi_n 4 := rfl
theorem zk_5 : (5 : Int32) = zi_n 5 := rfl
theorem zk_6 : (6 : Int32) = zi_n 6 := rfl
theorem zk_7 : (7 : Int32) = zi_n 7 := rfl
theorem zk_8 : (8 : Int32) = zi_n 8 := rfl
theorem zk_9 : (9 : Int32) = zi_n 9 := rfl
theorem zk_10 : (10 : Int32) = zi_n 10 := rfl
theorem zk_13 : (13 : Int32) = zi_n 13 := rfl
theorem zk_15 : (15 : Int32) = zi_n 15 := rfl
theorem zk_16 : (16 : Int32) = zi_n 16 := rfl
theorem zk_20 : (20 : Int32) = zi_n 20 := rfl
theorem zk_24 : (24 : Int32) = zi_n 24 := rfl
theorem zk_32 : (32 : Int32) = zi_n 32 := rfl
theorem zk_64 : (64 : Int32) = zi_n 64 := rfl
theorem zk_m1 : (-1 : Int32) = zi_n (-1) := rfl
theorem zk_255 : (255 : Int32) = zi_n 255 := rfl
theorem zk_1000 : (1000 : Int32) = zi_n 1000 := rfl
theorem zk_65535 : (65535 : Int32) = zi_n 65535 := rfl
theorem zk_l0 : (0 : Int64) = zl_n 0 := rfl
theorem zk_l1 : (1 : Int64) = zl_n 1 := rfl
theorem zk_l8 : (8 : Int64) = zl_n 8 := rfl
theorem zk_lm1 : (-1 : Int64) = zl_n (-1) := rfl
theorem zf_n {f : Int} (h0 : 0 ≤ f) (h1 : f ≤ 15) : ∃ n : Nat, n < 16 ∧ f = (n : Int) := ⟨f.toNat, by omega, by omega⟩
theorem zf_1' : ∀ n : Nat, n < 16 → (zi_n (n : Int) &&& 1) = zi_n ((n : Int) % 2) := by decide +kernel
theorem zf_2' : ∀ n : Nat, n < 16 → (zi_n (n : Int) &&& 2) = zi_n (2 * ((n : Int) / 2 % 2)) := by decide +kernel
theorem zf_4' : ∀ n : Nat, n < 16 → (zi_n (n : Int) &&& 4) = zi_n (4 * ((n : Int) / 4 % 2)) := by decide +kernel
theorem zf_8' : ∀ n : Nat, n < 16 → (zi_n (n : Int) &&& 8) = zi_n (8 * ((n : Int) / 8 % 2)) := by decide +kernel
theorem zf_9' : ∀ n : Nat, n < 16 → (zi_n (n : Int) &&& 9) = zi_n (8 * ((n : Int) / 8 % 2) + (n : Int) % 2) := by decide +kernel
theorem zf_d' : ∀ n : Nat, n < 16 → (zi_n (n : Int) &&& 4) / 4 = zi_n ((n : Int) / 4 % 2) := by decide +kernel
theorem zf_1 {f : Int} (h0 : 0 ≤ f) (h1 : f ≤ 15) : (zi_n f &&& 1) = zi_n (f % 2) := by obtain ⟨n, hn, rfl⟩ := zf_n h0 h1; exact zf_1' n hn
theorem zf_2 {f : Int} (h0 : 0 ≤ f) (h1 : f ≤ 15) : (zi_n f &&& 2) = zi_n (2 * (f / 2 % 2)) := by obtain ⟨n, hn, rfl⟩ := zf_n h0 h1; exact zf_2' n hn
theorem zf_4 {f : Int} (h0 : 0 ≤ f) (h1 : f ≤ 15) : (zi_n f &&& 4) = zi_n (4 * (f / 4 % 2)) := by obtain ⟨n, hn, rfl⟩ := zf_n h0 h1; exact zf_4' n hn
theorem zf_8 {f : Int} (h0 : 0 ≤ f) (h1 : f ≤ 15) : (zi_n f &&& 8) = zi_n (8 * (f / 8 % 2)) := by obtain ⟨n, hn, rfl⟩ := zf_n h0 h1; exact zf_8' n hn
theorem zf_9 {f : Int} (h0 : 0 ≤ f) (h1 : f ≤ 15) : (zi_n f &&& 9) = zi_n (8 * (f / 8 % 2) + f % 2) := by obtain ⟨n, hn, rfl⟩ := zf_n h0 h1; exact zf_9' n hn
theorem zf_d {f : Int} (h0 : 0 ≤ f) (h1 : f ≤ 15) : (zi_n f &&& 4) / 4 = zi_n (f / 4 % 2) := by obtain ⟨n, hn, rfl⟩ := zf_n h0 h1; exact zf_d' n hn
theorem zf_o {f : Int} (h : f = 0 ∨ f = 1 ∨ f = 4) : (zi_n f ||| 2) = zi_n (f + 2) := by
  rcases h with rfl | rfl | rfl <;> decide +kernel
/-- stores into a slot of the link -/
theorem vs_0 {a : Nat → Int32} {l : Nat → Nat → Int} {k : Nat} {x : Int32} {a0 a1 a2 a3 a4 : Int} (h : ∀ i, i < 32 → a i = zi_n (l 0 i)) (hx : x = zi_n a0) : ∀ i, i < 32 → upd a k x i = zi_n (gm_l l k a0 a1 a2 a3 a4 0 i) := by
  intro i hi
  unfold upd gm_l
  split
  · exact hx
  · exact h i hi
theorem vs_1 {a : Nat → Int32} {l : Nat → Nat → Int} {k : Nat} {x : Int32} {a0 a1 a2 a3 a4 : Int} (h : ∀ i, i < 32 → a i = zi_n (l 1 i)) (hx : x = zi_n a1) : ∀ i, i < 32 → upd a k x i = zi_n (gm_l l k a0 a1 a2 a3 a4 1 i) := by
  intro i hi
  unfold upd gm_l
  split
  · exact hx
  · exact h i hi
theorem vs_2 {a : Nat → Int32} {l : Nat → Nat → Int} {k : Nat} {x : Int32} {a0 a1 a2 a3 a4 : Int} (h : ∀ i, i < 32 → a i = zi_n (l 2 i)) (hx : x = zi_n a2) : ∀ i, i < 32 → upd a k x i = zi_n (gm_l l k a0 a1 a2 a3 a4 2 i) := by
  intro i hi
  unfold upd gm_l
  split
  · exact hx
  · exact h i hi
theorem vs_3 {a : Nat → Int32} {l : Nat → Nat → Int} {k : Nat} {x : Int32} {a0 a1 a2 a3 a4 : Int} (h : ∀ i, i < 32 → a i = zi_n (l 3 i)) (hx : x = zi_n a3) : ∀ i, i < 32 → upd a k x i = zi_n (gm_l l k a0 a1 a2 a3 a4 3 i) := by
  intro i hi
  unfold upd gm_l
  split
  · exact hx
  · exact h i hi
theorem vs_4 {a : Nat → Int32} {l : Nat → Nat → Int} {k : Nat} {x : Int32} {a0 a1 a2 a3 a4 : Int} (h : ∀ i, i < 32 → a i = zi_n (l 4 i)) (hx : x = zi_n a4) : ∀ i, i < 32 → upd a k x i = zi_n (gm_l l k a0 a1 a2 a3 a4 4 i) := by
  intro i hi
  unfold upd gm_l
  split
  · exact hx
  · exact h i hi
/-- a store beyond the slots of the two rows -/
theorem vs_x {a : Nat → Int32} {F : Nat → Int} {k : Nat} {x : Int32} (h : ∀ i, i < 32 → a i = zi_n (F i)) (hk : 32 ≤ k) : ∀ i, i < 32 → upd a k x i = zi_n (F i) := by
  intro i hi
  rw [zu_n (by omega)]; exact h i hi
end
section
/-! the class's small methods -/
theorem xl_behind {P : Int32 → Prop} {x y : Int32} {a b : Int} (hx : x = zi_n a) (hy : y = zi_n b) (h : P (zi_n ((a + b) % 65536))) : wpX_behind P x y := by
  unfold wpX_behind
  rw [hx, hy, zi_add, zi_a16]
  exact h
theorem xl_offset {P : Int32 → Prop} {x y : Int32} {a b : Int} (hx : x = zi_n a) (hy : y = zi_n b) (h : P (zi_n (zi_s (a - b)))) : wpX_offset P x y := by
  unfold wpX_offset
  rw [hx, hy, zi_sub, zi_short]
  exact h
theorem xl_off {P : Int32 → Prop} {x y : Int32} {i a b : Int} (hx : x = zi_n ((i + a) % 65536)) (hy : y = zi_n ((i + b) % 65536)) (h1 : -32768 ≤ a - b) (h2 : a - b < 32768) (h : P (zi_n (a - b))) : wpX_offset P x y :=
  xl_offset hx hy (by rw [zi_off h1 h2]; exact h)
theorem xl_lengthOf {P : Int32 → Prop} {f n : Int} (h0 : 0 ≤ f) (h1 : f ≤ 15) (h : P (zi_n (gp_len f n))) : wpX_lengthOf P (zi_n f) (zi_n n) := by
  unfold wpX_lengthOf wX_lengthOf_12
  have e1 : (zi_n f &&& 1) = zi_n (f % 2) := zf_1 h0 h1
  have e4 : (zi_n f &&& 4) = zi_n (4 * (f / 4 % 2)) := zf_4 h0 h1
  have e : gp_len f n = n + f % 2 + f / 4 % 2 := rfl
  rw [e] at h
  rw [e1, e4, zk_0, zk_1]
  rw [zi_eq (by omega) (by omega) (by omega) (by omega), zi_eq (by omega) (by omega) (by omega) (by omega)]
  simp only [zi_add]
  refine ⟨fun q => ⟨fun w => ?_, fun w => ?_⟩, fun q => ⟨fun w => ?_, fun w => ?_⟩⟩
  · rw [show n + 0 + 0 = n + f % 2 + f / 4 % 2 from by omega]; exact h
  · rw [show n + 0 + 1 = n + f % 2 + f / 4 % 2 from by omega]; exact h
  · rw [show n + 1 + 0 = n + f % 2 + f / 4 % 2 from by omega]; exact h
  · rw [show n + 1 + 1 = n + f % 2 + f / 4 % 2 from by omega]; exact h
theorem xl_nextSlot {P : Int32 → SX → Prop} {f_now : Int32} {f_sent : Int32} {a_stateOf : (Nat → Int32)} {a_error : (Nat → Int32)} {a_iss : (Nat → Int32)} {a_una : (Nat → Int32)} {a_nxt : (Nat → Int32)} {a_max : (Nat → Int32)} {a_writtenTo : (Nat → Int32)} {a_kept : (Nat → Int32)} {a_keptBytes : (Nat → Int32)} {a_rcv : (Nat → Int32)} {a_unread : (Nat → Int32)} {a_unreadFrom : (Nat → Int32)} {a_cameBytes : (Nat → Int32)} {a_held : (Nat → Int32)} {a_heldFin : (Nat → Int32)} {a_wnd : (Nat → Int32)} {a_wndSeq : (Nat → Int32)} {a_wndAck : (Nat → Int32)} {a_peak : (Nat → Int32)} {a_half : (Nat → Int32)} {a_same : (Nat → Int32)} {a_rto : (Nat → Int32)} {a_tries : (Nat → Int32)} {a_retryAt : (Nat → Int32)} {a_ackAt : (Nat → Int32)} {a_waitTill : (Nat → Int32)} {a_timedAt : (Nat → Int32)} {a_timedSeq : (Nat → Int32)} {a_smoothed : (Nat → Int32)} {a_variance : (Nat → Int32)} {a_rowCount : (Nat → Int32)} {a_slotSeq : (Nat → Int32)} {a_slotFlags : (Nat → Int32)} {a_slotAck : (Nat → Int32)} {a_slotWindow : (Nat → Int32)} {a_slotSize : (Nat → Int32)} {a_slotBytes : (Nat → Int32)} {p : Int32} {r : Int} (hp : vp_in p 2) (hr : a_rowCount p.toNatClampNeg = zi_n r) (h0 : 0 ≤ r) (h16 : r ≤ 16) (h1 : r < 16 → P (zi_n (16 * (p.toNatClampNeg : Int) + r)) (f_now, f_sent, a_stateOf, a_error, a_iss, a_una, a_nxt, a_max, a_writtenTo, a_kept, a_keptBytes, a_rcv, a_unread, a_unreadFrom, a_cameBytes, a_held, a_heldFin, a_wnd, a_wndSeq, a_wndAck, a_peak, a_half, a_same, a_rto, a_tries, a_retryAt, a_ackAt, a_waitTill, a_timedAt, a_timedSeq, a_smoothed, a_variance, upd a_rowCount p.toNatClampNeg (zi_n (r + 1)), a_slotSeq, a_slotFlags, a_slotAck, a_slotWindow, a_slotSize, a_slotBytes)) (h2 : r = 16 → P (zi_n 32) (f_now, f_sent, a_stateOf, a_error, a_iss, a_una, a_nxt, a_max, a_writtenTo, a_kept, a_keptBytes, a_rcv, a_unread, a_unreadFrom, a_cameBytes, a_held, a_heldFin, a_wnd, a_wndSeq, a_wndAck, a_peak, a_half, a_same, a_rto, a_tries, a_retryAt, a_ackAt, a_waitTill, a_timedAt, a_timedSeq, a_smoothed, a_variance, a_rowCount, a_slotSeq, a_slotFlags, a_slotAck, a_slotWindow, a_slotSize, a_slotBytes)) : wpX_nextSlot P (f_now, f_sent, a_stateOf, a_error, a_iss, a_una, a_nxt, a_max, a_writtenTo, a_kept, a_keptBytes, a_rcv, a_unread, a_unreadFrom, a_cameBytes, a_held, a_heldFin, a_wnd, a_wndSeq, a_wndAck, a_peak, a_half, a_same, a_rto, a_tries, a_retryAt, a_ackAt, a_waitTill, a_timedAt, a_timedSeq, a_smoothed, a_variance, a_rowCount, a_slotSeq, a_slotFlags, a_slotAck, a_slotWindow, a_slotSize, a_slotBytes) p := by
  have hz := pe_z hp
  have hl := pe_lt hp
  unfold wpX_nextSlot
  by_cases q : r = 16
  · exact ⟨hp, br_t (by rw [hr, q]; rfl) (h2 q)⟩
  · have e1 : a_rowCount p.toNatClampNeg + 1 = zi_n (r + 1) := by rw [hr, zk_1, zi_add]
    have e2 : (p * 16 + upd a_rowCount p.toNatClampNeg (zi_n (r + 1)) p.toNatClampNeg) - 1 = zi_n (16 * (p.toNatClampNeg : Int) + r) := by
      rw [zu_s]
      generalize p.toNatClampNeg = e at *
      rw [hz, zk_16, zk_1, zi_mul, zi_add, zi_sub]
      congr 1; omega
    refine ⟨hp, br_f (by rw [hr, zk_16, zi_eq (by omega) (by omega) (by omega) (by omega)]; exact q) ⟨hp, hp, nm_r (congrArg (upd a_rowCount p.toNatClampNeg) e1) ⟨hp, ?_⟩⟩⟩
    rw [e2]
    exact h1 (by omega)
theorem xl_setRetry {P : SX → Prop} {f_now : Int32} {f_sent : Int32} {a_stateOf : (Nat → Int32)} {a_error : (Nat → Int32)} {a_iss : (Nat → Int32)} {a_una : (Nat → Int32)} {a_nxt : (Nat → Int32)} {a_max : (Nat → Int32)} {a_writtenTo : (Nat → Int32)} {a_kept : (Nat → Int32)} {a_keptBytes : (Nat → Int32)} {a_rcv : (Nat → Int32)} {a_unread : (Nat → Int32)} {a_unreadFrom : (Nat → Int32)} {a_cameBytes : (Nat → Int32)} {a_held : (Nat → Int32)} {a_heldFin : (Nat → Int32)} {a_wnd : (Nat → Int32)} {a_wndSeq : (Nat → Int32)} {a_wndAck : (Nat → Int32)} {a_peak : (Nat → Int32)} {a_half : (Nat → Int32)} {a_same : (Nat → Int32)} {a_rto : (Nat → Int32)} {a_tries : (Nat → Int32)} {a_retryAt : (Nat → Int32)} {a_ackAt : (Nat → Int32)} {a_waitTill : (Nat → Int32)} {a_timedAt : (Nat → Int32)} {a_timedSeq : (Nat → Int32)} {a_smoothed : (Nat → Int32)} {a_variance : (Nat → Int32)} {a_rowCount : (Nat → Int32)} {a_slotSeq : (Nat → Int32)} {a_slotFlags : (Nat → Int32)} {a_slotAck : (Nat → Int32)} {a_slotWindow : (Nat → Int32)} {a_slotSize : (Nat → Int32)} {a_slotBytes : (Nat → Int32)} {p : Int32} {r : Int} (hp : vp_in p 2) (hr : a_retryAt p.toNatClampNeg = zi_n r) (h0 : -1 ≤ r) (h1 : r < 2147483648) (hP : P (f_now, f_sent, a_stateOf, a_error, a_iss, a_una, a_nxt, a_max, a_writtenTo, a_kept, a_keptBytes, a_rcv, a_unread, a_unreadFrom, a_cameBytes, a_held, a_heldFin, a_wnd, a_wndSeq, a_wndAck, a_peak, a_half, a_same, a_rto, a_tries, if r < 0 then upd a_retryAt p.toNatClampNeg (f_now + a_rto p.toNatClampNeg) else a_retryAt, a_ackAt, a_waitTill, a_timedAt, a_timedSeq, a_smoothed, a_variance, a_rowCount, a_slotSeq, a_slotFlags, a_slotAck, a_slotWindow, a_slotSize, a_slotBytes)) : wpX_setRetryIfNone P (f_now, f_sent, a_stateOf, a_error, a_iss, a_una, a_nxt, a_max, a_writtenTo, a_kept, a_keptBytes, a_rcv, a_unread, a_unreadFrom, a_cameBytes, a_held, a_heldFin, a_wnd, a_wndSeq, a_wndAck, a_peak, a_half, a_same, a_rto, a_tries, a_retryAt, a_ackAt, a_waitTill, a_timedAt, a_timedSeq, a_smoothed, a_variance, a_rowCount, a_slotSeq, a_slotFlags, a_slotAck, a_slotWindow, a_slotSize, a_slotBytes) p := by
  unfold wpX_setRetryIfNone
  by_cases q : r < 0
  · rw [if_pos q] at hP
    exact ⟨hp, br_t (by rw [hr, zk_m1]; congr 1; omega) ⟨hp, hp, nm_e hP⟩⟩
  · rw [if_neg q] at hP
    exact ⟨hp, br_f (by rw [hr, zk_m1, zi_eq (by omega) (by omega) (by omega) (by omega)]; omega) hP⟩
theorem xl_ownWindow {P : Int32 → Prop} {f_now : Int32} {f_sent : Int32} {a_stateOf : (Nat → Int32)} {a_error : (Nat → Int32)} {a_iss : (Nat → Int32)} {a_una : (Nat → Int32)} {a_nxt : (Nat → Int32)} {a_max : (Nat → Int32)} {a_writtenTo : (Nat → Int32)} {a_kept : (Nat → Int32)} {a_keptBytes : (Nat → Int32)} {a_rcv : (Nat → Int32)} {a_unread : (Nat → Int32)} {a_unreadFrom : (Nat → Int32)} {a_cameBytes : (Nat → Int32)} {a_held : (Nat → Int32)} {a_heldFin : (Nat → Int32)} {a_wnd : (Nat → Int32)} {a_wndSeq : (Nat → Int32)} {a_wndAck : (Nat → Int32)} {a_peak : (Nat → Int32)} {a_half : (Nat → Int32)} {a_same : (Nat → Int32)} {a_rto : (Nat → Int32)} {a_tries : (Nat → Int32)} {a_retryAt : (Nat → Int32)} {a_ackAt : (Nat → Int32)} {a_waitTill : (Nat → Int32)} {a_timedAt : (Nat → Int32)} {a_timedSeq : (Nat → Int32)} {a_smoothed : (Nat → Int32)} {a_variance : (Nat → Int32)} {a_rowCount : (Nat → Int32)} {a_slotSeq : (Nat → Int32)} {a_slotFlags : (Nat → Int32)} {a_slotAck : (Nat → Int32)} {a_slotWindow : (Nat → Int32)} {a_slotSize : (Nat → Int32)} {a_slotBytes : (Nat → Int32)} {p : Int32} {r : Int} (hp : vp_in p 2) (hr : a_unread p.toNatClampNeg = zi_n r) (h : P (zi_n (24 - r))) : wpX_ownWindow P (f_now, f_sent, a_stateOf, a_error, a_iss, a_una, a_nxt, a_max, a_writtenTo, a_kept, a_keptBytes, a_rcv, a_unread, a_unreadFrom, a_cameBytes, a_held, a_heldFin, a_wnd, a_wndSeq, a_wndAck, a_peak, a_half, a_same, a_rto, a_tries, a_retryAt, a_ackAt, a_waitTill, a_timedAt, a_timedSeq, a_smoothed, a_variance, a_rowCount, a_slotSeq, a_slotFlags, a_slotAck, a_slotWindow, a_slotSize, a_slotBytes) p := by
  unfold wpX_ownWindow
  refine ⟨hp, ?_⟩
  rw [hr, zk_24, zi_sub]; exact h
theorem vn_b0 : vp_nar .boolean 0 = 0 := rfl
theorem vn_b1 : vp_nar .boolean 1 = 1 := rfl
theorem xl_holdNothing {P : SX → Prop} {f_now : Int32} {f_sent : Int32} {a_stateOf : (Nat → Int32)} {a_error : (Nat → Int32)} {a_iss : (Nat → Int32)} {a_una : (Nat → Int32)} {a_nxt : (Nat → Int32)} {a_max : (Nat → Int32)} {a_writtenTo : (Nat → Int32)} {a_kept : (Nat → Int32)} {a_keptBytes : (Nat → Int32)} {a_rcv : (Nat → Int32)} {a_unread : (Nat → Int32)} {a_unreadFrom : (Nat → Int32)} {a_cameBytes : (Nat → Int32)} {a_held : (Nat → Int32)} {a_heldFin : (Nat → Int32)} {a_wnd : (Nat → Int32)} {a_wndSeq : (Nat → Int32)} {a_wndAck : (Nat → Int32)} {a_peak : (Nat → Int32)} {a_half : (Nat → Int32)} {a_same : (Nat → Int32)} {a_rto : (Nat → Int32)} {a_tries : (Nat → Int32)} {a_retryAt : (Nat → Int32)} {a_ackAt : (Nat → Int32)} {a_waitTill : (Nat → Int32)} {a_timedAt : (Nat → Int32)} {a_timedSeq : (Nat → Int32)} {a_smoothed : (Nat → Int32)} {a_variance : (Nat → Int32)} {a_rowCount : (Nat → Int32)} {a_slotSeq : (Nat → Int32)} {a_slotFlags : (Nat → Int32)} {a_slotAck : (Nat → Int32)} {a_slotWindow : (Nat → Int32)} {a_slotSize : (Nat → Int32)} {a_slotBytes : (Nat → Int32)} {p : Int32} (hp : vp_in p 2) (hP : ∀ A : Nat → Int32, (∀ j, j < 32 → A (32 * p.toNatClampNeg + j) = 0) → (∀ j, (j < 32 * p.toNatClampNeg ∨ 32 * p.toNatClampNeg + 32 ≤ j) → A j = a_held j) → P (f_now, f_sent, a_stateOf, a_error, a_iss, a_una, a_nxt, a_max, a_writtenTo, a_kept, a_keptBytes, a_rcv, a_unread, a_unreadFrom, a_cameBytes, A, upd a_heldFin p.toNatClampNeg (-1), a_wnd, a_wndSeq, a_wndAck, a_peak, a_half, a_same, a_rto, a_tries, a_retryAt, a_ackAt, a_waitTill, a_timedAt, a_timedSeq, a_smoothed, a_variance, a_rowCount, a_slotSeq, a_slotFlags, a_slotAck, a_slotWindow, a_slotSize, a_slotBytes)) : wpX_holdNothing P (f_now, f_sent, a_stateOf, a_error, a_iss, a_una, a_nxt, a_max, a_writtenTo, a_kept, a_keptBytes, a_rcv, a_unread, a_unreadFrom, a_cameBytes, a_held, a_heldFin, a_wnd, a_wndSeq, a_wndAck, a_peak, a_half, a_same, a_rto, a_tries, a_retryAt, a_ackAt, a_waitTill, a_timedAt, a_timedSeq, a_smoothed, a_variance, a_rowCount, a_slotSeq, a_slotFlags, a_slotAck, a_slotWindow, a_slotSize, a_slotBytes) p := by
  have hz := pe_z hp
  have hl := pe_lt hp
  have lo : ∀ (n i : Nat) (A H : Nat → Int32), i ≤ 32 → 32 - i < n → (∀ j, j < i → A (32 * p.toNatClampNeg + j) = 0) → (∀ j, (j < 32 * p.toNatClampNeg ∨ 32 * p.toNatClampNeg + 32 ≤ j) → A j = a_held j) → H = upd a_heldFin p.toNatClampNeg (-1) → wX_holdNothing_9 P p f_now f_sent n (nI i) a_stateOf a_error a_iss a_una a_nxt a_max a_writtenTo a_kept a_keptBytes a_rcv a_unread a_unreadFrom a_cameBytes (A) (H) a_wnd a_wndSeq a_wndAck a_peak a_half a_same a_rto a_tries a_retryAt a_ackAt a_waitTill a_timedAt a_timedSeq a_smoothed a_variance a_rowCount a_slotSeq a_slotFlags a_slotAck a_slotWindow a_slotSize a_slotBytes := by
    intro n
    induction n with
    | zero => intro i A H h1 h2; omega
    | succ n ih =>
      intro i A H h1 h2 h3 h4 h5
      by_cases q : i = 32
      · subst q
        refine br_t (by decide) ?_
        rw [h5]
        exact hP A h3 h4
      · have e1 : (p * 32 + nI i) = zi_n (32 * (p.toNatClampNeg : Int) + i) := by
          generalize p.toNatClampNeg = e at *
          rw [hz, zi_nI, zk_32, zi_mul, zi_add]; congr 1; omega
        have e2 : (p * 32 + nI i).toNatClampNeg = 32 * p.toNatClampNeg + i := by
          rw [e1, zi_cl (by omega) (by omega)]; omega
        refine br_f ?_ ⟨?_, nm_e (nm_r (nI_1 i) (ih (i + 1) _ H (by omega) (by omega) ?_ ?_ h5))⟩
        · rw [zk_32, zi_nI, zi_le (by omega) (by omega) (by omega) (by omega)]; omega
        · rw [e1]; exact zi_in (by omega) (by omega) (by omega)
        · intro j hj
          rw [e2]
          by_cases w : j = i
          · rw [w, zu_s]; rfl
          · rw [zu_n (by omega)]; exact h3 j (by omega)
        · intro j hj
          rw [e2, zu_n (by omega)]; exact h4 j hj
  unfold wpX_holdNothing
  exact ⟨hp, nm_e ⟨33, lo 33 0 a_held _ (by omega) (by omega) (fun j hj => by omega) (fun j _ => rfl) rfl⟩⟩
end
section
/-! the class: an end ends and begins; what it sends -/
theorem vh_none {A a : Nat → Int32} {h : Nat → Int → Bool} {e : Nat} {I R I' R' : Nat → Int} (hA1 : ∀ j, j < 32 → A (32 * e + j) = 0) (hA2 : ∀ j, (j < 32 * e ∨ 32 * e + 32 ≤ j) → A j = a j) (hh : ∀ e', e' < 2 → e' ≠ e → ∀ p : Int, R e' ≤ p → p < R e' + 32 → a (32 * e' + ((I e' + p) % 32).toNat) = (if h e' p = true then 1 else 0)) (hI : ∀ e', e' ≠ e → I' e' = I e') (hR : ∀ e', e' ≠ e → R' e' = R e') : ∀ e', e' < 2 → ∀ p : Int, R' e' ≤ p → p < R' e' + 32 → A (32 * e' + ((I' e' + p) % 32).toNat) = (if gp_none h e e' p = true then 1 else 0) := by
  intro e' he' p h1 h2
  by_cases q : e' = e
  · subst q
    rw [hA1 _ (by omega), nn_e]; rfl
  · rw [hA2 _ (by omega), nn_o q, hI e' q]
    rw [hR e' q] at h1 h2
    exact hh e' he' q p h1 h2
theorem vx_ext {q : Int} {G G' : gm_T} {u : SX} (hc : ∀ e, e < 2 → ∀ f, G'.1 f e = G.1 f e) (hr : G'.2 = G.2) (h : vx_S q G u) : vx_S q G' u := by
  obtain ⟨c, r⟩ := G
  obtain ⟨c', r'⟩ := G'
  obtain rfl : r' = r := hr
  obtain ⟨f_now, f_sent, a_stateOf, a_error, a_iss, a_una, a_nxt, a_max, a_writtenTo, a_kept, a_keptBytes, a_rcv, a_unread, a_unreadFrom, a_cameBytes, a_held, a_heldFin, a_wnd, a_wndSeq, a_wndAck, a_peak, a_half, a_same, a_rto, a_tries, a_retryAt, a_ackAt, a_waitTill, a_timedAt, a_timedSeq, a_smoothed, a_variance, a_rowCount, a_slotSeq, a_slotFlags, a_slotAck, a_slotWindow, a_slotSize, a_slotBytes⟩ := u
  obtain ⟨h_now, h_sent, h_stateOf, h_error, h_iss, h_una, h_nxt, h_max, h_writtenTo, h_kept, h_keptBytes, h_rcv, h_unread, h_unreadFrom, h_cameBytes, h_held, h_heldFin, h_wnd, h_wndSeq, h_wndAck, h_peak, h_half, h_same, h_rto, h_tries, h_retryAt, h_ackAt, h_waitTill, h_timedAt, h_timedSeq, h_smoothed, h_variance, h_rowCount, h_slotSeq, h_slotFlags, h_slotAck, h_slotWindow, h_slotSize, h_slotBytes⟩ := h
  replace hc : ∀ e, e < 2 → ∀ f, c' f e = c f e := hc
  exact (vx_mk h_now h_sent (fun e he => by simp only [hc e he]; exact h_stateOf e he) (fun e he => by simp only [hc e he]; exact h_error e he) (fun e he => by simp only [hc e he]; exact h_iss e he) (fun e he => by simp only [hc e he]; exact h_una e he) (fun e he => by simp only [hc e he]; exact h_nxt e he) (fun e he => by simp only [hc e he]; exact h_max e he) (fun e he => by simp only [hc e he]; exact h_writtenTo e he) (fun e he => by simp only [hc e he]; exact h_kept e he) (fun e he => by simp only [hc e he]; exact h_keptBytes e he) (fun e he => by simp only [hc e he]; exact h_rcv e he) (fun e he => by simp only [hc e he]; exact h_unread e he) (fun e he => by simp only [hc e he]; exact h_unreadFrom e he) (fun e he => by simp only [hc e he]; exact h_cameBytes e he) (fun e he => by simp only [hc e he]; exact h_held e he) (fun e he => by simp only [hc e he]; exact h_heldFin e he) (fun e he => by simp only [hc e he]; exact h_wnd e he) (fun e he => by simp only [hc e he]; exact h_wndSeq e he) (fun e he => by simp only [hc e he]; exact h_wndAck e he) (fun e he => by simp only [hc e he]; exact h_peak e he) (fun e he => by simp only [hc e he]; exact h_half e he) (fun e he => by simp only [hc e he]; exact h_same e he) (fun e he => by simp only [hc e he]; exact h_rto e he) (fun e he => by simp only [hc e he]; exact h_tries e he) (fun e he => by simp only [hc e he]; exact h_retryAt e he) (fun e he => by simp only [hc e he]; exact h_ackAt e he) (fun e he => by simp only [hc e he]; exact h_waitTill e he) (fun e he => by simp only [hc e he]; exact h_timedAt e he) (fun e he => by simp only [hc e he]; exact h_timedSeq e he) (fun e he => by simp only [hc e he]; exact h_smoothed e he) (fun e he => by simp only [hc e he]; exact h_variance e he) (fun e he => by simp only [hc e he]; exact h_rowCount e he) h_slotSeq h_slotFlags h_slotAck h_slotWindow h_slotSize h_slotBytes)
theorem xl_endAll {q : Int} {G : gm_T} {u : SX} {p : Int32} {P : SX → Prop} (hv : vx_S q G u) (hp : vp_in p 2) (hP : ∀ u', vx_S q (gp_over G p.toNatClampNeg (G.1 1 p.toNatClampNeg)) u' → P u') : wpX_endAll P u p := by
  obtain ⟨f_now, f_sent, a_stateOf, a_error, a_iss, a_una, a_nxt, a_max, a_writtenTo, a_kept, a_keptBytes, a_rcv, a_unread, a_unreadFrom, a_cameBytes, a_held, a_heldFin, a_wnd, a_wndSeq, a_wndAck, a_peak, a_half, a_same, a_rto, a_tries, a_retryAt, a_ackAt, a_waitTill, a_timedAt, a_timedSeq, a_smoothed, a_variance, a_rowCount, a_slotSeq, a_slotFlags, a_slotAck, a_slotWindow, a_slotSize, a_slotBytes⟩ := u
  obtain ⟨h_now, h_sent, h_stateOf, h_error, h_iss, h_una, h_nxt, h_max, h_writtenTo, h_kept, h_keptBytes, h_rcv, h_unread, h_unreadFrom, h_cameBytes, h_held, h_heldFin, h_wnd, h_wndSeq, h_wndAck, h_peak, h_half, h_same, h_rto, h_tries, h_retryAt, h_ackAt, h_waitTill, h_timedAt, h_timedSeq, h_smoothed, h_variance, h_rowCount, h_slotSeq, h_slotFlags, h_slotAck, h_slotWindow, h_slotSize, h_slotBytes⟩ := hv
  unfold wpX_endAll
  refine ⟨hp, nm_e ⟨hp, nm_e (xl_holdNothing hp fun A hA1 hA2 => ⟨hp, nm_e ⟨hp, nm_e ⟨hp, nm_e ⟨hp, nm_e (hP _ ?_)⟩⟩⟩⟩)⟩⟩
  generalize p.toNatClampNeg = e at *
  have vl : ∀ f z, (gp_over G e (G.1 1 e)).1 f e = z → (gp_over G e (G.1 1 e)).1 f e = z := fun _ _ h => h
  refine (vx_mk h_now h_sent (vu_e h_stateOf ?a1 (fun e' q => ov_o q _)) (vk_e h_error (fun e' he' => ?a2)) h_iss h_una h_nxt h_max h_writtenTo (vu_e h_kept ?a3 (fun e' q => ov_o q _)) h_keptBytes h_rcv h_unread h_unreadFrom (fun e' he' p w => h_cameBytes e' he' p (w.imp id nn_H)) (vh_none hA1 hA2 (fun e' he' _ => h_held e' he') (fun e' q => ov_o q _) (fun e' q => ov_o q _)) (vu_e h_heldFin ?a4 (fun e' q => ?a5)) h_wnd h_wndSeq h_wndAck h_peak h_half h_same h_rto h_tries (vu_e h_retryAt ?a6 (fun e' q => ov_o q _)) (vu_e h_ackAt ?a7 (fun e' q => ov_o q _)) (vu_e h_waitTill ?a8 (fun e' q => ov_o q _)) (vu_e h_timedAt ?a9 (fun e' q => ?b1)) (fun e' he' w => ?b2) h_smoothed h_variance h_rowCount h_slotSeq h_slotFlags h_slotAck h_slotWindow h_slotSize h_slotBytes)
  case a1 => simp +decide only [gp_over, gs_s, gs_f]; rfl
  case a2 =>
    by_cases q : e' = e
    · subst q; simp +decide only [gp_over, gs_s, gs_f]
    · exact ov_o q _
  case a3 => simp +decide only [gp_over, gs_s, gs_f]; rfl
  case a4 => simp +decide only [gp_over, gs_s, gs_f]; rfl
  case a5 => simp only [ov_o q]
  case a6 => simp +decide only [gp_over, gs_s, gs_f]; rfl
  case a7 => simp +decide only [gp_over, gs_s, gs_f]; rfl
  case a8 => simp +decide only [gp_over, gs_s, gs_f]; rfl
  case a9 => simp +decide only [gp_over, gs_s, gs_f]; rfl
  case b1 => simp only [ov_o q]
  case b2 =>
    by_cases q : e' = e
    · subst q; simp +decide only [gp_over, gs_s, gs_f] at w; omega
    · simp only [ov_o q] at w ⊢; exact h_timedSeq e' he' w
theorem vh_all {a : Nat → Int32} {e : Nat} {I R : Int} (h : ∀ p : Int, R ≤ p → p < R + 32 → a (32 * e + ((I + p) % 32).toNat) = 0) : ∀ j, j < 32 → a (32 * e + j) = 0 := by
  intro j hj
  have := h (R + ((j : Int) - I - R) % 32) (by omega) (by omega)
  rw [show ((I + (R + ((j : Int) - I - R) % 32)) % 32).toNat = j from by omega] at this
  exact this
theorem xl_begin {q : Int} {G : gm_T} {u : SX} {p x : Int32} {P : SX → Prop} {iss : Int} (hv : vx_S q G u) (hp : vp_in p 2) (hx : x = zi_n iss) (h0 : 0 ≤ iss) (h1 : iss ≤ 65535) (hP : ∀ u', vx_S q (gp_begin G p.toNatClampNeg iss) u' → P u') : wpX_begin P u p x := by
  obtain ⟨f_now, f_sent, a_stateOf, a_error, a_iss, a_una, a_nxt, a_max, a_writtenTo, a_kept, a_keptBytes, a_rcv, a_unread, a_unreadFrom, a_cameBytes, a_held, a_heldFin, a_wnd, a_wndSeq, a_wndAck, a_peak, a_half, a_same, a_rto, a_tries, a_retryAt, a_ackAt, a_waitTill, a_timedAt, a_timedSeq, a_smoothed, a_variance, a_rowCount, a_slotSeq, a_slotFlags, a_slotAck, a_slotWindow, a_slotSize, a_slotBytes⟩ := u
  unfold wpX_begin
  refine xl_endAll hv hp fun u1 hv1 => ?_
  clear hv
  obtain ⟨f_now, f_sent, a_stateOf, a_error, a_iss, a_una, a_nxt, a_max, a_writtenTo, a_kept, a_keptBytes, a_rcv, a_unread, a_unreadFrom, a_cameBytes, a_held, a_heldFin, a_wnd, a_wndSeq, a_wndAck, a_peak, a_half, a_same, a_rto, a_tries, a_retryAt, a_ackAt, a_waitTill, a_timedAt, a_timedSeq, a_smoothed, a_variance, a_rowCount, a_slotSeq, a_slotFlags, a_slotAck, a_slotWindow, a_slotSize, a_slotBytes⟩ := u1
  obtain ⟨h_now, h_sent, h_stateOf, h_error, h_iss, h_una, h_nxt, h_max, h_writtenTo, h_kept, h_keptBytes, h_rcv, h_unread, h_unreadFrom, h_cameBytes, h_held, h_heldFin, h_wnd, h_wndSeq, h_wndAck, h_peak, h_half, h_same, h_rto, h_tries, h_retryAt, h_ackAt, h_waitTill, h_timedAt, h_timedSeq, h_smoothed, h_variance, h_rowCount, h_slotSeq, h_slotFlags, h_slotAck, h_slotWindow, h_slotSize, h_slotBytes⟩ := hv1
  refine ⟨hp, nm_e ⟨hp, nm_e ⟨hp, nm_e ⟨hp, nm_e ⟨hp, nm_e (xl_behind hx zk_1 ⟨hp, nm_e ⟨hp, nm_e ⟨hp, nm_e ⟨hp, nm_e ⟨hp, nm_e ⟨hp, nm_e ⟨hp, nm_e ⟨hp, nm_e ⟨hp, nm_e ⟨hp, nm_e ⟨hp, nm_e ⟨hp, nm_e ⟨hp, nm_e ⟨hp, nm_e ⟨hp, nm_e (hP _ ?_)⟩⟩⟩⟩⟩⟩⟩⟩⟩⟩⟩⟩⟩⟩⟩)⟩⟩⟩⟩⟩
  have hl := pe_lt hp
  generalize p.toNatClampNeg = e at *
  have o1 : ∀ e' f, e' ≠ e → (gp_begin G e iss).1 f e' = (gp_over G e (G.1 1 e)).1 f e' := fun e' f q => by rw [bg_o q, ov_o q]
  have m1 : iss % 65536 = iss := by omega
  refine (vx_mk h_now h_sent (vk_e h_stateOf (fun e' he' => ?k1)) (vu_e h_error ?v1 (fun e' q => o1 _ _ q)) (vu_e h_iss ?v2 (fun e' q => o1 _ _ q)) (vu_e h_una ?v3 (fun e' q => by rw [o1 _ _ q, o1 _ _ q])) (vu_e h_nxt ?v4 (fun e' q => by rw [o1 _ _ q, o1 _ _ q])) (vu_e h_max ?v5 (fun e' q => by rw [o1 _ _ q, o1 _ _ q])) (vu_e h_writtenTo ?v6 (fun e' q => by rw [o1 _ _ q, o1 _ _ q])) (vk_e h_kept (fun e' he' => ?k2)) (fun e' he' => ?b1) (vu_e h_rcv ?v7 (fun e' q => by rw [o1 _ _ q, o1 _ _ q])) (vu_e h_unread ?v8 (fun e' q => o1 _ _ q)) (vu_e h_unreadFrom ?v9 (fun e' q => by rw [o1 _ _ q, o1 _ _ q])) (fun e' he' => ?b2) (?b3) (vk_e h_heldFin (fun e' he' => ?k3)) (vu_e h_wnd ?w1 (fun e' q => o1 _ _ q)) (vu_e h_wndSeq ?w2 (fun e' q => by rw [o1 _ _ q, o1 _ _ q])) (fun e' he' => ?b4) (vu_e h_peak ?w3 (fun e' q => o1 _ _ q)) (vu_e h_half ?w4 (fun e' q => o1 _ _ q)) (vu_e h_same ?w5 (fun e' q => o1 _ _ q)) (vu_e h_rto ?w6 (fun e' q => o1 _ _ q)) (vu_e h_tries ?w7 (fun e' q => o1 _ _ q)) (vk_e h_retryAt (fun e' he' => ?k4)) (vk_e h_ackAt (fun e' he' => ?k5)) (vk_e h_waitTill (fun e' he' => ?k6)) (vk_e h_timedAt (fun e' he' => ?k7)) (fun e' he' => ?b5) (vu_e h_smoothed ?w8 (fun e' q => by rw [o1 _ _ q, o1 _ _ q])) (vu_e h_variance ?w9 (fun e' q => o1 _ _ q)) (vk_e h_rowCount (fun e' he' => ?k8)) h_slotSeq h_slotFlags h_slotAck h_slotWindow h_slotSize h_slotBytes)
  case k1 =>
    by_cases q : e' = e
    · subst q; simp +decide only [gp_begin, gp_over, gs_s, gs_f, ↓reduceIte]
    · exact o1 _ _ q
  case k2 =>
    by_cases q : e' = e
    · subst q; simp +decide only [gp_begin, gp_over, gs_s, gs_f, ↓reduceIte]
    · exact o1 _ _ q
  case k4 =>
    by_cases q : e' = e
    · subst q; simp +decide only [gp_begin, gp_over, gs_s, gs_f, ↓reduceIte]
    · exact o1 _ _ q
  case k5 =>
    by_cases q : e' = e
    · subst q; simp +decide only [gp_begin, gp_over, gs_s, gs_f, ↓reduceIte]
    · exact o1 _ _ q
  case k6 =>
    by_cases q : e' = e
    · subst q; simp +decide only [gp_begin, gp_over, gs_s, gs_f, ↓reduceIte]
    · exact o1 _ _ q
  case k8 =>
    by_cases q : e' = e
    · subst q; simp +decide only [gp_begin, gp_over, gs_s, gs_f, ↓reduceIte]
    · exact o1 _ _ q
  case k3 =>
    by_cases q : e' = e
    · subst q; simp +decide only [gp_begin, gp_over, gs_s, gs_f, ↓reduceIte]
    · simp only [o1 _ _ q]
  case k7 =>
    by_cases q : e' = e
    · subst q; simp +decide only [gp_begin, gp_over, gs_s, gs_f, ↓reduceIte]
    · simp only [o1 _ _ q]
  case v1 => simp +decide only [gp_begin, ↓reduceIte]; rfl
  case v2 => simp +decide only [gp_begin, ↓reduceIte]; exact hx
  case v3 => simp +decide only [gp_begin, ↓reduceIte]; rw [Int.add_zero, m1]; exact hx
  case v4 => simp +decide only [gp_begin, ↓reduceIte]; rw [Int.add_zero, m1]; exact hx
  case v5 => simp +decide only [gp_begin, ↓reduceIte]; rw [Int.add_zero, m1]; exact hx
  case v6 => simp +decide only [gp_begin, ↓reduceIte]
  case v7 => simp +decide only [gp_begin, ↓reduceIte]; rfl
  case v8 => simp +decide only [gp_begin, ↓reduceIte]; rfl
  case v9 => simp +decide only [gp_begin, ↓reduceIte]; rfl
  case w1 => simp +decide only [gp_begin, ↓reduceIte]; rfl
  case w2 => simp +decide only [gp_begin, ↓reduceIte]; rfl
  case w3 => simp +decide only [gp_begin, ↓reduceIte]; rfl
  case w4 => simp +decide only [gp_begin, ↓reduceIte]; rfl
  case w5 => simp +decide only [gp_begin, ↓reduceIte]; rfl
  case w6 => simp +decide only [gp_begin, ↓reduceIte]; rfl
  case w7 => simp +decide only [gp_begin, ↓reduceIte]; rfl
  case w8 => simp +decide only [gp_begin, ↓reduceIte]; rfl
  case w9 => simp +decide only [gp_begin, ↓reduceIte]; rfl
  case b1 =>
    intro p' z1 z2 z3
    by_cases q : e' = e
    · subst q; simp +decide only [gp_begin, ↓reduceIte] at z2; omega
    · simp only [o1 _ _ q] at z2 z3 ⊢; exact h_keptBytes e' he' p' z1 z2 z3
  case b2 =>
    intro p' w
    by_cases q : e' = e
    · subst q
      simp +decide only [gp_begin, ↓reduceIte, gm_H, nn_e] at w
      omega
    · simp only [o1 _ _ q] at w ⊢
      exact h_cameBytes e' he' p' w
  case b3 =>
    refine vh_none (a := a_held) (I := (gp_over G e (G.1 1 e)).1 7) (R := (gp_over G e (G.1 1 e)).1 8) (vh_all (I := (gp_over G e (G.1 1 e)).1 7 e) (R := (gp_over G e (G.1 1 e)).1 8 e) fun p' z1 z2 => ?_) (fun j _ => rfl) (fun e' he' q p' z1 z2 => ?_) (fun e' q => o1 _ _ q) (fun e' q => o1 _ _ q)
    · rw [h_held e hl p' z1 z2]
      show (if gp_none (gm_H G) e e p' = true then (1 : Int32) else 0) = 0
      rw [nn_e]; rfl
    · rw [h_held e' he' p' z1 z2]
      show (if gp_none (gm_H G) e e' p' = true then (1 : Int32) else 0) = _
      rw [nn_o q]
  case b4 =>
    intro w
    by_cases q : e' = e
    · subst q; simp +decide only [gp_begin, ↓reduceIte] at w; omega
    · rw [zu_n q]; simp only [o1 _ _ q] at w ⊢; exact h_wndAck e' he' w
  case b5 =>
    intro w
    by_cases q : e' = e
    · subst q; simp +decide only [gp_begin, ↓reduceIte] at w; omega
    · rw [zu_n q]; simp only [o1 _ _ q] at w ⊢; exact h_timedSeq e' he' w
/-- a segment into a slot -/
theorem po_L {G : gm_T} {e : Nat} {num flag ack win n : Int} {g : Int → Int} (h : G.1 30 e < 16) : gm_L (gp_post G e num flag ack win n g) = gm_l (gm_L G) (16 * e + (G.1 30 e).toNat) num flag ack win n := if_pos h
theorem po_D {G : gm_T} {e : Nat} {num flag ack win n : Int} {g : Int → Int} (h : G.1 30 e < 16) : gm_D (gp_post G e num flag ack win n g) = gm_d (gm_D G) (16 * e + (G.1 30 e).toNat) n g := if_pos h
theorem po_Ln {G : gm_T} {e : Nat} {num flag ack win n : Int} {g : Int → Int} (h : ¬ G.1 30 e < 16) : gm_L (gp_post G e num flag ack win n g) = gm_L G := if_neg h
theorem po_Dn {G : gm_T} {e : Nat} {num flag ack win n : Int} {g : Int → Int} (h : ¬ G.1 30 e < 16) : gm_D (gp_post G e num flag ack win n g) = gm_D G := if_neg h
/-- the class's arrays behind a segment that was put into slot k (32: lost) -/
theorem vx_post {q : Int} {G : gm_T} {f_now : Int32} {f_sent : Int32} {a_stateOf : (Nat → Int32)} {a_error : (Nat → Int32)} {a_iss : (Nat → Int32)} {a_una : (Nat → Int32)} {a_nxt : (Nat → Int32)} {a_max : (Nat → Int32)} {a_writtenTo : (Nat → Int32)} {a_kept : (Nat → Int32)} {a_keptBytes : (Nat → Int32)} {a_rcv : (Nat → Int32)} {a_unread : (Nat → Int32)} {a_unreadFrom : (Nat → Int32)} {a_cameBytes : (Nat → Int32)} {a_held : (Nat → Int32)} {a_heldFin : (Nat → Int32)} {a_wnd : (Nat → Int32)} {a_wndSeq : (Nat → Int32)} {a_wndAck : (Nat → Int32)} {a_peak : (Nat → Int32)} {a_half : (Nat → Int32)} {a_same : (Nat → Int32)} {a_rto : (Nat → Int32)} {a_tries : (Nat → Int32)} {a_retryAt : (Nat → Int32)} {a_ackAt : (Nat → Int32)} {a_waitTill : (Nat → Int32)} {a_timedAt : (Nat → Int32)} {a_timedSeq : (Nat → Int32)} {a_smoothed : (Nat → Int32)} {a_variance : (Nat → Int32)} {a_rowCount : (Nat → Int32)} {a_slotSeq : (Nat → Int32)} {a_slotFlags : (Nat → Int32)} {a_slotAck : (Nat → Int32)} {a_slotWindow : (Nat → Int32)} {a_slotSize : (Nat → Int32)} {a_slotBytes : (Nat → Int32)} {e : Nat} {num flag ack win n : Int} {g : Int → Int} {R S1 S2 S3 S4 S5 SB : Nat → Int32} {k : Nat} (hv : vx_S q G (f_now, f_sent, a_stateOf, a_error, a_iss, a_una, a_nxt, a_max, a_writtenTo, a_kept, a_keptBytes, a_rcv, a_unread, a_unreadFrom, a_cameBytes, a_held, a_heldFin, a_wnd, a_wndSeq, a_wndAck, a_peak, a_half, a_same, a_rto, a_tries, a_retryAt, a_ackAt, a_waitTill, a_timedAt, a_timedSeq, a_smoothed, a_variance, a_rowCount, a_slotSeq, a_slotFlags, a_slotAck, a_slotWindow, a_slotSize, a_slotBytes)) (he : e < 2) (h0 : 0 ≤ G.1 30 e) (h16 : G.1 30 e ≤ 16) (hk : (G.1 30 e < 16 ∧ k = 16 * e + (G.1 30 e).toNat ∧ R = upd a_rowCount e (zi_n (G.1 30 e + 1))) ∨ (G.1 30 e = 16 ∧ k = 32 ∧ R = a_rowCount)) (h1 : S1 = upd a_slotSeq k (zi_n num)) (h2 : S2 = upd a_slotFlags k (zi_n flag)) (h3 : S3 = upd a_slotAck k (zi_n ack)) (h4 : S4 = upd a_slotWindow k (zi_n win)) (h5 : S5 = upd a_slotSize k (zi_n n)) (hb : ∀ j, SB j = if 8 * (k : Int) ≤ j ∧ (j : Int) < 8 * (k : Int) + n then zi_n (zi_b (g ((j : Int) - 8 * (k : Int)))) else a_slotBytes j) : vx_S (q - 1) (gp_post G e num flag ack win n g) (f_now, f_sent, a_stateOf, a_error, a_iss, a_una, a_nxt, a_max, a_writtenTo, a_kept, a_keptBytes, a_rcv, a_unread, a_unreadFrom, a_cameBytes, a_held, a_heldFin, a_wnd, a_wndSeq, a_wndAck, a_peak, a_half, a_same, a_rto, a_tries, a_retryAt, a_ackAt, a_waitTill, a_timedAt, a_timedSeq, a_smoothed, a_variance, R, S1, S2, S3, S4, S5, SB) := by
  obtain ⟨h_now, h_sent, h_stateOf, h_error, h_iss, h_una, h_nxt, h_max, h_writtenTo, h_kept, h_keptBytes, h_rcv, h_unread, h_unreadFrom, h_cameBytes, h_held, h_heldFin, h_wnd, h_wndSeq, h_wndAck, h_peak, h_half, h_same, h_rto, h_tries, h_retryAt, h_ackAt, h_waitTill, h_timedAt, h_timedSeq, h_smoothed, h_variance, h_rowCount, h_slotSeq, h_slotFlags, h_slotAck, h_slotWindow, h_slotSize, h_slotBytes⟩ := hv
  have hs : f_sent = zi_n (gm_S (gp_post G e num flag ack win n g) + (q - 1)) := by
    rw [h_sent]; show zi_n _ = zi_n (gm_S G + 1 + (q - 1)); congr 1; omega
  subst h1 h2 h3 h4 h5
  rcases hk with ⟨hr, rfl, rfl⟩ | ⟨hr, rfl, rfl⟩
  · refine (vx_mk h_now (hs) h_stateOf h_error h_iss h_una h_nxt h_max h_writtenTo h_kept h_keptBytes h_rcv h_unread h_unreadFrom h_cameBytes h_held h_heldFin h_wnd h_wndSeq h_wndAck h_peak h_half h_same h_rto h_tries h_retryAt h_ackAt h_waitTill h_timedAt h_timedSeq h_smoothed h_variance (vu_e h_rowCount ?_ (fun e' q => gs_e q)) ((by rw [po_L hr]; exact vs_0 h_slotSeq rfl)) ((by rw [po_L hr]; exact vs_1 h_slotFlags rfl)) ((by rw [po_L hr]; exact vs_2 h_slotAck rfl)) ((by rw [po_L hr]; exact vs_3 h_slotWindow rfl)) ((by rw [po_L hr]; exact vs_4 h_slotSize rfl)) (?_))
    · show zi_n _ = zi_n (gs_c G.1 30 e (if G.1 30 e < 16 then G.1 30 e + 1 else G.1 30 e) 30 e)
      rw [gs_s, if_pos hr]
    · intro j hj
      rw [po_D hr, hb]
      unfold gm_d
      split
      · rfl
      · exact h_slotBytes j hj
  · have hr' : ¬ G.1 30 e < 16 := by omega
    refine (vx_mk h_now (hs) h_stateOf h_error h_iss h_una h_nxt h_max h_writtenTo h_kept h_keptBytes h_rcv h_unread h_unreadFrom h_cameBytes h_held h_heldFin h_wnd h_wndSeq h_wndAck h_peak h_half h_same h_rto h_tries h_retryAt h_ackAt h_waitTill h_timedAt h_timedSeq h_smoothed h_variance (vk_e h_rowCount (fun e' _ => ?_)) ((by rw [po_Ln hr']; exact vs_x h_slotSeq (by omega))) ((by rw [po_Ln hr']; exact vs_x h_slotFlags (by omega))) ((by rw [po_Ln hr']; exact vs_x h_slotAck (by omega))) ((by rw [po_Ln hr']; exact vs_x h_slotWindow (by omega))) ((by rw [po_Ln hr']; exact vs_x h_slotSize (by omega))) (?_))
    · show gs_c G.1 30 e (if G.1 30 e < 16 then G.1 30 e + 1 else G.1 30 e) 30 e' = _
      by_cases w : e' = e
      · subst w; rw [gs_s, if_neg hr']
      · exact gs_e w
    · intro j hj
      rw [po_Dn hr', hb, if_neg (by omega)]
      exact h_slotBytes j hj
theorem sl_k {e : Nat} {r : Int} (he : e < 2) (h0 : 0 ≤ r) (h1 : r < 16) : (zi_n (16 * (e : Int) + r)).toNatClampNeg = 16 * e + r.toNat := by
  rw [zi_cl (by omega) (by omega)]; omega
theorem sl_32 : (zi_n 32).toNatClampNeg = 32 := by decide +kernel
theorem xl_sendReset {q : Int} {G : gm_T} {u : SX} {p x1 x2 x3 : Int32} {P : SX → Prop} {num flag ack : Int} (hv : vx_S q G u) (hp : vp_in p 2) (h0 : 0 ≤ G.1 30 p.toNatClampNeg) (h16 : G.1 30 p.toNatClampNeg ≤ 16) (h1 : x1 = zi_n num) (h2 : x2 = zi_n flag) (h3 : x3 = zi_n ack) (hP : ∀ u', vx_S q (gp_rst G p.toNatClampNeg num flag ack) u' → P u') : wpX_sendReset P u p x1 x2 x3 := by
  obtain ⟨f_now, f_sent, a_stateOf, a_error, a_iss, a_una, a_nxt, a_max, a_writtenTo, a_kept, a_keptBytes, a_rcv, a_unread, a_unreadFrom, a_cameBytes, a_held, a_heldFin, a_wnd, a_wndSeq, a_wndAck, a_peak, a_half, a_same, a_rto, a_tries, a_retryAt, a_ackAt, a_waitTill, a_timedAt, a_timedSeq, a_smoothed, a_variance, a_rowCount, a_slotSeq, a_slotFlags, a_slotAck, a_slotWindow, a_slotSize, a_slotBytes⟩ := u
  have hr : a_rowCount p.toNatClampNeg = zi_n (G.1 30 p.toNatClampNeg) := by obtain ⟨h_now, h_sent, h_stateOf, h_error, h_iss, h_una, h_nxt, h_max, h_writtenTo, h_kept, h_keptBytes, h_rcv, h_unread, h_unreadFrom, h_cameBytes, h_held, h_heldFin, h_wnd, h_wndSeq, h_wndAck, h_peak, h_half, h_same, h_rto, h_tries, h_retryAt, h_ackAt, h_waitTill, h_timedAt, h_timedSeq, h_smoothed, h_variance, h_rowCount, h_slotSeq, h_slotFlags, h_slotAck, h_slotWindow, h_slotSize, h_slotBytes⟩ := hv; exact h_rowCount _ (pe_lt hp)
  have he := pe_lt hp
  have fin : ∀ (k : Nat) (R : Nat → Int32), ((G.1 30 p.toNatClampNeg < 16 ∧ k = 16 * p.toNatClampNeg + (G.1 30 p.toNatClampNeg).toNat ∧ R = upd a_rowCount p.toNatClampNeg (zi_n (G.1 30 p.toNatClampNeg + 1))) ∨ (G.1 30 p.toNatClampNeg = 16 ∧ k = 32 ∧ R = a_rowCount)) → P (f_now, f_sent + 1, a_stateOf, a_error, a_iss, a_una, a_nxt, a_max, a_writtenTo, a_kept, a_keptBytes, a_rcv, a_unread, a_unreadFrom, a_cameBytes, a_held, a_heldFin, a_wnd, a_wndSeq, a_wndAck, a_peak, a_half, a_same, a_rto, a_tries, a_retryAt, a_ackAt, a_waitTill, a_timedAt, a_timedSeq, a_smoothed, a_variance, R, upd a_slotSeq k x1, upd a_slotFlags k x2, upd a_slotAck k x3, upd a_slotWindow k 0, upd a_slotSize k 0, a_slotBytes) := by
    intro k R hk
    refine hP _ ?_
    have h := vx_post (num := num) (flag := flag) (ack := ack) (win := 0) (n := 0) (g := fun _ => 0) (SB := a_slotBytes) hv he h0 h16 hk rfl rfl rfl rfl rfl (fun j => by rw [if_neg (by omega)])
    obtain ⟨h_now, h_sent, h_stateOf, h_error, h_iss, h_una, h_nxt, h_max, h_writtenTo, h_kept, h_keptBytes, h_rcv, h_unread, h_unreadFrom, h_cameBytes, h_held, h_heldFin, h_wnd, h_wndSeq, h_wndAck, h_peak, h_half, h_same, h_rto, h_tries, h_retryAt, h_ackAt, h_waitTill, h_timedAt, h_timedSeq, h_smoothed, h_variance, h_rowCount, h_slotSeq, h_slotFlags, h_slotAck, h_slotWindow, h_slotSize, h_slotBytes⟩ := h
    rw [h1, h2, h3]
    exact (vx_mk h_now ((by rw [h_sent, zk_1, zi_add]; congr 1; omega)) h_stateOf h_error h_iss h_una h_nxt h_max h_writtenTo h_kept h_keptBytes h_rcv h_unread h_unreadFrom h_cameBytes h_held h_heldFin h_wnd h_wndSeq h_wndAck h_peak h_half h_same h_rto h_tries h_retryAt h_ackAt h_waitTill h_timedAt h_timedSeq h_smoothed h_variance h_rowCount h_slotSeq h_slotFlags h_slotAck h_slotWindow h_slotSize h_slotBytes)
  unfold wpX_sendReset
  refine xl_nextSlot hp hr h0 h16 (fun hlt => ?_) (fun h => ?_)
  · have hin : vp_in (zi_n (16 * (p.toNatClampNeg : Int) + G.1 30 p.toNatClampNeg)) 33 := zi_in (by omega) (by omega) (by omega)
    refine ⟨hin, nm_e ⟨hin, nm_e ⟨hin, nm_e ⟨hin, nm_e ⟨hin, nm_e (nm_e ?_)⟩⟩⟩⟩⟩
    rw [sl_k he h0 hlt]
    exact fin _ _ (Or.inl ⟨hlt, rfl, rfl⟩)
  · have hin : vp_in (zi_n 32) 33 := zi_in (by omega) (by omega) (by omega)
    refine ⟨hin, nm_e ⟨hin, nm_e ⟨hin, nm_e ⟨hin, nm_e ⟨hin, nm_e (nm_e ?_)⟩⟩⟩⟩⟩
    rw [sl_32]
    exact fin _ _ (Or.inr ⟨h, rfl, rfl⟩)
end
section
/-! the class: send -/
theorem zb_b (z : Int) : zi_b (zi_b z) = zi_b z := by rw [zi_b_e, zi_b_e]; omega
theorem vn_byte (z : Int) : vp_nar .byte (zi_n z) = zi_n (zi_b z) := by rw [vp_nar_byte, zi_byte]
theorem xs_238 {q : Int} {G : gm_T} {f_now : Int32} {f_sent : Int32} {a_stateOf : (Nat → Int32)} {a_error : (Nat → Int32)} {a_iss : (Nat → Int32)} {a_una : (Nat → Int32)} {a_nxt : (Nat → Int32)} {a_max : (Nat → Int32)} {a_writtenTo : (Nat → Int32)} {a_kept : (Nat → Int32)} {a_keptBytes : (Nat → Int32)} {a_rcv : (Nat → Int32)} {a_unread : (Nat → Int32)} {a_unreadFrom : (Nat → Int32)} {a_cameBytes : (Nat → Int32)} {a_held : (Nat → Int32)} {a_heldFin : (Nat → Int32)} {a_wnd : (Nat → Int32)} {a_wndSeq : (Nat → Int32)} {a_wndAck : (Nat → Int32)} {a_peak : (Nat → Int32)} {a_half : (Nat → Int32)} {a_same : (Nat → Int32)} {a_rto : (Nat → Int32)} {a_tries : (Nat → Int32)} {a_retryAt : (Nat → Int32)} {a_ackAt : (Nat → Int32)} {a_waitTill : (Nat → Int32)} {a_timedAt : (Nat → Int32)} {a_timedSeq : (Nat → Int32)} {a_smoothed : (Nat → Int32)} {a_variance : (Nat → Int32)} {a_rowCount : (Nat → Int32)} {a_slotSeq : (Nat → Int32)} {a_slotFlags : (Nat → Int32)} {a_slotAck : (Nat → Int32)} {a_slotWindow : (Nat → Int32)} {a_slotSize : (Nat → Int32)} {a_slotBytes : (Nat → Int32)} {p : Int32} {P : SX → Prop} {len : Int} (hv : vx_S q G (f_now, f_sent, a_stateOf, a_error, a_iss, a_una, a_nxt, a_max, a_writtenTo, a_kept, a_keptBytes, a_rcv, a_unread, a_unreadFrom, a_cameBytes, a_held, a_heldFin, a_wnd, a_wndSeq, a_wndAck, a_peak, a_half, a_same, a_rto, a_tries, a_retryAt, a_ackAt, a_waitTill, a_timedAt, a_timedSeq, a_smoothed, a_variance, a_rowCount, a_slotSeq, a_slotFlags, a_slotAck, a_slotWindow, a_slotSize, a_slotBytes)) (hp : vp_in p 2) (hl : len ≠ 0) (h0 : -1 ≤ G.1 21 p.toNatClampNeg) (h1 : G.1 21 p.toNatClampNeg < 2147483648) (hP : ∀ u', vx_S q (gt_4 G p.toNatClampNeg len) u' → P u') : wX_send_238 P p f_now f_sent a_stateOf a_error a_iss a_una a_nxt a_max a_writtenTo a_kept a_keptBytes a_rcv a_unread a_unreadFrom a_cameBytes a_held a_heldFin a_wnd a_wndSeq a_wndAck a_peak a_half a_same a_rto a_tries a_retryAt a_ackAt a_waitTill a_timedAt a_timedSeq a_smoothed a_variance a_rowCount a_slotSeq a_slotFlags a_slotAck a_slotWindow a_slotSize a_slotBytes := by
  obtain ⟨h_now, h_sent, h_stateOf, h_error, h_iss, h_una, h_nxt, h_max, h_writtenTo, h_kept, h_keptBytes, h_rcv, h_unread, h_unreadFrom, h_cameBytes, h_held, h_heldFin, h_wnd, h_wndSeq, h_wndAck, h_peak, h_half, h_same, h_rto, h_tries, h_retryAt, h_ackAt, h_waitTill, h_timedAt, h_timedSeq, h_smoothed, h_variance, h_rowCount, h_slotSeq, h_slotFlags, h_slotAck, h_slotWindow, h_slotSize, h_slotBytes⟩ := hv
  have he := pe_lt hp
  unfold wX_send_238
  refine xl_setRetry hp (h_retryAt _ he) h0 h1 ?_
  by_cases w : G.1 21 p.toNatClampNeg < 0
  · rw [if_pos w]
    refine hP _ (vx_mk h_now h_sent h_stateOf h_error h_iss h_una h_nxt h_max h_writtenTo h_kept h_keptBytes h_rcv h_unread h_unreadFrom h_cameBytes h_held h_heldFin h_wnd h_wndSeq h_wndAck h_peak h_half h_same h_rto h_tries (vu_e h_retryAt ?_ (fun e' q => gs_e q)) h_ackAt h_waitTill h_timedAt h_timedSeq h_smoothed h_variance h_rowCount h_slotSeq h_slotFlags h_slotAck h_slotWindow h_slotSize h_slotBytes)
    show _ = zi_n (gs_c _ _ _ _ _ _)
    rw [gs_s, if_pos ⟨hl, w⟩, h_now, h_rto _ he, zi_add]
  · rw [if_neg w]
    refine hP _ (vx_mk h_now h_sent h_stateOf h_error h_iss h_una h_nxt h_max h_writtenTo h_kept h_keptBytes h_rcv h_unread h_unreadFrom h_cameBytes h_held h_heldFin h_wnd h_wndSeq h_wndAck h_peak h_half h_same h_rto h_tries (vk_e h_retryAt (fun e' _ => ?_)) h_ackAt h_waitTill h_timedAt h_timedSeq h_smoothed h_variance h_rowCount h_slotSeq h_slotFlags h_slotAck h_slotWindow h_slotSize h_slotBytes)
    show gs_c _ _ _ _ _ _ = _
    rw [gs_id (if_neg (fun z => w z.2))]
theorem xs_208 {q : Int} {G : gm_T} {f_now : Int32} {f_sent : Int32} {a_stateOf : (Nat → Int32)} {a_error : (Nat → Int32)} {a_iss : (Nat → Int32)} {a_una : (Nat → Int32)} {a_nxt : (Nat → Int32)} {a_max : (Nat → Int32)} {a_writtenTo : (Nat → Int32)} {a_kept : (Nat → Int32)} {a_keptBytes : (Nat → Int32)} {a_rcv : (Nat → Int32)} {a_unread : (Nat → Int32)} {a_unreadFrom : (Nat → Int32)} {a_cameBytes : (Nat → Int32)} {a_held : (Nat → Int32)} {a_heldFin : (Nat → Int32)} {a_wnd : (Nat → Int32)} {a_wndSeq : (Nat → Int32)} {a_wndAck : (Nat → Int32)} {a_peak : (Nat → Int32)} {a_half : (Nat → Int32)} {a_same : (Nat → Int32)} {a_rto : (Nat → Int32)} {a_tries : (Nat → Int32)} {a_retryAt : (Nat → Int32)} {a_ackAt : (Nat → Int32)} {a_waitTill : (Nat → Int32)} {a_timedAt : (Nat → Int32)} {a_timedSeq : (Nat → Int32)} {a_smoothed : (Nat → Int32)} {a_variance : (Nat → Int32)} {a_rowCount : (Nat → Int32)} {a_slotSeq : (Nat → Int32)} {a_slotFlags : (Nat → Int32)} {a_slotAck : (Nat → Int32)} {a_slotWindow : (Nat → Int32)} {a_slotSize : (Nat → Int32)} {a_slotBytes : (Nat → Int32)} {p x2 x7 : Int32} {P : SX → Prop} {fr len : Int} (hv : vx_S q G (f_now, f_sent, a_stateOf, a_error, a_iss, a_una, a_nxt, a_max, a_writtenTo, a_kept, a_keptBytes, a_rcv, a_unread, a_unreadFrom, a_cameBytes, a_held, a_heldFin, a_wnd, a_wndSeq, a_wndAck, a_peak, a_half, a_same, a_rto, a_tries, a_retryAt, a_ackAt, a_waitTill, a_timedAt, a_timedSeq, a_smoothed, a_variance, a_rowCount, a_slotSeq, a_slotFlags, a_slotAck, a_slotWindow, a_slotSize, a_slotBytes)) (hp : vp_in p 2) (hx2 : x2 = zi_n ((G.1 2 p.toNatClampNeg + fr) % 65536)) (hx7 : x7 = zi_n len) (hl : len ≠ 0) (hl0 : 0 ≤ len) (hl1 : len ≤ 10) (hm0 : -100 ≤ fr - G.1 5 p.toNatClampNeg) (hm1 : fr - G.1 5 p.toNatClampNeg ≤ 100) (h0 : -1 ≤ G.1 21 p.toNatClampNeg) (h1 : G.1 21 p.toNatClampNeg < 2147483648) (hP : ∀ u', vx_S q (gt_4 (gt_3 G p.toNatClampNeg fr len) p.toNatClampNeg len) u' → P u') : wX_send_208 P p x2 x7 f_now f_sent a_stateOf a_error a_iss a_una a_nxt a_max a_writtenTo a_kept a_keptBytes a_rcv a_unread a_unreadFrom a_cameBytes a_held a_heldFin a_wnd a_wndSeq a_wndAck a_peak a_half a_same a_rto a_tries a_retryAt a_ackAt a_waitTill a_timedAt a_timedSeq a_smoothed a_variance a_rowCount a_slotSeq a_slotFlags a_slotAck a_slotWindow a_slotSize a_slotBytes := by
  have hv0 := hv
  obtain ⟨h_now, h_sent, h_stateOf, h_error, h_iss, h_una, h_nxt, h_max, h_writtenTo, h_kept, h_keptBytes, h_rcv, h_unread, h_unreadFrom, h_cameBytes, h_held, h_heldFin, h_wnd, h_wndSeq, h_wndAck, h_peak, h_half, h_same, h_rto, h_tries, h_retryAt, h_ackAt, h_waitTill, h_timedAt, h_timedSeq, h_smoothed, h_variance, h_rowCount, h_slotSeq, h_slotFlags, h_slotAck, h_slotWindow, h_slotSize, h_slotBytes⟩ := hv
  have he := pe_lt hp
  unfold wX_send_208
  refine xl_behind hx2 hx7 ⟨hp, xl_off (i := G.1 2 p.toNatClampNeg) (a := fr + len) (b := G.1 5 p.toNatClampNeg) ?_ (h_max _ he) (by omega) (by omega) ?_⟩
  · congr 1; omega
  · by_cases w : G.1 5 p.toNatClampNeg < fr + len
    · refine br_f (by rw [zk_0, zi_le (by omega) (by omega) (by omega) (by omega)]; omega) ⟨hp, nm_e ?_⟩
      refine xs_238 (G := gt_3 G p.toNatClampNeg fr len) ?_ hp hl h0 h1 hP
      refine (vx_mk h_now h_sent h_stateOf h_error h_iss h_una h_nxt (vu_e h_max ?_ (fun e' q => ?_)) h_writtenTo h_kept h_keptBytes h_rcv h_unread h_unreadFrom h_cameBytes h_held h_heldFin h_wnd h_wndSeq h_wndAck h_peak h_half h_same h_rto h_tries h_retryAt h_ackAt h_waitTill h_timedAt h_timedSeq h_smoothed h_variance h_rowCount h_slotSeq h_slotFlags h_slotAck h_slotWindow h_slotSize h_slotBytes)
      · show _ = zi_n ((G.1 2 p.toNatClampNeg + gs_c _ _ _ _ _ _) % 65536)
        rw [gs_s, if_pos ⟨hl, w⟩]; congr 1; omega
      · show (G.1 2 e' + gs_c _ _ _ _ _ _) % 65536 = _
        rw [gs_e q]
    · refine br_t (by rw [zk_0, zi_le (by omega) (by omega) (by omega) (by omega)]; omega) ?_
      refine xs_238 (G := gt_3 G p.toNatClampNeg fr len) ?_ hp hl h0 h1 hP
      have : gt_3 G p.toNatClampNeg fr len = G := by
        unfold gt_3
        rw [gs_id (if_neg (fun z => w z.2))]
      rw [this]; exact hv0
/-- behind the bytes -/
theorem xs_exit {q : Int} {G : gm_T} {f_now : Int32} {f_sent : Int32} {a_stateOf : (Nat → Int32)} {a_error : (Nat → Int32)} {a_iss : (Nat → Int32)} {a_una : (Nat → Int32)} {a_nxt : (Nat → Int32)} {a_max : (Nat → Int32)} {a_writtenTo : (Nat → Int32)} {a_kept : (Nat → Int32)} {a_keptBytes : (Nat → Int32)} {a_rcv : (Nat → Int32)} {a_unread : (Nat → Int32)} {a_unreadFrom : (Nat → Int32)} {a_cameBytes : (Nat → Int32)} {a_held : (Nat → Int32)} {a_heldFin : (Nat → Int32)} {a_wnd : (Nat → Int32)} {a_wndSeq : (Nat → Int32)} {a_wndAck : (Nat → Int32)} {a_peak : (Nat → Int32)} {a_half : (Nat → Int32)} {a_same : (Nat → Int32)} {a_rto : (Nat → Int32)} {a_tries : (Nat → Int32)} {a_retryAt : (Nat → Int32)} {a_ackAt : (Nat → Int32)} {a_waitTill : (Nat → Int32)} {a_timedAt : (Nat → Int32)} {a_timedSeq : (Nat → Int32)} {a_smoothed : (Nat → Int32)} {a_variance : (Nat → Int32)} {a_rowCount : (Nat → Int32)} {a_slotSeq : (Nat → Int32)} {a_slotFlags : (Nat → Int32)} {a_slotAck : (Nat → Int32)} {a_slotWindow : (Nat → Int32)} {a_slotSize : (Nat → Int32)} {a_slotBytes : (Nat → Int32)} {p x2 x3 x4 x6 : Int32} {P : SX → Prop} {fr fl n : Int} {m : Nat} (hv : vx_S (q - 1) G (f_now, f_sent, a_stateOf, a_error, a_iss, a_una, a_nxt, a_max, a_writtenTo, a_kept, a_keptBytes, a_rcv, a_unread, a_unreadFrom, a_cameBytes, a_held, a_heldFin, a_wnd, a_wndSeq, a_wndAck, a_peak, a_half, a_same, a_rto, a_tries, a_retryAt, a_ackAt, a_waitTill, a_timedAt, a_timedSeq, a_smoothed, a_variance, a_rowCount, a_slotSeq, a_slotFlags, a_slotAck, a_slotWindow, a_slotSize, a_slotBytes)) (hp : vp_in p 2) (hx2 : x2 = zi_n ((G.1 2 p.toNatClampNeg + fr) % 65536)) (hx3 : x3 = zi_n fl) (hx4 : x4 = zi_n n) (hf : fl = 0 ∨ fl = 1 ∨ fl = 4) (hn0 : 0 ≤ n) (hn8 : n ≤ 8) (hm0 : -100 ≤ fr - G.1 5 p.toNatClampNeg) (hm1 : fr - G.1 5 p.toNatClampNeg ≤ 100) (hM : 0 ≤ G.1 5 p.toNatClampNeg) (ht0 : -1 ≤ G.1 24 p.toNatClampNeg) (ht1 : 0 ≤ G.1 24 p.toNatClampNeg → 0 ≤ G.1 25 p.toNatClampNeg ∧ G.1 25 p.toNatClampNeg < 2147483648) (h0 : -1 ≤ G.1 21 p.toNatClampNeg) (h1 : G.1 21 p.toNatClampNeg < 2147483648) (hP : ∀ u', vx_S q (gt_4 (gt_3 (gt_2 (gt_1 G p.toNatClampNeg) p.toNatClampNeg fr (gp_len fl n)) p.toNatClampNeg fr (gp_len fl n)) p.toNatClampNeg (gp_len fl n)) u' → P u') : wX_send_97 P p x2 x3 x4 x6 f_now f_sent (m + 1) x4 a_stateOf a_error a_iss a_una a_nxt a_max a_writtenTo a_kept a_keptBytes a_rcv a_unread a_unreadFrom a_cameBytes a_held a_heldFin a_wnd a_wndSeq a_wndAck a_peak a_half a_same a_rto a_tries a_retryAt a_ackAt a_waitTill a_timedAt a_timedSeq a_smoothed a_variance a_rowCount a_slotSeq a_slotFlags a_slotAck a_slotWindow a_slotSize a_slotBytes := by
  obtain ⟨h_now, h_sent, h_stateOf, h_error, h_iss, h_una, h_nxt, h_max, h_writtenTo, h_kept, h_keptBytes, h_rcv, h_unread, h_unreadFrom, h_cameBytes, h_held, h_heldFin, h_wnd, h_wndSeq, h_wndAck, h_peak, h_half, h_same, h_rto, h_tries, h_retryAt, h_ackAt, h_waitTill, h_timedAt, h_timedSeq, h_smoothed, h_variance, h_rowCount, h_slotSeq, h_slotFlags, h_slotAck, h_slotWindow, h_slotSize, h_slotBytes⟩ := hv
  have he := pe_lt hp
  have hle : x4 ≤ x4 := Int32.le_refl x4
  have hlen : 0 ≤ gp_len fl n ∧ gp_len fl n ≤ 10 := by unfold gp_len; omega
  have hsent : f_sent + 1 = zi_n (gm_S G + q) := by rw [h_sent, zk_1, zi_add]; congr 1; omega
  generalize hL : gp_len fl n = len at *
  have hv1 : vx_S q (gt_1 G p.toNatClampNeg) (f_now, f_sent + 1, a_stateOf, a_error, a_iss, a_una, a_nxt, a_max, a_writtenTo, a_kept, a_keptBytes, a_rcv, a_unread, a_unreadFrom, a_cameBytes, a_held, a_heldFin, a_wnd, a_wndSeq, a_wndAck, a_peak, a_half, a_same, a_rto, a_tries, a_retryAt, upd a_ackAt p.toNatClampNeg (-1), a_waitTill, a_timedAt, a_timedSeq, a_smoothed, a_variance, a_rowCount, a_slotSeq, a_slotFlags, a_slotAck, a_slotWindow, a_slotSize, a_slotBytes) := by
    refine (vx_mk h_now (hsent) h_stateOf h_error h_iss h_una h_nxt h_max h_writtenTo h_kept h_keptBytes h_rcv h_unread h_unreadFrom h_cameBytes h_held h_heldFin h_wnd h_wndSeq h_wndAck h_peak h_half h_same h_rto h_tries h_retryAt (vu_e h_ackAt ?_ (fun e' q => gs_e q)) h_waitTill h_timedAt h_timedSeq h_smoothed h_variance h_rowCount h_slotSeq h_slotFlags h_slotAck h_slotWindow h_slotSize h_slotBytes)
    show _ = zi_n (gs_c _ _ _ _ _ _)
    rw [gs_s]; rfl
  refine br_t hle (nm_e ⟨hp, nm_e ?_⟩)
  subst hx3 hx4
  refine xl_lengthOf (by omega) (by omega) ?_
  rw [hL]
  by_cases w : len = 0
  · refine br_t (by rw [w]; rfl) (hP _ ?_)
    have e2 : gt_2 (gt_1 G p.toNatClampNeg) p.toNatClampNeg fr len = gt_1 G p.toNatClampNeg := by
      unfold gt_2
      rw [gs_id (c := (gt_1 G p.toNatClampNeg).1) (if_neg (fun z => z.1 w)), gs_id (if_neg (fun z => z.1 w))]
    have e3 : gt_3 (gt_1 G p.toNatClampNeg) p.toNatClampNeg fr len = gt_1 G p.toNatClampNeg := by
      unfold gt_3
      rw [gs_id (if_neg (fun z => z.1 w))]
    have e4 : gt_4 (gt_1 G p.toNatClampNeg) p.toNatClampNeg len = gt_1 G p.toNatClampNeg := by
      unfold gt_4
      rw [gs_id (if_neg (fun z => z.1 w))]
    rw [e2, e3, e4]
    exact hv1
  · refine br_f (by rw [zk_0, zi_eq (by omega) (by omega) (by omega) (by omega)]; exact w) ⟨hp, ?_⟩
    have hxm : x2 = a_max p.toNatClampNeg ↔ fr = G.1 5 p.toNatClampNeg := by
      rw [hx2, h_max _ he, zi_eq (by omega) (by omega) (by omega) (by omega)]; omega
    have hv2 : ¬ (len ≠ 0 ∧ fr = G.1 5 p.toNatClampNeg ∧ G.1 24 p.toNatClampNeg < 0) → gt_2 (gt_1 G p.toNatClampNeg) p.toNatClampNeg fr len = gt_1 G p.toNatClampNeg := by
      intro z
      have z' : ¬ (len ≠ 0 ∧ fr = (gt_1 G p.toNatClampNeg).1 5 p.toNatClampNeg ∧ (gt_1 G p.toNatClampNeg).1 24 p.toNatClampNeg < 0) := z
      unfold gt_2
      rw [gs_id (c := (gt_1 G p.toNatClampNeg).1) (if_neg z'), gs_id (if_neg z')]
    by_cases w2 : fr = G.1 5 p.toNatClampNeg
    · refine br_t (hxm.mpr w2) ⟨hp, ?_⟩
      by_cases w3 : G.1 24 p.toNatClampNeg < 0
      · refine br_t (by rw [h_timedAt _ he, if_pos w3]; rfl) ⟨hp, nm_e ⟨hp, nm_e ?_⟩⟩
        refine xs_208 (G := gt_2 (gt_1 G p.toNatClampNeg) p.toNatClampNeg fr len) ?_ hp hx2 rfl w hlen.1 hlen.2 hm0 hm1 h0 h1 hP
        have z' : len ≠ 0 ∧ fr = (gt_1 G p.toNatClampNeg).1 5 p.toNatClampNeg ∧ (gt_1 G p.toNatClampNeg).1 24 p.toNatClampNeg < 0 := ⟨w, w2, w3⟩
        clear h_sent h_ackAt
        obtain ⟨h_now, h_sent, h_stateOf, h_error, h_iss, h_una, h_nxt, h_max, h_writtenTo, h_kept, h_keptBytes, h_rcv, h_unread, h_unreadFrom, h_cameBytes, h_held, h_heldFin, h_wnd, h_wndSeq, h_wndAck, h_peak, h_half, h_same, h_rto, h_tries, h_retryAt, h_ackAt, h_waitTill, h_timedAt, h_timedSeq, h_smoothed, h_variance, h_rowCount, h_slotSeq, h_slotFlags, h_slotAck, h_slotWindow, h_slotSize, h_slotBytes⟩ := hv1
        refine (vx_mk h_now h_sent h_stateOf h_error h_iss h_una h_nxt h_max h_writtenTo h_kept h_keptBytes h_rcv h_unread h_unreadFrom h_cameBytes h_held h_heldFin h_wnd h_wndSeq h_wndAck h_peak h_half h_same h_rto h_tries h_retryAt h_ackAt h_waitTill (vu_e h_timedAt ?_ (fun e' q => ?_)) (fun e' he' z => ?_) h_smoothed h_variance h_rowCount h_slotSeq h_slotFlags h_slotAck h_slotWindow h_slotSize h_slotBytes)
        · show f_now = zi_n (if gs_c _ _ _ _ _ _ < 0 then -1 else gs_c (gs_c _ _ _ _) _ _ _ _ _)
          rw [gs_s, if_pos z', gs_f (by decide), gs_s, if_pos z', if_neg (by omega)]
          exact h_now
        · show (if gs_c (gs_c _ _ _ _) _ _ _ _ _ < 0 then -1 else gs_c (gs_c _ _ _ _) _ _ _ _ _) = _
          rw [gs_e q, gs_e q, gs_e q, gs_e q]
        · by_cases q : e' = p.toNatClampNeg
          · subst q
            rw [zu_s]
            show x2 = zi_n ((G.1 2 p.toNatClampNeg + gs_c _ _ _ _ _ _) % 65536)
            rw [gs_s, if_pos z']; exact hx2
          · rw [zu_n q]
            have z2 : 0 ≤ gs_c (gs_c (gt_1 G p.toNatClampNeg).1 _ _ _) _ _ _ _ _ := z
            show a_timedSeq e' = zi_n (((gt_1 G p.toNatClampNeg).1 2 e' + gs_c (gs_c _ _ _ _) _ _ _ _ _) % 65536)
            rw [gs_e q, gs_e q] at z2 ⊢
            exact h_timedSeq e' he' z2
      · refine br_f (by rw [h_timedAt _ he, if_neg w3, zk_m1, zi_eq (by omega) (by omega) (by omega) (by omega)]; omega) ?_
        refine xs_208 (G := gt_2 (gt_1 G p.toNatClampNeg) p.toNatClampNeg fr len) ?_ hp hx2 rfl w hlen.1 hlen.2 hm0 hm1 h0 h1 hP
        rw [hv2 (fun z => w3 z.2.2)]
        exact hv1
    · refine br_f (fun z => w2 (hxm.mp z)) ?_
      refine xs_208 (G := gt_2 (gt_1 G p.toNatClampNeg) p.toNatClampNeg fr len) ?_ hp hx2 rfl w hlen.1 hlen.2 hm0 hm1 h0 h1 hP
      rw [hv2 (fun z => w2 z.2.1)]
      exact hv1
/-- what a send asks of the picture -/
def sq_ok (G : gm_T) (e : Nat) (fr fl n : Int) : Prop := 0 ≤ G.1 0 e ∧ G.1 0 e ≤ 10 ∧ 0 ≤ G.1 30 e ∧ G.1 30 e ≤ 16 ∧ 0 ≤ n ∧ n ≤ 8 ∧ (fl = 0 ∨ fl = 1 ∨ fl = 4) ∧ -100 ≤ fr - G.1 5 e ∧ fr - G.1 5 e ≤ 100 ∧ 0 ≤ G.1 5 e ∧ G.1 5 e ≤ 1000000 ∧ -1 ≤ G.1 24 e ∧ (0 ≤ G.1 24 e → 0 ≤ G.1 25 e ∧ G.1 25 e < 2147483648) ∧ -1 ≤ G.1 21 e ∧ G.1 21 e < 2147483648 ∧ (0 < n → 1 ≤ fr ∧ G.1 6 e - 32 ≤ fr ∧ fr + n ≤ G.1 6 e ∧ G.1 33 e = G.1 6 e) ∧ (G.1 0 e = 2 → G.1 22 e = -1) ∧ -1 ≤ G.1 24 e ∧ G.1 24 e ≤ 1000000
theorem xs_97 {P : SX → Prop} {f_now : Int32} {f_sent : Int32} {a_stateOf : (Nat → Int32)} {a_error : (Nat → Int32)} {a_iss : (Nat → Int32)} {a_una : (Nat → Int32)} {a_nxt : (Nat → Int32)} {a_max : (Nat → Int32)} {a_writtenTo : (Nat → Int32)} {a_kept : (Nat → Int32)} {a_keptBytes : (Nat → Int32)} {a_rcv : (Nat → Int32)} {a_unread : (Nat → Int32)} {a_unreadFrom : (Nat → Int32)} {a_cameBytes : (Nat → Int32)} {a_held : (Nat → Int32)} {a_heldFin : (Nat → Int32)} {a_wnd : (Nat → Int32)} {a_wndSeq : (Nat → Int32)} {a_wndAck : (Nat → Int32)} {a_peak : (Nat → Int32)} {a_half : (Nat → Int32)} {a_same : (Nat → Int32)} {a_rto : (Nat → Int32)} {a_tries : (Nat → Int32)} {a_retryAt : (Nat → Int32)} {a_ackAt : (Nat → Int32)} {a_waitTill : (Nat → Int32)} {a_timedAt : (Nat → Int32)} {a_timedSeq : (Nat → Int32)} {a_smoothed : (Nat → Int32)} {a_variance : (Nat → Int32)} {a_rowCount : (Nat → Int32)} {a_slotSeq : (Nat → Int32)} {a_slotFlags : (Nat → Int32)} {a_slotAck : (Nat → Int32)} {a_slotWindow : (Nat → Int32)} {a_slotSize : (Nat → Int32)} {a_slotBytes : (Nat → Int32)} {p x2 x3 x4 x6 : Int32} {e k : Nat} {i0 fr n : Int} {g : Int → Int} (hp : vp_in p 2) (hpe : p.toNatClampNeg = e) (hk : k ≤ 32) (hx2 : x2 = zi_n ((i0 + fr) % 65536)) (hx4 : x4 = zi_n n) (hx6 : x6 = zi_n (k : Int)) (hn0 : 0 ≤ n) (hn8 : n ≤ 8) (hkb : ∀ i : Int, 0 ≤ i → i < n → a_keptBytes (32 * e + ((i0 + (fr + i)) % 32).toNat) = zi_n (zi_b (g i))) (hX : ∀ (m : Nat) (SB : Nat → Int32), (∀ j, SB j = if 8 * (k : Int) ≤ j ∧ (j : Int) < 8 * (k : Int) + n then zi_n (zi_b (g ((j : Int) - 8 * (k : Int)))) else a_slotBytes j) → wX_send_97 P p x2 x3 x4 x6 f_now f_sent (m + 1) x4 a_stateOf a_error a_iss a_una a_nxt a_max a_writtenTo a_kept a_keptBytes a_rcv a_unread a_unreadFrom a_cameBytes a_held a_heldFin a_wnd a_wndSeq a_wndAck a_peak a_half a_same a_rto a_tries a_retryAt a_ackAt a_waitTill a_timedAt a_timedSeq a_smoothed a_variance a_rowCount a_slotSeq a_slotFlags a_slotAck a_slotWindow a_slotSize (SB)) :
    ∀ (f i : Nat) (SB : Nat → Int32), (i : Int) ≤ n → n - i < f → (∀ j, SB j = if 8 * (k : Int) ≤ j ∧ (j : Int) < 8 * (k : Int) + i then zi_n (zi_b (g ((j : Int) - 8 * (k : Int)))) else a_slotBytes j) → wX_send_97 P p x2 x3 x4 x6 f_now f_sent f (nI i) a_stateOf a_error a_iss a_una a_nxt a_max a_writtenTo a_kept a_keptBytes a_rcv a_unread a_unreadFrom a_cameBytes a_held a_heldFin a_wnd a_wndSeq a_wndAck a_peak a_half a_same a_rto a_tries a_retryAt a_ackAt a_waitTill a_timedAt a_timedSeq a_smoothed a_variance a_rowCount a_slotSeq a_slotFlags a_slotAck a_slotWindow a_slotSize (SB) := by
  have hz := pe_z hp
  have he := pe_lt hp
  intro f
  induction f with
  | zero => intro i SB h1 h2; omega
  | succ f ih =>
    intro i SB h1 h2 h3
    by_cases w : (i : Int) = n
    · have e1 : nI i = x4 := by rw [zi_nI, hx4, w]
      rw [e1]
      rw [w] at h3
      exact hX f SB h3
    · have i1 : (p * 32 + ((x2 + nI i) &&& 31)) = zi_n (32 * (e : Int) + (i0 + (fr + i)) % 32) := by
        rw [hpe] at hz
        rw [hz, hx2, zi_nI, zk_32, zi_mul, zi_add, zi_a5, zi_add]; congr 1; omega
      have i2 : (p * 32 + ((x2 + nI i) &&& 31)).toNatClampNeg = 32 * e + ((i0 + (fr + i)) % 32).toNat := by
        rw [i1, zi_cl (by omega) (by omega)]; omega
      have i3 : (x6 * 8 + nI i) = zi_n (8 * (k : Int) + i) := by
        rw [hx6, zi_nI, zk_8, zi_mul, zi_add]; congr 1; omega
      have i4 : (x6 * 8 + nI i).toNatClampNeg = 8 * k + i := by
        rw [i3, zi_cl (by omega) (by omega)]; omega
      refine br_f (by rw [hx4, zi_nI, zi_le (by omega) (by omega) (by omega) (by omega)]; omega) ⟨?_, ?_, nm_e (nm_r (nI_1 i) (ih (i + 1) _ (by omega) (by omega) ?_))⟩
      · rw [i1]; exact zi_in (by omega) (by omega) (by omega)
      · rw [i3]; exact zi_in (by omega) (by omega) (by omega)
      · intro j
        rw [i4, i2, hkb i (by omega) (by omega), vn_byte, zb_b]
        by_cases w2 : j = 8 * k + i
        · rw [w2, zu_s, if_pos (by omega)]
          congr 3; omega
        · rw [zu_n w2, h3 j]
          by_cases w3 : 8 * (k : Int) ≤ j ∧ (j : Int) < 8 * (k : Int) + i
          · rw [if_pos w3, if_pos (by omega)]
          · rw [if_neg w3, if_neg (by omega)]
theorem xl_send {q : Int} {G : gm_T} {u : SX} {p x1 x2 x3 : Int32} {P : SX → Prop} {fr fl n : Int} (hv : vx_S q G u) (hp : vp_in p 2) (hx1 : x1 = zi_n ((G.1 2 p.toNatClampNeg + fr) % 65536)) (hx2 : x2 = zi_n fl) (hx3 : x3 = zi_n n) (ok : sq_ok G p.toNatClampNeg fr fl n) (hP : ∀ u', vx_S q (gp_send G p.toNatClampNeg fr fl n) u' → P u') : wpX_send P u p x1 x2 x3 := by
  obtain ⟨f_now, f_sent, a_stateOf, a_error, a_iss, a_una, a_nxt, a_max, a_writtenTo, a_kept, a_keptBytes, a_rcv, a_unread, a_unreadFrom, a_cameBytes, a_held, a_heldFin, a_wnd, a_wndSeq, a_wndAck, a_peak, a_half, a_same, a_rto, a_tries, a_retryAt, a_ackAt, a_waitTill, a_timedAt, a_timedSeq, a_smoothed, a_variance, a_rowCount, a_slotSeq, a_slotFlags, a_slotAck, a_slotWindow, a_slotSize, a_slotBytes⟩ := u
  have hv0 := hv
  obtain ⟨h_now, h_sent, h_stateOf, h_error, h_iss, h_una, h_nxt, h_max, h_writtenTo, h_kept, h_keptBytes, h_rcv, h_unread, h_unreadFrom, h_cameBytes, h_held, h_heldFin, h_wnd, h_wndSeq, h_wndAck, h_peak, h_half, h_same, h_rto, h_tries, h_retryAt, h_ackAt, h_waitTill, h_timedAt, h_timedSeq, h_smoothed, h_variance, h_rowCount, h_slotSeq, h_slotFlags, h_slotAck, h_slotWindow, h_slotSize, h_slotBytes⟩ := hv0
  have he := pe_lt hp
  obtain ⟨c1, c2, c3, c4, c5, c6, c7, c8, c9, d1, d2, d3, d4, d5, d6, d7, d8⟩ := ok
  have hr := h_rowCount _ he
  have key : ∀ (k : Nat) (R : Nat → Int32) (z r : Int32), r = zi_n (k : Int) → k ≤ 32 → ((G.1 0 p.toNatClampNeg = 2 ∧ z = 0) ∨ (G.1 0 p.toNatClampNeg ≠ 2 ∧ z = 1)) → ((G.1 30 p.toNatClampNeg < 16 ∧ k = 16 * p.toNatClampNeg + (G.1 30 p.toNatClampNeg).toNat ∧ R = upd a_rowCount p.toNatClampNeg (zi_n (G.1 30 p.toNatClampNeg + 1))) ∨ (G.1 30 p.toNatClampNeg = 16 ∧ k = 32 ∧ R = a_rowCount)) → ∀ (A : Int32) (B : Int32), A = zi_n (if G.1 0 p.toNatClampNeg = 2 then fl else fl + 2) → B = zi_n (if G.1 0 p.toNatClampNeg = 2 then 0 else (G.1 7 p.toNatClampNeg + G.1 8 p.toNatClampNeg) % 65536) → wX_send_72 P p x1 x2 x3 r B r f_now f_sent a_stateOf a_error a_iss a_una a_nxt a_max a_writtenTo a_kept a_keptBytes a_rcv a_unread a_unreadFrom a_cameBytes a_held a_heldFin a_wnd a_wndSeq a_wndAck a_peak a_half a_same a_rto a_tries a_retryAt a_ackAt a_waitTill a_timedAt a_timedSeq a_smoothed a_variance (R) (upd a_slotSeq r.toNatClampNeg x1) (upd a_slotFlags r.toNatClampNeg A) a_slotAck a_slotWindow a_slotSize a_slotBytes := by
    intro k R z r hrk hk hz hkR A B hA hB
    have rk : r.toNatClampNeg = k := by rw [hrk, zi_cl (by omega) (by omega)]; omega
    have hin : vp_in r 33 := by rw [hrk]; exact zi_in (by omega) (by omega) (by omega)
    unfold wX_send_72
    refine ⟨hin, nm_e (xl_ownWindow hp (h_unread _ he) ⟨hin, nm_e ⟨hin, nm_e ⟨9, ?_⟩⟩⟩)⟩
    refine xs_97 (e := p.toNatClampNeg) (k := k) (i0 := G.1 2 p.toNatClampNeg) (fr := fr) (n := n) (g := fun i => gm_W G p.toNatClampNeg (fr + i)) hp rfl hk hx1 hx3 hrk c5 c6 ?_ ?_ 9 0 a_slotBytes (by omega) (by omega) (fun j => by rw [if_neg (by omega)])
    · intro i hi0 hin
      have := d7 (by omega)
      exact h_keptBytes _ he (fr + i) (by omega) (by omega) (by omega)
    · intro m SB hSB
      rw [rk, hA, hB]
      have hvp := vx_post (num := (G.1 2 p.toNatClampNeg + fr) % 65536) (flag := if G.1 0 p.toNatClampNeg = 2 then fl else fl + 2) (ack := if G.1 0 p.toNatClampNeg = 2 then 0 else (G.1 7 p.toNatClampNeg + G.1 8 p.toNatClampNeg) % 65536) (win := 24 - G.1 9 p.toNatClampNeg) (n := n) (g := fun i => gm_W G p.toNatClampNeg (fr + i)) (SB := SB) (R := R) hv he c3 c4 hkR rfl rfl rfl rfl rfl hSB
      subst hx1 hx3
      exact xs_exit (G := gp_sp G p.toNatClampNeg fr fl n) hvp hp rfl hx2 rfl c7 c5 c6 c8 c9 d1 d3 d4 d5 d6 hP
  have key2 : ∀ z : Int32, ((G.1 0 p.toNatClampNeg = 2 ∧ z = 0) ∨ (G.1 0 p.toNatClampNeg ≠ 2 ∧ z = 1)) → wX_send_15 P p x1 x2 x3 z f_now f_sent a_stateOf a_error a_iss a_una a_nxt a_max a_writtenTo a_kept a_keptBytes a_rcv a_unread a_unreadFrom a_cameBytes a_held a_heldFin a_wnd a_wndSeq a_wndAck a_peak a_half a_same a_rto a_tries a_retryAt a_ackAt a_waitTill a_timedAt a_timedSeq a_smoothed a_variance a_rowCount a_slotSeq a_slotFlags a_slotAck a_slotWindow a_slotSize a_slotBytes := by
    intro z hz
    have fin : ∀ (k : Nat) (R : Nat → Int32) (r : Int32), r = zi_n (k : Int) → k ≤ 32 → ((G.1 30 p.toNatClampNeg < 16 ∧ k = 16 * p.toNatClampNeg + (G.1 30 p.toNatClampNeg).toNat ∧ R = upd a_rowCount p.toNatClampNeg (zi_n (G.1 30 p.toNatClampNeg + 1))) ∨ (G.1 30 p.toNatClampNeg = 16 ∧ k = 32 ∧ R = a_rowCount)) → (z = 0 → wX_send_50 P p x1 x2 x3 z r x2 r f_now f_sent a_stateOf a_error a_iss a_una a_nxt a_max a_writtenTo a_kept a_keptBytes a_rcv a_unread a_unreadFrom a_cameBytes a_held a_heldFin a_wnd a_wndSeq a_wndAck a_peak a_half a_same a_rto a_tries a_retryAt a_ackAt a_waitTill a_timedAt a_timedSeq a_smoothed a_variance (R) (upd a_slotSeq r.toNatClampNeg x1) a_slotFlags a_slotAck a_slotWindow a_slotSize a_slotBytes) ∧ (¬ z = 0 → wX_send_50 P p x1 x2 x3 z r (x2 ||| 2) r f_now f_sent a_stateOf a_error a_iss a_una a_nxt a_max a_writtenTo a_kept a_keptBytes a_rcv a_unread a_unreadFrom a_cameBytes a_held a_heldFin a_wnd a_wndSeq a_wndAck a_peak a_half a_same a_rto a_tries a_retryAt a_ackAt a_waitTill a_timedAt a_timedSeq a_smoothed a_variance (R) (upd a_slotSeq r.toNatClampNeg x1) a_slotFlags a_slotAck a_slotWindow a_slotSize a_slotBytes) := by
      intro k R r hrk hk hkR
      have hin : vp_in r 33 := by rw [hrk]; exact zi_in (by omega) (by omega) (by omega)
      rcases hz with ⟨hz1, hz2⟩ | ⟨hz1, hz2⟩
      · refine br_t hz2 ?_
        unfold wX_send_50
        refine ⟨hin, nm_e (br_t hz2 ?_)⟩
        exact key k R z r hrk hk (Or.inl ⟨hz1, hz2⟩) hkR _ _ (by rw [if_pos hz1]; exact hx2) (by rw [if_pos hz1]; rfl)
      · have hz0 : ¬ z = 0 := by rw [hz2]; decide
        refine br_f hz0 ?_
        unfold wX_send_50
        refine ⟨hin, nm_e (br_f hz0 ⟨hp, ?_⟩)⟩
        exact key k R z r hrk hk (Or.inr ⟨hz1, hz2⟩) hkR _ _ (by rw [if_neg hz1, hx2]; exact zf_o c7) (by rw [if_neg hz1]; exact h_rcv _ he)
    unfold wX_send_15
    refine xl_nextSlot hp hr c3 c4 (fun hlt => ?_) (fun h => ?_)
    · have hin : vp_in (zi_n (16 * (p.toNatClampNeg : Int) + G.1 30 p.toNatClampNeg)) 33 := zi_in (by omega) (by omega) (by omega)
      refine ⟨hin, nm_e ?_⟩
      exact fin (16 * p.toNatClampNeg + (G.1 30 p.toNatClampNeg).toNat) _ _ (by congr 1; omega) (by omega) (Or.inl ⟨hlt, rfl, rfl⟩)
    · have hin : vp_in (zi_n 32) 33 := zi_in (by omega) (by omega) (by omega)
      refine ⟨hin, nm_e ?_⟩
      exact fin 32 _ _ rfl (by omega) (Or.inr ⟨h, rfl, rfl⟩)
  unfold wpX_send
  by_cases w : G.1 0 p.toNatClampNeg = 2
  · exact ⟨hp, br_t (by rw [h_stateOf _ he, w]; rfl) (key2 0 (Or.inl ⟨w, rfl⟩))⟩
  · exact ⟨hp, br_f (by rw [h_stateOf _ he, zk_2, zi_eq (by omega) (by omega) (by omega) (by omega)]; exact w) (key2 1 (Or.inr ⟨w, rfl⟩))⟩
theorem xl_sendAck {q : Int} {G : gm_T} {u : SX} {p : Int32} {P : SX → Prop} (hv : vx_S q G u) (hp : vp_in p 2) (ok : sq_ok G p.toNatClampNeg (G.1 5 p.toNatClampNeg) 0 0) (hP : ∀ u', vx_S q (gp_ack G p.toNatClampNeg) u' → P u') : wpX_sendAck P u p := by
  obtain ⟨f_now, f_sent, a_stateOf, a_error, a_iss, a_una, a_nxt, a_max, a_writtenTo, a_kept, a_keptBytes, a_rcv, a_unread, a_unreadFrom, a_cameBytes, a_held, a_heldFin, a_wnd, a_wndSeq, a_wndAck, a_peak, a_half, a_same, a_rto, a_tries, a_retryAt, a_ackAt, a_waitTill, a_timedAt, a_timedSeq, a_smoothed, a_variance, a_rowCount, a_slotSeq, a_slotFlags, a_slotAck, a_slotWindow, a_slotSize, a_slotBytes⟩ := u
  have hv0 := hv
  obtain ⟨h_now, h_sent, h_stateOf, h_error, h_iss, h_una, h_nxt, h_max, h_writtenTo, h_kept, h_keptBytes, h_rcv, h_unread, h_unreadFrom, h_cameBytes, h_held, h_heldFin, h_wnd, h_wndSeq, h_wndAck, h_peak, h_half, h_same, h_rto, h_tries, h_retryAt, h_ackAt, h_waitTill, h_timedAt, h_timedSeq, h_smoothed, h_variance, h_rowCount, h_slotSeq, h_slotFlags, h_slotAck, h_slotWindow, h_slotSize, h_slotBytes⟩ := hv0
  unfold wpX_sendAck
  exact ⟨hp, xl_send hv hp (h_max _ (pe_lt hp)) rfl rfl ok hP⟩
end
section
/-! the class: flow -/
theorem sk_of {K : Int} {G : gm_T} {e : Nat} {fr fl n : Int} (hI : gv_I K G) (he : e < 2) (hs : 2 ≤ G.1 0 e) (hf : fl = 0 ∨ fl = 1 ∨ fl = 4) (hn0 : 0 ≤ n) (hn8 : n ≤ 8) (h0 : G.1 3 e - 1 ≤ fr) (h1 : fr ≤ G.1 5 e) (hb : 0 < n → 4 ≤ G.1 0 e ∧ G.1 3 e ≤ fr ∧ fr + n ≤ G.1 6 e) : sq_ok G e fr fl n := by
  obtain ⟨a1, a2, a3, a4, a5, a6, a7, a8⟩ := hI
  obtain ⟨b1, b2, b3, b4, b5, b6⟩ := a5 e he
  unfold gv_a at b1
  unfold gv_p at b2
  unfold gv_d at b4
  unfold gv_t at b5
  obtain ⟨p1, p2, p3, p4, p5, p6, p7, p8, p9⟩ := b2
  have q1 := p1 (by omega)
  have hM : 0 ≤ G.1 5 e ∧ G.1 5 e ≤ K + 2 ∧ G.1 5 e - G.1 3 e ≤ 34 := by
    by_cases w : 4 ≤ G.1 0 e
    · have := p5 w; omega
    · have := p4 (by omega); omega
  refine ⟨by omega, by omega, by omega, by omega, hn0, hn8, hf, by omega, by omega, by omega, by omega, by omega, ?_, by omega, by omega, ?_, by omega, by omega, ?_⟩
  · intro z; have := b5.2.1 z; omega
  · intro z
    have r := hb z
    have := p5 r.1
    omega
  · by_cases w : 0 ≤ G.1 24 e
    · have := b5.2.1 w; omega
    · omega
theorem xl_maySend {P : Int32 → Prop} {x : Int32} {s : Int} (hx : x = zi_n s) (h0 : 0 ≤ s) (h1 : s ≤ 10) (ht : (s = 4 ∨ s = 5 ∨ s = 7 ∨ s = 8 ∨ s = 9) → P 1) (hf : ¬ (s = 4 ∨ s = 5 ∨ s = 7 ∨ s = 8 ∨ s = 9) → P 0) : wpX_maySend P x := by
  unfold wpX_maySend
  rw [hx, zk_4, zk_5, zk_7, zk_8, zk_9]
  simp only [zi_eq (a := s) (b := 4) (by omega) (by omega) (by omega) (by omega), zi_eq (a := s) (b := 5) (by omega) (by omega) (by omega) (by omega), zi_eq (a := s) (b := 7) (by omega) (by omega) (by omega) (by omega), zi_eq (a := s) (b := 8) (by omega) (by omega) (by omega) (by omega), zi_eq (a := s) (b := 9) (by omega) (by omega) (by omega) (by omega)]
  refine ⟨fun h => ht (by omega), fun _ => ⟨fun h => ht (by omega), fun _ => ⟨fun h => ht (by omega), fun _ => ⟨fun h => ht (by omega), fun _ => ⟨fun h => ht (by omega), fun _ => hf (by omega)⟩⟩⟩⟩⟩
theorem xl_hasFin {P : Int32 → Prop} {x : Int32} {s : Int} (hx : x = zi_n s) (h0 : 0 ≤ s) (h1 : s ≤ 10) (ht : (s = 5 ∨ s = 6 ∨ s = 8 ∨ s = 9 ∨ s = 10) → P 1) (hf : ¬ (s = 5 ∨ s = 6 ∨ s = 8 ∨ s = 9 ∨ s = 10) → P 0) : wpX_hasFin P x := by
  unfold wpX_hasFin
  rw [hx, zk_5, zk_6, zk_8]
  simp only [zi_eq (a := s) (b := 5) (by omega) (by omega) (by omega) (by omega), zi_eq (a := s) (b := 6) (by omega) (by omega) (by omega) (by omega), zi_lt (a := s) (b := 8) (by omega) (by omega) (by omega) (by omega)]
  refine ⟨fun h => ht (by omega), fun _ => ⟨fun h => ht (by omega), fun _ => ⟨fun h => hf (by omega), fun _ => ht (by omega)⟩⟩⟩
theorem xf_340 {q : Int} {G : gm_T} {f_now : Int32} {f_sent : Int32} {a_stateOf : (Nat → Int32)} {a_error : (Nat → Int32)} {a_iss : (Nat → Int32)} {a_una : (Nat → Int32)} {a_nxt : (Nat → Int32)} {a_max : (Nat → Int32)} {a_writtenTo : (Nat → Int32)} {a_kept : (Nat → Int32)} {a_keptBytes : (Nat → Int32)} {a_rcv : (Nat → Int32)} {a_unread : (Nat → Int32)} {a_unreadFrom : (Nat → Int32)} {a_cameBytes : (Nat → Int32)} {a_held : (Nat → Int32)} {a_heldFin : (Nat → Int32)} {a_wnd : (Nat → Int32)} {a_wndSeq : (Nat → Int32)} {a_wndAck : (Nat → Int32)} {a_peak : (Nat → Int32)} {a_half : (Nat → Int32)} {a_same : (Nat → Int32)} {a_rto : (Nat → Int32)} {a_tries : (Nat → Int32)} {a_retryAt : (Nat → Int32)} {a_ackAt : (Nat → Int32)} {a_waitTill : (Nat → Int32)} {a_timedAt : (Nat → Int32)} {a_timedSeq : (Nat → Int32)} {a_smoothed : (Nat → Int32)} {a_variance : (Nat → Int32)} {a_rowCount : (Nat → Int32)} {a_slotSeq : (Nat → Int32)} {a_slotFlags : (Nat → Int32)} {a_slotAck : (Nat → Int32)} {a_slotWindow : (Nat → Int32)} {a_slotSize : (Nat → Int32)} {a_slotBytes : (Nat → Int32)} {p : Int32} {P : SX → Prop} (hv : vx_S q G (f_now, f_sent, a_stateOf, a_error, a_iss, a_una, a_nxt, a_max, a_writtenTo, a_kept, a_keptBytes, a_rcv, a_unread, a_unreadFrom, a_cameBytes, a_held, a_heldFin, a_wnd, a_wndSeq, a_wndAck, a_peak, a_half, a_same, a_rto, a_tries, a_retryAt, a_ackAt, a_waitTill, a_timedAt, a_timedSeq, a_smoothed, a_variance, a_rowCount, a_slotSeq, a_slotFlags, a_slotAck, a_slotWindow, a_slotSize, a_slotBytes)) (hp : vp_in p 2) (h0 : -1 ≤ G.1 21 p.toNatClampNeg) (h1 : G.1 21 p.toNatClampNeg < 2147483648) (hc : G.1 12 p.toNatClampNeg = 0 ∧ G.1 4 p.toNatClampNeg = G.1 3 p.toNatClampNeg ∧ (G.1 4 p.toNatClampNeg < G.1 6 p.toNatClampNeg ∨ (G.1 29 p.toNatClampNeg = 1 ∧ G.1 4 p.toNatClampNeg = G.1 6 p.toNatClampNeg))) (hP : ∀ u', vx_S q (gp_rest G p.toNatClampNeg) u' → P u') : wX_flow_340 P p f_now f_sent a_stateOf a_error a_iss a_una a_nxt a_max a_writtenTo a_kept a_keptBytes a_rcv a_unread a_unreadFrom a_cameBytes a_held a_heldFin a_wnd a_wndSeq a_wndAck a_peak a_half a_same a_rto a_tries a_retryAt a_ackAt a_waitTill a_timedAt a_timedSeq a_smoothed a_variance a_rowCount a_slotSeq a_slotFlags a_slotAck a_slotWindow a_slotSize a_slotBytes := by
  obtain ⟨h_now, h_sent, h_stateOf, h_error, h_iss, h_una, h_nxt, h_max, h_writtenTo, h_kept, h_keptBytes, h_rcv, h_unread, h_unreadFrom, h_cameBytes, h_held, h_heldFin, h_wnd, h_wndSeq, h_wndAck, h_peak, h_half, h_same, h_rto, h_tries, h_retryAt, h_ackAt, h_waitTill, h_timedAt, h_timedSeq, h_smoothed, h_variance, h_rowCount, h_slotSeq, h_slotFlags, h_slotAck, h_slotWindow, h_slotSize, h_slotBytes⟩ := hv
  have he := pe_lt hp
  unfold wX_flow_340
  refine xl_setRetry hp (h_retryAt _ he) h0 h1 ?_
  by_cases w : G.1 21 p.toNatClampNeg < 0
  · rw [if_pos w]
    refine hP _ (vx_mk h_now h_sent h_stateOf h_error h_iss h_una h_nxt h_max h_writtenTo h_kept h_keptBytes h_rcv h_unread h_unreadFrom h_cameBytes h_held h_heldFin h_wnd h_wndSeq h_wndAck h_peak h_half h_same h_rto h_tries (vu_e h_retryAt ?_ (fun e' q => gs_e q)) h_ackAt h_waitTill h_timedAt h_timedSeq h_smoothed h_variance h_rowCount h_slotSeq h_slotFlags h_slotAck h_slotWindow h_slotSize h_slotBytes)
    show _ = zi_n (gs_c _ _ _ _ _ _)
    rw [gs_s, if_pos ⟨hc.1, hc.2.1, hc.2.2, w⟩, h_now, h_rto _ he, zi_add]
  · rw [if_neg w]
    refine hP _ (vx_mk h_now h_sent h_stateOf h_error h_iss h_una h_nxt h_max h_writtenTo h_kept h_keptBytes h_rcv h_unread h_unreadFrom h_cameBytes h_held h_heldFin h_wnd h_wndSeq h_wndAck h_peak h_half h_same h_rto h_tries (vk_e h_retryAt (fun e' _ => ?_)) h_ackAt h_waitTill h_timedAt h_timedSeq h_smoothed h_variance h_rowCount h_slotSeq h_slotFlags h_slotAck h_slotWindow h_slotSize h_slotBytes)
    show gs_c _ _ _ _ _ _ = _
    rw [gs_id (if_neg (fun z => w z.2.2.2))]
theorem xf_306 {q K : Int} {G : gm_T} {f_now : Int32} {f_sent : Int32} {a_stateOf : (Nat → Int32)} {a_error : (Nat → Int32)} {a_iss : (Nat → Int32)} {a_una : (Nat → Int32)} {a_nxt : (Nat → Int32)} {a_max : (Nat → Int32)} {a_writtenTo : (Nat → Int32)} {a_kept : (Nat → Int32)} {a_keptBytes : (Nat → Int32)} {a_rcv : (Nat → Int32)} {a_unread : (Nat → Int32)} {a_unreadFrom : (Nat → Int32)} {a_cameBytes : (Nat → Int32)} {a_held : (Nat → Int32)} {a_heldFin : (Nat → Int32)} {a_wnd : (Nat → Int32)} {a_wndSeq : (Nat → Int32)} {a_wndAck : (Nat → Int32)} {a_peak : (Nat → Int32)} {a_half : (Nat → Int32)} {a_same : (Nat → Int32)} {a_rto : (Nat → Int32)} {a_tries : (Nat → Int32)} {a_retryAt : (Nat → Int32)} {a_ackAt : (Nat → Int32)} {a_waitTill : (Nat → Int32)} {a_timedAt : (Nat → Int32)} {a_timedSeq : (Nat → Int32)} {a_smoothed : (Nat → Int32)} {a_variance : (Nat → Int32)} {a_rowCount : (Nat → Int32)} {a_slotSeq : (Nat → Int32)} {a_slotFlags : (Nat → Int32)} {a_slotAck : (Nat → Int32)} {a_slotWindow : (Nat → Int32)} {a_slotSize : (Nat → Int32)} {a_slotBytes : (Nat → Int32)} {p x4 x6 : Int32} {d : Int} {P : SX → Prop} (hv : vx_S q G (f_now, f_sent, a_stateOf, a_error, a_iss, a_una, a_nxt, a_max, a_writtenTo, a_kept, a_keptBytes, a_rcv, a_unread, a_unreadFrom, a_cameBytes, a_held, a_heldFin, a_wnd, a_wndSeq, a_wndAck, a_peak, a_half, a_same, a_rto, a_tries, a_retryAt, a_ackAt, a_waitTill, a_timedAt, a_timedSeq, a_smoothed, a_variance, a_rowCount, a_slotSeq, a_slotFlags, a_slotAck, a_slotWindow, a_slotSize, a_slotBytes)) (hI : gv_I K G) (hp : vp_in p 2) (h4 : 4 ≤ G.1 0 p.toNatClampNeg) (hx4 : x4 = zi_n d) (hd0 : -10 ≤ d) (hd1 : d ≤ 100) (hd : G.1 12 p.toNatClampNeg = 0 → ((0 < d ∨ ¬ x6 = 0) ↔ (G.1 4 p.toNatClampNeg < G.1 6 p.toNatClampNeg ∨ (G.1 29 p.toNatClampNeg = 1 ∧ G.1 4 p.toNatClampNeg = G.1 6 p.toNatClampNeg)))) (hP : ∀ u', vx_S q (gp_rest G p.toNatClampNeg) u' → P u') : wX_flow_306 P p x4 x6 f_now f_sent a_stateOf a_error a_iss a_una a_nxt a_max a_writtenTo a_kept a_keptBytes a_rcv a_unread a_unreadFrom a_cameBytes a_held a_heldFin a_wnd a_wndSeq a_wndAck a_peak a_half a_same a_rto a_tries a_retryAt a_ackAt a_waitTill a_timedAt a_timedSeq a_smoothed a_variance a_rowCount a_slotSeq a_slotFlags a_slotAck a_slotWindow a_slotSize a_slotBytes := by
  have hv0 := hv
  obtain ⟨h_now, h_sent, h_stateOf, h_error, h_iss, h_una, h_nxt, h_max, h_writtenTo, h_kept, h_keptBytes, h_rcv, h_unread, h_unreadFrom, h_cameBytes, h_held, h_heldFin, h_wnd, h_wndSeq, h_wndAck, h_peak, h_half, h_same, h_rto, h_tries, h_retryAt, h_ackAt, h_waitTill, h_timedAt, h_timedSeq, h_smoothed, h_variance, h_rowCount, h_slotSeq, h_slotFlags, h_slotAck, h_slotWindow, h_slotSize, h_slotBytes⟩ := hv0
  have he := pe_lt hp
  have n0 := hI.2.2.1
  have n1 := hI.2.2.2.1
  have n2 := hI.2.1
  obtain ⟨b1, b2, b3, b4, b5, b6⟩ := hI.2.2.2.2.1 _ he
  unfold gv_p at b2
  unfold gv_c at b3
  unfold gv_d at b4
  have hno : ¬ (G.1 12 p.toNatClampNeg = 0 ∧ G.1 4 p.toNatClampNeg = G.1 3 p.toNatClampNeg ∧ (G.1 4 p.toNatClampNeg < G.1 6 p.toNatClampNeg ∨ (G.1 29 p.toNatClampNeg = 1 ∧ G.1 4 p.toNatClampNeg = G.1 6 p.toNatClampNeg))) → P (f_now, f_sent, a_stateOf, a_error, a_iss, a_una, a_nxt, a_max, a_writtenTo, a_kept, a_keptBytes, a_rcv, a_unread, a_unreadFrom, a_cameBytes, a_held, a_heldFin, a_wnd, a_wndSeq, a_wndAck, a_peak, a_half, a_same, a_rto, a_tries, a_retryAt, a_ackAt, a_waitTill, a_timedAt, a_timedSeq, a_smoothed, a_variance, a_rowCount, a_slotSeq, a_slotFlags, a_slotAck, a_slotWindow, a_slotSize, a_slotBytes) := by
    intro z
    refine hP _ ?_
    have : gp_rest G p.toNatClampNeg = G := by
      unfold gp_rest
      rw [gs_id (if_neg (fun y => z ⟨y.1, y.2.1, y.2.2.1⟩))]
    rw [this]; exact hv
  unfold wX_flow_306
  refine ⟨hp, ?_⟩
  by_cases w : G.1 12 p.toNatClampNeg = 0
  · refine br_t (by rw [h_wnd _ he, w]; rfl) ⟨hp, hp, ?_⟩
    have hu := (b2.2.2.2.2.1 h4)
    by_cases w2 : G.1 4 p.toNatClampNeg = G.1 3 p.toNatClampNeg
    · refine br_t (by rw [h_nxt _ he, h_una _ he, w2]) ?_
      by_cases w3 : 0 < d
      · refine br_t (by rw [zk_0, hx4, zi_lt (by omega) (by omega) (by omega) (by omega)]; exact w3) ?_
        exact xf_340 hv hp (by omega) (by omega) ⟨w, w2, (hd w).mp (Or.inl w3)⟩ hP
      · refine br_f (by rw [zk_0, hx4, zi_lt (by omega) (by omega) (by omega) (by omega)]; exact w3) ?_
        by_cases w4 : x6 = 0
        · exact br_t w4 (hno (fun z => ((hd w).mpr z.2.2).elim w3 (fun h => h w4)))
        · exact br_f w4 (xf_340 hv hp (by omega) (by omega) ⟨w, w2, (hd w).mp (Or.inr w4)⟩ hP)
    · refine br_f (by rw [h_nxt _ he, h_una _ he, zi_eq (by omega) (by omega) (by omega) (by omega)]; omega) (hno (fun z => w2 z.2.1))
  · exact br_f (by rw [h_wnd _ he, zk_0, zi_eq (by omega) (by omega) (by omega) (by omega)]; exact w) (hno (fun z => w z.1))
theorem xf_202 {q K : Int} {G : gm_T} {f_now : Int32} {f_sent : Int32} {a_stateOf : (Nat → Int32)} {a_error : (Nat → Int32)} {a_iss : (Nat → Int32)} {a_una : (Nat → Int32)} {a_nxt : (Nat → Int32)} {a_max : (Nat → Int32)} {a_writtenTo : (Nat → Int32)} {a_kept : (Nat → Int32)} {a_keptBytes : (Nat → Int32)} {a_rcv : (Nat → Int32)} {a_unread : (Nat → Int32)} {a_unreadFrom : (Nat → Int32)} {a_cameBytes : (Nat → Int32)} {a_held : (Nat → Int32)} {a_heldFin : (Nat → Int32)} {a_wnd : (Nat → Int32)} {a_wndSeq : (Nat → Int32)} {a_wndAck : (Nat → Int32)} {a_peak : (Nat → Int32)} {a_half : (Nat → Int32)} {a_same : (Nat → Int32)} {a_rto : (Nat → Int32)} {a_tries : (Nat → Int32)} {a_retryAt : (Nat → Int32)} {a_ackAt : (Nat → Int32)} {a_waitTill : (Nat → Int32)} {a_timedAt : (Nat → Int32)} {a_timedSeq : (Nat → Int32)} {a_smoothed : (Nat → Int32)} {a_variance : (Nat → Int32)} {a_rowCount : (Nat → Int32)} {a_slotSeq : (Nat → Int32)} {a_slotFlags : (Nat → Int32)} {a_slotAck : (Nat → Int32)} {a_slotWindow : (Nat → Int32)} {a_slotSize : (Nat → Int32)} {a_slotBytes : (Nat → Int32)} {p x2 : Int32} {P : SX → Prop} (hv : vx_S q G (f_now, f_sent, a_stateOf, a_error, a_iss, a_una, a_nxt, a_max, a_writtenTo, a_kept, a_keptBytes, a_rcv, a_unread, a_unreadFrom, a_cameBytes, a_held, a_heldFin, a_wnd, a_wndSeq, a_wndAck, a_peak, a_half, a_same, a_rto, a_tries, a_retryAt, a_ackAt, a_waitTill, a_timedAt, a_timedSeq, a_smoothed, a_variance, a_rowCount, a_slotSeq, a_slotFlags, a_slotAck, a_slotWindow, a_slotSize, a_slotBytes)) (hI : gv_I K G) (hp : vp_in p 2) (h4 : 4 ≤ G.1 0 p.toNatClampNeg) (hx2 : x2 = zi_n (min (G.1 12 p.toNatClampNeg) (G.1 16 p.toNatClampNeg))) (hP : ∀ u', vx_S q (gp_rest (gp_fin G p.toNatClampNeg) p.toNatClampNeg) u' → P u') : wX_flow_202 P p x2 f_now f_sent a_stateOf a_error a_iss a_una a_nxt a_max a_writtenTo a_kept a_keptBytes a_rcv a_unread a_unreadFrom a_cameBytes a_held a_heldFin a_wnd a_wndSeq a_wndAck a_peak a_half a_same a_rto a_tries a_retryAt a_ackAt a_waitTill a_timedAt a_timedSeq a_smoothed a_variance a_rowCount a_slotSeq a_slotFlags a_slotAck a_slotWindow a_slotSize a_slotBytes := by
  have hv0 := hv
  obtain ⟨h_now, h_sent, h_stateOf, h_error, h_iss, h_una, h_nxt, h_max, h_writtenTo, h_kept, h_keptBytes, h_rcv, h_unread, h_unreadFrom, h_cameBytes, h_held, h_heldFin, h_wnd, h_wndSeq, h_wndAck, h_peak, h_half, h_same, h_rto, h_tries, h_retryAt, h_ackAt, h_waitTill, h_timedAt, h_timedSeq, h_smoothed, h_variance, h_rowCount, h_slotSeq, h_slotFlags, h_slotAck, h_slotWindow, h_slotSize, h_slotBytes⟩ := hv0
  have he := pe_lt hp
  have n0 := hI.2.2.1
  have n1 := hI.2.2.2.1
  have n2 := hI.2.1
  obtain ⟨b1, b2, b3, b4, b5, b6⟩ := hI.2.2.2.2.1 _ he
  unfold gv_a at b1
  unfold gv_p at b2
  unfold gv_c at b3
  have hu := (b2.2.2.2.2.1 h4)
  have hcl := b2.2.2.2.2.2.2.2
  have hk := b2.2.2.2.2.2.1
  generalize hwd : min (G.1 12 p.toNatClampNeg) (G.1 16 p.toNatClampNeg) = wd at *
  have hwd0 : 0 ≤ wd ∧ wd ≤ 24 ∧ (0 < wd → 0 < G.1 12 p.toNatClampNeg) := by omega
  have k306 : ∀ z : Int32, ¬ (G.1 29 p.toNatClampNeg = 1 ∧ G.1 4 p.toNatClampNeg = G.1 6 p.toNatClampNeg ∧ 0 < wd - (G.1 4 p.toNatClampNeg - G.1 3 p.toNatClampNeg)) → (¬ z = 0 ↔ (G.1 29 p.toNatClampNeg = 1 ∧ 0 ≤ G.1 6 p.toNatClampNeg - G.1 4 p.toNatClampNeg)) → wX_flow_306 P p (zi_n (G.1 6 p.toNatClampNeg - G.1 4 p.toNatClampNeg)) z f_now f_sent a_stateOf a_error a_iss a_una a_nxt a_max a_writtenTo a_kept a_keptBytes a_rcv a_unread a_unreadFrom a_cameBytes a_held a_heldFin a_wnd a_wndSeq a_wndAck a_peak a_half a_same a_rto a_tries a_retryAt a_ackAt a_waitTill a_timedAt a_timedSeq a_smoothed a_variance a_rowCount a_slotSeq a_slotFlags a_slotAck a_slotWindow a_slotSize a_slotBytes := by
    intro z hz hz2
    have hfin : gp_fin G p.toNatClampNeg = G := by
      unfold gp_fin
      rw [hwd]
      exact if_neg hz
    rw [hfin] at hP
    refine xf_306 hv hI hp h4 rfl (by omega) (by omega) (fun _ => ?_) hP
    rw [hz2]; omega
  have k260 : ∀ z : Int32, (¬ z = 0 ↔ (G.1 29 p.toNatClampNeg = 1 ∧ 0 ≤ G.1 6 p.toNatClampNeg - G.1 4 p.toNatClampNeg)) → wX_flow_260 P p (zi_n (G.1 6 p.toNatClampNeg - G.1 4 p.toNatClampNeg)) (zi_n (wd - (G.1 4 p.toNatClampNeg - G.1 3 p.toNatClampNeg))) z f_now f_sent a_stateOf a_error a_iss a_una a_nxt a_max a_writtenTo a_kept a_keptBytes a_rcv a_unread a_unreadFrom a_cameBytes a_held a_heldFin a_wnd a_wndSeq a_wndAck a_peak a_half a_same a_rto a_tries a_retryAt a_ackAt a_waitTill a_timedAt a_timedSeq a_smoothed a_variance a_rowCount a_slotSeq a_slotFlags a_slotAck a_slotWindow a_slotSize a_slotBytes := by
    intro z hz2
    unfold wX_flow_260
    by_cases w : G.1 6 p.toNatClampNeg - G.1 4 p.toNatClampNeg = 0
    · refine br_t (by rw [w]; rfl) ?_
      by_cases w2 : z = 0
      · exact br_t w2 (k306 z (fun y => by have : ¬ z = 0 := hz2.mpr ⟨y.1, by omega⟩; exact this w2) hz2)
      · have hc1 := hz2.mp w2
        refine br_f w2 ?_
        by_cases w3 : wd - (G.1 4 p.toNatClampNeg - G.1 3 p.toNatClampNeg) ≤ 0
        · exact br_t (by rw [zk_0, zi_le (by omega) (by omega) (by omega) (by omega)]; exact w3) (k306 z (fun y => by omega) hz2)
        · refine br_f (by rw [zk_0, zi_le (by omega) (by omega) (by omega) (by omega)]; exact w3) ⟨hp, ?_⟩
          have hcond : G.1 29 p.toNatClampNeg = 1 ∧ G.1 4 p.toNatClampNeg = G.1 6 p.toNatClampNeg ∧ 0 < wd - (G.1 4 p.toNatClampNeg - G.1 3 p.toNatClampNeg) := ⟨hc1.1, by omega, by omega⟩
          have hfin : gp_fin G p.toNatClampNeg = (gs_c (gp_send G p.toNatClampNeg (G.1 4 p.toNatClampNeg) 4 0).1 4 p.toNatClampNeg (G.1 4 p.toNatClampNeg + 1), (gp_send G p.toNatClampNeg (G.1 4 p.toNatClampNeg) 4 0).2) := by
            unfold gp_fin
            rw [hwd]
            exact if_pos hcond
          have hIf := iv_fin hI he h4
          refine xl_send hv hp (h_nxt _ he) zk_4 zk_0 (sk_of hI he (by omega) (Or.inr (Or.inr rfl)) (by omega) (by omega) (by omega) (by omega) (by omega)) fun u1 hv1 => ?_
          rw [hfin] at hP hIf
          clear hv0
          have hN1 : (gp_send G p.toNatClampNeg (G.1 4 p.toNatClampNeg) 4 0).1 4 p.toNatClampNeg = G.1 4 p.toNatClampNeg := sd_f (by decide) (by decide) (by decide) (by decide) (by decide) (by decide)
          have hI1 : ∀ e', (gp_send G p.toNatClampNeg (G.1 4 p.toNatClampNeg) 4 0).1 2 e' = G.1 2 e' := fun e' => sd_f (by decide) (by decide) (by decide) (by decide) (by decide) (by decide)
          generalize hG1 : gp_send G p.toNatClampNeg (G.1 4 p.toNatClampNeg) 4 0 = G1 at *
          obtain ⟨f_now, f_sent, a_stateOf, a_error, a_iss, a_una, a_nxt, a_max, a_writtenTo, a_kept, a_keptBytes, a_rcv, a_unread, a_unreadFrom, a_cameBytes, a_held, a_heldFin, a_wnd, a_wndSeq, a_wndAck, a_peak, a_half, a_same, a_rto, a_tries, a_retryAt, a_ackAt, a_waitTill, a_timedAt, a_timedSeq, a_smoothed, a_variance, a_rowCount, a_slotSeq, a_slotFlags, a_slotAck, a_slotWindow, a_slotSize, a_slotBytes⟩ := u1
          have hv2 := hv1
          obtain ⟨h_now, h_sent, h_stateOf, h_error, h_iss, h_una, h_nxt, h_max, h_writtenTo, h_kept, h_keptBytes, h_rcv, h_unread, h_unreadFrom, h_cameBytes, h_held, h_heldFin, h_wnd, h_wndSeq, h_wndAck, h_peak, h_half, h_same, h_rto, h_tries, h_retryAt, h_ackAt, h_waitTill, h_timedAt, h_timedSeq, h_smoothed, h_variance, h_rowCount, h_slotSeq, h_slotFlags, h_slotAck, h_slotWindow, h_slotSize, h_slotBytes⟩ := hv2
          refine ⟨hp, xl_behind (h_nxt _ he) zk_1 ⟨hp, nm_e ?_⟩⟩
          refine xf_306 (G := (gs_c G1.1 4 p.toNatClampNeg (G.1 4 p.toNatClampNeg + 1), G1.2)) ?_ hIf hp ?_ rfl (by omega) (by omega) ?_ hP
          · refine (vx_mk h_now h_sent h_stateOf h_error h_iss h_una (vu_e h_nxt ?_ (fun e' q => ?_)) h_max h_writtenTo h_kept h_keptBytes h_rcv h_unread h_unreadFrom h_cameBytes h_held h_heldFin h_wnd h_wndSeq h_wndAck h_peak h_half h_same h_rto h_tries h_retryAt h_ackAt h_waitTill h_timedAt h_timedSeq h_smoothed h_variance h_rowCount h_slotSeq h_slotFlags h_slotAck h_slotWindow h_slotSize h_slotBytes)
            · show _ = zi_n ((G1.1 2 p.toNatClampNeg + gs_c _ _ _ _ _ _) % 65536)
              rw [gs_s, hN1]; congr 1; omega
            · show (G1.1 2 e' + gs_c _ _ _ _ _ _) % 65536 = _
              rw [gs_e q]
          · show 4 ≤ G1.1 0 p.toNatClampNeg
            rw [← hG1, sd_f (by decide) (by decide) (by decide) (by decide) (by decide) (by decide)]; exact h4
          · intro y
            have y' : G1.1 12 p.toNatClampNeg = 0 := y
            rw [← hG1, sd_f (by decide) (by decide) (by decide) (by decide) (by decide) (by decide)] at y'
            omega
    · refine br_f (by rw [zk_0, zi_eq (by omega) (by omega) (by omega) (by omega)]; exact w) (k306 z (fun y => by omega) hz2)
  unfold wX_flow_202
  refine ⟨hp, hp, xl_off (h_writtenTo _ he) (h_nxt _ he) (by omega) (by omega) ⟨hp, hp, xl_off (h_nxt _ he) (h_una _ he) (by omega) (by omega) (nm_r (e' := zi_n (wd - (G.1 4 p.toNatClampNeg - G.1 3 p.toNatClampNeg))) (by rw [hx2, zi_sub]) ⟨hp, ?_⟩)⟩⟩
  refine xl_hasFin (h_stateOf _ he) (by omega) (by omega) (fun w => ?_) (fun w => ?_)
  · refine br_f (by decide) ?_
    by_cases w2 : G.1 6 p.toNatClampNeg - G.1 4 p.toNatClampNeg < 0
    · refine br_t (by rw [zk_0, zi_lt (by omega) (by omega) (by omega) (by omega)]; exact w2) ?_
      exact k260 0 ⟨fun h => absurd rfl h, fun h => by omega⟩
    · refine br_f (by rw [zk_0, zi_lt (by omega) (by omega) (by omega) (by omega)]; exact w2) ?_
      exact k260 1 ⟨fun h => ⟨hcl.2.mpr w, by omega⟩, fun h => by decide⟩
  · refine br_t rfl ?_
    exact k260 0 ⟨fun h => absurd rfl h, fun h => absurd (hcl.2.mp h.1) w⟩
theorem vx_step {q : Int} {G G1 : gm_T} {f_now : Int32} {f_sent : Int32} {a_stateOf : (Nat → Int32)} {a_error : (Nat → Int32)} {a_iss : (Nat → Int32)} {a_una : (Nat → Int32)} {a_nxt : (Nat → Int32)} {a_max : (Nat → Int32)} {a_writtenTo : (Nat → Int32)} {a_kept : (Nat → Int32)} {a_keptBytes : (Nat → Int32)} {a_rcv : (Nat → Int32)} {a_unread : (Nat → Int32)} {a_unreadFrom : (Nat → Int32)} {a_cameBytes : (Nat → Int32)} {a_held : (Nat → Int32)} {a_heldFin : (Nat → Int32)} {a_wnd : (Nat → Int32)} {a_wndSeq : (Nat → Int32)} {a_wndAck : (Nat → Int32)} {a_peak : (Nat → Int32)} {a_half : (Nat → Int32)} {a_same : (Nat → Int32)} {a_rto : (Nat → Int32)} {a_tries : (Nat → Int32)} {a_retryAt : (Nat → Int32)} {a_ackAt : (Nat → Int32)} {a_waitTill : (Nat → Int32)} {a_timedAt : (Nat → Int32)} {a_timedSeq : (Nat → Int32)} {a_smoothed : (Nat → Int32)} {a_variance : (Nat → Int32)} {a_rowCount : (Nat → Int32)} {a_slotSeq : (Nat → Int32)} {a_slotFlags : (Nat → Int32)} {a_slotAck : (Nat → Int32)} {a_slotWindow : (Nat → Int32)} {a_slotSize : (Nat → Int32)} {a_slotBytes : (Nat → Int32)} {p : Int32} {y : Int32} {z : Int} (hv : vx_S q G1 (f_now, f_sent, a_stateOf, a_error, a_iss, a_una, a_nxt, a_max, a_writtenTo, a_kept, a_keptBytes, a_rcv, a_unread, a_unreadFrom, a_cameBytes, a_held, a_heldFin, a_wnd, a_wndSeq, a_wndAck, a_peak, a_half, a_same, a_rto, a_tries, a_retryAt, a_ackAt, a_waitTill, a_timedAt, a_timedSeq, a_smoothed, a_variance, a_rowCount, a_slotSeq, a_slotFlags, a_slotAck, a_slotWindow, a_slotSize, a_slotBytes)) (hy : y = zi_n ((G1.1 2 p.toNatClampNeg + z) % 65536)) : vx_S q (gp_put G1 4 p.toNatClampNeg z) (f_now, f_sent, a_stateOf, a_error, a_iss, a_una, upd a_nxt p.toNatClampNeg y, a_max, a_writtenTo, a_kept, a_keptBytes, a_rcv, a_unread, a_unreadFrom, a_cameBytes, a_held, a_heldFin, a_wnd, a_wndSeq, a_wndAck, a_peak, a_half, a_same, a_rto, a_tries, a_retryAt, a_ackAt, a_waitTill, a_timedAt, a_timedSeq, a_smoothed, a_variance, a_rowCount, a_slotSeq, a_slotFlags, a_slotAck, a_slotWindow, a_slotSize, a_slotBytes) := by
  obtain ⟨h_now, h_sent, h_stateOf, h_error, h_iss, h_una, h_nxt, h_max, h_writtenTo, h_kept, h_keptBytes, h_rcv, h_unread, h_unreadFrom, h_cameBytes, h_held, h_heldFin, h_wnd, h_wndSeq, h_wndAck, h_peak, h_half, h_same, h_rto, h_tries, h_retryAt, h_ackAt, h_waitTill, h_timedAt, h_timedSeq, h_smoothed, h_variance, h_rowCount, h_slotSeq, h_slotFlags, h_slotAck, h_slotWindow, h_slotSize, h_slotBytes⟩ := hv
  refine (vx_mk h_now h_sent h_stateOf h_error h_iss h_una (vu_e h_nxt ?_ (fun e' q => ?_)) h_max h_writtenTo h_kept h_keptBytes h_rcv h_unread h_unreadFrom h_cameBytes h_held h_heldFin h_wnd h_wndSeq h_wndAck h_peak h_half h_same h_rto h_tries h_retryAt h_ackAt h_waitTill h_timedAt h_timedSeq h_smoothed h_variance h_rowCount h_slotSeq h_slotFlags h_slotAck h_slotWindow h_slotSize h_slotBytes)
  · show _ = zi_n ((G1.1 2 p.toNatClampNeg + gs_c _ _ _ _ _ _) % 65536)
    rw [gs_s]; exact hy
  · show (G1.1 2 e' + gs_c _ _ _ _ _ _) % 65536 = _
    rw [gs_e q]
theorem xf_49 {q K : Int} {p x2 : Int32} {P : SX → Prop} (hp : vp_in p 2) : ∀ (k f r : Nat) (G : gm_T) (f_now : Int32) (f_sent : Int32) (a_stateOf : (Nat → Int32)) (a_error : (Nat → Int32)) (a_iss : (Nat → Int32)) (a_una : (Nat → Int32)) (a_nxt : (Nat → Int32)) (a_max : (Nat → Int32)) (a_writtenTo : (Nat → Int32)) (a_kept : (Nat → Int32)) (a_keptBytes : (Nat → Int32)) (a_rcv : (Nat → Int32)) (a_unread : (Nat → Int32)) (a_unreadFrom : (Nat → Int32)) (a_cameBytes : (Nat → Int32)) (a_held : (Nat → Int32)) (a_heldFin : (Nat → Int32)) (a_wnd : (Nat → Int32)) (a_wndSeq : (Nat → Int32)) (a_wndAck : (Nat → Int32)) (a_peak : (Nat → Int32)) (a_half : (Nat → Int32)) (a_same : (Nat → Int32)) (a_rto : (Nat → Int32)) (a_tries : (Nat → Int32)) (a_retryAt : (Nat → Int32)) (a_ackAt : (Nat → Int32)) (a_waitTill : (Nat → Int32)) (a_timedAt : (Nat → Int32)) (a_timedSeq : (Nat → Int32)) (a_smoothed : (Nat → Int32)) (a_variance : (Nat → Int32)) (a_rowCount : (Nat → Int32)) (a_slotSeq : (Nat → Int32)) (a_slotFlags : (Nat → Int32)) (a_slotAck : (Nat → Int32)) (a_slotWindow : (Nat → Int32)) (a_slotSize : (Nat → Int32)) (a_slotBytes : (Nat → Int32)), r + k = 33 → k + 1 < f → vx_S q G (f_now, f_sent, a_stateOf, a_error, a_iss, a_una, a_nxt, a_max, a_writtenTo, a_kept, a_keptBytes, a_rcv, a_unread, a_unreadFrom, a_cameBytes, a_held, a_heldFin, a_wnd, a_wndSeq, a_wndAck, a_peak, a_half, a_same, a_rto, a_tries, a_retryAt, a_ackAt, a_waitTill, a_timedAt, a_timedSeq, a_smoothed, a_variance, a_rowCount, a_slotSeq, a_slotFlags, a_slotAck, a_slotWindow, a_slotSize, a_slotBytes) → gv_I K G → 4 ≤ G.1 0 p.toNatClampNeg → x2 = zi_n (min (G.1 12 p.toNatClampNeg) (G.1 16 p.toNatClampNeg)) → (∀ u', vx_S q (gp_rest (gp_fin (gp_loop k G p.toNatClampNeg) p.toNatClampNeg) p.toNatClampNeg) u' → P u') → wX_flow_49 P p x2 f 1 (nI r) f_now f_sent a_stateOf a_error a_iss a_una a_nxt a_max a_writtenTo a_kept a_keptBytes a_rcv a_unread a_unreadFrom a_cameBytes a_held a_heldFin a_wnd a_wndSeq a_wndAck a_peak a_half a_same a_rto a_tries a_retryAt a_ackAt a_waitTill a_timedAt a_timedSeq a_smoothed a_variance a_rowCount a_slotSeq a_slotFlags a_slotAck a_slotWindow a_slotSize a_slotBytes := by
  have he := pe_lt hp
  intro k
  induction k with
  | zero =>
    intro f r G f_now f_sent a_stateOf a_error a_iss a_una a_nxt a_max a_writtenTo a_kept a_keptBytes a_rcv a_unread a_unreadFrom a_cameBytes a_held a_heldFin a_wnd a_wndSeq a_wndAck a_peak a_half a_same a_rto a_tries a_retryAt a_ackAt a_waitTill a_timedAt a_timedSeq a_smoothed a_variance a_rowCount a_slotSeq a_slotFlags a_slotAck a_slotWindow a_slotSize a_slotBytes hr hf hv hI h4 hx2 hP
    obtain ⟨f, rfl⟩ : ∃ g, f = g + 1 := ⟨f - 1, by omega⟩
    obtain rfl : r = 33 := by omega
    exact br_t (by decide) (xf_202 hv hI hp h4 hx2 hP)
  | succ k ih =>
    intro f r G f_now f_sent a_stateOf a_error a_iss a_una a_nxt a_max a_writtenTo a_kept a_keptBytes a_rcv a_unread a_unreadFrom a_cameBytes a_held a_heldFin a_wnd a_wndSeq a_wndAck a_peak a_half a_same a_rto a_tries a_retryAt a_ackAt a_waitTill a_timedAt a_timedSeq a_smoothed a_variance a_rowCount a_slotSeq a_slotFlags a_slotAck a_slotWindow a_slotSize a_slotBytes hr hf hv hI h4 hx2 hP
    obtain ⟨f, rfl⟩ : ∃ g, f = g + 1 := ⟨f - 1, by omega⟩
    have hv0 := hv
    obtain ⟨h_now, h_sent, h_stateOf, h_error, h_iss, h_una, h_nxt, h_max, h_writtenTo, h_kept, h_keptBytes, h_rcv, h_unread, h_unreadFrom, h_cameBytes, h_held, h_heldFin, h_wnd, h_wndSeq, h_wndAck, h_peak, h_half, h_same, h_rto, h_tries, h_retryAt, h_ackAt, h_waitTill, h_timedAt, h_timedSeq, h_smoothed, h_variance, h_rowCount, h_slotSeq, h_slotFlags, h_slotAck, h_slotWindow, h_slotSize, h_slotBytes⟩ := hv0
    obtain ⟨b1, b2, b3, b4, b5, b6⟩ := hI.2.2.2.2.1 _ he
    have n2 := hI.2.1
    unfold gv_p at b2
    unfold gv_c at b3
    have hu := (b2.2.2.2.2.1 h4)
    have hcl := b2.2.2.2.2.2.2.2
    have hk := b2.2.2.2.2.2.1
    have hl1 := b2.1 (by omega)
    have hnn : gp_nn G p.toNatClampNeg = min (min (G.1 6 p.toNatClampNeg - G.1 4 p.toNatClampNeg) (min (G.1 12 p.toNatClampNeg) (G.1 16 p.toNatClampNeg) - (G.1 4 p.toNatClampNeg - G.1 3 p.toNatClampNeg))) 8 := rfl
    have hnb : -200 ≤ gp_nn G p.toNatClampNeg ∧ gp_nn G p.toNatClampNeg ≤ 8 ∧ gp_nn G p.toNatClampNeg ≤ G.1 6 p.toNatClampNeg - G.1 4 p.toNatClampNeg := by omega
    have k160 : ∀ z : Int32, ((gp_nn G p.toNatClampNeg = 8 ∨ (0 < gp_nn G p.toNatClampNeg ∧ G.1 4 p.toNatClampNeg = G.1 3 p.toNatClampNeg)) ∧ z = 1) ∨ (¬ (gp_nn G p.toNatClampNeg = 8 ∨ (0 < gp_nn G p.toNatClampNeg ∧ G.1 4 p.toNatClampNeg = G.1 3 p.toNatClampNeg)) ∧ z = 0) → wX_flow_160 P (wX_flow_49 P p x2 f) p x2 (nI r) (zi_n (gp_nn G p.toNatClampNeg)) z f_now f_sent a_stateOf a_error a_iss a_una a_nxt a_max a_writtenTo a_kept a_keptBytes a_rcv a_unread a_unreadFrom a_cameBytes a_held a_heldFin a_wnd a_wndSeq a_wndAck a_peak a_half a_same a_rto a_tries a_retryAt a_ackAt a_waitTill a_timedAt a_timedSeq a_smoothed a_variance a_rowCount a_slotSeq a_slotFlags a_slotAck a_slotWindow a_slotSize a_slotBytes := by
      intro z hz
      unfold wX_flow_160
      rcases hz with ⟨hc, hz⟩ | ⟨hc, hz⟩
      · have hlo : gp_loop (k + 1) G p.toNatClampNeg = gp_loop k (gp_step G p.toNatClampNeg) p.toNatClampNeg := by
          show (if _ then _ else _) = _
          exact if_pos hc
        rw [hlo] at hP
        refine br_f (by rw [hz]; decide) ⟨hp, ?_⟩
        refine xl_send hv hp (h_nxt _ he) zk_0 rfl (sk_of hI he (by omega) (Or.inl rfl) (by omega) (by omega) (by omega) (by omega) (fun _ => ⟨h4, by omega, by omega⟩)) fun u1 hv1 => ?_
        have hIs := iv_step hI he h4 (by omega)
        obtain ⟨f_now, f_sent, a_stateOf, a_error, a_iss, a_una, a_nxt, a_max, a_writtenTo, a_kept, a_keptBytes, a_rcv, a_unread, a_unreadFrom, a_cameBytes, a_held, a_heldFin, a_wnd, a_wndSeq, a_wndAck, a_peak, a_half, a_same, a_rto, a_tries, a_retryAt, a_ackAt, a_waitTill, a_timedAt, a_timedSeq, a_smoothed, a_variance, a_rowCount, a_slotSeq, a_slotFlags, a_slotAck, a_slotWindow, a_slotSize, a_slotBytes⟩ := u1
        have hv2 := hv1
        clear h_nxt
        obtain ⟨h_now, h_sent, h_stateOf, h_error, h_iss, h_una, h_nxt, h_max, h_writtenTo, h_kept, h_keptBytes, h_rcv, h_unread, h_unreadFrom, h_cameBytes, h_held, h_heldFin, h_wnd, h_wndSeq, h_wndAck, h_peak, h_half, h_same, h_rto, h_tries, h_retryAt, h_ackAt, h_waitTill, h_timedAt, h_timedSeq, h_smoothed, h_variance, h_rowCount, h_slotSeq, h_slotFlags, h_slotAck, h_slotWindow, h_slotSize, h_slotBytes⟩ := hv2
        have hN1 : (gp_send G p.toNatClampNeg (G.1 4 p.toNatClampNeg) 0 (gp_nn G p.toNatClampNeg)).1 4 p.toNatClampNeg = G.1 4 p.toNatClampNeg := sd_f (by decide) (by decide) (by decide) (by decide) (by decide) (by decide)
        refine ⟨hp, xl_behind (h_nxt _ he) rfl ⟨hp, nm_e (nm_r (nI_1 r) ?_)⟩⟩
        rw [hz]
        refine ih f (r + 1) (gp_step G p.toNatClampNeg) f_now f_sent a_stateOf a_error a_iss a_una (upd a_nxt p.toNatClampNeg _) a_max a_writtenTo a_kept a_keptBytes a_rcv a_unread a_unreadFrom a_cameBytes a_held a_heldFin a_wnd a_wndSeq a_wndAck a_peak a_half a_same a_rto a_tries a_retryAt a_ackAt a_waitTill a_timedAt a_timedSeq a_smoothed a_variance a_rowCount a_slotSeq a_slotFlags a_slotAck a_slotWindow a_slotSize a_slotBytes (by omega) (by omega) ?_ hIs ?_ ?_ hP
        · exact vx_step (G := G) hv1 (by rw [hN1]; congr 1; omega)
        · rw [st_f (by decide) (by decide) (by decide) (by decide) (by decide) (by decide) (by decide)]; exact h4
        · rw [st_f (by decide) (by decide) (by decide) (by decide) (by decide) (by decide) (by decide), st_f (by decide) (by decide) (by decide) (by decide) (by decide) (by decide) (by decide)]; exact hx2
      · have hlo : gp_loop (k + 1) G p.toNatClampNeg = G := by
          show (if _ then _ else _) = _
          exact if_neg hc
        rw [hlo] at hP
        refine br_t hz (nm_e ?_)
        obtain ⟨f, rfl⟩ : ∃ g, f = g + 1 := ⟨f - 1, by omega⟩
        rw [nI_1, hz]
        by_cases w : r + 1 = 33
        · exact br_t (by rw [w]; decide) (xf_202 hv hI hp h4 hx2 hP)
        · exact br_f (by rw [zk_32, zi_nI, zi_lt (by omega) (by omega) (by omega) (by omega)]; omega) (br_t rfl (xf_202 hv hI hp h4 hx2 hP))
    have k126 : wX_flow_126 P (wX_flow_49 P p x2 f) p x2 (nI r) (zi_n (gp_nn G p.toNatClampNeg)) f_now f_sent a_stateOf a_error a_iss a_una a_nxt a_max a_writtenTo a_kept a_keptBytes a_rcv a_unread a_unreadFrom a_cameBytes a_held a_heldFin a_wnd a_wndSeq a_wndAck a_peak a_half a_same a_rto a_tries a_retryAt a_ackAt a_waitTill a_timedAt a_timedSeq a_smoothed a_variance a_rowCount a_slotSeq a_slotFlags a_slotAck a_slotWindow a_slotSize a_slotBytes := by
      unfold wX_flow_126
      by_cases w : gp_nn G p.toNatClampNeg = 8
      · exact br_t (by rw [w]; rfl) (k160 1 (Or.inl ⟨Or.inl w, rfl⟩))
      · refine br_f (by rw [zk_8, zi_eq (by omega) (by omega) (by omega) (by omega)]; exact w) ?_
        by_cases w2 : gp_nn G p.toNatClampNeg ≤ 0
        · exact br_t (by rw [zk_0, zi_le (by omega) (by omega) (by omega) (by omega)]; exact w2) (k160 0 (Or.inr ⟨by omega, rfl⟩))
        · refine br_f (by rw [zk_0, zi_le (by omega) (by omega) (by omega) (by omega)]; exact w2) ⟨hp, hp, ?_⟩
          by_cases w3 : G.1 4 p.toNatClampNeg = G.1 3 p.toNatClampNeg
          · exact br_t (by rw [h_nxt _ he, h_una _ he, w3]) (k160 1 (Or.inl ⟨Or.inr ⟨by omega, w3⟩, rfl⟩))
          · exact br_f (by rw [h_nxt _ he, h_una _ he, zi_eq (by omega) (by omega) (by omega) (by omega)]; omega) (k160 0 (Or.inr ⟨by omega, rfl⟩))
    have k110 : ∀ t : Int, t = min (G.1 6 p.toNatClampNeg - G.1 4 p.toNatClampNeg) (min (G.1 12 p.toNatClampNeg) (G.1 16 p.toNatClampNeg) - (G.1 4 p.toNatClampNeg - G.1 3 p.toNatClampNeg)) → wX_flow_110 P (wX_flow_49 P p x2 f) p x2 (nI r) (zi_n t) f_now f_sent a_stateOf a_error a_iss a_una a_nxt a_max a_writtenTo a_kept a_keptBytes a_rcv a_unread a_unreadFrom a_cameBytes a_held a_heldFin a_wnd a_wndSeq a_wndAck a_peak a_half a_same a_rto a_tries a_retryAt a_ackAt a_waitTill a_timedAt a_timedSeq a_smoothed a_variance a_rowCount a_slotSeq a_slotFlags a_slotAck a_slotWindow a_slotSize a_slotBytes := by
      intro t ht
      unfold wX_flow_110
      by_cases w : 8 ≤ t
      · refine br_t (by rw [zk_8, zi_le (by omega) (by omega) (by omega) (by omega)]; exact w) ?_
        rw [zk_8, show (8 : Int) = gp_nn G p.toNatClampNeg from by omega]; exact k126
      · refine br_f (by rw [zk_8, zi_le (by omega) (by omega) (by omega) (by omega)]; exact w) ?_
        rw [show t = gp_nn G p.toNatClampNeg from by omega]; exact k126
    refine br_f (by rw [zk_32, zi_nI, zi_lt (by omega) (by omega) (by omega) (by omega)]; omega) (br_f (by decide) ⟨hp, hp, ?_⟩)
    refine xl_off (h_nxt _ he) (h_una _ he) (by omega) (by omega) (nm_r (e' := zi_n (min (G.1 12 p.toNatClampNeg) (G.1 16 p.toNatClampNeg) - (G.1 4 p.toNatClampNeg - G.1 3 p.toNatClampNeg))) (by rw [hx2, zi_sub]) ⟨hp, hp, xl_off (h_writtenTo _ he) (h_nxt _ he) (by omega) (by omega) ?_⟩)
    by_cases w : min (G.1 12 p.toNatClampNeg) (G.1 16 p.toNatClampNeg) - (G.1 4 p.toNatClampNeg - G.1 3 p.toNatClampNeg) ≤ G.1 6 p.toNatClampNeg - G.1 4 p.toNatClampNeg
    · exact br_t (by rw [zi_le (by omega) (by omega) (by omega) (by omega)]; exact w) (k110 _ (by omega))
    · exact br_f (by rw [zi_le (by omega) (by omega) (by omega) (by omega)]; exact w) (k110 _ (by omega))
theorem xl_flow {q K : Int} {G : gm_T} {u : SX} {p : Int32} {P : SX → Prop} (hv : vx_S q G u) (hI : gv_I K G) (hp : vp_in p 2) (hP : ∀ u', vx_S q (gp_flow G p.toNatClampNeg) u' → P u') : wpX_flow P u p := by
  obtain ⟨f_now, f_sent, a_stateOf, a_error, a_iss, a_una, a_nxt, a_max, a_writtenTo, a_kept, a_keptBytes, a_rcv, a_unread, a_unreadFrom, a_cameBytes, a_held, a_heldFin, a_wnd, a_wndSeq, a_wndAck, a_peak, a_half, a_same, a_rto, a_tries, a_retryAt, a_ackAt, a_waitTill, a_timedAt, a_timedSeq, a_smoothed, a_variance, a_rowCount, a_slotSeq, a_slotFlags, a_slotAck, a_slotWindow, a_slotSize, a_slotBytes⟩ := u
  have hv0 := hv
  obtain ⟨h_now, h_sent, h_stateOf, h_error, h_iss, h_una, h_nxt, h_max, h_writtenTo, h_kept, h_keptBytes, h_rcv, h_unread, h_unreadFrom, h_cameBytes, h_held, h_heldFin, h_wnd, h_wndSeq, h_wndAck, h_peak, h_half, h_same, h_rto, h_tries, h_retryAt, h_ackAt, h_waitTill, h_timedAt, h_timedSeq, h_smoothed, h_variance, h_rowCount, h_slotSeq, h_slotFlags, h_slotAck, h_slotWindow, h_slotSize, h_slotBytes⟩ := hv0
  have he := pe_lt hp
  obtain ⟨b1, b2, b3, b4, b5, b6⟩ := hI.2.2.2.2.1 _ he
  unfold gv_a at b1
  unfold gv_c at b3
  unfold wpX_flow
  refine ⟨hp, xl_maySend (h_stateOf _ he) (by omega) (by omega) (fun w => ?_) (fun w => ?_)⟩
  · have hfl : gp_flow G p.toNatClampNeg = gp_rest (gp_fin (gp_loop 33 G p.toNatClampNeg) p.toNatClampNeg) p.toNatClampNeg := if_pos w
    rw [hfl] at hP
    refine br_f (by decide) ⟨hp, hp, ?_⟩
    by_cases w2 : G.1 16 p.toNatClampNeg ≤ G.1 12 p.toNatClampNeg
    · refine br_t (by rw [h_peak _ he, h_wnd _ he, zi_le (by omega) (by omega) (by omega) (by omega)]; exact w2) ⟨hp, nm_r (e' := zi_n (min (G.1 12 p.toNatClampNeg) (G.1 16 p.toNatClampNeg))) (by rw [h_peak _ he]; congr 1; omega) ⟨35, ?_⟩⟩
      exact xf_49 hp 33 35 0 G f_now f_sent a_stateOf a_error a_iss a_una a_nxt a_max a_writtenTo a_kept a_keptBytes a_rcv a_unread a_unreadFrom a_cameBytes a_held a_heldFin a_wnd a_wndSeq a_wndAck a_peak a_half a_same a_rto a_tries a_retryAt a_ackAt a_waitTill a_timedAt a_timedSeq a_smoothed a_variance a_rowCount a_slotSeq a_slotFlags a_slotAck a_slotWindow a_slotSize a_slotBytes rfl (by omega) hv hI (by omega) rfl hP
    · refine br_f (by rw [h_peak _ he, h_wnd _ he, zi_le (by omega) (by omega) (by omega) (by omega)]; exact w2) ⟨hp, nm_r (e' := zi_n (min (G.1 12 p.toNatClampNeg) (G.1 16 p.toNatClampNeg))) (by rw [h_wnd _ he]; congr 1; omega) ⟨35, ?_⟩⟩
      exact xf_49 hp 33 35 0 G f_now f_sent a_stateOf a_error a_iss a_una a_nxt a_max a_writtenTo a_kept a_keptBytes a_rcv a_unread a_unreadFrom a_cameBytes a_held a_heldFin a_wnd a_wndSeq a_wndAck a_peak a_half a_same a_rto a_tries a_retryAt a_ackAt a_waitTill a_timedAt a_timedSeq a_smoothed a_variance a_rowCount a_slotSeq a_slotFlags a_slotAck a_slotWindow a_slotSize a_slotBytes rfl (by omega) hv hI (by omega) rfl hP
  · have hfl : gp_flow G p.toNatClampNeg = G := if_neg w
    rw [hfl] at hP
    exact br_t rfl (hP _ hv)
end
section
/-! the class: measured; acknowledgements -/
def mq_ok (G : gm_T) (e : Nat) : Prop := 0 ≤ G.1 24 e ∧ 0 ≤ gm_N G ∧ gm_N G ≤ 1000000 ∧ 0 ≤ G.1 25 e ∧ G.1 25 e ≤ gm_N G ∧ (G.1 26 e = 0 ∨ G.1 26 e = 1) ∧ (G.1 26 e = 1 → 0 ≤ G.1 27 e ∧ G.1 27 e ≤ 8 * gm_N G) ∧ 0 ≤ G.1 28 e ∧ G.1 28 e ≤ 4 * gm_N G + 3
theorem mq_r {G : gm_T} {e : Nat} (h : mq_ok G e) : (0 ≤ gp_so G e ∧ gp_so G e ≤ 8000000) ∧ (0 ≤ gp_va G e ∧ gp_va G e ≤ 8000000) := by
  obtain ⟨h1, h2, h3, h4, h5, h6, h7, h8, h9⟩ := h
  refine ⟨?_, ?_⟩
  · unfold gp_so; split <;> omega
  · unfold gp_va; split <;> (try split) <;> omega
theorem mq_of {K : Int} {G : gm_T} {e : Nat} (hI : gv_I K G) (he : e < 2) (ht : 0 ≤ G.1 24 e) : mq_ok G e := by
  obtain ⟨a1, a2, a3, a4, a5, a6, a7, a8⟩ := hI
  obtain ⟨b1, b2, b3, b4, b5, b6⟩ := a5 e he
  unfold gv_t at b5
  have := b5.2.1 ht
  exact ⟨ht, a3, by omega, by omega, by omega, b5.2.2.1, b5.2.2.2.1, b5.2.2.2.2.1, b5.2.2.2.2.2⟩
theorem xm_94 {P : SX → Prop} {f_now : Int32} {f_sent : Int32} {a_stateOf : (Nat → Int32)} {a_error : (Nat → Int32)} {a_iss : (Nat → Int32)} {a_una : (Nat → Int32)} {a_nxt : (Nat → Int32)} {a_max : (Nat → Int32)} {a_writtenTo : (Nat → Int32)} {a_kept : (Nat → Int32)} {a_keptBytes : (Nat → Int32)} {a_rcv : (Nat → Int32)} {a_unread : (Nat → Int32)} {a_unreadFrom : (Nat → Int32)} {a_cameBytes : (Nat → Int32)} {a_held : (Nat → Int32)} {a_heldFin : (Nat → Int32)} {a_wnd : (Nat → Int32)} {a_wndSeq : (Nat → Int32)} {a_wndAck : (Nat → Int32)} {a_peak : (Nat → Int32)} {a_half : (Nat → Int32)} {a_same : (Nat → Int32)} {a_rto : (Nat → Int32)} {a_tries : (Nat → Int32)} {a_retryAt : (Nat → Int32)} {a_ackAt : (Nat → Int32)} {a_waitTill : (Nat → Int32)} {a_timedAt : (Nat → Int32)} {a_timedSeq : (Nat → Int32)} {a_smoothed : (Nat → Int32)} {a_variance : (Nat → Int32)} {a_rowCount : (Nat → Int32)} {a_slotSeq : (Nat → Int32)} {a_slotFlags : (Nat → Int32)} {a_slotAck : (Nat → Int32)} {a_slotWindow : (Nat → Int32)} {a_slotSize : (Nat → Int32)} {a_slotBytes : (Nat → Int32)} {p : Int32} {so va : Int} (hp : vp_in p 2) (hs : a_smoothed p.toNatClampNeg = zi_n so) (hva : a_variance p.toNatClampNeg = zi_n va) (h0 : 0 ≤ so) (h1 : so ≤ 8000000) (h2 : 0 ≤ va) (h3 : va ≤ 8000000) (hP : P (f_now, f_sent, a_stateOf, a_error, a_iss, a_una, a_nxt, a_max, a_writtenTo, a_kept, a_keptBytes, a_rcv, a_unread, a_unreadFrom, a_cameBytes, a_held, a_heldFin, a_wnd, a_wndSeq, a_wndAck, a_peak, a_half, a_same, upd a_rto p.toNatClampNeg (zi_n (if so / 8 + va < 2 then 2 else if 64 < so / 8 + va then 64 else so / 8 + va)), a_tries, a_retryAt, a_ackAt, a_waitTill, upd a_timedAt p.toNatClampNeg (-1), a_timedSeq, a_smoothed, a_variance, a_rowCount, a_slotSeq, a_slotFlags, a_slotAck, a_slotWindow, a_slotSize, a_slotBytes)) : wX_measure_94 P p f_now f_sent a_stateOf a_error a_iss a_una a_nxt a_max a_writtenTo a_kept a_keptBytes a_rcv a_unread a_unreadFrom a_cameBytes a_held a_heldFin a_wnd a_wndSeq a_wndAck a_peak a_half a_same a_rto a_tries a_retryAt a_ackAt a_waitTill a_timedAt a_timedSeq a_smoothed a_variance a_rowCount a_slotSeq a_slotFlags a_slotAck a_slotWindow a_slotSize a_slotBytes := by
  unfold wX_measure_94
  refine ⟨hp, by decide, hp, nm_r (e' := zi_n (so / 8 + va)) (by rw [hs, hva, zk_8, zi_div h0 (by omega) (by omega) (by omega), zi_add]) ?_⟩
  by_cases w : 64 ≤ so / 8 + va
  · refine br_t (by rw [zk_64, zi_le (by omega) (by omega) (by omega) (by omega)]; exact w) ?_
    unfold wX_measure_123
    refine br_f (by decide) ⟨hp, nm_e ⟨hp, nm_e ?_⟩⟩
    have : (64 : Int32) = zi_n (if so / 8 + va < 2 then 2 else if 64 < so / 8 + va then 64 else so / 8 + va) := by
      rw [zk_64]; congr 1; split <;> (try split) <;> omega
    rw [this]; exact hP
  · refine br_f (by rw [zk_64, zi_le (by omega) (by omega) (by omega) (by omega)]; exact w) ?_
    unfold wX_measure_123
    by_cases w2 : so / 8 + va ≤ 2
    · refine br_t (by rw [zk_2, zi_le (by omega) (by omega) (by omega) (by omega)]; exact w2) ⟨hp, nm_e ⟨hp, nm_e ?_⟩⟩
      have : (2 : Int32) = zi_n (if so / 8 + va < 2 then 2 else if 64 < so / 8 + va then 64 else so / 8 + va) := by
        rw [zk_2]; congr 1; split <;> (try split) <;> omega
      rw [this]; exact hP
    · refine br_f (by rw [zk_2, zi_le (by omega) (by omega) (by omega) (by omega)]; exact w2) ⟨hp, nm_e ⟨hp, nm_e ?_⟩⟩
      have : so / 8 + va = (if so / 8 + va < 2 then 2 else if 64 < so / 8 + va then 64 else so / 8 + va) := by
        split <;> (try split) <;> omega
      rw [this]; exact hP
theorem xl_measure {q : Int} {G : gm_T} {u : SX} {p : Int32} {P : SX → Prop} (hv : vx_S q G u) (hp : vp_in p 2) (ok : mq_ok G p.toNatClampNeg) (hP : ∀ u', vx_S q (gp_meas G p.toNatClampNeg) u' → P u') : wpX_measure P u p := by
  obtain ⟨f_now, f_sent, a_stateOf, a_error, a_iss, a_una, a_nxt, a_max, a_writtenTo, a_kept, a_keptBytes, a_rcv, a_unread, a_unreadFrom, a_cameBytes, a_held, a_heldFin, a_wnd, a_wndSeq, a_wndAck, a_peak, a_half, a_same, a_rto, a_tries, a_retryAt, a_ackAt, a_waitTill, a_timedAt, a_timedSeq, a_smoothed, a_variance, a_rowCount, a_slotSeq, a_slotFlags, a_slotAck, a_slotWindow, a_slotSize, a_slotBytes⟩ := u
  obtain ⟨h_now, h_sent, h_stateOf, h_error, h_iss, h_una, h_nxt, h_max, h_writtenTo, h_kept, h_keptBytes, h_rcv, h_unread, h_unreadFrom, h_cameBytes, h_held, h_heldFin, h_wnd, h_wndSeq, h_wndAck, h_peak, h_half, h_same, h_rto, h_tries, h_retryAt, h_ackAt, h_waitTill, h_timedAt, h_timedSeq, h_smoothed, h_variance, h_rowCount, h_slotSeq, h_slotFlags, h_slotAck, h_slotWindow, h_slotSize, h_slotBytes⟩ := hv
  have he := pe_lt hp
  obtain ⟨⟨r1, r2⟩, r3, r4⟩ := mq_r ok
  obtain ⟨k1, k2, k3, k4, k5, k6, k7, k8, k9⟩ := ok
  have fin : P (f_now, f_sent, a_stateOf, a_error, a_iss, a_una, a_nxt, a_max, a_writtenTo, a_kept, a_keptBytes, a_rcv, a_unread, a_unreadFrom, a_cameBytes, a_held, a_heldFin, a_wnd, a_wndSeq, a_wndAck, a_peak, a_half, a_same, upd a_rto p.toNatClampNeg (zi_n (gp_rt G p.toNatClampNeg)), a_tries, a_retryAt, a_ackAt, a_waitTill, upd a_timedAt p.toNatClampNeg (-1), a_timedSeq, upd a_smoothed p.toNatClampNeg (zi_n (gp_so G p.toNatClampNeg)), upd a_variance p.toNatClampNeg (zi_n (gp_va G p.toNatClampNeg)), a_rowCount, a_slotSeq, a_slotFlags, a_slotAck, a_slotWindow, a_slotSize, a_slotBytes) := by
    refine hP _ ?_
    generalize p.toNatClampNeg = e at *
    refine (vx_mk h_now h_sent h_stateOf h_error h_iss h_una h_nxt h_max h_writtenTo h_kept h_keptBytes h_rcv h_unread h_unreadFrom h_cameBytes h_held h_heldFin h_wnd h_wndSeq h_wndAck h_peak h_half h_same (vu_e h_rto ?_ (fun e' q => ms_o q _)) h_tries h_retryAt h_ackAt h_waitTill (vu_e h_timedAt ?_ (fun e' q => ?_)) (fun e' he' z => ?_) (vu_e h_smoothed ?_ (fun e' q => ?_)) (vu_e h_variance ?_ (fun e' q => ms_o q _)) h_rowCount h_slotSeq h_slotFlags h_slotAck h_slotWindow h_slotSize h_slotBytes)
    · simp +decide only [gp_meas, gs_s, gs_f]; rfl
    · simp only [ms_o q]
    · simp +decide only [gp_meas, gs_s, gs_f]
    · simp +decide only [gp_meas, gs_s, gs_f]
    · simp +decide only [gp_meas, gs_s, gs_f]; rfl
    · simp only [ms_o q]
    · by_cases q : e' = e
      · subst q; simp +decide only [gp_meas, gs_s, gs_f] at z; omega
      · simp only [ms_o q] at z ⊢; exact h_timedSeq e' he' z
  have k94 : wX_measure_94 P p f_now f_sent a_stateOf a_error a_iss a_una a_nxt a_max a_writtenTo a_kept a_keptBytes a_rcv a_unread a_unreadFrom a_cameBytes a_held a_heldFin a_wnd a_wndSeq a_wndAck a_peak a_half a_same a_rto a_tries a_retryAt a_ackAt a_waitTill a_timedAt a_timedSeq (upd a_smoothed p.toNatClampNeg (zi_n (gp_so G p.toNatClampNeg))) (upd a_variance p.toNatClampNeg (zi_n (gp_va G p.toNatClampNeg))) a_rowCount a_slotSeq a_slotFlags a_slotAck a_slotWindow a_slotSize a_slotBytes :=
    xm_94 hp zu_s zu_s r1 r2 r3 r4 fin
  unfold wpX_measure
  refine ⟨hp, nm_r (e' := zi_n (gm_N G - G.1 25 p.toNatClampNeg)) (by rw [h_timedAt _ he, if_neg (by omega), h_now, zi_sub]) ⟨hp, ?_⟩⟩
  rcases k6 with w | w
  · have e1 : gp_so G p.toNatClampNeg = 8 * (gm_N G - G.1 25 p.toNatClampNeg) := by unfold gp_so; rw [if_neg (by omega)]
    have e2 : gp_va G p.toNatClampNeg = 2 * (gm_N G - G.1 25 p.toNatClampNeg) := by unfold gp_va; rw [if_neg (by omega)]
    refine br_t (by rw [h_smoothed _ he, if_pos w]; rfl) ⟨hp, nm_r (e' := upd a_smoothed p.toNatClampNeg (zi_n (gp_so G p.toNatClampNeg))) (by rw [zk_8, zi_mul, e1]) ⟨hp, nm_r (e' := upd a_variance p.toNatClampNeg (zi_n (gp_va G p.toNatClampNeg))) (by rw [zk_2, zi_mul, e2]) k94⟩⟩
  · have k7' := k7 w
    have e1 : gp_so G p.toNatClampNeg = G.1 27 p.toNatClampNeg + ((gm_N G - G.1 25 p.toNatClampNeg) - G.1 27 p.toNatClampNeg / 8) := by unfold gp_so; rw [if_pos w]
    have e2 : gp_va G p.toNatClampNeg = G.1 28 p.toNatClampNeg + ((if (gm_N G - G.1 25 p.toNatClampNeg) - G.1 27 p.toNatClampNeg / 8 < 0 then - ((gm_N G - G.1 25 p.toNatClampNeg) - G.1 27 p.toNatClampNeg / 8) else (gm_N G - G.1 25 p.toNatClampNeg) - G.1 27 p.toNatClampNeg / 8) - G.1 28 p.toNatClampNeg / 4) := by unfold gp_va; rw [if_pos w]
    have hsm : a_smoothed p.toNatClampNeg = zi_n (G.1 27 p.toNatClampNeg) := by rw [h_smoothed _ he, if_neg (by omega)]
    have hva := h_variance _ he
    refine br_f (by rw [hsm, zk_m1, zi_eq (by omega) (by omega) (by omega) (by omega)]; omega) ⟨hp, by decide, nm_r (e' := zi_n ((gm_N G - G.1 25 p.toNatClampNeg) - G.1 27 p.toNatClampNeg / 8)) (by rw [hsm, zk_8, zi_div (by omega) (by omega) (by omega) (by omega), zi_sub]) ⟨hp, hp, nm_r (e' := upd a_smoothed p.toNatClampNeg (zi_n (gp_so G p.toNatClampNeg))) (by rw [hsm, zi_add, e1]) ⟨hp, ?_⟩⟩⟩
    have k83 : ∀ z : Int, z = (if (gm_N G - G.1 25 p.toNatClampNeg) - G.1 27 p.toNatClampNeg / 8 < 0 then - ((gm_N G - G.1 25 p.toNatClampNeg) - G.1 27 p.toNatClampNeg / 8) else (gm_N G - G.1 25 p.toNatClampNeg) - G.1 27 p.toNatClampNeg / 8) → wX_measure_83 P p (zi_n z) (a_variance p.toNatClampNeg) p f_now f_sent a_stateOf a_error a_iss a_una a_nxt a_max a_writtenTo a_kept a_keptBytes a_rcv a_unread a_unreadFrom a_cameBytes a_held a_heldFin a_wnd a_wndSeq a_wndAck a_peak a_half a_same a_rto a_tries a_retryAt a_ackAt a_waitTill a_timedAt a_timedSeq (upd a_smoothed p.toNatClampNeg (zi_n (gp_so G p.toNatClampNeg))) a_variance a_rowCount a_slotSeq a_slotFlags a_slotAck a_slotWindow a_slotSize a_slotBytes := by
      intro z hz
      unfold wX_measure_83
      refine ⟨hp, by decide, hp, nm_r (e' := upd a_variance p.toNatClampNeg (zi_n (gp_va G p.toNatClampNeg))) ?_ k94⟩
      rw [hva, zk_4, zi_div (by omega) (by omega) (by omega) (by omega), zi_sub, zi_add, e2, hz]
    by_cases w2 : 0 ≤ (gm_N G - G.1 25 p.toNatClampNeg) - G.1 27 p.toNatClampNeg / 8
    · exact br_t (by rw [zk_0, zi_le (by omega) (by omega) (by omega) (by omega)]; exact w2) (k83 _ (by rw [if_neg (by omega)]))
    · refine br_f (by rw [zk_0, zi_le (by omega) (by omega) (by omega) (by omega)]; exact w2) ?_
      rw [zi_neg]
      exact k83 _ (by rw [if_pos (by omega)])
theorem xl_widenPeak {P : SX → Prop} {f_now : Int32} {f_sent : Int32} {a_stateOf : (Nat → Int32)} {a_error : (Nat → Int32)} {a_iss : (Nat → Int32)} {a_una : (Nat → Int32)} {a_nxt : (Nat → Int32)} {a_max : (Nat → Int32)} {a_writtenTo : (Nat → Int32)} {a_kept : (Nat → Int32)} {a_keptBytes : (Nat → Int32)} {a_rcv : (Nat → Int32)} {a_unread : (Nat → Int32)} {a_unreadFrom : (Nat → Int32)} {a_cameBytes : (Nat → Int32)} {a_held : (Nat → Int32)} {a_heldFin : (Nat → Int32)} {a_wnd : (Nat → Int32)} {a_wndSeq : (Nat → Int32)} {a_wndAck : (Nat → Int32)} {a_peak : (Nat → Int32)} {a_half : (Nat → Int32)} {a_same : (Nat → Int32)} {a_rto : (Nat → Int32)} {a_tries : (Nat → Int32)} {a_retryAt : (Nat → Int32)} {a_ackAt : (Nat → Int32)} {a_waitTill : (Nat → Int32)} {a_timedAt : (Nat → Int32)} {a_timedSeq : (Nat → Int32)} {a_smoothed : (Nat → Int32)} {a_variance : (Nat → Int32)} {a_rowCount : (Nat → Int32)} {a_slotSeq : (Nat → Int32)} {a_slotFlags : (Nat → Int32)} {a_slotAck : (Nat → Int32)} {a_slotWindow : (Nat → Int32)} {a_slotSize : (Nat → Int32)} {a_slotBytes : (Nat → Int32)} {p x : Int32} {pk st : Int} (hp : vp_in p 2) (hk : a_peak p.toNatClampNeg = zi_n pk) (hx : x = zi_n st) (h0 : 0 ≤ pk) (h1 : pk ≤ 1000) (h2 : 0 ≤ st) (h3 : st ≤ 1000) (hP : P (f_now, f_sent, a_stateOf, a_error, a_iss, a_una, a_nxt, a_max, a_writtenTo, a_kept, a_keptBytes, a_rcv, a_unread, a_unreadFrom, a_cameBytes, a_held, a_heldFin, a_wnd, a_wndSeq, a_wndAck, upd a_peak p.toNatClampNeg (zi_n (min 64 (pk + st))), a_half, a_same, a_rto, a_tries, a_retryAt, a_ackAt, a_waitTill, a_timedAt, a_timedSeq, a_smoothed, a_variance, a_rowCount, a_slotSeq, a_slotFlags, a_slotAck, a_slotWindow, a_slotSize, a_slotBytes)) : wpX_widenPeak P (f_now, f_sent, a_stateOf, a_error, a_iss, a_una, a_nxt, a_max, a_writtenTo, a_kept, a_keptBytes, a_rcv, a_unread, a_unreadFrom, a_cameBytes, a_held, a_heldFin, a_wnd, a_wndSeq, a_wndAck, a_peak, a_half, a_same, a_rto, a_tries, a_retryAt, a_ackAt, a_waitTill, a_timedAt, a_timedSeq, a_smoothed, a_variance, a_rowCount, a_slotSeq, a_slotFlags, a_slotAck, a_slotWindow, a_slotSize, a_slotBytes) p x := by
  unfold wpX_widenPeak
  refine ⟨hp, nm_r (e' := zi_n (pk + st)) (by rw [hk, hx, zi_add]) ?_⟩
  by_cases w : 64 ≤ pk + st
  · refine br_t (by rw [zk_64, zi_le (by omega) (by omega) (by omega) (by omega)]; exact w) ⟨hp, nm_r (e' := upd a_peak p.toNatClampNeg (zi_n (min 64 (pk + st)))) (by rw [zk_64]; congr 2; omega) hP⟩
  · refine br_f (by rw [zk_64, zi_le (by omega) (by omega) (by omega) (by omega)]; exact w) ⟨hp, nm_r (e' := upd a_peak p.toNatClampNeg (zi_n (min 64 (pk + st)))) (by congr 2; omega) hP⟩
theorem xl_growPeak {P : SX → Prop} {f_now : Int32} {f_sent : Int32} {a_stateOf : (Nat → Int32)} {a_error : (Nat → Int32)} {a_iss : (Nat → Int32)} {a_una : (Nat → Int32)} {a_nxt : (Nat → Int32)} {a_max : (Nat → Int32)} {a_writtenTo : (Nat → Int32)} {a_kept : (Nat → Int32)} {a_keptBytes : (Nat → Int32)} {a_rcv : (Nat → Int32)} {a_unread : (Nat → Int32)} {a_unreadFrom : (Nat → Int32)} {a_cameBytes : (Nat → Int32)} {a_held : (Nat → Int32)} {a_heldFin : (Nat → Int32)} {a_wnd : (Nat → Int32)} {a_wndSeq : (Nat → Int32)} {a_wndAck : (Nat → Int32)} {a_peak : (Nat → Int32)} {a_half : (Nat → Int32)} {a_same : (Nat → Int32)} {a_rto : (Nat → Int32)} {a_tries : (Nat → Int32)} {a_retryAt : (Nat → Int32)} {a_ackAt : (Nat → Int32)} {a_waitTill : (Nat → Int32)} {a_timedAt : (Nat → Int32)} {a_timedSeq : (Nat → Int32)} {a_smoothed : (Nat → Int32)} {a_variance : (Nat → Int32)} {a_rowCount : (Nat → Int32)} {a_slotSeq : (Nat → Int32)} {a_slotFlags : (Nat → Int32)} {a_slotAck : (Nat → Int32)} {a_slotWindow : (Nat → Int32)} {a_slotSize : (Nat → Int32)} {a_slotBytes : (Nat → Int32)} {p : Int32} {pk hf sm : Int} (hp : vp_in p 2) (hk : a_peak p.toNatClampNeg = zi_n pk) (hh : a_half p.toNatClampNeg = zi_n hf) (hs : a_same p.toNatClampNeg = zi_n sm) (h0 : 8 ≤ pk) (h1 : pk ≤ 64) (h2 : 8 ≤ hf) (h3 : hf ≤ 64) (h4 : 0 ≤ sm) (h5 : sm ≤ 100000) (hP : P (f_now, f_sent, a_stateOf, a_error, a_iss, a_una, a_nxt, a_max, a_writtenTo, a_kept, a_keptBytes, a_rcv, a_unread, a_unreadFrom, a_cameBytes, a_held, a_heldFin, a_wnd, a_wndSeq, a_wndAck, upd a_peak p.toNatClampNeg (zi_n (if 3 ≤ sm then hf else min 64 (pk + (if pk < hf then 8 else 64 / pk)))), a_half, a_same, a_rto, a_tries, a_retryAt, a_ackAt, a_waitTill, a_timedAt, a_timedSeq, a_smoothed, a_variance, a_rowCount, a_slotSeq, a_slotFlags, a_slotAck, a_slotWindow, a_slotSize, a_slotBytes)) : wpX_growPeak P (f_now, f_sent, a_stateOf, a_error, a_iss, a_una, a_nxt, a_max, a_writtenTo, a_kept, a_keptBytes, a_rcv, a_unread, a_unreadFrom, a_cameBytes, a_held, a_heldFin, a_wnd, a_wndSeq, a_wndAck, a_peak, a_half, a_same, a_rto, a_tries, a_retryAt, a_ackAt, a_waitTill, a_timedAt, a_timedSeq, a_smoothed, a_variance, a_rowCount, a_slotSeq, a_slotFlags, a_slotAck, a_slotWindow, a_slotSize, a_slotBytes) p := by
  have hd : 0 ≤ 64 / pk ∧ 64 / pk ≤ 64 := ⟨Int.ediv_nonneg (by omega) (by omega), Int.ediv_le_self _ (by omega)⟩
  unfold wpX_growPeak
  refine ⟨hp, ?_⟩
  by_cases w : sm < 3
  · rw [if_neg (by omega)] at hP
    refine br_t (by rw [hs, zk_3, zi_lt (by omega) (by omega) (by omega) (by omega)]; exact w) ⟨hp, hp, ?_⟩
    by_cases w2 : pk < hf
    · rw [if_pos w2] at hP
      refine br_t (by rw [hk, hh, zi_lt (by omega) (by omega) (by omega) (by omega)]; exact w2) ?_
      unfold wX_growPeak_60
      exact xl_widenPeak hp hk zk_8 (by omega) (by omega) (by omega) (by omega) hP
    · rw [if_neg w2] at hP
      refine br_f (by rw [hk, hh, zi_lt (by omega) (by omega) (by omega) (by omega)]; exact w2) ⟨hp, br_f (by rw [hk, zk_0, zi_le (by omega) (by omega) (by omega) (by omega)]; omega) ⟨hp, by rw [hk, zk_0, zi_eq (by omega) (by omega) (by omega) (by omega)]; omega, nm_r (e' := zi_n (64 / pk)) (by rw [hk, zk_64, zi_div (by omega) (by omega) (by omega) (by omega)]) ?_⟩⟩
      unfold wX_growPeak_60
      exact xl_widenPeak hp hk rfl (by omega) (by omega) hd.1 (by omega) hP
  · rw [if_pos (by omega)] at hP
    refine br_f (by rw [hs, zk_3, zi_lt (by omega) (by omega) (by omega) (by omega)]; exact w) ⟨hp, hp, nm_r (e' := upd a_peak p.toNatClampNeg (zi_n hf)) (by rw [hh]) hP⟩
def aq_ok (G : gm_T) (e : Nat) (a : Int) : Prop := 0 < a ∧ a ≤ G.1 5 e - G.1 3 e ∧ 0 ≤ G.1 3 e ∧ G.1 5 e - G.1 3 e ≤ 40 ∧ G.1 5 e ≤ G.1 6 e + 1 ∧ G.1 6 e - G.1 3 e ≤ 33 ∧ G.1 3 e ≤ G.1 4 e ∧ G.1 4 e ≤ G.1 5 e ∧ G.1 5 e ≤ 1000000 ∧ 0 ≤ G.1 12 e ∧ G.1 12 e ≤ 24 ∧ -1 ≤ G.1 24 e ∧ (0 ≤ G.1 24 e → G.1 3 e ≤ G.1 24 e ∧ G.1 24 e < G.1 5 e ∧ mq_ok G e) ∧ 8 ≤ G.1 16 e ∧ G.1 16 e ≤ 64 ∧ 8 ≤ G.1 17 e ∧ G.1 17 e ≤ 64 ∧ 0 ≤ G.1 18 e ∧ G.1 18 e ≤ 100000 ∧ G.1 32 e = G.1 3 e ∧ G.1 33 e = G.1 6 e ∧ G.1 34 e = G.1 18 e
theorem xa_119 {q : Int} {G : gm_T} {f_now : Int32} {f_sent : Int32} {a_stateOf : (Nat → Int32)} {a_error : (Nat → Int32)} {a_iss : (Nat → Int32)} {a_una : (Nat → Int32)} {a_nxt : (Nat → Int32)} {a_max : (Nat → Int32)} {a_writtenTo : (Nat → Int32)} {a_kept : (Nat → Int32)} {a_keptBytes : (Nat → Int32)} {a_rcv : (Nat → Int32)} {a_unread : (Nat → Int32)} {a_unreadFrom : (Nat → Int32)} {a_cameBytes : (Nat → Int32)} {a_held : (Nat → Int32)} {a_heldFin : (Nat → Int32)} {a_wnd : (Nat → Int32)} {a_wndSeq : (Nat → Int32)} {a_wndAck : (Nat → Int32)} {a_peak : (Nat → Int32)} {a_half : (Nat → Int32)} {a_same : (Nat → Int32)} {a_rto : (Nat → Int32)} {a_tries : (Nat → Int32)} {a_retryAt : (Nat → Int32)} {a_ackAt : (Nat → Int32)} {a_waitTill : (Nat → Int32)} {a_timedAt : (Nat → Int32)} {a_timedSeq : (Nat → Int32)} {a_smoothed : (Nat → Int32)} {a_variance : (Nat → Int32)} {a_rowCount : (Nat → Int32)} {a_slotSeq : (Nat → Int32)} {a_slotFlags : (Nat → Int32)} {a_slotAck : (Nat → Int32)} {a_slotWindow : (Nat → Int32)} {a_slotSize : (Nat → Int32)} {a_slotBytes : (Nat → Int32)} {p : Int32} {P : SX → Prop} (hv : vx_S q G (f_now, f_sent, a_stateOf, a_error, a_iss, a_una, a_nxt, a_max, a_writtenTo, a_kept, a_keptBytes, a_rcv, a_unread, a_unreadFrom, a_cameBytes, a_held, a_heldFin, a_wnd, a_wndSeq, a_wndAck, a_peak, a_half, a_same, a_rto, a_tries, a_retryAt, a_ackAt, a_waitTill, a_timedAt, a_timedSeq, a_smoothed, a_variance, a_rowCount, a_slotSeq, a_slotFlags, a_slotAck, a_slotWindow, a_slotSize, a_slotBytes)) (hp : vp_in p 2) (h0 : 8 ≤ G.1 16 p.toNatClampNeg) (h1 : G.1 16 p.toNatClampNeg ≤ 64) (h2 : 8 ≤ G.1 17 p.toNatClampNeg) (h3 : G.1 17 p.toNatClampNeg ≤ 64) (h4 : 0 ≤ G.1 18 p.toNatClampNeg) (h5 : G.1 18 p.toNatClampNeg ≤ 100000) (h6 : -100 ≤ G.1 5 p.toNatClampNeg - G.1 3 p.toNatClampNeg) (h7 : G.1 5 p.toNatClampNeg - G.1 3 p.toNatClampNeg ≤ 100) (hP : ∀ u', vx_S q (gp_adv3 G p.toNatClampNeg) u' → P u') : wX_takeNewAck_119 P p f_now f_sent a_stateOf a_error a_iss a_una a_nxt a_max a_writtenTo a_kept a_keptBytes a_rcv a_unread a_unreadFrom a_cameBytes a_held a_heldFin a_wnd a_wndSeq a_wndAck a_peak a_half a_same a_rto a_tries a_retryAt a_ackAt a_waitTill a_timedAt a_timedSeq a_smoothed a_variance a_rowCount a_slotSeq a_slotFlags a_slotAck a_slotWindow a_slotSize a_slotBytes := by
  obtain ⟨h_now, h_sent, h_stateOf, h_error, h_iss, h_una, h_nxt, h_max, h_writtenTo, h_kept, h_keptBytes, h_rcv, h_unread, h_unreadFrom, h_cameBytes, h_held, h_heldFin, h_wnd, h_wndSeq, h_wndAck, h_peak, h_half, h_same, h_rto, h_tries, h_retryAt, h_ackAt, h_waitTill, h_timedAt, h_timedSeq, h_smoothed, h_variance, h_rowCount, h_slotSeq, h_slotFlags, h_slotAck, h_slotWindow, h_slotSize, h_slotBytes⟩ := hv
  have he := pe_lt hp
  have fin : ∀ x : Int32, x = zi_n (if G.1 3 p.toNatClampNeg = G.1 5 p.toNatClampNeg then -1 else gm_N G + G.1 19 p.toNatClampNeg) → P (f_now, f_sent, a_stateOf, a_error, a_iss, a_una, a_nxt, a_max, a_writtenTo, a_kept, a_keptBytes, a_rcv, a_unread, a_unreadFrom, a_cameBytes, a_held, a_heldFin, a_wnd, a_wndSeq, a_wndAck, upd a_peak p.toNatClampNeg (zi_n (if 3 ≤ G.1 18 p.toNatClampNeg then G.1 17 p.toNatClampNeg else min 64 (G.1 16 p.toNatClampNeg + (if G.1 16 p.toNatClampNeg < G.1 17 p.toNatClampNeg then 8 else 64 / G.1 16 p.toNatClampNeg)))), a_half, upd a_same p.toNatClampNeg 0, a_rto, a_tries, upd a_retryAt p.toNatClampNeg x, a_ackAt, a_waitTill, a_timedAt, a_timedSeq, a_smoothed, a_variance, a_rowCount, a_slotSeq, a_slotFlags, a_slotAck, a_slotWindow, a_slotSize, a_slotBytes) := by
    intro x hx
    refine hP _ ?_
    generalize p.toNatClampNeg = e at *
    have o : ∀ e' f, e' ≠ e → (gp_adv3 G e).1 f e' = G.1 f e' := fun e' f q => by simp only [gp_adv3, gs_e q]
    refine (vx_mk h_now h_sent h_stateOf h_error h_iss h_una h_nxt h_max h_writtenTo h_kept h_keptBytes h_rcv h_unread h_unreadFrom h_cameBytes h_held h_heldFin h_wnd h_wndSeq h_wndAck (vu_e h_peak ?_ (fun e' q => o _ _ q)) h_half (vu_e h_same ?_ (fun e' q => o _ _ q)) h_rto h_tries (vu_e h_retryAt ?_ (fun e' q => o _ _ q)) h_ackAt h_waitTill h_timedAt h_timedSeq h_smoothed h_variance h_rowCount h_slotSeq h_slotFlags h_slotAck h_slotWindow h_slotSize h_slotBytes)
    · simp +decide only [gp_adv3, gs_s, gs_f]
    · simp +decide only [gp_adv3, gs_s, gs_f]; rfl
    · simp +decide only [gp_adv3, gs_s, gs_f]; exact hx
  unfold wX_takeNewAck_119
  refine xl_growPeak hp (h_peak _ he) (h_half _ he) (h_same _ he) h0 h1 h2 h3 h4 h5 ⟨hp, nm_e ⟨hp, hp, ?_⟩⟩
  by_cases w : G.1 3 p.toNatClampNeg = G.1 5 p.toNatClampNeg
  · exact br_t (by rw [h_una _ he, h_max _ he, w]) ⟨hp, nm_e (fin _ (by rw [if_pos w]; rfl))⟩
  · exact br_f (by rw [h_una _ he, h_max _ he, zi_eq (by omega) (by omega) (by omega) (by omega)]; omega) ⟨hp, hp, nm_e (fin _ (by rw [if_neg w, h_now, h_rto _ he, zi_add]))⟩
theorem xl_takeNewAck {q : Int} {G : gm_T} {u : SX} {p x1 x2 : Int32} {P : SX → Prop} {a : Int} (hv : vx_S q G u) (hp : vp_in p 2) (ok : aq_ok G p.toNatClampNeg a) (hx1 : x1 = zi_n ((G.1 2 p.toNatClampNeg + (G.1 3 p.toNatClampNeg + a)) % 65536)) (hx2 : x2 = zi_n a) (hP : ∀ u', vx_S q (gp_adv3 (gp_adv2 (gp_adv1 G p.toNatClampNeg a) p.toNatClampNeg) p.toNatClampNeg) u' → P u') : wpX_takeNewAck P u p x1 x2 := by
  obtain ⟨f_now, f_sent, a_stateOf, a_error, a_iss, a_una, a_nxt, a_max, a_writtenTo, a_kept, a_keptBytes, a_rcv, a_unread, a_unreadFrom, a_cameBytes, a_held, a_heldFin, a_wnd, a_wndSeq, a_wndAck, a_peak, a_half, a_same, a_rto, a_tries, a_retryAt, a_ackAt, a_waitTill, a_timedAt, a_timedSeq, a_smoothed, a_variance, a_rowCount, a_slotSeq, a_slotFlags, a_slotAck, a_slotWindow, a_slotSize, a_slotBytes⟩ := u
  have hv0 := hv
  obtain ⟨h_now, h_sent, h_stateOf, h_error, h_iss, h_una, h_nxt, h_max, h_writtenTo, h_kept, h_keptBytes, h_rcv, h_unread, h_unreadFrom, h_cameBytes, h_held, h_heldFin, h_wnd, h_wndSeq, h_wndAck, h_peak, h_half, h_same, h_rto, h_tries, h_retryAt, h_ackAt, h_waitTill, h_timedAt, h_timedSeq, h_smoothed, h_variance, h_rowCount, h_slotSeq, h_slotFlags, h_slotAck, h_slotWindow, h_slotSize, h_slotBytes⟩ := hv0
  have he := pe_lt hp
  obtain ⟨k1, k2, k3, k4, k5, k6, k7, k8, k9, l1, l2, l3, l4, l5, l6, l7, l8, l9, m1, m2, m3, m4⟩ := ok
  -- behind the stores: the state shows gp_adv1
  have key : ∀ (KX NX WX : Nat → Int32), KX = upd a_kept p.toNatClampNeg (zi_n (max (G.1 6 p.toNatClampNeg - (G.1 3 p.toNatClampNeg + a)) 0)) → WX = upd a_wnd p.toNatClampNeg (zi_n (max (G.1 12 p.toNatClampNeg - a) 0)) → (∀ e', e' < 2 → NX e' = zi_n ((G.1 2 e' + (gp_adv1 G p.toNatClampNeg a).1 4 e') % 65536)) → vx_S q (gp_adv1 G p.toNatClampNeg a) (f_now, f_sent, a_stateOf, a_error, a_iss, upd a_una p.toNatClampNeg x1, NX, a_max, a_writtenTo, KX, a_keptBytes, a_rcv, a_unread, a_unreadFrom, a_cameBytes, a_held, a_heldFin, WX, a_wndSeq, a_wndAck, a_peak, a_half, a_same, a_rto, upd a_tries p.toNatClampNeg 0, a_retryAt, a_ackAt, a_waitTill, a_timedAt, a_timedSeq, a_smoothed, a_variance, a_rowCount, a_slotSeq, a_slotFlags, a_slotAck, a_slotWindow, a_slotSize, a_slotBytes) := by
    intro KX NX WX hK hW hN
    subst hK hW
    generalize p.toNatClampNeg = e at *
    have o : ∀ e' f, e' ≠ e → (gp_adv1 G e a).1 f e' = G.1 f e' := fun e' f q => by simp only [gp_adv1, gs_e q]
    refine (vx_mk h_now h_sent h_stateOf h_error h_iss (vu_e h_una ?_ (fun e' q => by rw [o _ _ q, o _ _ q])) (hN) h_max h_writtenTo (vu_e h_kept ?_ (fun e' q => o _ _ q)) h_keptBytes h_rcv h_unread h_unreadFrom h_cameBytes h_held h_heldFin (vu_e h_wnd ?_ (fun e' q => o _ _ q)) h_wndSeq h_wndAck h_peak h_half h_same h_rto (vu_e h_tries ?_ (fun e' q => o _ _ q)) h_retryAt h_ackAt h_waitTill h_timedAt h_timedSeq h_smoothed h_variance h_rowCount h_slotSeq h_slotFlags h_slotAck h_slotWindow h_slotSize h_slotBytes)
    · simp +decide only [gp_adv1, gs_s, gs_f]; exact hx1
    · simp +decide only [gp_adv1, gs_s, gs_f]
    · simp +decide only [gp_adv1, gs_s, gs_f]
    · simp +decide only [gp_adv1, gs_s, gs_f]; rfl
  have v1 : ∀ f, f = 24 ∨ f = 16 ∨ f = 17 ∨ f = 18 ∨ f = 5 ∨ f = 2 ∨ f = 25 ∨ f = 26 ∨ f = 27 ∨ f = 28 → (gp_adv1 G p.toNatClampNeg a).1 f p.toNatClampNeg = G.1 f p.toNatClampNeg := by
    intro f hf
    rcases hf with rfl | rfl | rfl | rfl | rfl | rfl | rfl | rfl | rfl | rfl <;> simp +decide only [gp_adv1, gs_f]
  have vU : (gp_adv1 G p.toNatClampNeg a).1 3 p.toNatClampNeg = G.1 3 p.toNatClampNeg + a := by simp +decide only [gp_adv1, gs_s, gs_f]
  have k83 : ∀ (KX NX : Nat → Int32) (z : Int32), KX = upd a_kept p.toNatClampNeg (zi_n (max (G.1 6 p.toNatClampNeg - (G.1 3 p.toNatClampNeg + a)) 0)) → z = zi_n (max (G.1 12 p.toNatClampNeg - a) 0) → (∀ e', e' < 2 → NX e' = zi_n ((G.1 2 e' + (gp_adv1 G p.toNatClampNeg a).1 4 e') % 65536)) → wX_takeNewAck_83 P p x1 z p f_now f_sent a_stateOf a_error a_iss (upd a_una p.toNatClampNeg x1) (NX) a_max a_writtenTo (KX) a_keptBytes a_rcv a_unread a_unreadFrom a_cameBytes a_held a_heldFin a_wnd a_wndSeq a_wndAck a_peak a_half a_same a_rto a_tries a_retryAt a_ackAt a_waitTill a_timedAt a_timedSeq a_smoothed a_variance a_rowCount a_slotSeq a_slotFlags a_slotAck a_slotWindow a_slotSize a_slotBytes := by
    intro KX NX z hK hz hN
    have hv1 := key KX NX _ hK (by rw [hz]) hN
    unfold wX_takeNewAck_83
    refine ⟨hp, nm_e ⟨hp, nm_e ⟨hp, ?_⟩⟩⟩
    by_cases w : G.1 24 p.toNatClampNeg < 0
    · refine br_t (by rw [h_timedAt _ he, if_pos w]; rfl) ?_
      have e2 : gp_adv2 (gp_adv1 G p.toNatClampNeg a) p.toNatClampNeg = gp_adv1 G p.toNatClampNeg a := if_neg (fun y => by have := v1 24 (by omega); omega)
      rw [e2] at hP
      rw [hz] at *
      exact xa_119 hv1 hp (by rw [v1 _ (by omega)]; exact l5) (by rw [v1 _ (by omega)]; exact l6) (by rw [v1 _ (by omega)]; exact l7) (by rw [v1 _ (by omega)]; exact l8) (by rw [v1 _ (by omega)]; exact l9) (by rw [v1 _ (by omega)]; exact m1) (by rw [v1 _ (by omega), vU]; omega) (by rw [v1 _ (by omega), vU]; omega) hP
    · obtain ⟨t1, t2, t3⟩ := l4 (by omega)
      have t3' := t3
      obtain ⟨s1, s2, s3, s4, s5, s6⟩ := t3'
      refine br_f (by rw [h_timedAt _ he, if_neg w, zk_m1, zi_eq (by omega) (by omega) (by omega) (by omega)]; omega) ⟨hp, xl_off (h_timedSeq _ he (by omega)) hx1 (by omega) (by omega) ?_⟩
      by_cases w2 : 0 ≤ G.1 24 p.toNatClampNeg - (G.1 3 p.toNatClampNeg + a)
      · refine br_t (by rw [zk_0, zi_le (by omega) (by omega) (by omega) (by omega)]; exact w2) ?_
        have e2 : gp_adv2 (gp_adv1 G p.toNatClampNeg a) p.toNatClampNeg = gp_adv1 G p.toNatClampNeg a := if_neg (fun y => by have := v1 24 (by omega); rw [vU] at y; omega)
        rw [e2] at hP
        rw [hz] at *
        exact xa_119 hv1 hp (by rw [v1 _ (by omega)]; exact l5) (by rw [v1 _ (by omega)]; exact l6) (by rw [v1 _ (by omega)]; exact l7) (by rw [v1 _ (by omega)]; exact l8) (by rw [v1 _ (by omega)]; exact l9) (by rw [v1 _ (by omega)]; exact m1) (by rw [v1 _ (by omega), vU]; omega) (by rw [v1 _ (by omega), vU]; omega) hP
      · refine br_f (by rw [zk_0, zi_le (by omega) (by omega) (by omega) (by omega)]; exact w2) ?_
        have e2 : gp_adv2 (gp_adv1 G p.toNatClampNeg a) p.toNatClampNeg = gp_meas (gp_adv1 G p.toNatClampNeg a) p.toNatClampNeg := if_pos ⟨by rw [v1 _ (by omega)]; omega, by rw [v1 _ (by omega), vU]; omega⟩
        rw [e2] at hP
        have mo : mq_ok (gp_adv1 G p.toNatClampNeg a) p.toNatClampNeg := by
          unfold mq_ok
          rw [v1 24 (by omega), v1 25 (by omega), v1 26 (by omega), v1 27 (by omega), v1 28 (by omega)]
          exact t3
        have mv : ∀ f, f = 16 ∨ f = 17 ∨ f = 18 ∨ f = 5 → (gp_meas (gp_adv1 G p.toNatClampNeg a) p.toNatClampNeg).1 f p.toNatClampNeg = G.1 f p.toNatClampNeg := by
          intro f hf
          rcases hf with rfl | rfl | rfl | rfl <;> simp +decide only [gp_meas, gp_adv1, gs_f]
        have mU : (gp_meas (gp_adv1 G p.toNatClampNeg a) p.toNatClampNeg).1 3 p.toNatClampNeg = G.1 3 p.toNatClampNeg + a := by simp +decide only [gp_meas, gp_adv1, gs_s, gs_f]
        rw [hz] at *
        refine xl_measure hv1 hp mo fun u2 hv2 => ?_
        obtain ⟨f_now, f_sent, a_stateOf, a_error, a_iss, a_una, a_nxt, a_max, a_writtenTo, a_kept, a_keptBytes, a_rcv, a_unread, a_unreadFrom, a_cameBytes, a_held, a_heldFin, a_wnd, a_wndSeq, a_wndAck, a_peak, a_half, a_same, a_rto, a_tries, a_retryAt, a_ackAt, a_waitTill, a_timedAt, a_timedSeq, a_smoothed, a_variance, a_rowCount, a_slotSeq, a_slotFlags, a_slotAck, a_slotWindow, a_slotSize, a_slotBytes⟩ := u2
        exact xa_119 hv2 hp (by rw [mv _ (by omega)]; exact l5) (by rw [mv _ (by omega)]; exact l6) (by rw [mv _ (by omega)]; exact l7) (by rw [mv _ (by omega)]; exact l8) (by rw [mv _ (by omega)]; exact l9) (by rw [mv _ (by omega)]; exact m1) (by rw [mv _ (by omega), mU]; omega) (by rw [mv _ (by omega), mU]; omega) hP
  have k56 : ∀ (KX NX : Nat → Int32), KX = upd a_kept p.toNatClampNeg (zi_n (max (G.1 6 p.toNatClampNeg - (G.1 3 p.toNatClampNeg + a)) 0)) → (∀ e', e' < 2 → NX e' = zi_n ((G.1 2 e' + (gp_adv1 G p.toNatClampNeg a).1 4 e') % 65536)) → wX_takeNewAck_56 P p x1 x2 f_now f_sent a_stateOf a_error a_iss (upd a_una p.toNatClampNeg x1) (NX) a_max a_writtenTo (KX) a_keptBytes a_rcv a_unread a_unreadFrom a_cameBytes a_held a_heldFin a_wnd a_wndSeq a_wndAck a_peak a_half a_same a_rto a_tries a_retryAt a_ackAt a_waitTill a_timedAt a_timedSeq a_smoothed a_variance a_rowCount a_slotSeq a_slotFlags a_slotAck a_slotWindow a_slotSize a_slotBytes := by
    intro KX NX hK hN
    unfold wX_takeNewAck_56
    refine ⟨hp, ?_⟩
    by_cases w : G.1 12 p.toNatClampNeg ≤ a
    · exact br_t (by rw [h_wnd _ he, hx2, zi_le (by omega) (by omega) (by omega) (by omega)]; exact w) (k83 KX NX 0 hK (by rw [zk_0]; congr 1; omega) hN)
    · exact br_f (by rw [h_wnd _ he, hx2, zi_le (by omega) (by omega) (by omega) (by omega)]; exact w) ⟨hp, k83 KX NX _ hK (by rw [h_wnd _ he, hx2, zi_sub]; congr 1; omega) hN⟩
  have vN : (gp_adv1 G p.toNatClampNeg a).1 4 p.toNatClampNeg = max (G.1 4 p.toNatClampNeg) (G.1 3 p.toNatClampNeg + a) := by simp +decide only [gp_adv1, gs_s, gs_f]
  have oN : ∀ e', e' ≠ p.toNatClampNeg → (gp_adv1 G p.toNatClampNeg a).1 4 e' = G.1 4 e' := fun e' q => by simp only [gp_adv1, gs_e q]
  have k35 : ∀ z : Int32, z = zi_n (max (G.1 6 p.toNatClampNeg - (G.1 3 p.toNatClampNeg + a)) 0) → wX_takeNewAck_35 P p x1 x2 z p f_now f_sent a_stateOf a_error a_iss (upd a_una p.toNatClampNeg x1) a_nxt a_max a_writtenTo a_kept a_keptBytes a_rcv a_unread a_unreadFrom a_cameBytes a_held a_heldFin a_wnd a_wndSeq a_wndAck a_peak a_half a_same a_rto a_tries a_retryAt a_ackAt a_waitTill a_timedAt a_timedSeq a_smoothed a_variance a_rowCount a_slotSeq a_slotFlags a_slotAck a_slotWindow a_slotSize a_slotBytes := by
    intro z hz
    unfold wX_takeNewAck_35
    refine ⟨hp, nm_e ⟨hp, xl_off (h_nxt _ he) hx1 (by omega) (by omega) ?_⟩⟩
    by_cases w : 0 ≤ G.1 4 p.toNatClampNeg - (G.1 3 p.toNatClampNeg + a)
    · refine br_t (by rw [zk_0, zi_le (by omega) (by omega) (by omega) (by omega)]; exact w) (k56 _ a_nxt (by rw [hz]) (fun e' he' => ?_))
      by_cases y : e' = p.toNatClampNeg
      · rw [y, vN, h_nxt _ he]; congr 2; omega
      · rw [oN e' y]; exact h_nxt e' he'
    · refine br_f (by rw [zk_0, zi_le (by omega) (by omega) (by omega) (by omega)]; exact w) ⟨hp, nm_e (k56 _ _ (by rw [hz]) (fun e' he' => ?_))⟩
      by_cases y : e' = p.toNatClampNeg
      · rw [y, vN, zu_s, hx1]; congr 2; omega
      · rw [oN e' y, zu_n y]; exact h_nxt e' he'
  unfold wpX_takeNewAck
  refine ⟨hp, nm_e ⟨hp, xl_off (h_writtenTo _ he) hx1 (by omega) (by omega) ?_⟩⟩
  by_cases w : G.1 6 p.toNatClampNeg - (G.1 3 p.toNatClampNeg + a) ≤ 0
  · exact br_t (by rw [zk_0, zi_le (by omega) (by omega) (by omega) (by omega)]; exact w) (k35 0 (by rw [zk_0]; congr 1; omega))
  · exact br_f (by rw [zk_0, zi_le (by omega) (by omega) (by omega) (by omega)]; exact w) (k35 _ (by congr 1; omega))
end
