/-! JDK members: Long.bitCount, Integer.numberOfLeadingZeros; bits of a set (laid by wip/gen/p06.py) -/
section PB3
/-- how many of the first bits of a number are set -/
def pb_bits (a : Nat) : Nat → Nat
  | 0 => 0
  | n + 1 => pb_bits a n + a / 2 ^ n % 2
def pb_M (mz : Nat) : Nat → Nat
  | 0 => 0
  | n + 1 => mz + 256 * pb_M mz n
theorem pb_M5 : pb_M 85 8 = 6148914691236517205 := by decide +kernel
theorem pb_M3 : pb_M 51 8 = 3689348814741910323 := by decide +kernel
theorem pb_MF : pb_M 15 8 = 1085102592571150095 := by decide +kernel
theorem pb_and_split {u v mz w : Nat} (hu : u < 256) (hm : mz < 256) : (u + 256 * v) &&& (mz + 256 * w) = (u &&& mz) + 256 * (v &&& w) := by
  have h := Nat.div_add_mod ((u + 256 * v) &&& (mz + 256 * w)) (2 ^ 8)
  rw [Nat.and_div_two_pow, Nat.and_mod_two_pow] at h
  rw [show (u + 256 * v) / 2 ^ 8 = v by omega, show (mz + 256 * w) / 2 ^ 8 = w by omega, show (u + 256 * v) % 2 ^ 8 = u by omega, show (mz + 256 * w) % 2 ^ 8 = mz by omega] at h
  omega
def pb_d1 : Nat → Nat → Nat
  | 0, _ => 0
  | n + 1, a => (a % 256 - (a % 256 / 2 &&& 85)) + 256 * pb_d1 n (a / 256)
def pb_t (b : Nat) : Nat := ((b - (b / 2 &&& 85)) &&& 51) + ((b - (b / 2 &&& 85)) / 4 &&& 51)
def pb_d2 : Nat → Nat → Nat
  | 0, _ => 0
  | n + 1, a => pb_t (a % 256) + 256 * pb_d2 n (a / 256)
def pb_d3 : Nat → Nat → Nat
  | 0, _ => 0
  | n + 1, a => pb_bits (a % 256) 8 + 256 * pb_d3 n (a / 256)
theorem pb_k1 : ∀ b, b < 256 → ∀ x, x < 2 → (b / 2 + 128 * x) &&& 85 = b / 2 &&& 85 := by decide +kernel
theorem pb_k2 : ∀ b, b < 256 → ∀ x, x < 4 → (b / 4 + 64 * x) &&& 51 = b / 4 &&& 51 := by decide +kernel
theorem pb_k3 : ∀ b, b < 69 → ∀ x, x < 5 → (b + b / 16 + 16 * x) &&& 15 = (b + b / 16) &&& 15 := by decide +kernel
theorem pb_k4 : ∀ b, b < 256 → pb_t b < 69 ∧ pb_t b % 16 ≤ 4 ∧ (pb_t b + pb_t b / 16) &&& 15 = pb_bits b 8 ∧ pb_bits b 8 ≤ 8 := by decide +kernel
theorem pb_S1 : ∀ n a, a < 256 ^ n → a - (a / 2 &&& pb_M 85 n) = pb_d1 n a
  | 0, a, h => by
    have : a = 0 := by simpa using h
    subst this; rfl
  | n + 1, a, h => by
    have hc : a / 256 < 256 ^ n := by rw [Nat.pow_succ] at h; omega
    have ih := pb_S1 n (a / 256) hc
    have e1 : a / 2 = (a % 256 / 2 + 128 * (a / 256 % 2)) + 256 * (a / 256 / 2) := by omega
    have hb : a % 256 < 256 := Nat.mod_lt _ (by decide)
    have hx : a / 256 % 2 < 2 := Nat.mod_lt _ (by decide)
    rw [e1, pb_M, pb_and_split (by omega) (by decide), pb_k1 _ hb _ hx, pb_d1, ← ih]
    have h1 : (a % 256 / 2 &&& 85) ≤ a % 256 / 2 := Nat.and_le_left
    have h2 : (a / 256 / 2 &&& pb_M 85 n) ≤ a / 256 / 2 := Nat.and_le_left
    omega
theorem pb_S2 : ∀ n a, (pb_d1 n a &&& pb_M 51 n) + (pb_d1 n a / 4 &&& pb_M 51 n) = pb_d2 n a
  | 0, a => by simp [pb_d1, pb_d2]
  | n + 1, a => by
    have ih := pb_S2 n (a / 256)
    have hb : a % 256 < 256 := Nat.mod_lt _ (by decide)
    obtain ⟨x, hx⟩ : ∃ x, x = a % 256 - (a % 256 / 2 &&& 85) := ⟨_, rfl⟩
    obtain ⟨y, hy⟩ : ∃ y, y = pb_d1 n (a / 256) := ⟨_, rfl⟩
    have hx8 : x < 256 := by omega
    rw [pb_d1, pb_d2, pb_t, ← hx, ← hy, ← ih, ← hy, pb_M, pb_and_split hx8 (by decide)]
    have e1 : (x + 256 * y) / 4 = (x / 4 + 64 * (y % 4)) + 256 * (y / 4) := by omega
    rw [e1, pb_and_split (by omega) (by decide), pb_k2 _ hx8 _ (Nat.mod_lt _ (by decide))]
    omega
theorem pb_d2_low (n a : Nat) : pb_d2 n a % 16 ≤ 4 := by
  cases n with
  | zero => exact Nat.zero_le _
  | succ n =>
    have := (pb_k4 (a % 256) (Nat.mod_lt _ (by decide))).2.1
    rw [pb_d2]; omega
theorem pb_S3 : ∀ n a, (pb_d2 n a + pb_d2 n a / 16) &&& pb_M 15 n = pb_d3 n a
  | 0, a => by simp [pb_d2, pb_d3]
  | n + 1, a => by
    have ih := pb_S3 n (a / 256)
    obtain ⟨k1, k2, k3, k4⟩ := pb_k4 (a % 256) (Nat.mod_lt _ (by decide))
    have hl := pb_d2_low n (a / 256)
    rw [pb_d2, pb_d3, ← k3, ← ih]
    obtain ⟨x, hx⟩ : ∃ x, x = pb_t (a % 256) := ⟨_, rfl⟩
    obtain ⟨y, hy⟩ : ∃ y, y = pb_d2 n (a / 256) := ⟨_, rfl⟩
    rw [← hx] at k1 k2 ⊢
    rw [← hy] at hl ⊢
    have e1 : x + 256 * y + (x + 256 * y) / 16 = (x + x / 16 + 16 * (y % 16)) + 256 * (y + y / 16) := by omega
    rw [e1, pb_M, pb_and_split (by omega) (by decide), pb_k3 _ k1 _ (by omega)]
theorem pb_bits_le (a : Nat) : ∀ n, pb_bits a n ≤ n
  | 0 => Nat.le_refl _
  | n + 1 => by
    have := pb_bits_le a n
    have := Nat.mod_lt (a / 2 ^ n) (y := 2) (by decide)
    rw [pb_bits]; omega
theorem pb_bits_mod (a : Nat) : pb_bits (a % 256) 8 = pb_bits a 8 := by
  simp only [pb_bits]
  omega
theorem pb_bits_split (a : Nat) : ∀ n, pb_bits a (8 + n) = pb_bits (a % 256) 8 + pb_bits (a / 256) n
  | 0 => by rw [pb_bits_mod]; rfl
  | n + 1 => by
    have e1 : pb_bits a (8 + (n + 1)) = pb_bits a (8 + n) + a / 2 ^ (8 + n) % 2 := rfl
    have e2 : pb_bits (a / 256) (n + 1) = pb_bits (a / 256) n + a / 256 / 2 ^ n % 2 := rfl
    have e3 : a / 2 ^ (8 + n) = a / 256 / 2 ^ n := by rw [Nat.pow_add, show (2 : Nat) ^ 8 = 256 from rfl, ← Nat.div_div_eq_div_mul]
    rw [e1, e2, e3, pb_bits_split a n, Nat.add_assoc]
theorem pb_dv {lo hi mz : Nat} (h : lo < mz) : (lo + mz * hi) / mz = hi := by
  rw [Nat.add_mul_div_left _ _ (Nat.lt_of_le_of_lt (Nat.zero_le _) h), Nat.div_eq_of_lt h, Nat.zero_add]
theorem pb_sum8 {p0 p1 p2 p3 p4 p5 p6 p7 r1 r2 r3 r4 r5 r6 r7 y y1 y2 y3 : Nat} (h0 : p0 ≤ 8) (h1 : p1 ≤ 8) (h2 : p2 ≤ 8) (h3 : p3 ≤ 8) (h4 : p4 ≤ 8) (h5 : p5 ≤ 8) (h6 : p6 ≤ 8) (h7 : p7 ≤ 8) (g0 : y = p0 + 256 * r1) (g1 : r1 = p1 + 256 * r2) (g2 : r2 = p2 + 256 * r3) (g3 : r3 = p3 + 256 * r4) (g4 : r4 = p4 + 256 * r5) (g5 : r5 = p5 + 256 * r6) (g6 : r6 = p6 + 256 * r7) (g7 : r7 = p7) (e1 : y1 = y + y / 256) (e2 : y2 = y1 + y1 / 65536) (e3 : y3 = y2 + y2 / 4294967296) : y3 % 128 = p0 + (p1 + (p2 + (p3 + (p4 + (p5 + (p6 + p7)))))) := by
  have f1 : y / 256 = r1 := by rw [g0]; exact pb_dv (by omega)
  have k1 : y1 = ((p0 + p1) + 256 * (p1 + p2)) + 65536 * (r2 + r3) := by rw [e1, f1, g0, g1, g2]; omega
  have f2 : y1 / 65536 = r2 + r3 := by rw [k1]; exact pb_dv (by omega)
  have k2 : y2 = ((p0 + p1 + p2 + p3) + 256 * (p1 + p2 + p3 + p4) + 65536 * (p2 + p3 + p4 + p5) + 16777216 * (p3 + p4 + p5 + p6)) + 4294967296 * (r4 + r5 + r6 + r7) := by rw [e2, f2, k1, g2, g3, g4, g5, g6]; omega
  have f3 : y2 / 4294967296 = r4 + r5 + r6 + r7 := by rw [k2]; exact pb_dv (by omega)
  have k3 : y3 = (p0 + (p1 + (p2 + (p3 + (p4 + (p5 + (p6 + p7))))))) + 128 * (2 * (r1 + r2 + r3 + r4 + r5 + r6 + r7)) := by
    have z2 : y2 = y + r1 + r2 + r3 := by rw [e2, f2, e1, f1]; omega
    rw [e3, f3, z2]
    clear e1 e2 e3 f1 f2 f3 k1 k2 z2
    omega
  rw [k3, Nat.add_mul_mod_self_left]
  exact Nat.mod_eq_of_lt (by omega)
theorem pb_pop {a y y1 y2 y3 : Nat} (e0 : y = pb_d3 8 a) (e1 : y1 = y + y / 256) (e2 : y2 = y1 + y1 / 65536) (e3 : y3 = y2 + y2 / 4294967296) : y3 % 128 = pb_bits a 64 := by
  have hk : ∀ b, pb_bits (b % 256) 8 ≤ 8 := fun b => pb_bits_le _ _
  have e4 : pb_bits a 64 = pb_bits (a % 256) 8 + (pb_bits (a / 256 % 256) 8 + (pb_bits (a / 256 / 256 % 256) 8 + (pb_bits (a / 256 / 256 / 256 % 256) 8 + (pb_bits (a / 256 / 256 / 256 / 256 % 256) 8 + (pb_bits (a / 256 / 256 / 256 / 256 / 256 % 256) 8 + (pb_bits (a / 256 / 256 / 256 / 256 / 256 / 256 % 256) 8 + pb_bits (a / 256 / 256 / 256 / 256 / 256 / 256 / 256 % 256) 8)))))) := by
    rw [show (64 : Nat) = 8 + 56 from rfl, pb_bits_split, show (56 : Nat) = 8 + 48 from rfl, pb_bits_split, show (48 : Nat) = 8 + 40 from rfl, pb_bits_split, show (40 : Nat) = 8 + 32 from rfl, pb_bits_split, show (32 : Nat) = 8 + 24 from rfl, pb_bits_split, show (24 : Nat) = 8 + 16 from rfl, pb_bits_split, show (16 : Nat) = 8 + 8 from rfl, pb_bits_split, ← pb_bits_mod (a / 256 / 256 / 256 / 256 / 256 / 256 / 256)]
  rw [e4]
  exact pb_sum8 (hk _) (hk _) (hk _) (hk _) (hk _) (hk _) (hk _) (hk _) e0 rfl rfl rfl rfl rfl rfl rfl e1 e2 e3
theorem pb_d2_lt : ∀ n a, pb_d2 n a < 256 ^ n
  | 0, a => by simp [pb_d2]
  | n + 1, a => by
    have := pb_d2_lt n (a / 256)
    have := (pb_k4 (a % 256) (Nat.mod_lt _ (by decide))).1
    rw [pb_d2, Nat.pow_succ]; omega
theorem pb_d3_lt : ∀ n a, pb_d3 n a ≤ 8 * pb_M 1 n
  | 0, a => by simp [pb_d3]
  | n + 1, a => by
    have := pb_d3_lt n (a / 256)
    have := pb_bits_le (a % 256) 8
    rw [pb_d3, pb_M]; omega
theorem pb_ush {a : Nat} (k pz : Nat) (ha : a < 2 ^ 64) (hk : k < 64) (hp : 2 ^ k = pz) : ((lN a).toUInt64 >>> ((nI k).toInt64.toUInt64 &&& Int64.toUInt64 63)).toInt64 = lN (a / pz) := by rw [← hp]; exact wb_shr ha hk
variable {l : Launch}
set_option maxHeartbeats 4000000 in
set_option maxRecDepth 100000 in
theorem c_bitCount (a : Nat) (ha : a < 2 ^ 64) : pb_Rd l yJ13_bitCount_95d88 wsJ13_bitCount_95d88 0 0 (pb_S [.long (lN a)]) (.int (nI (pb_bits a 64))) := by
  refine pb_ofS RJ13 (by decide) rfl rfl (Nat.le_of_ble_eq_true rfl) (fun p e s m args below meth c ls hx hb hml hr hlocks hown hts hl => ?_)
  have hl : lv_has ls 2 [(0, .long (lN a))] := hl
  refine lv_lload_n hx hb dJ13_bitCount_95d88_0 rfl (lv_at hl 0 rfl) ?_
  refine lv_lload_n hx hb dJ13_bitCount_95d88_1 rfl (lv_at hl 0 rfl) ?_
  refine lv_iconst (v := 1) hx hb dJ13_bitCount_95d88_2 (by decide) ?_
  refine lv_lushr hx hb dJ13_bitCount_95d88_3 rfl ?_
  refine pb_topl (z := lN (a / 2)) (pb_ush 1 2 ha (by decide) rfl) ?_
  refine lv_ldc2 (v := 6148914691236517205) hx hb hown (hts (.constantLong RJ13 314 6148914691236517205) (by decide +kernel)) dJ13_bitCount_95d88_4 ?_
  refine lv_land hx hb dJ13_bitCount_95d88_7 ?_
  refine pb_topl (z := lN (a / 2 &&& 6148914691236517205)) (fb_andL _ _) ?_
  refine lv_lsub hx hb dJ13_bitCount_95d88_8 ?_
  obtain ⟨a1, ha1⟩ : ∃ z : Nat, z = a - (a / 2 &&& 6148914691236517205) := ⟨_, rfl⟩
  have hd1 : a1 = pb_d1 8 a := by rw [ha1, ← pb_M5]; exact pb_S1 8 a (by omega)
  have hb1 : a1 < 2 ^ 64 := by omega
  refine pb_topl (z := lN a1) (by rw [ha1]; exact lN_sub (Nat.le_trans Nat.and_le_left (Nat.div_le_self _ _))) ?_
  refine lv_lstore_n (lv' := [(0, .long (lN a1))]) hx hb dJ13_bitCount_95d88_9 rfl hl (by decide) rfl (fun ls hl => ?_)
  refine lv_lload_n hx hb dJ13_bitCount_95d88_10 rfl (lv_at hl 0 rfl) ?_
  refine lv_ldc2 (v := 3689348814741910323) hx hb hown (hts (.constantLong RJ13 316 3689348814741910323) (by decide +kernel)) dJ13_bitCount_95d88_11 ?_
  refine lv_land hx hb dJ13_bitCount_95d88_14 ?_
  refine pb_topl (z := lN (a1 &&& 3689348814741910323)) (fb_andL _ _) ?_
  refine lv_lload_n hx hb dJ13_bitCount_95d88_15 rfl (lv_at hl 0 rfl) ?_
  refine lv_iconst (v := 2) hx hb dJ13_bitCount_95d88_16 (by decide) ?_
  refine lv_lushr hx hb dJ13_bitCount_95d88_17 rfl ?_
  refine pb_topl (z := lN (a1 / 4)) (pb_ush 2 4 hb1 (by decide) rfl) ?_
  refine lv_ldc2 (v := 3689348814741910323) hx hb hown (hts (.constantLong RJ13 316 3689348814741910323) (by decide +kernel)) dJ13_bitCount_95d88_18 ?_
  refine lv_land hx hb dJ13_bitCount_95d88_21 ?_
  refine pb_topl (z := lN (a1 / 4 &&& 3689348814741910323)) (fb_andL _ _) ?_
  refine lv_ladd hx hb dJ13_bitCount_95d88_22 ?_
  obtain ⟨a2, ha2⟩ : ∃ z : Nat, z = (a1 &&& 3689348814741910323) + (a1 / 4 &&& 3689348814741910323) := ⟨_, rfl⟩
  have hd2 : a2 = pb_d2 8 a := by rw [ha2, ← pb_M3, hd1]; exact pb_S2 8 a
  have hb2 : a2 < 2 ^ 64 := by have := pb_d2_lt 8 a; omega
  refine pb_topl (z := lN a2) (by rw [ha2, lN_add]) ?_
  refine lv_lstore_n (lv' := [(0, .long (lN a2))]) hx hb dJ13_bitCount_95d88_23 rfl hl (by decide) rfl (fun ls hl => ?_)
  refine lv_lload_n hx hb dJ13_bitCount_95d88_24 rfl (lv_at hl 0 rfl) ?_
  refine lv_lload_n hx hb dJ13_bitCount_95d88_25 rfl (lv_at hl 0 rfl) ?_
  refine lv_iconst (v := 4) hx hb dJ13_bitCount_95d88_26 (by decide) ?_
  refine lv_lushr hx hb dJ13_bitCount_95d88_27 rfl ?_
  refine pb_topl (z := lN (a2 / 16)) (pb_ush 4 16 hb2 (by decide) rfl) ?_
  refine lv_ladd hx hb dJ13_bitCount_95d88_28 ?_
  refine pb_topl (z := lN (a2 + a2 / 16)) (lN_add _ _) ?_
  refine lv_ldc2 (v := 1085102592571150095) hx hb hown (hts (.constantLong RJ13 318 1085102592571150095) (by decide +kernel)) dJ13_bitCount_95d88_29 ?_
  refine lv_land hx hb dJ13_bitCount_95d88_32 ?_
  obtain ⟨a3, ha3⟩ : ∃ z : Nat, z = (a2 + a2 / 16) &&& 1085102592571150095 := ⟨_, rfl⟩
  have hd3 : a3 = pb_d3 8 a := by rw [ha3, ← pb_MF, hd2]; exact pb_S3 8 a
  have hb3 : a3 ≤ 578721382704613384 := by rw [hd3]; exact Nat.le_trans (pb_d3_lt 8 a) (by decide +kernel)
  refine pb_topl (z := lN a3) (by rw [ha3]; exact fb_andL _ _) ?_
  refine lv_lstore_n (lv' := [(0, .long (lN a3))]) hx hb dJ13_bitCount_95d88_33 rfl hl (by decide) rfl (fun ls hl => ?_)
  refine lv_lload_n hx hb dJ13_bitCount_95d88_34 rfl (lv_at hl 0 rfl) ?_
  refine lv_lload_n hx hb dJ13_bitCount_95d88_35 rfl (lv_at hl 0 rfl) ?_
  refine lv_bipush (v := 8) hx hb dJ13_bitCount_95d88_36 (by decide) ?_
  refine lv_lushr hx hb dJ13_bitCount_95d88_38 rfl ?_
  have hb3 : a3 < 2 ^ 64 := by omega
  refine pb_topl (z := lN (a3 / 256)) (pb_ush 8 256 hb3 (by decide) rfl) ?_
  refine lv_ladd hx hb dJ13_bitCount_95d88_39 ?_
  obtain ⟨a4, ha4⟩ : ∃ z : Nat, z = a3 + a3 / 256 := ⟨_, rfl⟩
  refine pb_topl (z := lN a4) (by rw [ha4, lN_add]) ?_
  refine lv_lstore_n (lv' := [(0, .long (lN a4))]) hx hb dJ13_bitCount_95d88_40 rfl hl (by decide) rfl (fun ls hl => ?_)
  refine lv_lload_n hx hb dJ13_bitCount_95d88_41 rfl (lv_at hl 0 rfl) ?_
  refine lv_lload_n hx hb dJ13_bitCount_95d88_42 rfl (lv_at hl 0 rfl) ?_
  refine lv_bipush (v := 16) hx hb dJ13_bitCount_95d88_43 (by decide) ?_
  refine lv_lushr hx hb dJ13_bitCount_95d88_45 rfl ?_
  have hb4 : a4 < 2 ^ 64 := by omega
  refine pb_topl (z := lN (a4 / 65536)) (pb_ush 16 65536 hb4 (by decide) rfl) ?_
  refine lv_ladd hx hb dJ13_bitCount_95d88_46 ?_
  obtain ⟨a5, ha5⟩ : ∃ z : Nat, z = a4 + a4 / 65536 := ⟨_, rfl⟩
  refine pb_topl (z := lN a5) (by rw [ha5, lN_add]) ?_
  refine lv_lstore_n (lv' := [(0, .long (lN a5))]) hx hb dJ13_bitCount_95d88_47 rfl hl (by decide) rfl (fun ls hl => ?_)
  refine lv_lload_n hx hb dJ13_bitCount_95d88_48 rfl (lv_at hl 0 rfl) ?_
  refine lv_lload_n hx hb dJ13_bitCount_95d88_49 rfl (lv_at hl 0 rfl) ?_
  refine lv_bipush (v := 32) hx hb dJ13_bitCount_95d88_50 (by decide) ?_
  refine lv_lushr hx hb dJ13_bitCount_95d88_52 rfl ?_
  have hb5 : a5 < 2 ^ 64 := by omega
  refine pb_topl (z := lN (a5 / 4294967296)) (pb_ush 32 4294967296 hb5 (by decide) rfl) ?_
  refine lv_ladd hx hb dJ13_bitCount_95d88_53 ?_
  obtain ⟨a6, ha6⟩ : ∃ z : Nat, z = a5 + a5 / 4294967296 := ⟨_, rfl⟩
  refine pb_topl (z := lN a6) (by rw [ha6, lN_add]) ?_
  refine lv_lstore_n (lv' := [(0, .long (lN a6))]) hx hb dJ13_bitCount_95d88_54 rfl hl (by decide) rfl (fun ls hl => ?_)
  refine lv_lload_n hx hb dJ13_bitCount_95d88_55 rfl (lv_at hl 0 rfl) ?_
  refine lv_l2i hx hb dJ13_bitCount_95d88_56 rfl ?_
  refine pb_topi (z := nI a6) (lN_i a6) ?_
  refine lv_bipush (v := 127) hx hb dJ13_bitCount_95d88_57 (by decide) ?_
  refine lv_iand hx hb dJ13_bitCount_95d88_59 ?_
  exact pb_iret hx hb hr hlocks dJ13_bitCount_95d88_60 (by rw [← pb_pop hd3 ha4 ha5 ha6, show (127 : Int32) = nI (2 ^ 7 - 1) from rfl, fa_mask])

def pb_nz (u : Nat) : Nat :=
  if u = 0 then 32 else if 2 ^ 31 ≤ u then 0 else
  let x1 := if u < 65536 then (31, u) else (15, u / 65536)
  let x2 := if x1.2 < 256 then x1 else (x1.1 - 8, x1.2 / 256)
  let x3 := if x2.2 < 16 then x2 else (x2.1 - 4, x2.2 / 16)
  let x4 := if x3.2 < 4 then x3 else (x3.1 - 2, x3.2 / 4)
  x4.1 - x4.2 / 2
theorem pb_neg {u : Nat} (hu : u < 2 ^ 32) (h : 2 ^ 31 ≤ u) : ¬ 0 < nI u := fun z => by
  have h1 := Int32.lt_iff_toInt_lt.mp z
  have h2 : (nI u).toInt = (u : Int) - 2 ^ 32 := by
    rw [Int32.toInt, BitVec.toInt_eq_toNat_cond]
    rw [show (nI u).toBitVec.toNat = u from pk_tn hu]
    rw [if_neg (by omega)]; rfl
  rw [h2] at h1
  have h3 : (0 : Int32).toInt = 0 := by decide
  omega
set_option maxHeartbeats 4000000 in
set_option maxRecDepth 100000 in
theorem c_nlz (u : Nat) (hu : u < 2 ^ 32) : pb_Rd l yJ6_numberOfLeadingZeros_0f7a4 wsJ6_numberOfLeadingZeros_0f7a4 0 0 (pb_S [.int (nI u)]) (.int (nI (pb_nz u))) := by
  refine pb_ofS RJ6 (by decide) rfl rfl (Nat.le_of_ble_eq_true rfl) (fun p e s m args below meth c ls hx hb hml hr hlocks hown hts hl => ?_)
  have hl : lv_has ls 2 [(0, .int (nI u))] := hl
  refine lv_iload_n hx hb dJ6_numberOfLeadingZeros_0f7a4_0 rfl (lv_at hl 0 rfl) ?_
  refine lv_if_gt (tgt := 15) hx hb dJ6_numberOfLeadingZeros_0f7a4_1 (by decide) (fun q1 => ?_) (fun q1 => ?_)
  · have h0 : u ≠ 0 := fun z => by subst z; exact absurd q1 (by decide)
    have hneg : ¬ 2 ^ 31 ≤ u := fun z => pb_neg hu z q1
    refine lv_bipush (v := 31) hx hb dJ6_numberOfLeadingZeros_0f7a4_15 (by decide) ?_
    refine lv_istore_n (lv' := [(1, .int 31), (0, .int (nI u))]) hx hb dJ6_numberOfLeadingZeros_0f7a4_17 rfl hl (by decide) rfl (fun ls hl => ?_)
    refine lv_iload_n hx hb dJ6_numberOfLeadingZeros_0f7a4_18 rfl (lv_at hl 1 rfl) ?_
    refine lv_ldcw (v := 65536) hx hb hown (hts (.constant RJ6 264 65536) (by decide +kernel)) dJ6_numberOfLeadingZeros_0f7a4_19 ?_
    refine lv_icmp_lt (tgt := 33) hx hb dJ6_numberOfLeadingZeros_0f7a4_22 (by decide) (fun q22 => ?_) (fun q22 => ?_)
    · have w22 : u < 65536 := (nI_ltI (by omega) (by decide)).mp q22
      refine lv_iload_n hx hb dJ6_numberOfLeadingZeros_0f7a4_33 rfl (lv_at hl 1 rfl) ?_
      refine lv_sipush (v := 256) hx hb dJ6_numberOfLeadingZeros_0f7a4_34 (by decide) ?_
      refine lv_icmp_lt (tgt := 48) hx hb dJ6_numberOfLeadingZeros_0f7a4_37 (by decide) (fun q37 => ?_) (fun q37 => ?_)
      · have w37 : u < 256 := (nI_ltI (by omega) (by decide)).mp q37
        refine lv_iload_n hx hb dJ6_numberOfLeadingZeros_0f7a4_48 rfl (lv_at hl 1 rfl) ?_
        refine lv_bipush (v := 16) hx hb dJ6_numberOfLeadingZeros_0f7a4_49 (by decide) ?_
        refine lv_icmp_lt (tgt := 61) hx hb dJ6_numberOfLeadingZeros_0f7a4_51 (by decide) (fun q51 => ?_) (fun q51 => ?_)
        · have w51 : u < 16 := (nI_ltI (by omega) (by decide)).mp q51
          refine lv_iload_n hx hb dJ6_numberOfLeadingZeros_0f7a4_61 rfl (lv_at hl 1 rfl) ?_
          refine lv_iconst (v := 4) hx hb dJ6_numberOfLeadingZeros_0f7a4_62 (by decide) ?_
          refine lv_icmp_lt (tgt := 73) hx hb dJ6_numberOfLeadingZeros_0f7a4_63 (by decide) (fun q63 => ?_) (fun q63 => ?_)
          · have w63 : u < 4 := (nI_ltI (by omega) (by decide)).mp q63
            refine lv_iload_n hx hb dJ6_numberOfLeadingZeros_0f7a4_73 rfl (lv_at hl 0 rfl) ?_
            refine lv_iload_n hx hb dJ6_numberOfLeadingZeros_0f7a4_74 rfl (lv_at hl 1 rfl) ?_
            refine lv_iconst (v := 1) hx hb dJ6_numberOfLeadingZeros_0f7a4_75 (by decide) ?_
            refine lv_iushr hx hb dJ6_numberOfLeadingZeros_0f7a4_76 rfl ?_
            refine pb_topi (z := nI (u / 2)) ((pk_ushrN (by omega) 1 1 (by decide)).trans rfl) ?_
            refine lv_isub hx hb dJ6_numberOfLeadingZeros_0f7a4_77 ?_
            exact pb_iret hx hb hr hlocks dJ6_numberOfLeadingZeros_0f7a4_78 (by rw [show (31 : Int32) = nI 31 from rfl, pk_sub (a := 31) (b := u / 2) (by omega)]; simp only [pb_nz, if_neg h0, if_neg hneg, if_true, if_false, *] <;> try rfl)
          · have w63 : ¬ u < 4 := mt (nI_ltI (by omega) (by decide)).mpr q63
            refine lv_iinc (v := 29) (lv' := [(1, .int 29), (0, .int (nI u))]) hx hb dJ6_numberOfLeadingZeros_0f7a4_66 hl (k := 0) rfl (by decide) (by decide) rfl (fun ls hl => ?_)
            refine lv_iload_n hx hb dJ6_numberOfLeadingZeros_0f7a4_69 rfl (lv_at hl 1 rfl) ?_
            refine lv_iconst (v := 2) hx hb dJ6_numberOfLeadingZeros_0f7a4_70 (by decide) ?_
            refine lv_iushr hx hb dJ6_numberOfLeadingZeros_0f7a4_71 rfl ?_
            refine pb_topi (z := nI (u / 4)) ((pk_ushrN (by omega) 2 2 (by decide)).trans rfl) ?_
            refine lv_istore_n (lv' := [(0, .int (nI (u / 4))), (1, .int 29)]) hx hb dJ6_numberOfLeadingZeros_0f7a4_72 rfl hl (by decide) rfl (fun ls hl => ?_)
            refine lv_iload_n hx hb dJ6_numberOfLeadingZeros_0f7a4_73 rfl (lv_at hl 1 rfl) ?_
            refine lv_iload_n hx hb dJ6_numberOfLeadingZeros_0f7a4_74 rfl (lv_at hl 0 rfl) ?_
            refine lv_iconst (v := 1) hx hb dJ6_numberOfLeadingZeros_0f7a4_75 (by decide) ?_
            refine lv_iushr hx hb dJ6_numberOfLeadingZeros_0f7a4_76 rfl ?_
            refine pb_topi (z := nI ((u / 4) / 2)) ((pk_ushrN (by omega) 1 1 (by decide)).trans rfl) ?_
            refine lv_isub hx hb dJ6_numberOfLeadingZeros_0f7a4_77 ?_
            exact pb_iret hx hb hr hlocks dJ6_numberOfLeadingZeros_0f7a4_78 (by rw [show (29 : Int32) = nI 29 from rfl, pk_sub (a := 29) (b := (u / 4) / 2) (by omega)]; simp only [pb_nz, if_neg h0, if_neg hneg, if_true, if_false, *] <;> try rfl)
        · have w51 : ¬ u < 16 := mt (nI_ltI (by omega) (by decide)).mpr q51
          refine lv_iinc (v := 27) (lv' := [(1, .int 27), (0, .int (nI u))]) hx hb dJ6_numberOfLeadingZeros_0f7a4_54 hl (k := 0) rfl (by decide) (by decide) rfl (fun ls hl => ?_)
          refine lv_iload_n hx hb dJ6_numberOfLeadingZeros_0f7a4_57 rfl (lv_at hl 1 rfl) ?_
          refine lv_iconst (v := 4) hx hb dJ6_numberOfLeadingZeros_0f7a4_58 (by decide) ?_
          refine lv_iushr hx hb dJ6_numberOfLeadingZeros_0f7a4_59 rfl ?_
          refine pb_topi (z := nI (u / 16)) ((pk_ushrN (by omega) 4 4 (by decide)).trans rfl) ?_
          refine lv_istore_n (lv' := [(0, .int (nI (u / 16))), (1, .int 27)]) hx hb dJ6_numberOfLeadingZeros_0f7a4_60 rfl hl (by decide) rfl (fun ls hl => ?_)
          refine lv_iload_n hx hb dJ6_numberOfLeadingZeros_0f7a4_61 rfl (lv_at hl 0 rfl) ?_
          refine lv_iconst (v := 4) hx hb dJ6_numberOfLeadingZeros_0f7a4_62 (by decide) ?_
          refine lv_icmp_lt (tgt := 73) hx hb dJ6_numberOfLeadingZeros_0f7a4_63 (by decide) (fun q63 => ?_) (fun q63 => ?_)
          · have w63 : (u / 16) < 4 := (nI_ltI (by omega) (by decide)).mp q63
            refine lv_iload_n hx hb dJ6_numberOfLeadingZeros_0f7a4_73 rfl (lv_at hl 1 rfl) ?_
            refine lv_iload_n hx hb dJ6_numberOfLeadingZeros_0f7a4_74 rfl (lv_at hl 0 rfl) ?_
            refine lv_iconst (v := 1) hx hb dJ6_numberOfLeadingZeros_0f7a4_75 (by decide) ?_
            refine lv_iushr hx hb dJ6_numberOfLeadingZeros_0f7a4_76 rfl ?_
            refine pb_topi (z := nI ((u / 16) / 2)) ((pk_ushrN (by omega) 1 1 (by decide)).trans rfl) ?_
            refine lv_isub hx hb dJ6_numberOfLeadingZeros_0f7a4_77 ?_
            exact pb_iret hx hb hr hlocks dJ6_numberOfLeadingZeros_0f7a4_78 (by rw [show (27 : Int32) = nI 27 from rfl, pk_sub (a := 27) (b := (u / 16) / 2) (by omega)]; simp only [pb_nz, if_neg h0, if_neg hneg, if_true, if_false, *] <;> try rfl)
          · have w63 : ¬ (u / 16) < 4 := mt (nI_ltI (by omega) (by decide)).mpr q63
            refine lv_iinc (v := 25) (lv' := [(1, .int 25), (0, .int (nI (u / 16)))]) hx hb dJ6_numberOfLeadingZeros_0f7a4_66 hl (k := 1) rfl (by decide) (by decide) rfl (fun ls hl => ?_)
            refine lv_iload_n hx hb dJ6_numberOfLeadingZeros_0f7a4_69 rfl (lv_at hl 1 rfl) ?_
            refine lv_iconst (v := 2) hx hb dJ6_numberOfLeadingZeros_0f7a4_70 (by decide) ?_
            refine lv_iushr hx hb dJ6_numberOfLeadingZeros_0f7a4_71 rfl ?_
            refine pb_topi (z := nI ((u / 16) / 4)) ((pk_ushrN (by omega) 2 2 (by decide)).trans rfl) ?_
            refine lv_istore_n (lv' := [(0, .int (nI ((u / 16) / 4))), (1, .int 25)]) hx hb dJ6_numberOfLeadingZeros_0f7a4_72 rfl hl (by decide) rfl (fun ls hl => ?_)
            refine lv_iload_n hx hb dJ6_numberOfLeadingZeros_0f7a4_73 rfl (lv_at hl 1 rfl) ?_
            refine lv_iload_n hx hb dJ6_numberOfLeadingZeros_0f7a4_74 rfl (lv_at hl 0 rfl) ?_
            refine lv_iconst (v := 1) hx hb dJ6_numberOfLeadingZeros_0f7a4_75 (by decide) ?_
            refine lv_iushr hx hb dJ6_numberOfLeadingZeros_0f7a4_76 rfl ?_
            refine pb_topi (z := nI (((u / 16) / 4) / 2)) ((pk_ushrN (by omega) 1 1 (by decide)).trans rfl) ?_
            refine lv_isub hx hb dJ6_numberOfLeadingZeros_0f7a4_77 ?_
            exact pb_iret hx hb hr hlocks dJ6_numberOfLeadingZeros_0f7a4_78 (by rw [show (25 : Int32) = nI 25 from rfl, pk_sub (a := 25) (b := ((u / 16) / 4) / 2) (by omega)]; simp only [pb_nz, if_neg h0, if_neg hneg, if_true, if_false, *] <;> try rfl)
      · have w37 : ¬ u < 256 := mt (nI_ltI (by omega) (by decide)).mpr q37
        refine lv_iinc (v := 23) (lv' := [(1, .int 23), (0, .int (nI u))]) hx hb dJ6_numberOfLeadingZeros_0f7a4_40 hl (k := 0) rfl (by decide) (by decide) rfl (fun ls hl => ?_)
        refine lv_iload_n hx hb dJ6_numberOfLeadingZeros_0f7a4_43 rfl (lv_at hl 1 rfl) ?_
        refine lv_bipush (v := 8) hx hb dJ6_numberOfLeadingZeros_0f7a4_44 (by decide) ?_
        refine lv_iushr hx hb dJ6_numberOfLeadingZeros_0f7a4_46 rfl ?_
        refine pb_topi (z := nI (u / 256)) ((pk_ushrN (by omega) 8 8 (by decide)).trans rfl) ?_
        refine lv_istore_n (lv' := [(0, .int (nI (u / 256))), (1, .int 23)]) hx hb dJ6_numberOfLeadingZeros_0f7a4_47 rfl hl (by decide) rfl (fun ls hl => ?_)
        refine lv_iload_n hx hb dJ6_numberOfLeadingZeros_0f7a4_48 rfl (lv_at hl 0 rfl) ?_
        refine lv_bipush (v := 16) hx hb dJ6_numberOfLeadingZeros_0f7a4_49 (by decide) ?_
        refine lv_icmp_lt (tgt := 61) hx hb dJ6_numberOfLeadingZeros_0f7a4_51 (by decide) (fun q51 => ?_) (fun q51 => ?_)
        · have w51 : (u / 256) < 16 := (nI_ltI (by omega) (by decide)).mp q51
          refine lv_iload_n hx hb dJ6_numberOfLeadingZeros_0f7a4_61 rfl (lv_at hl 0 rfl) ?_
          refine lv_iconst (v := 4) hx hb dJ6_numberOfLeadingZeros_0f7a4_62 (by decide) ?_
          refine lv_icmp_lt (tgt := 73) hx hb dJ6_numberOfLeadingZeros_0f7a4_63 (by decide) (fun q63 => ?_) (fun q63 => ?_)
          · have w63 : (u / 256) < 4 := (nI_ltI (by omega) (by decide)).mp q63
            refine lv_iload_n hx hb dJ6_numberOfLeadingZeros_0f7a4_73 rfl (lv_at hl 1 rfl) ?_
            refine lv_iload_n hx hb dJ6_numberOfLeadingZeros_0f7a4_74 rfl (lv_at hl 0 rfl) ?_
            refine lv_iconst (v := 1) hx hb dJ6_numberOfLeadingZeros_0f7a4_75 (by decide) ?_
            refine lv_iushr hx hb dJ6_numberOfLeadingZeros_0f7a4_76 rfl ?_
            refine pb_topi (z := nI ((u / 256) / 2)) ((pk_ushrN (by omega) 1 1 (by decide)).trans rfl) ?_
            refine lv_isub hx hb dJ6_numberOfLeadingZeros_0f7a4_77 ?_
            exact pb_iret hx hb hr hlocks dJ6_numberOfLeadingZeros_0f7a4_78 (by rw [show (23 : Int32) = nI 23 from rfl, pk_sub (a := 23) (b := (u / 256) / 2) (by omega)]; simp only [pb_nz, if_neg h0, if_neg hneg, if_true, if_false, *] <;> try rfl)
          · have w63 : ¬ (u / 256) < 4 := mt (nI_ltI (by omega) (by decide)).mpr q63
            refine lv_iinc (v := 21) (lv' := [(1, .int 21), (0, .int (nI (u / 256)))]) hx hb dJ6_numberOfLeadingZeros_0f7a4_66 hl (k := 1) rfl (by decide) (by decide) rfl (fun ls hl => ?_)
            refine lv_iload_n hx hb dJ6_numberOfLeadingZeros_0f7a4_69 rfl (lv_at hl 1 rfl) ?_
            refine lv_iconst (v := 2) hx hb dJ6_numberOfLeadingZeros_0f7a4_70 (by decide) ?_
            refine lv_iushr hx hb dJ6_numberOfLeadingZeros_0f7a4_71 rfl ?_
            refine pb_topi (z := nI ((u / 256) / 4)) ((pk_ushrN (by omega) 2 2 (by decide)).trans rfl) ?_
            refine lv_istore_n (lv' := [(0, .int (nI ((u / 256) / 4))), (1, .int 21)]) hx hb dJ6_numberOfLeadingZeros_0f7a4_72 rfl hl (by decide) rfl (fun ls hl => ?_)
            refine lv_iload_n hx hb dJ6_numberOfLeadingZeros_0f7a4_73 rfl (lv_at hl 1 rfl) ?_
            refine lv_iload_n hx hb dJ6_numberOfLeadingZeros_0f7a4_74 rfl (lv_at hl 0 rfl) ?_
            refine lv_iconst (v := 1) hx hb dJ6_numberOfLeadingZeros_0f7a4_75 (by decide) ?_
            refine lv_iushr hx hb dJ6_numberOfLeadingZeros_0f7a4_76 rfl ?_
            refine pb_topi (z := nI (((u / 256) / 4) / 2)) ((pk_ushrN (by omega) 1 1 (by decide)).trans rfl) ?_
            refine lv_isub hx hb dJ6_numberOfLeadingZeros_0f7a4_77 ?_
            exact pb_iret hx hb hr hlocks dJ6_numberOfLeadingZeros_0f7a4_78 (by rw [show (21 : Int32) = nI 21 from rfl, pk_sub (a := 21) (b := ((u / 256) / 4) / 2) (by omega)]; simp only [pb_nz, if_neg h0, if_neg hneg, if_true, if_false, *] <;> try rfl)
        · have w51 : ¬ (u / 256) < 16 := mt (nI_ltI (by omega) (by decide)).mpr q51
          refine lv_iinc (v := 19) (lv' := [(1, .int 19), (0, .int (nI (u / 256)))]) hx hb dJ6_numberOfLeadingZeros_0f7a4_54 hl (k := 1) rfl (by decide) (by decide) rfl (fun ls hl => ?_)
          refine lv_iload_n hx hb dJ6_numberOfLeadingZeros_0f7a4_57 rfl (lv_at hl 1 rfl) ?_
          refine lv_iconst (v := 4) hx hb dJ6_numberOfLeadingZeros_0f7a4_58 (by decide) ?_
          refine lv_iushr hx hb dJ6_numberOfLeadingZeros_0f7a4_59 rfl ?_
          refine pb_topi (z := nI ((u / 256) / 16)) ((pk_ushrN (by omega) 4 4 (by decide)).trans rfl) ?_
          refine lv_istore_n (lv' := [(0, .int (nI ((u / 256) / 16))), (1, .int 19)]) hx hb dJ6_numberOfLeadingZeros_0f7a4_60 rfl hl (by decide) rfl (fun ls hl => ?_)
          refine lv_iload_n hx hb dJ6_numberOfLeadingZeros_0f7a4_61 rfl (lv_at hl 0 rfl) ?_
          refine lv_iconst (v := 4) hx hb dJ6_numberOfLeadingZeros_0f7a4_62 (by decide) ?_
          refine lv_icmp_lt (tgt := 73) hx hb dJ6_numberOfLeadingZeros_0f7a4_63 (by decide) (fun q63 => ?_) (fun q63 => ?_)
          · have w63 : ((u / 256) / 16) < 4 := (nI_ltI (by omega) (by decide)).mp q63
            refine lv_iload_n hx hb dJ6_numberOfLeadingZeros_0f7a4_73 rfl (lv_at hl 1 rfl) ?_
            refine lv_iload_n hx hb dJ6_numberOfLeadingZeros_0f7a4_74 rfl (lv_at hl 0 rfl) ?_
            refine lv_iconst (v := 1) hx hb dJ6_numberOfLeadingZeros_0f7a4_75 (by decide) ?_
            refine lv_iushr hx hb dJ6_numberOfLeadingZeros_0f7a4_76 rfl ?_
            refine pb_topi (z := nI (((u / 256) / 16) / 2)) ((pk_ushrN (by omega) 1 1 (by decide)).trans rfl) ?_
            refine lv_isub hx hb dJ6_numberOfLeadingZeros_0f7a4_77 ?_
            exact pb_iret hx hb hr hlocks dJ6_numberOfLeadingZeros_0f7a4_78 (by rw [show (19 : Int32) = nI 19 from rfl, pk_sub (a := 19) (b := ((u / 256) / 16) / 2) (by omega)]; simp only [pb_nz, if_neg h0, if_neg hneg, if_true, if_false, *] <;> try rfl)
          · have w63 : ¬ ((u / 256) / 16) < 4 := mt (nI_ltI (by omega) (by decide)).mpr q63
            refine lv_iinc (v := 17) (lv' := [(1, .int 17), (0, .int (nI ((u / 256) / 16)))]) hx hb dJ6_numberOfLeadingZeros_0f7a4_66 hl (k := 1) rfl (by decide) (by decide) rfl (fun ls hl => ?_)
            refine lv_iload_n hx hb dJ6_numberOfLeadingZeros_0f7a4_69 rfl (lv_at hl 1 rfl) ?_
            refine lv_iconst (v := 2) hx hb dJ6_numberOfLeadingZeros_0f7a4_70 (by decide) ?_
            refine lv_iushr hx hb dJ6_numberOfLeadingZeros_0f7a4_71 rfl ?_
            refine pb_topi (z := nI (((u / 256) / 16) / 4)) ((pk_ushrN (by omega) 2 2 (by decide)).trans rfl) ?_
            refine lv_istore_n (lv' := [(0, .int (nI (((u / 256) / 16) / 4))), (1, .int 17)]) hx hb dJ6_numberOfLeadingZeros_0f7a4_72 rfl hl (by decide) rfl (fun ls hl => ?_)
            refine lv_iload_n hx hb dJ6_numberOfLeadingZeros_0f7a4_73 rfl (lv_at hl 1 rfl) ?_
            refine lv_iload_n hx hb dJ6_numberOfLeadingZeros_0f7a4_74 rfl (lv_at hl 0 rfl) ?_
            refine lv_iconst (v := 1) hx hb dJ6_numberOfLeadingZeros_0f7a4_75 (by decide) ?_
            refine lv_iushr hx hb dJ6_numberOfLeadingZeros_0f7a4_76 rfl ?_
            refine pb_topi (z := nI ((((u / 256) / 16) / 4) / 2)) ((pk_ushrN (by omega) 1 1 (by decide)).trans rfl) ?_
            refine lv_isub hx hb dJ6_numberOfLeadingZeros_0f7a4_77 ?_
            exact pb_iret hx hb hr hlocks dJ6_numberOfLeadingZeros_0f7a4_78 (by rw [show (17 : Int32) = nI 17 from rfl, pk_sub (a := 17) (b := (((u / 256) / 16) / 4) / 2) (by omega)]; simp only [pb_nz, if_neg h0, if_neg hneg, if_true, if_false, *] <;> try rfl)
    · have w22 : ¬ u < 65536 := mt (nI_ltI (by omega) (by decide)).mpr q22
      refine lv_iinc (v := 15) (lv' := [(1, .int 15), (0, .int (nI u))]) hx hb dJ6_numberOfLeadingZeros_0f7a4_25 hl (k := 0) rfl (by decide) (by decide) rfl (fun ls hl => ?_)
      refine lv_iload_n hx hb dJ6_numberOfLeadingZeros_0f7a4_28 rfl (lv_at hl 1 rfl) ?_
      refine lv_bipush (v := 16) hx hb dJ6_numberOfLeadingZeros_0f7a4_29 (by decide) ?_
      refine lv_iushr hx hb dJ6_numberOfLeadingZeros_0f7a4_31 rfl ?_
      refine pb_topi (z := nI (u / 65536)) ((pk_ushrN (by omega) 16 16 (by decide)).trans rfl) ?_
      refine lv_istore_n (lv' := [(0, .int (nI (u / 65536))), (1, .int 15)]) hx hb dJ6_numberOfLeadingZeros_0f7a4_32 rfl hl (by decide) rfl (fun ls hl => ?_)
      refine lv_iload_n hx hb dJ6_numberOfLeadingZeros_0f7a4_33 rfl (lv_at hl 0 rfl) ?_
      refine lv_sipush (v := 256) hx hb dJ6_numberOfLeadingZeros_0f7a4_34 (by decide) ?_
      refine lv_icmp_lt (tgt := 48) hx hb dJ6_numberOfLeadingZeros_0f7a4_37 (by decide) (fun q37 => ?_) (fun q37 => ?_)
      · have w37 : (u / 65536) < 256 := (nI_ltI (by omega) (by decide)).mp q37
        refine lv_iload_n hx hb dJ6_numberOfLeadingZeros_0f7a4_48 rfl (lv_at hl 0 rfl) ?_
        refine lv_bipush (v := 16) hx hb dJ6_numberOfLeadingZeros_0f7a4_49 (by decide) ?_
        refine lv_icmp_lt (tgt := 61) hx hb dJ6_numberOfLeadingZeros_0f7a4_51 (by decide) (fun q51 => ?_) (fun q51 => ?_)
        · have w51 : (u / 65536) < 16 := (nI_ltI (by omega) (by decide)).mp q51
          refine lv_iload_n hx hb dJ6_numberOfLeadingZeros_0f7a4_61 rfl (lv_at hl 0 rfl) ?_
          refine lv_iconst (v := 4) hx hb dJ6_numberOfLeadingZeros_0f7a4_62 (by decide) ?_
          refine lv_icmp_lt (tgt := 73) hx hb dJ6_numberOfLeadingZeros_0f7a4_63 (by decide) (fun q63 => ?_) (fun q63 => ?_)
          · have w63 : (u / 65536) < 4 := (nI_ltI (by omega) (by decide)).mp q63
            refine lv_iload_n hx hb dJ6_numberOfLeadingZeros_0f7a4_73 rfl (lv_at hl 1 rfl) ?_
            refine lv_iload_n hx hb dJ6_numberOfLeadingZeros_0f7a4_74 rfl (lv_at hl 0 rfl) ?_
            refine lv_iconst (v := 1) hx hb dJ6_numberOfLeadingZeros_0f7a4_75 (by decide) ?_
            refine lv_iushr hx hb dJ6_numberOfLeadingZeros_0f7a4_76 rfl ?_
            refine pb_topi (z := nI ((u / 65536) / 2)) ((pk_ushrN (by omega) 1 1 (by decide)).trans rfl) ?_
            refine lv_isub hx hb dJ6_numberOfLeadingZeros_0f7a4_77 ?_
            exact pb_iret hx hb hr hlocks dJ6_numberOfLeadingZeros_0f7a4_78 (by rw [show (15 : Int32) = nI 15 from rfl, pk_sub (a := 15) (b := (u / 65536) / 2) (by omega)]; simp only [pb_nz, if_neg h0, if_neg hneg, if_true, if_false, *] <;> try rfl)
          · have w63 : ¬ (u / 65536) < 4 := mt (nI_ltI (by omega) (by decide)).mpr q63
            refine lv_iinc (v := 13) (lv' := [(1, .int 13), (0, .int (nI (u / 65536)))]) hx hb dJ6_numberOfLeadingZeros_0f7a4_66 hl (k := 1) rfl (by decide) (by decide) rfl (fun ls hl => ?_)
            refine lv_iload_n hx hb dJ6_numberOfLeadingZeros_0f7a4_69 rfl (lv_at hl 1 rfl) ?_
            refine lv_iconst (v := 2) hx hb dJ6_numberOfLeadingZeros_0f7a4_70 (by decide) ?_
            refine lv_iushr hx hb dJ6_numberOfLeadingZeros_0f7a4_71 rfl ?_
            refine pb_topi (z := nI ((u / 65536) / 4)) ((pk_ushrN (by omega) 2 2 (by decide)).trans rfl) ?_
            refine lv_istore_n (lv' := [(0, .int (nI ((u / 65536) / 4))), (1, .int 13)]) hx hb dJ6_numberOfLeadingZeros_0f7a4_72 rfl hl (by decide) rfl (fun ls hl => ?_)
            refine lv_iload_n hx hb dJ6_numberOfLeadingZeros_0f7a4_73 rfl (lv_at hl 1 rfl) ?_
            refine lv_iload_n hx hb dJ6_numberOfLeadingZeros_0f7a4_74 rfl (lv_at hl 0 rfl) ?_
            refine lv_iconst (v := 1) hx hb dJ6_numberOfLeadingZeros_0f7a4_75 (by decide) ?_
            refine lv_iushr hx hb dJ6_numberOfLeadingZeros_0f7a4_76 rfl ?_
            refine pb_topi (z := nI (((u / 65536) / 4) / 2)) ((pk_ushrN (by omega) 1 1 (by decide)).trans rfl) ?_
            refine lv_isub hx hb dJ6_numberOfLeadingZeros_0f7a4_77 ?_
            exact pb_iret hx hb hr hlocks dJ6_numberOfLeadingZeros_0f7a4_78 (by rw [show (13 : Int32) = nI 13 from rfl, pk_sub (a := 13) (b := ((u / 65536) / 4) / 2) (by omega)]; simp only [pb_nz, if_neg h0, if_neg hneg, if_true, if_false, *] <;> try rfl)
        · have w51 : ¬ (u / 65536) < 16 := mt (nI_ltI (by omega) (by decide)).mpr q51
          refine lv_iinc (v := 11) (lv' := [(1, .int 11), (0, .int (nI (u / 65536)))]) hx hb dJ6_numberOfLeadingZeros_0f7a4_54 hl (k := 1) rfl (by decide) (by decide) rfl (fun ls hl => ?_)
          refine lv_iload_n hx hb dJ6_numberOfLeadingZeros_0f7a4_57 rfl (lv_at hl 1 rfl) ?_
          refine lv_iconst (v := 4) hx hb dJ6_numberOfLeadingZeros_0f7a4_58 (by decide) ?_
          refine lv_iushr hx hb dJ6_numberOfLeadingZeros_0f7a4_59 rfl ?_
          refine pb_topi (z := nI ((u / 65536) / 16)) ((pk_ushrN (by omega) 4 4 (by decide)).trans rfl) ?_
          refine lv_istore_n (lv' := [(0, .int (nI ((u / 65536) / 16))), (1, .int 11)]) hx hb dJ6_numberOfLeadingZeros_0f7a4_60 rfl hl (by decide) rfl (fun ls hl => ?_)
          refine lv_iload_n hx hb dJ6_numberOfLeadingZeros_0f7a4_61 rfl (lv_at hl 0 rfl) ?_
          refine lv_iconst (v := 4) hx hb dJ6_numberOfLeadingZeros_0f7a4_62 (by decide) ?_
          refine lv_icmp_lt (tgt := 73) hx hb dJ6_numberOfLeadingZeros_0f7a4_63 (by decide) (fun q63 => ?_) (fun q63 => ?_)
          · have w63 : ((u / 65536) / 16) < 4 := (nI_ltI (by omega) (by decide)).mp q63
            refine lv_iload_n hx hb dJ6_numberOfLeadingZeros_0f7a4_73 rfl (lv_at hl 1 rfl) ?_
            refine lv_iload_n hx hb dJ6_numberOfLeadingZeros_0f7a4_74 rfl (lv_at hl 0 rfl) ?_
            refine lv_iconst (v := 1) hx hb dJ6_numberOfLeadingZeros_0f7a4_75 (by decide) ?_
            refine lv_iushr hx hb dJ6_numberOfLeadingZeros_0f7a4_76 rfl ?_
            refine pb_topi (z := nI (((u / 65536) / 16) / 2)) ((pk_ushrN (by omega) 1 1 (by decide)).trans rfl) ?_
            refine lv_isub hx hb dJ6_numberOfLeadingZeros_0f7a4_77 ?_
            exact pb_iret hx hb hr hlocks dJ6_numberOfLeadingZeros_0f7a4_78 (by rw [show (11 : Int32) = nI 11 from rfl, pk_sub (a := 11) (b := ((u / 65536) / 16) / 2) (by omega)]; simp only [pb_nz, if_neg h0, if_neg hneg, if_true, if_false, *] <;> try rfl)
          · have w63 : ¬ ((u / 65536) / 16) < 4 := mt (nI_ltI (by omega) (by decide)).mpr q63
            refine lv_iinc (v := 9) (lv' := [(1, .int 9), (0, .int (nI ((u / 65536) / 16)))]) hx hb dJ6_numberOfLeadingZeros_0f7a4_66 hl (k := 1) rfl (by decide) (by decide) rfl (fun ls hl => ?_)
            refine lv_iload_n hx hb dJ6_numberOfLeadingZeros_0f7a4_69 rfl (lv_at hl 1 rfl) ?_
            refine lv_iconst (v := 2) hx hb dJ6_numberOfLeadingZeros_0f7a4_70 (by decide) ?_
            refine lv_iushr hx hb dJ6_numberOfLeadingZeros_0f7a4_71 rfl ?_
            refine pb_topi (z := nI (((u / 65536) / 16) / 4)) ((pk_ushrN (by omega) 2 2 (by decide)).trans rfl) ?_
            refine lv_istore_n (lv' := [(0, .int (nI (((u / 65536) / 16) / 4))), (1, .int 9)]) hx hb dJ6_numberOfLeadingZeros_0f7a4_72 rfl hl (by decide) rfl (fun ls hl => ?_)
            refine lv_iload_n hx hb dJ6_numberOfLeadingZeros_0f7a4_73 rfl (lv_at hl 1 rfl) ?_
            refine lv_iload_n hx hb dJ6_numberOfLeadingZeros_0f7a4_74 rfl (lv_at hl 0 rfl) ?_
            refine lv_iconst (v := 1) hx hb dJ6_numberOfLeadingZeros_0f7a4_75 (by decide) ?_
            refine lv_iushr hx hb dJ6_numberOfLeadingZeros_0f7a4_76 rfl ?_
            refine pb_topi (z := nI ((((u / 65536) / 16) / 4) / 2)) ((pk_ushrN (by omega) 1 1 (by decide)).trans rfl) ?_
            refine lv_isub hx hb dJ6_numberOfLeadingZeros_0f7a4_77 ?_
            exact pb_iret hx hb hr hlocks dJ6_numberOfLeadingZeros_0f7a4_78 (by rw [show (9 : Int32) = nI 9 from rfl, pk_sub (a := 9) (b := (((u / 65536) / 16) / 4) / 2) (by omega)]; simp only [pb_nz, if_neg h0, if_neg hneg, if_true, if_false, *] <;> try rfl)
      · have w37 : ¬ (u / 65536) < 256 := mt (nI_ltI (by omega) (by decide)).mpr q37
        refine lv_iinc (v := 7) (lv' := [(1, .int 7), (0, .int (nI (u / 65536)))]) hx hb dJ6_numberOfLeadingZeros_0f7a4_40 hl (k := 1) rfl (by decide) (by decide) rfl (fun ls hl => ?_)
        refine lv_iload_n hx hb dJ6_numberOfLeadingZeros_0f7a4_43 rfl (lv_at hl 1 rfl) ?_
        refine lv_bipush (v := 8) hx hb dJ6_numberOfLeadingZeros_0f7a4_44 (by decide) ?_
        refine lv_iushr hx hb dJ6_numberOfLeadingZeros_0f7a4_46 rfl ?_
        refine pb_topi (z := nI ((u / 65536) / 256)) ((pk_ushrN (by omega) 8 8 (by decide)).trans rfl) ?_
        refine lv_istore_n (lv' := [(0, .int (nI ((u / 65536) / 256))), (1, .int 7)]) hx hb dJ6_numberOfLeadingZeros_0f7a4_47 rfl hl (by decide) rfl (fun ls hl => ?_)
        refine lv_iload_n hx hb dJ6_numberOfLeadingZeros_0f7a4_48 rfl (lv_at hl 0 rfl) ?_
        refine lv_bipush (v := 16) hx hb dJ6_numberOfLeadingZeros_0f7a4_49 (by decide) ?_
        refine lv_icmp_lt (tgt := 61) hx hb dJ6_numberOfLeadingZeros_0f7a4_51 (by decide) (fun q51 => ?_) (fun q51 => ?_)
        · have w51 : ((u / 65536) / 256) < 16 := (nI_ltI (by omega) (by decide)).mp q51
          refine lv_iload_n hx hb dJ6_numberOfLeadingZeros_0f7a4_61 rfl (lv_at hl 0 rfl) ?_
          refine lv_iconst (v := 4) hx hb dJ6_numberOfLeadingZeros_0f7a4_62 (by decide) ?_
          refine lv_icmp_lt (tgt := 73) hx hb dJ6_numberOfLeadingZeros_0f7a4_63 (by decide) (fun q63 => ?_) (fun q63 => ?_)
          · have w63 : ((u / 65536) / 256) < 4 := (nI_ltI (by omega) (by decide)).mp q63
            refine lv_iload_n hx hb dJ6_numberOfLeadingZeros_0f7a4_73 rfl (lv_at hl 1 rfl) ?_
            refine lv_iload_n hx hb dJ6_numberOfLeadingZeros_0f7a4_74 rfl (lv_at hl 0 rfl) ?_
            refine lv_iconst (v := 1) hx hb dJ6_numberOfLeadingZeros_0f7a4_75 (by decide) ?_
            refine lv_iushr hx hb dJ6_numberOfLeadingZeros_0f7a4_76 rfl ?_
            refine pb_topi (z := nI (((u / 65536) / 256) / 2)) ((pk_ushrN (by omega) 1 1 (by decide)).trans rfl) ?_
            refine lv_isub hx hb dJ6_numberOfLeadingZeros_0f7a4_77 ?_
            exact pb_iret hx hb hr hlocks dJ6_numberOfLeadingZeros_0f7a4_78 (by rw [show (7 : Int32) = nI 7 from rfl, pk_sub (a := 7) (b := ((u / 65536) / 256) / 2) (by omega)]; simp only [pb_nz, if_neg h0, if_neg hneg, if_true, if_false, *] <;> try rfl)
          · have w63 : ¬ ((u / 65536) / 256) < 4 := mt (nI_ltI (by omega) (by decide)).mpr q63
            refine lv_iinc (v := 5) (lv' := [(1, .int 5), (0, .int (nI ((u / 65536) / 256)))]) hx hb dJ6_numberOfLeadingZeros_0f7a4_66 hl (k := 1) rfl (by decide) (by decide) rfl (fun ls hl => ?_)
            refine lv_iload_n hx hb dJ6_numberOfLeadingZeros_0f7a4_69 rfl (lv_at hl 1 rfl) ?_
            refine lv_iconst (v := 2) hx hb dJ6_numberOfLeadingZeros_0f7a4_70 (by decide) ?_
            refine lv_iushr hx hb dJ6_numberOfLeadingZeros_0f7a4_71 rfl ?_
            refine pb_topi (z := nI (((u / 65536) / 256) / 4)) ((pk_ushrN (by omega) 2 2 (by decide)).trans rfl) ?_
            refine lv_istore_n (lv' := [(0, .int (nI (((u / 65536) / 256) / 4))), (1, .int 5)]) hx hb dJ6_numberOfLeadingZeros_0f7a4_72 rfl hl (by decide) rfl (fun ls hl => ?_)
            refine lv_iload_n hx hb dJ6_numberOfLeadingZeros_0f7a4_73 rfl (lv_at hl 1 rfl) ?_
            refine lv_iload_n hx hb dJ6_numberOfLeadingZeros_0f7a4_74 rfl (lv_at hl 0 rfl) ?_
            refine lv_iconst (v := 1) hx hb dJ6_numberOfLeadingZeros_0f7a4_75 (by decide) ?_
            refine lv_iushr hx hb dJ6_numberOfLeadingZeros_0f7a4_76 rfl ?_
            refine pb_topi (z := nI ((((u / 65536) / 256) / 4) / 2)) ((pk_ushrN (by omega) 1 1 (by decide)).trans rfl) ?_
            refine lv_isub hx hb dJ6_numberOfLeadingZeros_0f7a4_77 ?_
            exact pb_iret hx hb hr hlocks dJ6_numberOfLeadingZeros_0f7a4_78 (by rw [show (5 : Int32) = nI 5 from rfl, pk_sub (a := 5) (b := (((u / 65536) / 256) / 4) / 2) (by omega)]; simp only [pb_nz, if_neg h0, if_neg hneg, if_true, if_false, *] <;> try rfl)
        · have w51 : ¬ ((u / 65536) / 256) < 16 := mt (nI_ltI (by omega) (by decide)).mpr q51
          refine lv_iinc (v := 3) (lv' := [(1, .int 3), (0, .int (nI ((u / 65536) / 256)))]) hx hb dJ6_numberOfLeadingZeros_0f7a4_54 hl (k := 1) rfl (by decide) (by decide) rfl (fun ls hl => ?_)
          refine lv_iload_n hx hb dJ6_numberOfLeadingZeros_0f7a4_57 rfl (lv_at hl 1 rfl) ?_
          refine lv_iconst (v := 4) hx hb dJ6_numberOfLeadingZeros_0f7a4_58 (by decide) ?_
          refine lv_iushr hx hb dJ6_numberOfLeadingZeros_0f7a4_59 rfl ?_
          refine pb_topi (z := nI (((u / 65536) / 256) / 16)) ((pk_ushrN (by omega) 4 4 (by decide)).trans rfl) ?_
          refine lv_istore_n (lv' := [(0, .int (nI (((u / 65536) / 256) / 16))), (1, .int 3)]) hx hb dJ6_numberOfLeadingZeros_0f7a4_60 rfl hl (by decide) rfl (fun ls hl => ?_)
          refine lv_iload_n hx hb dJ6_numberOfLeadingZeros_0f7a4_61 rfl (lv_at hl 0 rfl) ?_
          refine lv_iconst (v := 4) hx hb dJ6_numberOfLeadingZeros_0f7a4_62 (by decide) ?_
          refine lv_icmp_lt (tgt := 73) hx hb dJ6_numberOfLeadingZeros_0f7a4_63 (by decide) (fun q63 => ?_) (fun q63 => ?_)
          · have w63 : (((u / 65536) / 256) / 16) < 4 := (nI_ltI (by omega) (by decide)).mp q63
            refine lv_iload_n hx hb dJ6_numberOfLeadingZeros_0f7a4_73 rfl (lv_at hl 1 rfl) ?_
            refine lv_iload_n hx hb dJ6_numberOfLeadingZeros_0f7a4_74 rfl (lv_at hl 0 rfl) ?_
            refine lv_iconst (v := 1) hx hb dJ6_numberOfLeadingZeros_0f7a4_75 (by decide) ?_
            refine lv_iushr hx hb dJ6_numberOfLeadingZeros_0f7a4_76 rfl ?_
            refine pb_topi (z := nI ((((u / 65536) / 256) / 16) / 2)) ((pk_ushrN (by omega) 1 1 (by decide)).trans rfl) ?_
            refine lv_isub hx hb dJ6_numberOfLeadingZeros_0f7a4_77 ?_
            exact pb_iret hx hb hr hlocks dJ6_numberOfLeadingZeros_0f7a4_78 (by rw [show (3 : Int32) = nI 3 from rfl, pk_sub (a := 3) (b := (((u / 65536) / 256) / 16) / 2) (by omega)]; simp only [pb_nz, if_neg h0, if_neg hneg, if_true, if_false, *] <;> try rfl)
          · have w63 : ¬ (((u / 65536) / 256) / 16) < 4 := mt (nI_ltI (by omega) (by decide)).mpr q63
            refine lv_iinc (v := 1) (lv' := [(1, .int 1), (0, .int (nI (((u / 65536) / 256) / 16)))]) hx hb dJ6_numberOfLeadingZeros_0f7a4_66 hl (k := 1) rfl (by decide) (by decide) rfl (fun ls hl => ?_)
            refine lv_iload_n hx hb dJ6_numberOfLeadingZeros_0f7a4_69 rfl (lv_at hl 1 rfl) ?_
            refine lv_iconst (v := 2) hx hb dJ6_numberOfLeadingZeros_0f7a4_70 (by decide) ?_
            refine lv_iushr hx hb dJ6_numberOfLeadingZeros_0f7a4_71 rfl ?_
            refine pb_topi (z := nI ((((u / 65536) / 256) / 16) / 4)) ((pk_ushrN (by omega) 2 2 (by decide)).trans rfl) ?_
            refine lv_istore_n (lv' := [(0, .int (nI ((((u / 65536) / 256) / 16) / 4))), (1, .int 1)]) hx hb dJ6_numberOfLeadingZeros_0f7a4_72 rfl hl (by decide) rfl (fun ls hl => ?_)
            refine lv_iload_n hx hb dJ6_numberOfLeadingZeros_0f7a4_73 rfl (lv_at hl 1 rfl) ?_
            refine lv_iload_n hx hb dJ6_numberOfLeadingZeros_0f7a4_74 rfl (lv_at hl 0 rfl) ?_
            refine lv_iconst (v := 1) hx hb dJ6_numberOfLeadingZeros_0f7a4_75 (by decide) ?_
            refine lv_iushr hx hb dJ6_numberOfLeadingZeros_0f7a4_76 rfl ?_
            refine pb_topi (z := nI (((((u / 65536) / 256) / 16) / 4) / 2)) ((pk_ushrN (by omega) 1 1 (by decide)).trans rfl) ?_
            refine lv_isub hx hb dJ6_numberOfLeadingZeros_0f7a4_77 ?_
            exact pb_iret hx hb hr hlocks dJ6_numberOfLeadingZeros_0f7a4_78 (by rw [show (1 : Int32) = nI 1 from rfl, pk_sub (a := 1) (b := ((((u / 65536) / 256) / 16) / 4) / 2) (by omega)]; simp only [pb_nz, if_neg h0, if_neg hneg, if_true, if_false, *] <;> try rfl)
  · refine lv_iload_n hx hb dJ6_numberOfLeadingZeros_0f7a4_4 rfl (lv_at hl 0 rfl) ?_
    refine lv_if_ne (tgt := 13) hx hb dJ6_numberOfLeadingZeros_0f7a4_5 (by decide) (fun q5 => ?_) (fun q5 => ?_)
    · have h0 : u ≠ 0 := fun z => q5 (by rw [z]; rfl)
      have hneg : 2 ^ 31 ≤ u := by
        rcases Nat.lt_or_ge u (2 ^ 31) with z | z
        · exact absurd ((nI_ltI (a := 0) (b := u) (by decide) z).mpr (by omega)) q1
        · exact z
      refine lv_iconst (v := 0) hx hb dJ6_numberOfLeadingZeros_0f7a4_13 (by decide) ?_
      exact pb_iret hx hb hr hlocks dJ6_numberOfLeadingZeros_0f7a4_14 (by rw [pb_nz, if_neg h0, if_pos hneg]; rfl)
    · have h0 : u = 0 := by have := congrArg pb_u q5; rw [pb_u_of hu] at this; exact this
      refine lv_bipush (v := 32) hx hb dJ6_numberOfLeadingZeros_0f7a4_8 (by decide) ?_
      refine lv_goto (tgt := 14) hx hb dJ6_numberOfLeadingZeros_0f7a4_10 (by decide) ?_
      exact pb_iret hx hb hr hlocks dJ6_numberOfLeadingZeros_0f7a4_14 (by rw [h0]; rfl)

end PB3
