/-! JDK members: Long.bitCount, Integer.numberOfLeadingZeros; bits of a set (laid by wip/gen/p06.py) -/
section PB3
/-- how many of the first bits of a number are set -/
def pb_bits (a : Nat) : Nat → Nat
  | 0 => 0
  | n + 1 => pb_bits a n + a / 2 ^ n % 2
def pb_M (mz : Nat) : Nat → Nat
  | 0 => 0
  | n + 1 => mz + 256 * pb_M mz n
theorem pb_M5 : pb_M 85 8 = 6148914691236517205 := by decide +kernel
theorem pb_M3 : pb_M 51 8 = 3689348814741910323 := by decide +kernel
theorem pb_MF : pb_M 15 8 = 1085102592571150095 := by decide +kernel
theorem pb_and_split {u v mz w : Nat} (hu : u < 256) (hm : mz < 256) : (u + 256 * v) &&& (mz + 256 * w) = (u &&& mz) + 256 * (v &&& w) := by
  have h := Nat.div_add_mod ((u + 256 * v) &&& (mz + 256 * w)) (2 ^ 8)
  rw [Nat.and_div_two_pow, Nat.and_mod_two_pow] at h
  rw [show (u + 256 * v) / 2 ^ 8 = v by omega, show (mz + 256 * w) / 2 ^ 8 = w by omega, show (u + 256 * v) % 2 ^ 8 = u by omega, show (mz + 256 * w) % 2 ^ 8 = mz by omega] at h
  omega
def pb_d1 : Nat → Nat → Nat
  | 0, _ => 0
  | n + 1, a => (a % 256 - (a % 256 / 2 &&& 85)) + 256 * pb_d1 n (a / 256)
def pb_t (b : Nat) : Nat := ((b - (b / 2 &&& 85)) &&& 51) + ((b - (b / 2 &&& 85)) / 4 &&& 51)
def pb_d2 : Nat → Nat → Nat
  | 0, _ => 0
  | n + 1, a => pb_t (a % 256) + 256 * pb_d2 n (a / 256)
def pb_d3 : Nat → Nat → Nat
  | 0, _ => 0
  | n + 1, a => pb_bits (a % 256) 8 + 256 * pb_d3 n (a / 256)
theorem pb_k1 : ∀ b, b < 256 → ∀ x, x < 2 → (b / 2 + 128 * x) &&& 85 = b / 2 &&& 85 := by decide +kernel
theorem pb_k2 : ∀ b, b < 256 → ∀ x, x < 4 → (b / 4 + 64 * x) &&& 51 = b / 4 &&& 51 := by decide +kernel
theorem pb_k3 : ∀ b, b < 69 → ∀ x, x < 5 → (b + b / 16 + 16 * x) &&& 15 = (b + b / 16) &&& 15 := by decide +kernel
theorem pb_k4 : ∀ b, b < 256 → pb_t b < 69 ∧ pb_t b % 16 ≤ 4 ∧ (pb_t b + pb_t b / 16) &&& 15 = pb_bits b 8 ∧ pb_bits b 8 ≤ 8 := by decide +kernel
theorem pb_S1 : ∀ n a, a < 256 ^ n → a - (a / 2 &&& pb_M 85 n) = pb_d1 n a
  | 0, a, h => by
    have : a = 0 := by simpa using h
    subst this; rfl
  | n + 1, a, h => by
    have hc : a / 256 < 256 ^ n := by rw [Nat.pow_succ] at h; omega
    have ih := pb_S1 n (a / 256) hc
    have e1 : a / 2 = (a % 256 / 2 + 128 * (a / 256 % 2)) + 256 * (a / 256 / 2) := by omega
    have hb : a % 256 < 256 := Nat.mod_lt _ (by decide)
    have hx : a / 256 % 2 < 2 := Nat.mod_lt _ (by decide)
    rw [e1, pb_M, pb_and_split (by omega) (by decide), pb_k1 _ hb _ hx, pb_d1, ← ih]
    have h1 : (a % 256 / 2 &&& 85) ≤ a % 256 / 2 := Nat.and_le_left
    have h2 : (a / 256 / 2 &&& pb_M 85 n) ≤ a / 256 / 2 := Nat.and_le_left
    omega
theorem pb_S2 : ∀ n a, (pb_d1 n a &&& pb_M 51 n) + (pb_d1 n a / 4 &&& pb_M 51 n) = pb_d2 n a
  | 0, a => by simp [pb_d1, pb_d2]
  | n + 1, a => by
    have ih := pb_S2 n (a / 256)
    have hb : a % 256 < 256 := Nat.mod_lt _ (by decide)
    obtain ⟨x, hx⟩ : ∃ x, x = a % 256 - (a % 256 / 2 &&& 85) := ⟨_, rfl⟩
    obtain ⟨y, hy⟩ : ∃ y, y = pb_d1 n (a / 256) := ⟨_, rfl⟩
    have hx8 : x < 256 := by omega
    rw [pb_d1, pb_d2, pb_t, ← hx, ← hy, ← ih, ← hy, pb_M, pb_and_split hx8 (by decide)]
    have e1 : (x + 256 * y) / 4 = (x / 4 + 64 * (y % 4)) + 256 * (y / 4) := by omega
    rw [e1, pb_and_split (by omega) (by decide), pb_k2 _ hx8 _ (Nat.mod_lt _ (by decide))]
    omega
theorem pb_d2_low (n a : Nat) : pb_d2 n a % 16 ≤ 4 := by
  cases n with
  | zero => exact Nat.zero_le _
  | succ n =>
    have := (pb_k4 (a % 256) (Nat.mod_lt _ (by decide))).2.1
    rw [pb_d2]; omega
theorem pb_S3 : ∀ n a, (pb_d2 n a + pb_d2 n a / 16) &&& pb_M 15 n = pb_d3 n a
  | 0, a => by simp [pb_d2, pb_d3]
  | n + 1, a => by
    have ih := pb_S3 n (a / 256)
    obtain ⟨k1, k2, k3, k4⟩ := pb_k4 (a % 256) (Nat.mod_lt _ (by decide))
    have hl := pb_d2_low n (a / 256)
    rw [pb_d2, pb_d3, ← k3, ← ih]
    obtain ⟨x, hx⟩ : ∃ x, x = pb_t (a % 256) := ⟨_, rfl⟩
    obtain ⟨y, hy⟩ : ∃ y, y = pb_d2 n (a / 256) := ⟨_, rfl⟩
    rw [← hx] at k1 k2 ⊢
    rw [← hy] at hl ⊢
    have e1 : x + 256 * y + (x + 256 * y) / 16 = (x + x / 16 + 16 * (y % 16)) + 256 * (y + y / 16) := by omega
    rw [e1, pb_M, pb_and_split (by omega) (by decide), pb_k3 _ k1 _ (by omega)]
theorem pb_bits_le (a : Nat) : ∀ n, pb_bits a n ≤ n
  | 0 => Nat.le_refl _
  | n + 1 => by
    have := pb_bits_le a n
    have := Nat.mod_lt (a / 2 ^ n) (y := 2) (by decide)
    rw [pb_bits]; omega
theorem pb_bits_mod (a : Nat) : pb_bits (a % 256) 8 = pb_bits a 8 := by
  simp only [pb_bits]
  omega
theorem pb_bits_split (a : Nat) : ∀ n, pb_bits a (8 + n) = pb_bits (a % 256) 8 + pb_bits (a / 256) n
  | 0 => by rw [pb_bits_mod]; rfl
  | n + 1 => by
    have e1 : pb_bits a (8 + (n + 1)) = pb_bits a (8 + n) + a / 2 ^ (8 + n) % 2 := rfl
    have e2 : pb_bits (a / 256) (n + 1) = pb_bits (a / 256) n + a / 256 / 2 ^ n % 2 := rfl
    have e3 : a / 2 ^ (8 + n) = a / 256 / 2 ^ n := by rw [Nat.pow_add, show (2 : Nat) ^ 8 = 256 from rfl, ← Nat.div_div_eq_div_mul]
    rw [e1, e2, e3, pb_bits_split a n, Nat.add_assoc]
theorem pb_dv {lo hi mz : Nat} (h : lo < mz) : (lo + mz * hi) / mz = hi := by
  rw [Nat.add_mul_div_left _ _ (Nat.lt_of_le_of_lt (Nat.zero_le _) h), Nat.div_eq_of_lt h, Nat.zero_add]
theorem pb_e1 {p0 p1 p2 r1 r2 r3 y : Nat} (g0 : y = p0 + 256 * r1) (g1 : r1 = p1 + 256 * r2) (g2 : r2 = p2 + 256 * r3) : y + r1 = ((p0 + p1) + 256 * (p1 + p2)) + 65536 * (r2 + r3) := by omega
theorem pb_e2 {p0 p1 p2 p3 p4 p5 p6 r2 r3 r4 r5 r6 r7 : Nat} (g2 : r2 = p2 + 256 * r3) (g3 : r3 = p3 + 256 * r4) (g4 : r4 = p4 + 256 * r5) (g5 : r5 = p5 + 256 * r6) (g6 : r6 = p6 + 256 * r7) : ((p0 + p1) + 256 * (p1 + p2)) + 65536 * (r2 + r3) + (r2 + r3) = ((p0 + p1 + p2 + p3) + 256 * (p1 + p2 + p3 + p4) + 65536 * (p2 + p3 + p4 + p5) + 16777216 * (p3 + p4 + p5 + p6)) + 4294967296 * (r4 + r5 + r6 + r7) := by omega
theorem pb_e3 {p0 p1 p2 p3 p4 p5 p6 p7 r1 r2 r3 r4 r5 r6 r7 y : Nat} (g0 : y = p0 + 256 * r1) (g1 : r1 = p1 + 256 * r2) (g2 : r2 = p2 + 256 * r3) (g3 : r3 = p3 + 256 * r4) (g4 : r4 = p4 + 256 * r5) (g5 : r5 = p5 + 256 * r6) (g6 : r6 = p6 + 256 * r7) (g7 : r7 = p7) : y + r1 + (r2 + r3) + (r4 + r5 + r6 + r7) = (p0 + (p1 + (p2 + (p3 + (p4 + (p5 + (p6 + p7))))))) + 128 * (2 * (r1 + r2 + r3 + r4 + r5 + r6 + r7)) := by omega
theorem pb_b1 {p0 p1 p2 : Nat} (h0 : p0 ≤ 8) (h1 : p1 ≤ 8) (h2 : p2 ≤ 8) : (p0 + p1) + 256 * (p1 + p2) < 65536 := by omega
theorem pb_b2 {p0 p1 p2 p3 p4 p5 p6 : Nat} (h0 : p0 ≤ 8) (h1 : p1 ≤ 8) (h2 : p2 ≤ 8) (h3 : p3 ≤ 8) (h4 : p4 ≤ 8) (h5 : p5 ≤ 8) (h6 : p6 ≤ 8) : (p0 + p1 + p2 + p3) + 256 * (p1 + p2 + p3 + p4) + 65536 * (p2 + p3 + p4 + p5) + 16777216 * (p3 + p4 + p5 + p6) < 4294967296 := by omega
theorem pb_b3 {p0 p1 p2 p3 p4 p5 p6 p7 : Nat} (h0 : p0 ≤ 8) (h1 : p1 ≤ 8) (h2 : p2 ≤ 8) (h3 : p3 ≤ 8) (h4 : p4 ≤ 8) (h5 : p5 ≤ 8) (h6 : p6 ≤ 8) (h7 : p7 ≤ 8) : p0 + (p1 + (p2 + (p3 + (p4 + (p5 + (p6 + p7)))))) < 128 := by omega
theorem pb_sum8 {p0 p1 p2 p3 p4 p5 p6 p7 r1 r2 r3 r4 r5 r6 r7 y y1 y2 y3 : Nat} (h0 : p0 ≤ 8) (h1 : p1 ≤ 8) (h2 : p2 ≤ 8) (h3 : p3 ≤ 8) (h4 : p4 ≤ 8) (h5 : p5 ≤ 8) (h6 : p6 ≤ 8) (h7 : p7 ≤ 8) (g0 : y = p0 + 256 * r1) (g1 : r1 = p1 + 256 * r2) (g2 : r2 = p2 + 256 * r3) (g3 : r3 = p3 + 256 * r4) (g4 : r4 = p4 + 256 * r5) (g5 : r5 = p5 + 256 * r6) (g6 : r6 = p6 + 256 * r7) (g7 : r7 = p7) (e1 : y1 = y + y / 256) (e2 : y2 = y1 + y1 / 65536) (e3 : y3 = y2 + y2 / 4294967296) : y3 % 128 = p0 + (p1 + (p2 + (p3 + (p4 + (p5 + (p6 + p7)))))) := by
  have f1 : y / 256 = r1 := by rw [g0]; exact pb_dv (Nat.lt_of_le_of_lt h0 (by decide))
  have k1 : y1 = ((p0 + p1) + 256 * (p1 + p2)) + 65536 * (r2 + r3) := by rw [e1, f1]; exact pb_e1 g0 g1 g2
  have f2 : y1 / 65536 = r2 + r3 := by rw [k1]; exact pb_dv (pb_b1 h0 h1 h2)
  have k2 : y2 = ((p0 + p1 + p2 + p3) + 256 * (p1 + p2 + p3 + p4) + 65536 * (p2 + p3 + p4 + p5) + 16777216 * (p3 + p4 + p5 + p6)) + 4294967296 * (r4 + r5 + r6 + r7) := by rw [e2, f2, k1]; exact pb_e2 g2 g3 g4 g5 g6
  have f3 : y2 / 4294967296 = r4 + r5 + r6 + r7 := by rw [k2]; exact pb_dv (pb_b2 h0 h1 h2 h3 h4 h5 h6)
  have k3 : y3 = (p0 + (p1 + (p2 + (p3 + (p4 + (p5 + (p6 + p7))))))) + 128 * (2 * (r1 + r2 + r3 + r4 + r5 + r6 + r7)) := by
    rw [e3, f3, e2, f2, e1, f1]
    exact pb_e3 g0 g1 g2 g3 g4 g5 g6 g7
  rw [k3, Nat.add_mul_mod_self_left]
  exact Nat.mod_eq_of_lt (pb_b3 h0 h1 h2 h3 h4 h5 h6 h7)
theorem pb_d3_s (n a : Nat) : pb_d3 (n + 1) a = pb_bits (a % 256) 8 + 256 * pb_d3 n (a / 256) := rfl
theorem pb_d3_1 (a : Nat) : pb_d3 1 a = pb_bits (a % 256) 8 := by rw [pb_d3_s]; rfl
theorem pb_bits64 (a : Nat) : pb_bits a 64 = pb_bits (a % 256) 8 + (pb_bits (a / 256 % 256) 8 + (pb_bits (a / 256 / 256 % 256) 8 + (pb_bits (a / 256 / 256 / 256 % 256) 8 + (pb_bits (a / 256 / 256 / 256 / 256 % 256) 8 + (pb_bits (a / 256 / 256 / 256 / 256 / 256 % 256) 8 + (pb_bits (a / 256 / 256 / 256 / 256 / 256 / 256 % 256) 8 + pb_bits (a / 256 / 256 / 256 / 256 / 256 / 256 / 256 % 256) 8)))))) := by
  have e0 := pb_bits_split a 56
  have e1 := pb_bits_split (a / 256) 48
  have e2 := pb_bits_split (a / 256 / 256) 40
  have e3 := pb_bits_split (a / 256 / 256 / 256) 32
  have e4 := pb_bits_split (a / 256 / 256 / 256 / 256) 24
  have e5 := pb_bits_split (a / 256 / 256 / 256 / 256 / 256) 16
  have e6 := pb_bits_split (a / 256 / 256 / 256 / 256 / 256 / 256) 8
  have e7 := pb_bits_mod (a / 256 / 256 / 256 / 256 / 256 / 256 / 256)
  rw [← e7] at e6
  exact e0.trans (congrArg _ (e1.trans (congrArg _ (e2.trans (congrArg _ (e3.trans (congrArg _ (e4.trans (congrArg _ (e5.trans (congrArg _ e6)))))))))))
theorem pb_pop {a y y1 y2 y3 : Nat} (e0 : y = pb_d3 8 a) (e1 : y1 = y + y / 256) (e2 : y2 = y1 + y1 / 65536) (e3 : y3 = y2 + y2 / 4294967296) : y3 % 128 = pb_bits a 64 := by
  have hk : ∀ b, pb_bits (b % 256) 8 ≤ 8 := fun b => pb_bits_le _ _
  rw [pb_bits64]
  exact pb_sum8 (hk _) (hk _) (hk _) (hk _) (hk _) (hk _) (hk _) (hk _) (e0.trans (pb_d3_s 7 a)) (pb_d3_s 6 _) (pb_d3_s 5 _) (pb_d3_s 4 _) (pb_d3_s 3 _) (pb_d3_s 2 _) (pb_d3_s 1 _) (pb_d3_1 _) e1 e2 e3
theorem pb_d2_lt : ∀ n a, pb_d2 n a < 256 ^ n
  | 0, a => by simp [pb_d2]
  | n + 1, a => by
    have := pb_d2_lt n (a / 256)
    have := (pb_k4 (a % 256) (Nat.mod_lt _ (by decide))).1
    rw [pb_d2, Nat.pow_succ]; omega
theorem pb_d3_lt : ∀ n a, pb_d3 n a ≤ 8 * pb_M 1 n
  | 0, a => by simp [pb_d3]
  | n + 1, a => by
    have := pb_d3_lt n (a / 256)
    have := pb_bits_le (a % 256) 8
    rw [pb_d3, pb_M]; omega
theorem pb_ush {a : Nat} (k pz : Nat) (ha : a < 2 ^ 64) (hk : k < 64) (hp : 2 ^ k = pz) : ((lN a).toUInt64 >>> ((nI k).toInt64.toUInt64 &&& Int64.toUInt64 63)).toInt64 = lN (a / pz) := by rw [← hp]; exact wb_shr ha hk
end PB3
