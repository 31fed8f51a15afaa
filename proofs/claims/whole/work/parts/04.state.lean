/-! STATE: the worlds of the two objects, a list of routes, numbers, the place of a key. -/
section PB1
abbrev pb_ty (cI cJ : ClassId) : List (ClassId × FieldType) := [(cJ, .long), (cI, .int)]
abbrev pb_wX (cI cJ : ClassId) (h0 k1 c1 h1 cap : Nat) (Kf : Nat → Int64) (Cf : Nat → Int32) (Hf : Nat → Int64) (n : Int32) : va_W := [(h0, .inr (0, [.ref k1, .ref c1, .ref h1, .int n])), (k1, .inl (cJ, cap, .inr (.inl Kf))), (c1, .inl (cI, cap, .inl Cf)), (h1, .inl (cJ, cap, .inr (.inl Hf)))]
abbrev pb_wM (cI cJ : ClassId) (m0 a1 l1 o1 c1 h1 : Nat) (Af Lf Of Cf : Nat → Int32) (Hf : Nat → Int64) (co n : Int32) : va_W := [(m0, .inr (1, [.int co, .int n, .ref a1, .ref l1, .ref o1, .ref c1, .ref h1])), (a1, .inl (cI, 1001, .inl Af)), (l1, .inl (cI, 1001, .inl Lf)), (o1, .inl (cI, 1001, .inl Of)), (c1, .inl (cI, 1001, .inl Cf)), (h1, .inl (cJ, 1001, .inr (.inl Hf)))]
-- numbers
def pb_u (x : Int32) : Nat := x.toBitVec.toNat
theorem pb_u_lt (x : Int32) : pb_u x < 2 ^ 32 := x.toBitVec.isLt
theorem pb_u_of {a : Nat} (h : a < 2 ^ 32) : pb_u (nI a) = a := pk_tn h
theorem pb_u_nI (x : Int32) : nI (pb_u x) = x := by
  obtain ⟨n, h, rfl⟩ := wb_of32 x
  rw [pb_u_of h]
theorem pb_uns {a : Nat} (h : a < 2 ^ 32) : (nI a).toInt64 &&& 4294967295 = lN a := by
  apply wb_inj
  rw [Int64.toBitVec_and, Int32.toBitVec_toInt64, wb_tb]
  have hm : ∀ i, i < 64 → (4294967295 : Int64).toBitVec.getLsbD i = decide (i < 32) := by decide +kernel
  apply BitVec.eq_of_getLsbD_eq
  intro i hi
  rw [BitVec.getLsbD_and, BitVec.getLsbD_signExtend, hm i hi, BitVec.getLsbD_ofNat]
  have he : (nI a).toBitVec = BitVec.ofNat 32 a := rfl
  by_cases h32 : i < 32
  · rw [he, BitVec.getLsbD_ofNat]
    simp [h32, hi]
  · have ht : a.testBit i = false := Nat.testBit_lt_two_pow (Nat.lt_of_lt_of_le h (Nat.pow_le_pow_right (by decide) (by omega)))
    simp [h32, ht]
theorem pb_mod32 (a : Nat) : nI (a % 2 ^ 32) = nI a := by
  apply Int32.toBitVec_inj.mp
  show BitVec.ofNat 32 _ = BitVec.ofNat 32 _
  apply BitVec.eq_of_toNat_eq
  simp
/-- the mask of a length -/
def pb_mk (k : Nat) : Int32 := if k = 0 then 0 else (-1) <<< ((32 - nI k) &&& 31)
theorem pb_mk_n : ∀ k, k < 33 → pb_mk k = nI (2 ^ 32 - 2 ^ (32 - k)) := by decide +kernel
theorem pb_mk_c : ∀ k, k < 33 → pb_mk k ^^^ (-1) = nI (2 ^ (32 - k) - 1) := by decide +kernel
/-- the first bits of an address -/
def pb_cl (a k : Nat) : Nat := a / 2 ^ (32 - k) * 2 ^ (32 - k)
theorem pb_and_hi {a k : Nat} (h : a < 2 ^ 32) (hk : k ≤ 32) : a &&& (2 ^ 32 - 2 ^ k) = a / 2 ^ k * 2 ^ k := by
  have e1 : 2 ^ 32 - 2 ^ k = (2 ^ (32 - k) - 1) <<< k := by
    rw [Nat.shiftLeft_eq, Nat.sub_mul, ← Nat.pow_add, Nat.one_mul]
    rw [show 32 - k + k = 32 by omega]
  have e2 : a / 2 ^ k * 2 ^ k = (a >>> k) <<< k := by rw [Nat.shiftLeft_eq, Nat.shiftRight_eq_div_pow]
  rw [e1, e2]
  apply Nat.eq_of_testBit_eq
  intro i
  rw [Nat.testBit_and, Nat.testBit_shiftLeft, Nat.testBit_shiftLeft, Nat.testBit_shiftRight, Nat.testBit_two_pow_sub_one]
  by_cases hi : k ≤ i
  · have hki : k + (i - k) = i := by omega
    rw [hki]
    by_cases h2 : i - k < 32 - k
    · simp [hi, h2]
    · have ht : a.testBit i = false := Nat.testBit_lt_two_pow (Nat.lt_of_lt_of_le h (Nat.pow_le_pow_right (by decide) (by omega)))
      simp [ht]
  · simp [hi]
theorem pb_mk_and {a k : Nat} (h : a < 2 ^ 32) (hk : k ≤ 32) : nI a &&& pb_mk k = nI (pb_cl a k) := by
  rw [pb_mk_n k (by omega), nx_and, pb_and_hi h (by omega)]; rfl
theorem pb_mk_low {a k : Nat} (hk : k ≤ 32) : nI a &&& (pb_mk k ^^^ (-1)) = nI (a % 2 ^ (32 - k)) := by
  rw [pb_mk_c k (by omega), nx_and, Nat.and_two_pow_sub_one_eq_mod]
theorem pb_pow_le (k : Nat) : 2 ^ (32 - k) ≤ 2 ^ 32 := Nat.pow_le_pow_right (by decide) (by omega)
theorem pb_pow_pos (k : Nat) : 0 < 2 ^ (32 - k) := Nat.pow_pos (by decide)
theorem pb_mk_bad {a k : Nat} (hk : k ≤ 32) : (nI a &&& (pb_mk k ^^^ (-1))) = 0 ↔ a % 2 ^ (32 - k) = 0 := by
  rw [pb_mk_low hk]
  have h1 := Nat.mod_lt a (pb_pow_pos k)
  have h2 := pb_pow_le k
  constructor
  · intro h
    have := congrArg pb_u h
    rw [pb_u_of (by omega)] at this
    exact this
  · intro h; rw [h]; rfl
theorem pb_mk_or {a k : Nat} (hk : k ≤ 32) (h : a % 2 ^ (32 - k) = 0) : nI a ||| (pb_mk k ^^^ (-1)) = nI (a + (2 ^ (32 - k) - 1)) := by
  rw [pb_mk_c k (by omega)]
  have e : a = 2 ^ (32 - k) * (a / 2 ^ (32 - k)) := by
    have := Nat.div_add_mod a (2 ^ (32 - k))
    omega
  have hp := pb_pow_pos k
  rw [e, fa_or_sum _ (by omega), ← e]
theorem pb_cl_lt {a k : Nat} (h : a < 2 ^ 32) : pb_cl a k < 2 ^ 32 := Nat.lt_of_le_of_lt (Nat.div_mul_le_self _ _) h
theorem pb_cl_le (a k : Nat) : pb_cl a k ≤ a := Nat.div_mul_le_self _ _
theorem pb_cl_mod (a k : Nat) : pb_cl a k % 2 ^ (32 - k) = 0 := Nat.mul_mod_left _ _
theorem pb_cl_self {a k : Nat} (h : a % 2 ^ (32 - k) = 0) : pb_cl a k = a := by
  have := Nat.div_add_mod a (2 ^ (32 - k))
  have e : pb_cl a k = 2 ^ (32 - k) * (a / 2 ^ (32 - k)) := Nat.mul_comm _ _
  omega
/-- two addresses with the same first bits, by the exclusive or -/
theorem pb_xor_cl {a b k : Nat} (ha : a < 2 ^ 32) (hb : b < 2 ^ 32) (hk : k ≤ 32) : ((nI a ^^^ nI b) &&& pb_mk k) = 0 ↔ pb_cl a k = pb_cl b k := by
  have hx : a ^^^ b < 2 ^ 32 := Nat.xor_lt_two_pow ha hb
  rw [nx_xor, pb_mk_and hx hk]
  have h1 : (a ^^^ b) / 2 ^ (32 - k) = a / 2 ^ (32 - k) ^^^ b / 2 ^ (32 - k) := by
    rw [← Nat.shiftRight_eq_div_pow, ← Nat.shiftRight_eq_div_pow, ← Nat.shiftRight_eq_div_pow, Nat.shiftRight_xor_distrib]
  have hp := pb_pow_pos k
  have key : pb_cl (a ^^^ b) k = 0 ↔ a / 2 ^ (32 - k) = b / 2 ^ (32 - k) := by
    unfold pb_cl
    rw [h1]
    constructor
    · intro h
      rcases Nat.mul_eq_zero.mp h with h | h
      · have h2 : (a / 2 ^ (32 - k) ^^^ b / 2 ^ (32 - k)) ^^^ b / 2 ^ (32 - k) = 0 ^^^ b / 2 ^ (32 - k) := by rw [h]
        rwa [Nat.xor_assoc, Nat.xor_self, Nat.xor_zero, Nat.zero_xor] at h2
      · omega
    · intro h
      rw [h, Nat.xor_self, Nat.zero_mul]
  have hc := pb_cl_lt (k := k) hx
  constructor
  · intro h
    have h3 := congrArg pb_u h
    rw [pb_u_of hc] at h3
    unfold pb_cl
    rw [key.mp h3]
  · intro h
    have h4 : a / 2 ^ (32 - k) = b / 2 ^ (32 - k) := Nat.eq_of_mul_eq_mul_right hp h
    rw [key.mpr h4]; rfl
theorem pb_shl {a : Nat} (k : Nat) (hk : k < 64) : lN a <<< ((nI k).toInt64 &&& 63) = lN (a * 2 ^ k) := wb_shl a hk
theorem pb_shr {a : Nat} (k : Nat) (hk : k < 64) (h : a < 2 ^ 62) : lN a >>> ((nI k).toInt64 &&& 63) = lN (a / 2 ^ k) := by
  refine pf_shr (d := k) ?_ h
  have : ∀ k, k < 64 → (((nI k).toInt64 &&& 63).toBitVec.smod 64).toNat = k := by decide +kernel
  exact this k hk
/-- a prefix as a number, a route's key -/
abbrev pb_pre (a k : Nat) : Nat := 64 * a + k
theorem pb_preOf {a k : Nat} (ha : a < 2 ^ 32) (hk : k < 2 ^ 31) : (((nI a).toInt64 &&& 4294967295) <<< ((6 : Int32).toInt64 &&& 63)) + (nI k).toInt64 = lN (pb_pre a k) := by
  rw [pb_uns ha, show (6 : Int32) = nI 6 from rfl, pb_shl 6 (by decide), nI_l hk, lN_add, Nat.mul_comm a (2 ^ 6)]
theorem pb_keyOf {q o : Nat} (ho : o < 2 ^ 31) : (lN q <<< ((3 : Int32).toInt64 &&& 63)) + (nI o).toInt64 = lN (q * 8 + o) := by
  rw [show (3 : Int32) = nI 3 from rfl, pb_shl 3 (by decide), nI_l ho, lN_add]
theorem pb_adrOf {q : Nat} (h : q < 2 ^ 62) : (lN q >>> ((6 : Int32).toInt64 &&& 63)).toInt32 = nI (q / 64) := by
  rw [show (6 : Int32) = nI 6 from rfl, pb_shr 6 (by decide) h, lN_i]
theorem pb_lenOf (q : Nat) : (lN q &&& 63).toInt32 = nI (q % 64) := by
  rw [show (63 : Int64) = lN (2 ^ 6 - 1) from rfl, fb_maskL, lN_i]
theorem pb_orgOf (q : Nat) : (lN q &&& 7).toInt32 = nI (q % 8) := by
  rw [show (7 : Int64) = lN (2 ^ 3 - 1) from rfl, fb_maskL, lN_i]
-- the place of a key
def pb_so (T : List pb_Rt) : Prop := T.Pairwise (fun a b => a.1 < b.1)
def pb_lb (T : List pb_Rt) (k : Nat) : Nat := T.countP (fun r => decide (r.1 < k))
theorem pb_lb_le (T : List pb_Rt) (k : Nat) : pb_lb T k ≤ T.length := List.countP_le_length
theorem pb_lb_iff {T : List pb_Rt} (h : pb_so T) {k : Nat} : ∀ {j : Nat} {r : pb_Rt}, T[j]? = some r → (r.1 < k ↔ j < pb_lb T k) := by
  induction T with
  | nil => intro j r hj; simp at hj
  | cons t T ih =>
    intro j r hj
    obtain ⟨h1, h2⟩ := List.pairwise_cons.mp h
    have hz : ¬ t.1 < k → pb_lb T k = 0 := fun hn => List.countP_eq_zero.mpr fun b hb => by
      have := h1 b hb
      simp only [decide_eq_true_eq]
      omega
    have e : pb_lb (t :: T) k = pb_lb T k + if t.1 < k then 1 else 0 := by
      unfold pb_lb
      rw [List.countP_cons]
      simp
    rw [e]
    cases j with
    | zero =>
      rw [List.getElem?_cons_zero] at hj
      cases hj
      by_cases hn : t.1 < k
      · simp [hn]
      · simp [hn, hz hn]
    | succ j =>
      rw [List.getElem?_cons_succ] at hj
      have i1 := ih h2 hj
      by_cases hn : t.1 < k
      · simp only [hn, if_true]
        rw [i1]; omega
      · have := h1 r (List.mem_of_getElem? hj)
        simp only [hn, if_false, hz hn]
        omega
/-- the class's rows hold the routes -/
def pb_rX (T : List pb_Rt) (cap : Nat) (Kf : Nat → Int64) (Cf : Nat → Int32) (Hf : Nat → Int64) : Prop := (T.length ≤ cap ∧ cap < 2 ^ 30 ∧ 0 < cap) ∧ ∀ (j : Nat) (r : pb_Rt), T[j]? = some r → Kf j = lN r.1 ∧ Cf j = r.2.1 ∧ Hf j = r.2.2
/-- the reference's rows hold the routes -/
def pb_rM (T : List pb_Rt) (Af Lf Of Cf : Nat → Int32) (Hf : Nat → Int64) : Prop := T.length ≤ 1000 ∧ ∀ (j : Nat) (r : pb_Rt), T[j]? = some r → Af j = nI (r.1 / 512) ∧ Lf j = nI (r.1 / 8 % 64) ∧ Of j = nI (r.1 % 8) ∧ Cf j = r.2.1 ∧ Hf j = r.2.2
/-- a good route: its prefix is one, it has a hop -/
def pb_good (r : pb_Rt) : Prop := r.1 / 512 < 2 ^ 32 ∧ r.1 / 8 % 64 ≤ 32 ∧ (r.1 / 512) % 2 ^ (32 - r.1 / 8 % 64) = 0 ∧ r.2.2 ≠ 0
def pb_ok (T : List pb_Rt) : Prop := pb_so T ∧ ∀ r ∈ T, pb_good r
end PB1
