/-! READS of the reference (laid by wip/gen/p09.py) -/
section PB6
theorem pb_nI_inj {a b : Nat} (ha : a < 2 ^ 32) (hb : b < 2 ^ 32) : nI a = nI b ↔ a = b := ⟨fun h => by
  have h1 := congrArg pb_u h
  rwa [pb_u_of ha, pb_u_of hb] at h1, fun h => by rw [h]⟩
/-- the arguments spell a prefix -/
def pb_vp (xa xl : Int32) : Prop := ∃ a k : Nat, xa = nI a ∧ xl = nI k ∧ a < 2 ^ 32 ∧ k ≤ 32 ∧ a % 2 ^ (32 - k) = 0
theorem pb_sbit {a k : Nat} (ha : a < 2 ^ 64) (hk : k < 64) : (lN a >>> ((nI k).toInt64 &&& 63)) &&& 1 = lN (a / 2 ^ k % 2) := by
  rw [wb_c k hk]
  apply wb_inj
  show (((lN a).toBitVec.sshiftRight ((lN k).toBitVec.smod 64).toNat) &&& 1#64) = (lN (a / 2 ^ k % 2)).toBitVec
  rw [wb_tb, wb_tb, wb_tb, wb_sm k hk, BitVec.toNat_ofNat, Nat.mod_eq_of_lt (show k < 2 ^ 64 by omega)]
  apply BitVec.eq_of_getLsbD_eq
  intro i hi
  rw [BitVec.getLsbD_and, BitVec.getLsbD_sshiftRight, BitVec.getLsbD_ofNat]
  have hm := Nat.mod_lt (a / 2 ^ k) (y := 2) (by decide)
  rcases Nat.eq_zero_or_pos i with rfl | hp
  · have g1 : (1#64).getLsbD 0 = true := by decide
    have g2 : a.testBit (k + 0) = decide (a / 2 ^ k % 2 = 1) := by rw [Nat.add_zero, Nat.testBit_eq_decide_div_mod_eq]
    have g3 : (BitVec.ofNat 64 (a / 2 ^ k % 2)).getLsbD 0 = decide (a / 2 ^ k % 2 = 1) := by
      rw [BitVec.getLsbD_ofNat, Nat.testBit_zero, Nat.mod_mod]
      simp
    rw [g1, g2, g3]
    simp [hk]
  · have g1 : (1#64).getLsbD i = false := by
      have : ∀ i, i < 64 → 0 < i → (1#64).getLsbD i = false := by decide
      exact this i hi hp
    have g2 : (a / 2 ^ k % 2).testBit i = false := Nat.testBit_lt_two_pow (Nat.lt_of_lt_of_le hm (by
      have := Nat.pow_le_pow_right (n := 2) (by decide) hp
      omega))
    have g3 : (BitVec.ofNat 64 (a / 2 ^ k % 2)).getLsbD i = false := by rw [BitVec.getLsbD_ofNat, g2, Bool.and_false]
    rw [g1, g3, Bool.and_false]
def pb_ln (T : List pb_Rt) (j : Nat) : Nat := pb_k T j / 8 % 64
/-- a place matches: begins a prefix that is short enough and has the address -/
def pb_mt (T : List pb_Rt) (a lim j : Nat) : Bool := pb_bg T j && (decide (pb_ln T j < lim) && decide (pb_k T j / 512 = pb_cl a (pb_ln T j)))
def pb_oi : Option Nat → Int32
  | none => -1
  | some i => nI i
def pb_bs (T : List pb_Rt) (a lim : Nat) : Nat → Option Nat
  | 0 => none
  | j + 1 => if pb_mt T a lim j = true then (match pb_bs T a lim j with
    | none => some j
    | some i => if pb_ln T i < pb_ln T j then some j else some i) else pb_bs T a lim j
theorem pb_bs_lt {T : List pb_Rt} {a lim : Nat} : ∀ {j i : Nat}, pb_bs T a lim j = some i → i < j
  | 0, i, h => by simp [pb_bs] at h
  | j + 1, i, h => by
    rw [pb_bs] at h
    split at h
    · split at h
      · cases h; omega
      · rename_i i2 h2
        have := pb_bs_lt h2
        split at h <;> cases h <;> omega
    · have := pb_bs_lt h; omega
theorem pb_bs_f {T : List pb_Rt} {a lim j : Nat} (h : pb_mt T a lim j = false) : pb_bs T a lim (j + 1) = pb_bs T a lim j := by rw [pb_bs, h]; rfl
theorem pb_bs_0 {T : List pb_Rt} {a lim j : Nat} (h : pb_mt T a lim j = true) (h2 : pb_bs T a lim j = none) : pb_bs T a lim (j + 1) = some j := by rw [pb_bs, if_pos h, h2]
theorem pb_bs_1 {T : List pb_Rt} {a lim j i : Nat} (h : pb_mt T a lim j = true) (h2 : pb_bs T a lim j = some i) (h3 : pb_ln T i < pb_ln T j) : pb_bs T a lim (j + 1) = some j := by rw [pb_bs, if_pos h, h2]; exact if_pos h3
theorem pb_bs_2 {T : List pb_Rt} {a lim j i : Nat} (h : pb_mt T a lim j = true) (h2 : pb_bs T a lim j = some i) (h3 : ¬ pb_ln T i < pb_ln T j) : pb_bs T a lim (j + 1) = some i := by rw [pb_bs, if_pos h, h2]; exact if_neg h3
theorem pb_ln_of {T : List pb_Rt} {j : Nat} {r : pb_Rt} (h : T[j]? = some r) : pb_ln T j = r.1 / 8 % 64 := by rw [pb_ln, pb_k_of h]
theorem pb_keyEq {x a k o : Nat} (hk : k < 64) (ho : o < 8) : x = pb_pre a k * 8 + o ↔ x / 512 = a ∧ x / 8 % 64 = k ∧ x % 8 = o := by
  show x = (64 * a + k) * 8 + o ↔ _
  omega
theorem pb_bgT {x : Bool} (h : ¬ x = true) : x = false := by cases x <;> simp_all
variable {l : Launch} {D : va_G} {cI cJ : ClassId} {m0 a1 l1 o1 c1 h1 : Nat} {Af Lf Of Cf : Nat → Int32} {Hf : Nat → Int64} {co : Int32}
set_option maxHeartbeats 4000000 in
set_option maxRecDepth 100000 in
theorem c_X1_mask (k : Nat) (hk : k < 2 ^ 31) : pb_Rd l yX1_mask wsX1_mask 0 0 (pb_S [.int (nI k)]) (.int (pb_mk k)) := by
  refine pb_ofS RX1 (by decide) rfl rfl (Nat.le_of_ble_eq_true rfl) (fun p e s m args below meth c ls hx hb hml hr hlocks hown hts hl => ?_)
  have hl : lv_has ls 1 [(0, .int (nI k))] := hl
  refine lv_iload_n hx hb dX1_mask_0 rfl (lv_at hl 0 rfl) ?_
  refine lv_if_ne (tgt := 8) hx hb dX1_mask_1 (by decide) (fun q1 => ?_) (fun q1 => ?_)
  · have hk0 : k ≠ 0 := fun z => q1 (by rw [z]; rfl)
    refine lv_iconst (v := (-1)) hx hb dX1_mask_8 (by decide) ?_
    refine lv_bipush (v := 32) hx hb dX1_mask_9 (by decide) ?_
    refine lv_iload_n hx hb dX1_mask_11 rfl (lv_at hl 0 rfl) ?_
    refine lv_isub hx hb dX1_mask_12 ?_
    refine lv_ishl hx hb dX1_mask_13 ?_
    exact pb_iret hx hb hr hlocks dX1_mask_14 (by rw [pb_mk, if_neg hk0])
  · have hk0 : k = 0 := (nI_eq (a := k) (b := 0) hk (by decide)).mp q1
    exact lv_iconst (v := 0) hx hb dX1_mask_4 (by decide) (lv_goto (tgt := 14) hx hb dX1_mask_5 (by decide) (pb_iret hx hb hr hlocks dX1_mask_14 (by rw [hk0]; rfl)))

set_option maxHeartbeats 4000000 in
set_option maxRecDepth 100000 in
theorem c_X1_unsigned (a : Nat) (ha : a < 2 ^ 32) : pb_Rd l yX1_unsigned wsX1_unsigned 0 0 (pb_S [.int (nI a)]) (.long (lN a)) := by
  refine pb_ofS RX1 (by decide) rfl rfl (Nat.le_of_ble_eq_true rfl) (fun p e s m args below meth c ls hx hb hml hr hlocks hown hts hl => ?_)
  have hl : lv_has ls 1 [(0, .int (nI a))] := hl
  refine lv_iload_n hx hb dX1_unsigned_0 rfl (lv_at hl 0 rfl) ?_
  refine lv_i2l hx hb dX1_unsigned_1 rfl ?_
  refine lv_ldc2 (v := 4294967295) hx hb hown (hts (.constantLong RX1 30 4294967295) (by decide +kernel)) dX1_unsigned_2 ?_
  refine lv_land hx hb dX1_unsigned_5 ?_
  exact pb_lret hx hb hr hlocks dX1_unsigned_6 (by rw [pb_uns ha])

set_option maxHeartbeats 4000000 in
set_option maxRecDepth 100000 in
theorem c_X1_rank (a k o : Nat) (ha : a < 2 ^ 32) (hk : k < 2 ^ 31) (ho : o < 2 ^ 31) : pb_Rd l yX1_rank wsX1_rank 1 20 (pb_S [.int (nI a), .int (nI k), .int (nI o)]) (.long (lN (pb_pre a k * 8 + o))) := by
  refine pb_ofS RX1 (by decide) rfl rfl (Nat.le_of_ble_eq_true rfl) (fun p e s m args below meth c ls hx hb hml hr hlocks hown hts hl => ?_)
  have hl : lv_has ls 3 [(0, .int (nI a)), (1, .int (nI k)), (2, .int (nI o))] := hl
  refine lv_ldc2 (v := 64) hx hb hown (hts (.constantLong RX1 36 64) (by decide +kernel)) dX1_rank_0 ?_
  refine lv_iload_n hx hb dX1_rank_3 rfl (lv_at hl 0 rfl) ?_
  refine pb_callS (As := [.int (nI a)]) (rest := [.long 64]) ⟨hx, hb, hml, hown, hts⟩ (c_X1_unsigned a ha) (va_cwS 1 hts gX1_rank_X1_unsigned rfl rfl rfl (by decide +kernel) ⟨Nat.le_of_ble_eq_true rfl, Nat.le_of_ble_eq_true rfl⟩) rfl rfl hl (Nat.le_of_ble_eq_true rfl) dX1_rank_4 ⟨Nat.zero_le _, Nat.zero_le _⟩ ?_
  refine lv_lmul hx hb dX1_rank_7 ?_
  refine lv_iload_n hx hb dX1_rank_8 rfl (lv_at hl 1 rfl) ?_
  refine lv_i2l hx hb dX1_rank_9 rfl ?_
  refine lv_ladd hx hb dX1_rank_10 ?_
  refine lv_ldc2 (v := 8) hx hb hown (hts (.constantLong RX1 42 8) (by decide +kernel)) dX1_rank_11 ?_
  refine lv_lmul hx hb dX1_rank_14 ?_
  refine lv_iload_n hx hb dX1_rank_15 rfl (lv_at hl 2 rfl) ?_
  refine lv_i2l hx hb dX1_rank_16 rfl ?_
  refine lv_ladd hx hb dX1_rank_17 ?_
  exact pb_lret hx hb hr hlocks dX1_rank_18 (by rw [nI_l hk, nI_l ho, show (64 : Int64) = lN 64 from rfl, show (8 : Int64) = lN 8 from rfl, lN_mul, lN_add, lN_mul, lN_add])

set_option maxHeartbeats 4000000 in
set_option maxRecDepth 100000 in
theorem c_X1_isPrefix_t (a k : Nat) (ha : a < 2 ^ 32) (hk : k ≤ 32) (hg : a % 2 ^ (32 - k) = 0) : pb_Rd l yX1_isPrefix wsX1_isPrefix 1 20 (pb_S [.int (nI a), .int (nI k)]) (.int 1) := by
  refine pb_ofS RX1 (by decide) rfl rfl (Nat.le_of_ble_eq_true rfl) (fun p e s m args below meth c ls hx hb hml hr hlocks hown hts hl => ?_)
  have hl : lv_has ls 2 [(0, .int (nI a)), (1, .int (nI k))] := hl
  refine lv_iload_n hx hb dX1_isPrefix_0 rfl (lv_at hl 1 rfl) ?_
  refine lv_if_lt (tgt := 25) hx hb dX1_isPrefix_1 (by decide) (fun q1 => absurd q1 (nI_pos (by omega))) (fun q1 => ?_)
  refine lv_iload_n hx hb dX1_isPrefix_4 rfl (lv_at hl 1 rfl) ?_
  refine lv_bipush (v := 32) hx hb dX1_isPrefix_5 (by decide) ?_
  refine lv_icmp_gt (tgt := 25) hx hb dX1_isPrefix_7 (by decide) (fun q7 => absurd q7 (fun z => absurd ((nI_ltI (a := 32) (b := k) (by decide) (by omega)).mp z) (by omega))) (fun q7 => ?_)
  refine lv_iload_n hx hb dX1_isPrefix_10 rfl (lv_at hl 0 rfl) ?_
  refine lv_iload_n hx hb dX1_isPrefix_11 rfl (lv_at hl 1 rfl) ?_
  refine pb_callS (As := [.int (nI k)]) (rest := [.int (nI a)]) ⟨hx, hb, hml, hown, hts⟩ (c_X1_mask k (by omega)) (va_cwS 1 hts gX1_isPrefix_X1_mask rfl rfl rfl (by decide +kernel) ⟨Nat.le_of_ble_eq_true rfl, Nat.le_of_ble_eq_true rfl⟩) rfl rfl hl (Nat.le_of_ble_eq_true rfl) dX1_isPrefix_12 ⟨Nat.zero_le _, Nat.zero_le _⟩ ?_
  refine lv_iconst (v := (-1)) hx hb dX1_isPrefix_15 (by decide) ?_
  refine lv_ixor hx hb dX1_isPrefix_16 ?_
  refine lv_iand hx hb dX1_isPrefix_17 ?_
  refine lv_if_ne (tgt := 25) hx hb dX1_isPrefix_18 (by decide) (fun q18 => absurd q18 (fun z => z ((pb_mk_bad hk).mpr hg))) (fun q18 => ?_)
  refine lv_iconst (v := 1) hx hb dX1_isPrefix_21 (by decide) ?_
  refine lv_goto (tgt := 26) hx hb dX1_isPrefix_22 (by decide) ?_
  exact pb_zret hx hb hr hlocks dX1_isPrefix_26 (by decide) (rfl)

set_option maxHeartbeats 4000000 in
set_option maxRecDepth 100000 in
theorem c_X1_isPrefix_f (xa xl : Int32) (hbad : ¬ pb_vp xa xl) : pb_Rd l yX1_isPrefix wsX1_isPrefix 1 20 (pb_S [.int xa, .int xl]) (.int 0) := by
  refine pb_ofS RX1 (by decide) rfl rfl (Nat.le_of_ble_eq_true rfl) (fun p e s m args below meth c ls hx hb hml hr hlocks hown hts hl => ?_)
  have hl : lv_has ls 2 [(0, .int xa), (1, .int xl)] := hl
  refine lv_iload_n hx hb dX1_isPrefix_0 rfl (lv_at hl 1 rfl) ?_
  refine lv_if_lt (tgt := 25) hx hb dX1_isPrefix_1 (by decide) (fun q1 => ?_) (fun q1 => ?_)
  · refine lv_iconst (v := 0) hx hb dX1_isPrefix_25 (by decide) ?_
    exact pb_zret hx hb hr hlocks dX1_isPrefix_26 (by decide) (rfl)
  · obtain ⟨kz, hk31, rfl⟩ := nI_of q1
    refine lv_iload_n hx hb dX1_isPrefix_4 rfl (lv_at hl 1 rfl) ?_
    refine lv_bipush (v := 32) hx hb dX1_isPrefix_5 (by decide) ?_
    refine lv_icmp_gt (tgt := 25) hx hb dX1_isPrefix_7 (by decide) (fun q7 => ?_) (fun q7 => ?_)
    · refine lv_iconst (v := 0) hx hb dX1_isPrefix_25 (by decide) ?_
      exact pb_zret hx hb hr hlocks dX1_isPrefix_26 (by decide) (rfl)
    · have hw := mt (nI_ltI (a := 32) (b := kz) (by decide) hk31).mpr q7
      refine lv_iload_n hx hb dX1_isPrefix_10 rfl (lv_at hl 0 rfl) ?_
      refine lv_iload_n hx hb dX1_isPrefix_11 rfl (lv_at hl 1 rfl) ?_
      refine pb_callS (As := [.int (nI kz)]) (rest := [.int xa]) ⟨hx, hb, hml, hown, hts⟩ (c_X1_mask kz hk31) (va_cwS 1 hts gX1_isPrefix_X1_mask rfl rfl rfl (by decide +kernel) ⟨Nat.le_of_ble_eq_true rfl, Nat.le_of_ble_eq_true rfl⟩) rfl rfl hl (Nat.le_of_ble_eq_true rfl) dX1_isPrefix_12 ⟨Nat.zero_le _, Nat.zero_le _⟩ ?_
      refine lv_iconst (v := (-1)) hx hb dX1_isPrefix_15 (by decide) ?_
      refine lv_ixor hx hb dX1_isPrefix_16 ?_
      refine lv_iand hx hb dX1_isPrefix_17 ?_
      refine lv_if_ne (tgt := 25) hx hb dX1_isPrefix_18 (by decide) (fun q18 => ?_) (fun q18 => ?_)
      · refine lv_iconst (v := 0) hx hb dX1_isPrefix_25 (by decide) ?_
        exact pb_zret hx hb hr hlocks dX1_isPrefix_26 (by decide) (rfl)
      · exact absurd ⟨pb_u xa, kz, (pb_u_nI xa).symm, rfl, pb_u_lt xa, by omega, (pb_mk_bad (by omega)).mp (by rw [pb_u_nI]; exact q18)⟩ hbad

set_option maxHeartbeats 4000000 in
set_option maxRecDepth 100000 in
theorem c_X1_rankOf {T : List pb_Rt} (hT : pb_ok T) (hR : pb_rM T Af Lf Of Cf Hf) (j : Nat) {r : pb_Rt} (hr1 : T[j]? = some r) : pb_Rd l yX1_rankOf wsX1_rankOf 2 42 (pb_X [.ref m0, .int (nI j)] D (pb_ty cI cJ) (pb_wM cI cJ m0 a1 l1 o1 c1 h1 Af Lf Of Cf Hf co (nI T.length))) (.long (lN r.1)) := by
  refine pb_ofX RX1 (by decide) rfl rfl (Nat.le_of_ble_eq_true rfl) (fun p e s m args below meth c ls hx hb hml hr hlocks hown hts hP hK hl => ?_)
  have hinX1 : ∀ w ∈ wsX10, w ∈ wsX1_rankOf := by decide +kernel
  have hl : lv_has ls 2 [(0, .ref m0), (1, .int (nI j))] := hl
  have hcap := hR.1
  have hj := (List.getElem?_eq_some_iff.mp hr1).1
  have hkb := pb_key_lt hT (List.mem_of_getElem? hr1)
  refine lv_aload_n hx hb dX1_rankOf_0 rfl (lv_at hl 0 rfl) ?_
  refine va_get (D := D) (ci := 1) (v := .ref a1) (C := RX1) (T := TX1) (N := 7) hx hb hts hinX1 hown hK hP 0 rfl rfl 2 (by decide) (hts (.fieldLink RX1 7 "PrefixBenchModel" "address" "[I") (by decide +kernel)) (fun _ h9 => h9) rfl dX1_rankOf_1 ?_
  refine lv_iload_n hx hb dX1_rankOf_4 rfl (lv_at hl 1 rfl) ?_
  refine pb_iald hx hb hK hP 1 1 rfl rfl j (rfl) (⟨by omega, by decide⟩) dX1_rankOf_5 ?_
  refine pb_topi (z := nI (r.1 / 512)) ((hR.2 _ _ hr1).1) ?_
  refine lv_aload_n hx hb dX1_rankOf_6 rfl (lv_at hl 0 rfl) ?_
  refine va_get (D := D) (ci := 1) (v := .ref l1) (C := RX1) (T := TX1) (N := 7) hx hb hts hinX1 hown hK hP 0 rfl rfl 3 (by decide) (hts (.fieldLink RX1 13 "PrefixBenchModel" "length" "[I") (by decide +kernel)) (fun _ h9 => h9) rfl dX1_rankOf_7 ?_
  refine lv_iload_n hx hb dX1_rankOf_10 rfl (lv_at hl 1 rfl) ?_
  refine pb_iald hx hb hK hP 2 1 rfl rfl j (rfl) (⟨by omega, by decide⟩) dX1_rankOf_11 ?_
  refine pb_topi (z := nI (r.1 / 8 % 64)) ((hR.2 _ _ hr1).2.1) ?_
  refine lv_aload_n hx hb dX1_rankOf_12 rfl (lv_at hl 0 rfl) ?_
  refine va_get (D := D) (ci := 1) (v := .ref o1) (C := RX1) (T := TX1) (N := 7) hx hb hts hinX1 hown hK hP 0 rfl rfl 4 (by decide) (hts (.fieldLink RX1 16 "PrefixBenchModel" "origin" "[I") (by decide +kernel)) (fun _ h9 => h9) rfl dX1_rankOf_13 ?_
  refine lv_iload_n hx hb dX1_rankOf_16 rfl (lv_at hl 1 rfl) ?_
  refine pb_iald hx hb hK hP 3 1 rfl rfl j (rfl) (⟨by omega, by decide⟩) dX1_rankOf_17 ?_
  refine pb_topi (z := nI (r.1 % 8)) ((hR.2 _ _ hr1).2.2.1) ?_
  refine pb_callS (As := [.int (nI (r.1 / 512)), .int (nI (r.1 / 8 % 64)), .int (nI (r.1 % 8))]) (rest := []) ⟨hx, hb, hml, hown, hts⟩ (c_X1_rank (r.1 / 512) (r.1 / 8 % 64) (r.1 % 8) (by omega) (by omega) (by omega)) (va_cwS 3 hts gX1_rankOf_X1_rank rfl rfl rfl (by decide +kernel) ⟨Nat.le_of_ble_eq_true rfl, Nat.le_of_ble_eq_true rfl⟩) rfl rfl hl (Nat.le_of_ble_eq_true rfl) dX1_rankOf_18 ⟨Nat.zero_le _, Nat.zero_le _⟩ ?_
  exact pb_lret hx hb hr hlocks dX1_rankOf_21 (by rw [show pb_pre (r.1 / 512) (r.1 / 8 % 64) * 8 + r.1 % 8 = r.1 by show (64 * (r.1 / 512) + r.1 / 8 % 64) * 8 + r.1 % 8 = r.1; omega])

set_option maxHeartbeats 4000000 in
set_option maxRecDepth 100000 in
theorem c_X1_place {T : List pb_Rt} (hT : pb_ok T) (hR : pb_rM T Af Lf Of Cf Hf) (k : Nat) (hk : k < 2 ^ 62) : pb_Rd l yX1_place wsX1_place 3 63 (pb_X [.ref m0, .long (lN k)] D (pb_ty cI cJ) (pb_wM cI cJ m0 a1 l1 o1 c1 h1 Af Lf Of Cf Hf co (nI T.length))) (.int (nI (pb_lb T k))) := by
  refine pb_ofX RX1 (by decide) rfl rfl (Nat.le_of_ble_eq_true rfl) (fun p e s m args below meth c ls hx hb hml hr hlocks hown hts hP hK hl => ?_)
  have hinX1 : ∀ w ∈ wsX10, w ∈ wsX1_place := by decide +kernel
  have hl : lv_has ls 6 [(0, .ref m0), (1, .long (lN k))] := hl
  refine lv_iconst (v := 0) hx hb dX1_place_0 (by decide) ?_
  refine lv_istore_n (lv' := [(3, .int 0), (0, .ref m0), (1, .long (lN k))]) hx hb dX1_place_1 rfl hl (by decide) rfl (fun ls hl => ?_)
  refine lv_aload_n hx hb dX1_place_2 rfl (lv_at hl 1 rfl) ?_
  refine va_get (D := D) (ci := 1) (v := .int (nI T.length)) (C := RX1) (T := TX1) (N := 7) hx hb hts hinX1 hown hK hP 0 rfl rfl 1 (by decide) (hts (.fieldLink RX1 48 "PrefixBenchModel" "count" "I") (by decide +kernel)) (fun _ h9 => h9) rfl dX1_place_3 ?_
  refine lv_istore (lv' := [(4, .int (nI T.length)), (3, .int 0), (0, .ref m0), (1, .long (lN k))]) hx hb dX1_place_6 hl (by decide) rfl (fun ls hl => ?_)
  refine pb_loop (fun kk ls => ∃ lo hi : Nat, hi - lo = kk ∧ (lo ≤ pb_lb T k ∧ pb_lb T k ≤ hi ∧ hi ≤ T.length) ∧ lv_has ls 6 [(4, .int (nI hi)), (3, .int (nI lo)), (0, .ref m0), (1, .long (lN k))]) 8 [] (fun kk ls hI ih => ?_) (fun hL => ?_)
  · obtain ⟨lo, hi, rfl, ⟨hlo, hhi, hhn⟩, hl⟩ := hI
    have hcap := hR.1
    refine lv_iload_n hx hb dX1_place_8 rfl (lv_at hl 1 rfl) ?_
    refine lv_iload hx hb dX1_place_9 (lv_at hl 0 rfl) ?_
    refine lv_icmp_ge (tgt := 48) hx hb dX1_place_11 (by decide) (fun q11 => ?_) (fun q11 => ?_)
    · have hw := (nI_leI (a := hi) (b := lo) (by omega) (by omega)).mp q11
      refine lv_iload_n hx hb dX1_place_48 rfl (lv_at hl 1 rfl) ?_
      exact pb_iret hx hb hr hlocks dX1_place_49 (by rw [show pb_lb T k = lo by omega])
    · have hw : lo < hi := Nat.lt_of_not_le (mt (nI_leI (a := hi) (b := lo) (by omega) (by omega)).mpr q11)
      refine lv_iload_n hx hb dX1_place_14 rfl (lv_at hl 1 rfl) ?_
      refine lv_iload hx hb dX1_place_15 (lv_at hl 0 rfl) ?_
      refine lv_iadd hx hb dX1_place_17 ?_
      refine lv_iconst (v := 2) hx hb dX1_place_18 (by decide) ?_
      refine lv_idiv hx hb dX1_place_19 (by decide) ?_
      refine pb_topi (z := nI ((lo + hi) / 2)) (by rw [nI_add]; exact pk_div (a := lo + hi) (d := 2) (by omega) (by decide) (by decide)) ?_
      refine lv_istore (lv' := [(5, .int (nI ((lo + hi) / 2))), (4, .int (nI hi)), (3, .int (nI lo)), (0, .ref m0), (1, .long (lN k))]) hx hb dX1_place_20 hl (by decide) rfl (fun ls hl => ?_)
      refine lv_aload_n hx hb dX1_place_22 rfl (lv_at hl 3 rfl) ?_
      refine lv_iload hx hb dX1_place_23 (lv_at hl 0 rfl) ?_
      obtain ⟨r, hrr⟩ : ∃ r, T[(lo + hi) / 2]? = some r := ⟨_, List.getElem?_eq_getElem (by omega)⟩
      have hlt := pb_lb_iff hT.1 (k := k) hrr
      have hkb := pb_key_lt hT (List.mem_of_getElem? hrr)
      refine pb_callV (As := [.int (nI ((lo + hi) / 2))]) (rest := []) ⟨hx, hb, hml, hown, hts⟩ (c_X1_rankOf hT hR ((lo + hi) / 2) hrr) (cwV 1 hts gX1_place_X1_rankOf rfl rfl rfl (by decide +kernel) ⟨Nat.le_of_ble_eq_true rfl, Nat.le_of_ble_eq_true rfl⟩) hP hK (va_recv hK hP (ci := 1) (q0 := 0) rfl rfl) rfl rfl hl (Nat.le_of_ble_eq_true rfl) dX1_place_25 ⟨Nat.zero_le _, Nat.zero_le _⟩ ?_
      refine lv_lload_n hx hb dX1_place_28 rfl (lv_at hl 4 rfl) ?_
      refine W.lcmp hx hb dX1_place_29 ?_
      refine lv_if_ge (tgt := 41) hx hb dX1_place_30 (by decide) (fun q30 => ?_) (fun q30 => ?_)
      · have q30 := (lg_cmp_ge _ _).mp q30
        have hw2 := (pk_lLE (a := k) (b := r.1) (by omega) (by omega)).mp q30
        refine lv_iload hx hb dX1_place_41 (lv_at hl 0 rfl) ?_
        refine lv_istore (lv' := [(4, .int (nI ((lo + hi) / 2))), (5, .int (nI ((lo + hi) / 2))), (3, .int (nI lo)), (0, .ref m0), (1, .long (lN k))]) hx hb dX1_place_43 hl (by decide) rfl (fun ls hl => ?_)
        refine lv_goto (tgt := 8) hx hb dX1_place_45 (by decide) ?_
        exact ih _ _ (by omega) ⟨lo, (lo + hi) / 2, rfl, ⟨hlo, by omega, by omega⟩, lv_sub hl [0, 2, 3, 4] rfl⟩
      · have q30 := mt (lg_cmp_ge _ _).mpr q30
        have hw2 := mt (pk_lLE (a := k) (b := r.1) (by omega) (by omega)).mpr q30
        refine lv_iload hx hb dX1_place_33 (lv_at hl 0 rfl) ?_
        refine lv_iconst (v := 1) hx hb dX1_place_35 (by decide) ?_
        refine lv_iadd hx hb dX1_place_36 ?_
        refine pb_topi (z := nI (((lo + hi) / 2) + 1)) (nI_1 _) ?_
        refine lv_istore_n (lv' := [(3, .int (nI (((lo + hi) / 2) + 1))), (5, .int (nI ((lo + hi) / 2))), (4, .int (nI hi)), (0, .ref m0), (1, .long (lN k))]) hx hb dX1_place_37 rfl hl (by decide) rfl (fun ls hl => ?_)
        refine lv_goto (tgt := 45) hx hb dX1_place_38 (by decide) ?_
        refine lv_goto (tgt := 8) hx hb dX1_place_45 (by decide) ?_
        exact ih _ _ (by omega) ⟨(lo + hi) / 2 + 1, hi, rfl, ⟨by omega, hhi, hhn⟩, lv_sub hl [2, 0, 3, 4] rfl⟩
  · exact hL _ _ ⟨0, T.length, rfl, ⟨Nat.zero_le _, pb_lb_le T k, Nat.le_refl _⟩, lv_sub hl [0, 1, 2, 3] rfl⟩

set_option maxHeartbeats 4000000 in
set_option maxRecDepth 100000 in
theorem c_X1_isMore_0 (n9 : Int32) : pb_Rd l yX1_isMore wsX1_isMore 0 0 (pb_X [.ref m0, .int (nI 0)] D (pb_ty cI cJ) (pb_wM cI cJ m0 a1 l1 o1 c1 h1 Af Lf Of Cf Hf co n9)) (.int 0) := by
  refine pb_ofX RX1 (by decide) rfl rfl (Nat.le_of_ble_eq_true rfl) (fun p e s m args below meth c ls hx hb hml hr hlocks hown hts hP hK hl => ?_)
  have hinX1 : ∀ w ∈ wsX10, w ∈ wsX1_isMore := by decide +kernel
  have hl : lv_has ls 2 [(0, .ref m0), (1, .int (nI 0))] := hl
  refine lv_iload_n hx hb dX1_isMore_0 rfl (lv_at hl 1 rfl) ?_
  refine lv_if_le (tgt := 42) hx hb dX1_isMore_1 (by decide) (fun q1 => ?_) (fun q1 => absurd (by decide) q1)
  refine lv_iconst (v := 0) hx hb dX1_isMore_42 (by decide) ?_
  exact pb_zret hx hb hr hlocks dX1_isMore_43 (by decide) (rfl)

set_option maxHeartbeats 4000000 in
set_option maxRecDepth 100000 in
theorem c_X1_isMore_s {T : List pb_Rt} (hT : pb_ok T) (hR : pb_rM T Af Lf Of Cf Hf) (j : Nat) (hj : j + 1 < T.length) : pb_Rd l yX1_isMore wsX1_isMore 0 0 (pb_X [.ref m0, .int (nI (j + 1))] D (pb_ty cI cJ) (pb_wM cI cJ m0 a1 l1 o1 c1 h1 Af Lf Of Cf Hf co (nI T.length))) (.int (if pb_bg T (j + 1) = true then 0 else 1)) := by
  refine pb_ofX RX1 (by decide) rfl rfl (Nat.le_of_ble_eq_true rfl) (fun p e s m args below meth c ls hx hb hml hr hlocks hown hts hP hK hl => ?_)
  have hinX1 : ∀ w ∈ wsX10, w ∈ wsX1_isMore := by decide +kernel
  have hl : lv_has ls 2 [(0, .ref m0), (1, .int (nI (j + 1)))] := hl
  have hcap := hR.1
  refine lv_iload_n hx hb dX1_isMore_0 rfl (lv_at hl 1 rfl) ?_
  refine lv_if_le (tgt := 42) hx hb dX1_isMore_1 (by decide) (fun q1 => absurd q1 (nI_nle (by omega) (by omega))) (fun q1 => ?_)
  obtain ⟨rz, hrz, mrz⟩ := pb_get (T := T) (j := j + 1) (by omega)
  have krz := pb_key_lt hT mrz
  obtain ⟨ry, hry, mry⟩ := pb_get (T := T) (j := j) (by omega)
  have kry := pb_key_lt hT mry
  have hbg : pb_bg T (j + 1) = true ↔ rz.1 / 8 ≠ ry.1 / 8 := by
    rw [pb_bg, decide_eq_true_iff, pb_k_of hrz, Nat.add_sub_cancel, pb_k_of hry]
    exact ⟨fun h => h.resolve_left (by omega), Or.inr⟩
  refine lv_aload_n hx hb dX1_isMore_4 rfl (lv_at hl 0 rfl) ?_
  refine va_get (D := D) (ci := 1) (v := .ref a1) (C := RX1) (T := TX1) (N := 7) hx hb hts hinX1 hown hK hP 0 rfl rfl 2 (by decide) (hts (.fieldLink RX1 7 "PrefixBenchModel" "address" "[I") (by decide +kernel)) (fun _ h9 => h9) rfl dX1_isMore_5 ?_
  refine lv_iload_n hx hb dX1_isMore_8 rfl (lv_at hl 1 rfl) ?_
  refine pb_iald hx hb hK hP 1 1 rfl rfl (j + 1) (rfl) (⟨by omega, by decide⟩) dX1_isMore_9 ?_
  refine pb_topi (z := nI (rz.1 / 512)) ((hR.2 _ _ hrz).1) ?_
  refine lv_aload_n hx hb dX1_isMore_10 rfl (lv_at hl 0 rfl) ?_
  refine va_get (D := D) (ci := 1) (v := .ref a1) (C := RX1) (T := TX1) (N := 7) hx hb hts hinX1 hown hK hP 0 rfl rfl 2 (by decide) (hts (.fieldLink RX1 7 "PrefixBenchModel" "address" "[I") (by decide +kernel)) (fun _ h9 => h9) rfl dX1_isMore_11 ?_
  refine lv_iload_n hx hb dX1_isMore_14 rfl (lv_at hl 1 rfl) ?_
  refine lv_iconst (v := 1) hx hb dX1_isMore_15 (by decide) ?_
  refine lv_isub hx hb dX1_isMore_16 ?_
  refine pb_topi (z := nI j) (nI_pred j) ?_
  refine pb_iald hx hb hK hP 1 1 rfl rfl j (rfl) (⟨by omega, by decide⟩) dX1_isMore_17 ?_
  refine pb_topi (z := nI (ry.1 / 512)) ((hR.2 _ _ hry).1) ?_
  refine lv_icmp_ne (tgt := 42) hx hb dX1_isMore_18 (by decide) (fun q18 => ?_) (fun q18 => ?_)
  · have hb9 : pb_bg T (j + 1) = true := hbg.mpr (fun z => q18 (by rw [show rz.1 / 512 = ry.1 / 512 by omega]))
    refine lv_iconst (v := 0) hx hb dX1_isMore_42 (by decide) ?_
    exact pb_zret hx hb hr hlocks dX1_isMore_43 (by decide) (by rw [if_pos hb9])
  · have hw := (pb_nI_inj (by omega) (by omega)).mp q18
    refine lv_aload_n hx hb dX1_isMore_21 rfl (lv_at hl 0 rfl) ?_
    refine va_get (D := D) (ci := 1) (v := .ref l1) (C := RX1) (T := TX1) (N := 7) hx hb hts hinX1 hown hK hP 0 rfl rfl 3 (by decide) (hts (.fieldLink RX1 13 "PrefixBenchModel" "length" "[I") (by decide +kernel)) (fun _ h9 => h9) rfl dX1_isMore_22 ?_
    refine lv_iload_n hx hb dX1_isMore_25 rfl (lv_at hl 1 rfl) ?_
    refine pb_iald hx hb hK hP 2 1 rfl rfl (j + 1) (rfl) (⟨by omega, by decide⟩) dX1_isMore_26 ?_
    refine pb_topi (z := nI (rz.1 / 8 % 64)) ((hR.2 _ _ hrz).2.1) ?_
    refine lv_aload_n hx hb dX1_isMore_27 rfl (lv_at hl 0 rfl) ?_
    refine va_get (D := D) (ci := 1) (v := .ref l1) (C := RX1) (T := TX1) (N := 7) hx hb hts hinX1 hown hK hP 0 rfl rfl 3 (by decide) (hts (.fieldLink RX1 13 "PrefixBenchModel" "length" "[I") (by decide +kernel)) (fun _ h9 => h9) rfl dX1_isMore_28 ?_
    refine lv_iload_n hx hb dX1_isMore_31 rfl (lv_at hl 1 rfl) ?_
    refine lv_iconst (v := 1) hx hb dX1_isMore_32 (by decide) ?_
    refine lv_isub hx hb dX1_isMore_33 ?_
    refine pb_topi (z := nI j) (nI_pred j) ?_
    refine pb_iald hx hb hK hP 2 1 rfl rfl j (rfl) (⟨by omega, by decide⟩) dX1_isMore_34 ?_
    refine pb_topi (z := nI (ry.1 / 8 % 64)) ((hR.2 _ _ hry).2.1) ?_
    refine lv_icmp_ne (tgt := 42) hx hb dX1_isMore_35 (by decide) (fun q35 => ?_) (fun q35 => ?_)
    · have hb9 : pb_bg T (j + 1) = true := hbg.mpr (fun z => q35 (by rw [z]))
      refine lv_iconst (v := 0) hx hb dX1_isMore_42 (by decide) ?_
      exact pb_zret hx hb hr hlocks dX1_isMore_43 (by decide) (by rw [if_pos hb9])
    · have hw2 := (pb_nI_inj (by omega) (by omega)).mp q35
      have hb9 : ¬ pb_bg T (j + 1) = true := fun z => hbg.mp z (by omega)
      refine lv_iconst (v := 1) hx hb dX1_isMore_38 (by decide) ?_
      refine lv_goto (tgt := 43) hx hb dX1_isMore_39 (by decide) ?_
      exact pb_zret hx hb hr hlocks dX1_isMore_43 (by decide) (by rw [if_neg hb9])

set_option maxHeartbeats 4000000 in
set_option maxRecDepth 100000 in
theorem c_X1_isMore {T : List pb_Rt} (hT : pb_ok T) (hR : pb_rM T Af Lf Of Cf Hf) (j : Nat) (hj : j < T.length) : pb_Rd l yX1_isMore wsX1_isMore 0 0 (pb_X [.ref m0, .int (nI j)] D (pb_ty cI cJ) (pb_wM cI cJ m0 a1 l1 o1 c1 h1 Af Lf Of Cf Hf co (nI T.length))) (.int (if pb_bg T j = true then 0 else 1)) := by
  cases j with
  | zero =>
    rw [if_pos (by simp [pb_bg])]
    exact c_X1_isMore_0 _
  | succ j => exact c_X1_isMore_s hT hR j hj
set_option maxHeartbeats 4000000 in
set_option maxRecDepth 100000 in
theorem c_X1_has {T : List pb_Rt} (hT : pb_ok T) (hR : pb_rM T Af Lf Of Cf Hf) (j : Nat) {r : pb_Rt} (hr1 : T[j]? = some r) (a : Nat) (ha : a < 2 ^ 32) : pb_Rd l yX1_has wsX1_has 1 20 (pb_X [.ref m0, .int (nI j), .int (nI a)] D (pb_ty cI cJ) (pb_wM cI cJ m0 a1 l1 o1 c1 h1 Af Lf Of Cf Hf co (nI T.length))) (.int (if r.1 / 512 = pb_cl a (r.1 / 8 % 64) then 1 else 0)) := by
  refine pb_ofX RX1 (by decide) rfl rfl (Nat.le_of_ble_eq_true rfl) (fun p e s m args below meth c ls hx hb hml hr hlocks hown hts hP hK hl => ?_)
  have hinX1 : ∀ w ∈ wsX10, w ∈ wsX1_has := by decide +kernel
  have hl : lv_has ls 3 [(0, .ref m0), (1, .int (nI j)), (2, .int (nI a))] := hl
  have hcap := hR.1
  have hj := (List.getElem?_eq_some_iff.mp hr1).1
  have hkb := pb_key_lt hT (List.mem_of_getElem? hr1)
  have hgd := hT.2 r (List.mem_of_getElem? hr1)
  have hgl := hgd.2.1
  refine lv_aload_n hx hb dX1_has_0 rfl (lv_at hl 0 rfl) ?_
  refine va_get (D := D) (ci := 1) (v := .ref a1) (C := RX1) (T := TX1) (N := 7) hx hb hts hinX1 hown hK hP 0 rfl rfl 2 (by decide) (hts (.fieldLink RX1 7 "PrefixBenchModel" "address" "[I") (by decide +kernel)) (fun _ h9 => h9) rfl dX1_has_1 ?_
  refine lv_iload_n hx hb dX1_has_4 rfl (lv_at hl 1 rfl) ?_
  refine pb_iald hx hb hK hP 1 1 rfl rfl j (rfl) (⟨by omega, by decide⟩) dX1_has_5 ?_
  refine pb_topi (z := nI (r.1 / 512)) ((hR.2 _ _ hr1).1) ?_
  refine lv_iload_n hx hb dX1_has_6 rfl (lv_at hl 2 rfl) ?_
  refine lv_ixor hx hb dX1_has_7 ?_
  refine lv_aload_n hx hb dX1_has_8 rfl (lv_at hl 0 rfl) ?_
  refine va_get (D := D) (ci := 1) (v := .ref l1) (C := RX1) (T := TX1) (N := 7) hx hb hts hinX1 hown hK hP 0 rfl rfl 3 (by decide) (hts (.fieldLink RX1 13 "PrefixBenchModel" "length" "[I") (by decide +kernel)) (fun _ h9 => h9) rfl dX1_has_9 ?_
  refine lv_iload_n hx hb dX1_has_12 rfl (lv_at hl 1 rfl) ?_
  refine pb_iald hx hb hK hP 2 1 rfl rfl j (rfl) (⟨by omega, by decide⟩) dX1_has_13 ?_
  refine pb_topi (z := nI (r.1 / 8 % 64)) ((hR.2 _ _ hr1).2.1) ?_
  refine pb_callS (As := [.int (nI (r.1 / 8 % 64))]) (rest := [.int (nI (r.1 / 512) ^^^ nI a)]) ⟨hx, hb, hml, hown, hts⟩ (c_X1_mask (r.1 / 8 % 64) (by omega)) (va_cwS 1 hts gX1_has_X1_mask rfl rfl rfl (by decide +kernel) ⟨Nat.le_of_ble_eq_true rfl, Nat.le_of_ble_eq_true rfl⟩) rfl rfl hl (Nat.le_of_ble_eq_true rfl) dX1_has_14 ⟨Nat.zero_le _, Nat.zero_le _⟩ ?_
  refine lv_iand hx hb dX1_has_17 ?_
  have hiff := pb_xor_cl (a := r.1 / 512) (b := a) (k := (r.1 / 8 % 64)) hgd.1 ha hgl
  rw [pb_cl_self hgd.2.2.1] at hiff
  refine lv_if_ne (tgt := 25) hx hb dX1_has_18 (by decide) (fun q18 => ?_) (fun q18 => ?_)
  · have hb9 : ¬ r.1 / 512 = pb_cl a (r.1 / 8 % 64) := fun z => q18 (hiff.mpr z)
    refine lv_iconst (v := 0) hx hb dX1_has_25 (by decide) ?_
    exact pb_zret hx hb hr hlocks dX1_has_26 (by decide) (by rw [if_neg hb9])
  · have hb9 : r.1 / 512 = pb_cl a (r.1 / 8 % 64) := hiff.mp q18
    refine lv_iconst (v := 1) hx hb dX1_has_21 (by decide) ?_
    refine lv_goto (tgt := 26) hx hb dX1_has_22 (by decide) ?_
    exact pb_zret hx hb hr hlocks dX1_has_26 (by decide) (by rw [if_pos hb9])

set_option maxHeartbeats 4000000 in
set_option maxRecDepth 100000 in
theorem c_X1_isThere_n (j n : Nat) (hn : n ≤ j ∧ j < 2 ^ 31) (xa xl xo : Int32) : pb_Rd l yX1_isThere wsX1_isThere 0 0 (pb_X [.ref m0, .int (nI j), .int xa, .int xl, .int xo] D (pb_ty cI cJ) (pb_wM cI cJ m0 a1 l1 o1 c1 h1 Af Lf Of Cf Hf co (nI n))) (.int 0) := by
  refine pb_ofX RX1 (by decide) rfl rfl (Nat.le_of_ble_eq_true rfl) (fun p e s m args below meth c ls hx hb hml hr hlocks hown hts hP hK hl => ?_)
  have hinX1 : ∀ w ∈ wsX10, w ∈ wsX1_isThere := by decide +kernel
  have hl : lv_has ls 5 [(0, .ref m0), (1, .int (nI j)), (2, .int xa), (3, .int xl), (4, .int xo)] := hl
  refine lv_iload_n hx hb dX1_isThere_0 rfl (lv_at hl 1 rfl) ?_
  refine lv_aload_n hx hb dX1_isThere_1 rfl (lv_at hl 0 rfl) ?_
  refine va_get (D := D) (ci := 1) (v := .int (nI n)) (C := RX1) (T := TX1) (N := 7) hx hb hts hinX1 hown hK hP 0 rfl rfl 1 (by decide) (hts (.fieldLink RX1 48 "PrefixBenchModel" "count" "I") (by decide +kernel)) (fun _ h9 => h9) rfl dX1_isThere_2 ?_
  refine lv_icmp_ge (tgt := 43) hx hb dX1_isThere_5 (by decide) (fun q5 => ?_) (fun q5 => absurd (nI_le hn.1 hn.2) q5)
  refine lv_iconst (v := 0) hx hb dX1_isThere_43 (by decide) ?_
  exact pb_zret hx hb hr hlocks dX1_isThere_44 (by decide) (rfl)

set_option maxHeartbeats 4000000 in
set_option maxRecDepth 100000 in
theorem c_X1_isThere_s {T : List pb_Rt} (hT : pb_ok T) (hR : pb_rM T Af Lf Of Cf Hf) (j : Nat) {r : pb_Rt} (hr1 : T[j]? = some r) (a k o : Nat) (ha : a < 2 ^ 32) (hk : k < 64) (ho : o < 8) : pb_Rd l yX1_isThere wsX1_isThere 0 0 (pb_X [.ref m0, .int (nI j), .int (nI a), .int (nI k), .int (nI o)] D (pb_ty cI cJ) (pb_wM cI cJ m0 a1 l1 o1 c1 h1 Af Lf Of Cf Hf co (nI T.length))) (.int (if r.1 = pb_pre a k * 8 + o then 1 else 0)) := by
  refine pb_ofX RX1 (by decide) rfl rfl (Nat.le_of_ble_eq_true rfl) (fun p e s m args below meth c ls hx hb hml hr hlocks hown hts hP hK hl => ?_)
  have hinX1 : ∀ w ∈ wsX10, w ∈ wsX1_isThere := by decide +kernel
  have hl : lv_has ls 5 [(0, .ref m0), (1, .int (nI j)), (2, .int (nI a)), (3, .int (nI k)), (4, .int (nI o))] := hl
  have hcap := hR.1
  have hj := (List.getElem?_eq_some_iff.mp hr1).1
  have hkb := pb_key_lt hT (List.mem_of_getElem? hr1)
  have hgd := hT.2 r (List.mem_of_getElem? hr1)
  have hgl := hgd.2.1
  refine lv_iload_n hx hb dX1_isThere_0 rfl (lv_at hl 1 rfl) ?_
  refine lv_aload_n hx hb dX1_isThere_1 rfl (lv_at hl 0 rfl) ?_
  refine va_get (D := D) (ci := 1) (v := .int (nI T.length)) (C := RX1) (T := TX1) (N := 7) hx hb hts hinX1 hown hK hP 0 rfl rfl 1 (by decide) (hts (.fieldLink RX1 48 "PrefixBenchModel" "count" "I") (by decide +kernel)) (fun _ h9 => h9) rfl dX1_isThere_2 ?_
  refine lv_icmp_ge (tgt := 43) hx hb dX1_isThere_5 (by decide) (fun q5 => absurd q5 (pb_no_lt hj (by omega))) (fun q5 => ?_)
  have hke := pb_keyEq (x := r.1) (a := a) hk ho
  refine lv_aload_n hx hb dX1_isThere_8 rfl (lv_at hl 0 rfl) ?_
  refine va_get (D := D) (ci := 1) (v := .ref a1) (C := RX1) (T := TX1) (N := 7) hx hb hts hinX1 hown hK hP 0 rfl rfl 2 (by decide) (hts (.fieldLink RX1 7 "PrefixBenchModel" "address" "[I") (by decide +kernel)) (fun _ h9 => h9) rfl dX1_isThere_9 ?_
  refine lv_iload_n hx hb dX1_isThere_12 rfl (lv_at hl 1 rfl) ?_
  refine pb_iald hx hb hK hP 1 1 rfl rfl j (rfl) (⟨by omega, by decide⟩) dX1_isThere_13 ?_
  refine pb_topi (z := nI (r.1 / 512)) ((hR.2 _ _ hr1).1) ?_
  refine lv_iload_n hx hb dX1_isThere_14 rfl (lv_at hl 2 rfl) ?_
  refine lv_icmp_ne (tgt := 43) hx hb dX1_isThere_15 (by decide) (fun q15 => ?_) (fun q15 => ?_)
  · have hb9 : ¬ r.1 = pb_pre a k * 8 + o := fun z => q15 (by rw [(hke.mp z).1])
    refine lv_iconst (v := 0) hx hb dX1_isThere_43 (by decide) ?_
    exact pb_zret hx hb hr hlocks dX1_isThere_44 (by decide) (by rw [if_neg hb9])
  · have w1 := (pb_nI_inj (by omega) ha).mp q15
    refine lv_aload_n hx hb dX1_isThere_18 rfl (lv_at hl 0 rfl) ?_
    refine va_get (D := D) (ci := 1) (v := .ref l1) (C := RX1) (T := TX1) (N := 7) hx hb hts hinX1 hown hK hP 0 rfl rfl 3 (by decide) (hts (.fieldLink RX1 13 "PrefixBenchModel" "length" "[I") (by decide +kernel)) (fun _ h9 => h9) rfl dX1_isThere_19 ?_
    refine lv_iload_n hx hb dX1_isThere_22 rfl (lv_at hl 1 rfl) ?_
    refine pb_iald hx hb hK hP 2 1 rfl rfl j (rfl) (⟨by omega, by decide⟩) dX1_isThere_23 ?_
    refine pb_topi (z := nI (r.1 / 8 % 64)) ((hR.2 _ _ hr1).2.1) ?_
    refine lv_iload_n hx hb dX1_isThere_24 rfl (lv_at hl 3 rfl) ?_
    refine lv_icmp_ne (tgt := 43) hx hb dX1_isThere_25 (by decide) (fun q25 => ?_) (fun q25 => ?_)
    · have hb9 : ¬ r.1 = pb_pre a k * 8 + o := fun z => q25 (by rw [(hke.mp z).2.1])
      refine lv_iconst (v := 0) hx hb dX1_isThere_43 (by decide) ?_
      exact pb_zret hx hb hr hlocks dX1_isThere_44 (by decide) (by rw [if_neg hb9])
    · have w2 := (pb_nI_inj (by omega) (by omega)).mp q25
      refine lv_aload_n hx hb dX1_isThere_28 rfl (lv_at hl 0 rfl) ?_
      refine va_get (D := D) (ci := 1) (v := .ref o1) (C := RX1) (T := TX1) (N := 7) hx hb hts hinX1 hown hK hP 0 rfl rfl 4 (by decide) (hts (.fieldLink RX1 16 "PrefixBenchModel" "origin" "[I") (by decide +kernel)) (fun _ h9 => h9) rfl dX1_isThere_29 ?_
      refine lv_iload_n hx hb dX1_isThere_32 rfl (lv_at hl 1 rfl) ?_
      refine pb_iald hx hb hK hP 3 1 rfl rfl j (rfl) (⟨by omega, by decide⟩) dX1_isThere_33 ?_
      refine pb_topi (z := nI (r.1 % 8)) ((hR.2 _ _ hr1).2.2.1) ?_
      refine lv_iload hx hb dX1_isThere_34 (lv_at hl 4 rfl) ?_
      refine lv_icmp_ne (tgt := 43) hx hb dX1_isThere_36 (by decide) (fun q36 => ?_) (fun q36 => ?_)
      · have hb9 : ¬ r.1 = pb_pre a k * 8 + o := fun z => q36 (by rw [(hke.mp z).2.2])
        refine lv_iconst (v := 0) hx hb dX1_isThere_43 (by decide) ?_
        exact pb_zret hx hb hr hlocks dX1_isThere_44 (by decide) (by rw [if_neg hb9])
      · have w3 := (pb_nI_inj (by omega) (by omega)).mp q36
        have hb9 : r.1 = pb_pre a k * 8 + o := hke.mpr ⟨w1, w2, w3⟩
        refine lv_iconst (v := 1) hx hb dX1_isThere_39 (by decide) ?_
        refine lv_goto (tgt := 44) hx hb dX1_isThere_40 (by decide) ?_
        exact pb_zret hx hb hr hlocks dX1_isThere_44 (by decide) (by rw [if_pos hb9])

set_option maxHeartbeats 4000000 in
set_option maxRecDepth 100000 in
theorem c_X1_best {T : List pb_Rt} (hT : pb_ok T) (hR : pb_rM T Af Lf Of Cf Hf) (a lim : Nat) (ha : a < 2 ^ 32) (hlim : lim ≤ 33) : pb_Rd l yX1_best wsX1_best 2 42 (pb_X [.ref m0, .int (nI a), .int (nI lim)] D (pb_ty cI cJ) (pb_wM cI cJ m0 a1 l1 o1 c1 h1 Af Lf Of Cf Hf co (nI T.length))) (.int (pb_oi (pb_bs T a lim T.length))) := by
  refine pb_ofX RX1 (by decide) rfl rfl (Nat.le_of_ble_eq_true rfl) (fun p e s m args below meth c ls hx hb hml hr hlocks hown hts hP hK hl => ?_)
  have hinX1 : ∀ w ∈ wsX10, w ∈ wsX1_best := by decide +kernel
  have hl : lv_has ls 6 [(0, .ref m0), (1, .int (nI a)), (2, .int (nI lim))] := hl
  have hcap := hR.1
  refine lv_iconst (v := (-1)) hx hb dX1_best_0 (by decide) ?_
  refine lv_istore_n (lv' := [(3, .int (-1)), (0, .ref m0), (1, .int (nI a)), (2, .int (nI lim))]) hx hb dX1_best_1 rfl hl (by decide) rfl (fun ls hl => ?_)
  refine lv_iconst (v := 0) hx hb dX1_best_2 (by decide) ?_
  refine lv_istore (lv' := [(4, .int 0), (3, .int (-1)), (0, .ref m0), (1, .int (nI a)), (2, .int (nI lim))]) hx hb dX1_best_3 hl (by decide) rfl (fun ls hl => ?_)
  refine pb_loop (fun kk ls => ∃ j : Nat, j ≤ T.length ∧ T.length - j = kk ∧ lv_has ls 6 [(4, .int (nI j)), (3, .int (pb_oi (pb_bs T a lim j))), (0, .ref m0), (1, .int (nI a)), (2, .int (nI lim))]) 5 [] (fun kk ls hI ih => ?_) (fun hL => ?_)
  · obtain ⟨j, hj, rfl, hl⟩ := hI
    refine lv_iload hx hb dX1_best_5 (lv_at hl 0 rfl) ?_
    refine lv_aload_n hx hb dX1_best_7 rfl (lv_at hl 2 rfl) ?_
    refine va_get (D := D) (ci := 1) (v := .int (nI T.length)) (C := RX1) (T := TX1) (N := 7) hx hb hts hinX1 hown hK hP 0 rfl rfl 1 (by decide) (hts (.fieldLink RX1 48 "PrefixBenchModel" "count" "I") (by decide +kernel)) (fun _ h9 => h9) rfl dX1_best_8 ?_
    refine lv_icmp_ge (tgt := 89) hx hb dX1_best_11 (by decide) (fun q11 => ?_) (fun q11 => ?_)
    · have hw := (nI_leI (a := T.length) (b := j) (by omega) (by omega)).mp q11
      refine lv_iload_n hx hb dX1_best_89 rfl (lv_at hl 1 rfl) ?_
      exact pb_iret hx hb hr hlocks dX1_best_90 (by rw [show T.length = j by omega])
    · have hw := mt (nI_leI (a := T.length) (b := j) (by omega) (by omega)).mpr q11
      obtain ⟨rj, hrj, mrj⟩ := pb_get (T := T) (j := j) (by omega)
      have krj := pb_key_lt hT mrj
      have hgd := hT.2 rj mrj
      have hkj : pb_k T j = rj.1 := pb_k_of hrj
      have hlj : pb_ln T j = rj.1 / 8 % 64 := pb_ln_of hrj
      refine lv_aload_n hx hb dX1_best_14 rfl (lv_at hl 2 rfl) ?_
      refine lv_iload hx hb dX1_best_15 (lv_at hl 0 rfl) ?_
      refine pb_callV (As := [.int (nI j)]) (rest := []) ⟨hx, hb, hml, hown, hts⟩ (c_X1_isMore hT hR j (by omega)) (cwV 1 hts gX1_best_X1_isMore rfl rfl rfl (by decide +kernel) ⟨Nat.le_of_ble_eq_true rfl, Nat.le_of_ble_eq_true rfl⟩) hP hK (va_recv hK hP (ci := 1) (q0 := 0) rfl rfl) rfl rfl hl (Nat.le_of_ble_eq_true rfl) dX1_best_17 ⟨Nat.zero_le _, Nat.zero_le _⟩ ?_
      refine lv_if_ne (tgt := 48) hx hb dX1_best_20 (by decide) (fun q20 => ?_) (fun q20 => ?_)
      · have hmf : pb_mt T a lim j = false := by
          have : pb_bg T j = false := pb_bgT (fun z => q20 (by rw [if_pos z]))
          rw [pb_mt, this]; rfl
        refine lv_iconst (v := 0) hx hb dX1_best_48 (by decide) ?_
        refine lv_istore (lv' := [(5, .int 0), (4, .int (nI j)), (3, .int (pb_oi (pb_bs T a lim j))), (0, .ref m0), (1, .int (nI a)), (2, .int (nI lim))]) hx hb dX1_best_49 hl (by decide) rfl (fun ls hl => ?_)
        refine lv_iload hx hb dX1_best_51 (lv_at hl 0 rfl) ?_
        refine lv_if_eq (tgt := 81) hx hb dX1_best_53 (by decide) (fun q53 => ?_) (fun q53 => absurd (rfl) q53)
        have hbs : pb_bs T a lim (j + 1) = pb_bs T a lim j := pb_bs_f hmf
        refine lv_iload_n hx hb dX1_best_81 rfl (lv_at hl 2 rfl) ?_
        refine lv_istore_n (lv' := [(3, .int (pb_oi (pb_bs T a lim j))), (5, .int 0), (4, .int (nI j)), (0, .ref m0), (1, .int (nI a)), (2, .int (nI lim))]) hx hb dX1_best_82 rfl hl (by decide) rfl (fun ls hl => ?_)
        refine lv_iinc (v := nI (j + 1)) (lv' := [(4, .int (nI (j + 1))), (3, .int (pb_oi (pb_bs T a lim j))), (5, .int 0), (0, .ref m0), (1, .int (nI a)), (2, .int (nI lim))]) hx hb dX1_best_83 hl (k := 2) rfl (nI_1 _) (by decide) rfl (fun ls hl => ?_)
        refine lv_goto (tgt := 5) hx hb dX1_best_86 (by decide) ?_
        exact ih _ _ (by omega) ⟨j + 1, by omega, rfl, by rw [hbs]; exact lv_sub hl [0, 1, 3, 4, 5] rfl⟩
      · have hbg : pb_bg T j = true := by
          rcases hz : pb_bg T j with _ | _
          · rw [hz] at q20; exact absurd q20 (by decide)
          · rfl
        refine lv_aload_n hx hb dX1_best_23 rfl (lv_at hl 2 rfl) ?_
        refine va_get (D := D) (ci := 1) (v := .ref l1) (C := RX1) (T := TX1) (N := 7) hx hb hts hinX1 hown hK hP 0 rfl rfl 3 (by decide) (hts (.fieldLink RX1 13 "PrefixBenchModel" "length" "[I") (by decide +kernel)) (fun _ h9 => h9) rfl dX1_best_24 ?_
        refine lv_iload hx hb dX1_best_27 (lv_at hl 0 rfl) ?_
        refine pb_iald hx hb hK hP 2 1 rfl rfl j (rfl) (⟨by omega, by decide⟩) dX1_best_29 ?_
        refine pb_topi (z := nI (rj.1 / 8 % 64)) ((hR.2 _ _ hrj).2.1) ?_
        refine lv_iload_n hx hb dX1_best_30 rfl (lv_at hl 4 rfl) ?_
        refine lv_icmp_ge (tgt := 48) hx hb dX1_best_31 (by decide) (fun q31 => ?_) (fun q31 => ?_)
        · have hw2 := (nI_leI (a := lim) (b := rj.1 / 8 % 64) (by omega) (by omega)).mp q31
          have hmf : pb_mt T a lim j = false := by
            rw [pb_mt, hlj, show decide (rj.1 / 8 % 64 < lim) = false from decide_eq_false (by omega), Bool.false_and, Bool.and_false]
          refine lv_iconst (v := 0) hx hb dX1_best_48 (by decide) ?_
          refine lv_istore (lv' := [(5, .int 0), (4, .int (nI j)), (3, .int (pb_oi (pb_bs T a lim j))), (0, .ref m0), (1, .int (nI a)), (2, .int (nI lim))]) hx hb dX1_best_49 hl (by decide) rfl (fun ls hl => ?_)
          refine lv_iload hx hb dX1_best_51 (lv_at hl 0 rfl) ?_
          refine lv_if_eq (tgt := 81) hx hb dX1_best_53 (by decide) (fun q53 => ?_) (fun q53 => absurd (rfl) q53)
          have hbs : pb_bs T a lim (j + 1) = pb_bs T a lim j := pb_bs_f hmf
          refine lv_iload_n hx hb dX1_best_81 rfl (lv_at hl 2 rfl) ?_
          refine lv_istore_n (lv' := [(3, .int (pb_oi (pb_bs T a lim j))), (5, .int 0), (4, .int (nI j)), (0, .ref m0), (1, .int (nI a)), (2, .int (nI lim))]) hx hb dX1_best_82 rfl hl (by decide) rfl (fun ls hl => ?_)
          refine lv_iinc (v := nI (j + 1)) (lv' := [(4, .int (nI (j + 1))), (3, .int (pb_oi (pb_bs T a lim j))), (5, .int 0), (0, .ref m0), (1, .int (nI a)), (2, .int (nI lim))]) hx hb dX1_best_83 hl (k := 2) rfl (nI_1 _) (by decide) rfl (fun ls hl => ?_)
          refine lv_goto (tgt := 5) hx hb dX1_best_86 (by decide) ?_
          exact ih _ _ (by omega) ⟨j + 1, by omega, rfl, by rw [hbs]; exact lv_sub hl [0, 1, 3, 4, 5] rfl⟩
        · have hw2 := mt (nI_leI (a := lim) (b := rj.1 / 8 % 64) (by omega) (by omega)).mpr q31
          refine lv_aload_n hx hb dX1_best_34 rfl (lv_at hl 2 rfl) ?_
          refine lv_iload hx hb dX1_best_35 (lv_at hl 0 rfl) ?_
          refine lv_iload_n hx hb dX1_best_37 rfl (lv_at hl 3 rfl) ?_
          refine pb_callV (As := [.int (nI j), .int (nI a)]) (rest := []) ⟨hx, hb, hml, hown, hts⟩ (c_X1_has hT hR j hrj a ha) (cwV 2 hts gX1_best_X1_has rfl rfl rfl (by decide +kernel) ⟨Nat.le_of_ble_eq_true rfl, Nat.le_of_ble_eq_true rfl⟩) hP hK (va_recv hK hP (ci := 1) (q0 := 0) rfl rfl) rfl rfl hl (Nat.le_of_ble_eq_true rfl) dX1_best_38 ⟨Nat.zero_le _, Nat.zero_le _⟩ ?_
          refine lv_if_eq (tgt := 48) hx hb dX1_best_41 (by decide) (fun q41 => ?_) (fun q41 => ?_)
          · have hh9 : ¬ rj.1 / 512 = pb_cl a (rj.1 / 8 % 64) := fun z => by
              rw [if_pos z] at q41
              exact absurd q41 (by decide)
            have hmf : pb_mt T a lim j = false := by
              rw [pb_mt, hlj, hkj, show decide (rj.1 / 512 = pb_cl a (rj.1 / 8 % 64)) = false from decide_eq_false hh9, Bool.and_false, Bool.and_false]
            refine lv_iconst (v := 0) hx hb dX1_best_48 (by decide) ?_
            refine lv_istore (lv' := [(5, .int 0), (4, .int (nI j)), (3, .int (pb_oi (pb_bs T a lim j))), (0, .ref m0), (1, .int (nI a)), (2, .int (nI lim))]) hx hb dX1_best_49 hl (by decide) rfl (fun ls hl => ?_)
            refine lv_iload hx hb dX1_best_51 (lv_at hl 0 rfl) ?_
            refine lv_if_eq (tgt := 81) hx hb dX1_best_53 (by decide) (fun q53 => ?_) (fun q53 => absurd (rfl) q53)
            have hbs : pb_bs T a lim (j + 1) = pb_bs T a lim j := pb_bs_f hmf
            refine lv_iload_n hx hb dX1_best_81 rfl (lv_at hl 2 rfl) ?_
            refine lv_istore_n (lv' := [(3, .int (pb_oi (pb_bs T a lim j))), (5, .int 0), (4, .int (nI j)), (0, .ref m0), (1, .int (nI a)), (2, .int (nI lim))]) hx hb dX1_best_82 rfl hl (by decide) rfl (fun ls hl => ?_)
            refine lv_iinc (v := nI (j + 1)) (lv' := [(4, .int (nI (j + 1))), (3, .int (pb_oi (pb_bs T a lim j))), (5, .int 0), (0, .ref m0), (1, .int (nI a)), (2, .int (nI lim))]) hx hb dX1_best_83 hl (k := 2) rfl (nI_1 _) (by decide) rfl (fun ls hl => ?_)
            refine lv_goto (tgt := 5) hx hb dX1_best_86 (by decide) ?_
            exact ih _ _ (by omega) ⟨j + 1, by omega, rfl, by rw [hbs]; exact lv_sub hl [0, 1, 3, 4, 5] rfl⟩
          · have hh9 : rj.1 / 512 = pb_cl a (rj.1 / 8 % 64) := by
              rcases Decidable.em (rj.1 / 512 = pb_cl a (rj.1 / 8 % 64)) with z | z
              · exact z
              · rw [if_neg z] at q41; exact absurd rfl q41
            have hmt : pb_mt T a lim j = true := by
              rw [pb_mt, hbg, hlj, hkj, decide_eq_true hh9, decide_eq_true (show rj.1 / 8 % 64 < lim by omega)]; rfl
            refine lv_iconst (v := 1) hx hb dX1_best_44 (by decide) ?_
            refine lv_goto (tgt := 49) hx hb dX1_best_45 (by decide) ?_
            refine lv_istore (lv' := [(5, .int 1), (4, .int (nI j)), (3, .int (pb_oi (pb_bs T a lim j))), (0, .ref m0), (1, .int (nI a)), (2, .int (nI lim))]) hx hb dX1_best_49 hl (by decide) rfl (fun ls hl => ?_)
            refine lv_iload hx hb dX1_best_51 (lv_at hl 0 rfl) ?_
            refine lv_if_eq (tgt := 81) hx hb dX1_best_53 (by decide) (fun q53 => absurd q53 (by decide)) (fun q53 => ?_)
            refine lv_iload_n hx hb dX1_best_56 rfl (lv_at hl 2 rfl) ?_
            refine lv_if_lt (tgt := 76) hx hb dX1_best_57 (by decide) (fun q57 => ?_) (fun q57 => ?_)
            · have hn9 : pb_bs T a lim j = none := by
                rcases hz : pb_bs T a lim j with _ | i
                · rfl
                · rw [hz] at q57
                  have := pb_bs_lt hz
                  exact absurd q57 (nI_pos (by omega))
              have hbs : pb_bs T a lim (j + 1) = some j := pb_bs_0 hmt hn9
              refine lv_iload hx hb dX1_best_76 (lv_at hl 1 rfl) ?_
              refine lv_goto (tgt := 82) hx hb dX1_best_78 (by decide) ?_
              refine lv_istore_n (lv' := [(3, .int (nI j)), (5, .int 1), (4, .int (nI j)), (0, .ref m0), (1, .int (nI a)), (2, .int (nI lim))]) hx hb dX1_best_82 rfl hl (by decide) rfl (fun ls hl => ?_)
              refine lv_iinc (v := nI (j + 1)) (lv' := [(4, .int (nI (j + 1))), (3, .int (nI j)), (5, .int 1), (0, .ref m0), (1, .int (nI a)), (2, .int (nI lim))]) hx hb dX1_best_83 hl (k := 2) rfl (nI_1 _) (by decide) rfl (fun ls hl => ?_)
              refine lv_goto (tgt := 5) hx hb dX1_best_86 (by decide) ?_
              exact ih _ _ (by omega) ⟨j + 1, by omega, rfl, by rw [hbs]; exact lv_sub hl [0, 1, 3, 4, 5] rfl⟩
            · obtain ⟨i, hi⟩ : ∃ i, pb_bs T a lim j = some i := by
                rcases hz : pb_bs T a lim j with _ | i
                · rw [hz] at q57; exact absurd (by decide) q57
                · exact ⟨i, rfl⟩
              have hij := pb_bs_lt hi
              rw [hi] at hl
              have hl : lv_has ls 6 [(5, .int 1), (4, .int (nI j)), (3, .int (nI i)), (0, .ref m0), (1, .int (nI a)), (2, .int (nI lim))] := hl
              obtain ⟨ri, hri, mri⟩ := pb_get (T := T) (j := i) (by omega)
              have kri := pb_key_lt hT mri
              refine lv_aload_n hx hb dX1_best_60 rfl (lv_at hl 3 rfl) ?_
              refine va_get (D := D) (ci := 1) (v := .ref l1) (C := RX1) (T := TX1) (N := 7) hx hb hts hinX1 hown hK hP 0 rfl rfl 3 (by decide) (hts (.fieldLink RX1 13 "PrefixBenchModel" "length" "[I") (by decide +kernel)) (fun _ h9 => h9) rfl dX1_best_61 ?_
              refine lv_iload hx hb dX1_best_64 (lv_at hl 1 rfl) ?_
              refine pb_iald hx hb hK hP 2 1 rfl rfl j (rfl) (⟨by omega, by decide⟩) dX1_best_66 ?_
              refine pb_topi (z := nI (rj.1 / 8 % 64)) ((hR.2 _ _ hrj).2.1) ?_
              refine lv_aload_n hx hb dX1_best_67 rfl (lv_at hl 3 rfl) ?_
              refine va_get (D := D) (ci := 1) (v := .ref l1) (C := RX1) (T := TX1) (N := 7) hx hb hts hinX1 hown hK hP 0 rfl rfl 3 (by decide) (hts (.fieldLink RX1 13 "PrefixBenchModel" "length" "[I") (by decide +kernel)) (fun _ h9 => h9) rfl dX1_best_68 ?_
              refine lv_iload_n hx hb dX1_best_71 rfl (lv_at hl 2 rfl) ?_
              refine pb_iald hx hb hK hP 2 1 rfl rfl i (rfl) (⟨by omega, by decide⟩) dX1_best_72 ?_
              refine pb_topi (z := nI (ri.1 / 8 % 64)) ((hR.2 _ _ hri).2.1) ?_
              refine lv_icmp_le (tgt := 81) hx hb dX1_best_73 (by decide) (fun q73 => ?_) (fun q73 => ?_)
              · have hw4 := (nI_leI (a := rj.1 / 8 % 64) (b := ri.1 / 8 % 64) (by omega) (by omega)).mp q73
                have hw3 : ¬ pb_ln T i < pb_ln T j := by rw [hlj, pb_ln_of hri]; omega
                have hbs : pb_bs T a lim (j + 1) = some i := pb_bs_2 hmt hi hw3
                refine lv_iload_n hx hb dX1_best_81 rfl (lv_at hl 2 rfl) ?_
                refine lv_istore_n (lv' := [(3, .int (nI i)), (5, .int 1), (4, .int (nI j)), (0, .ref m0), (1, .int (nI a)), (2, .int (nI lim))]) hx hb dX1_best_82 rfl hl (by decide) rfl (fun ls hl => ?_)
                refine lv_iinc (v := nI (j + 1)) (lv' := [(4, .int (nI (j + 1))), (3, .int (nI i)), (5, .int 1), (0, .ref m0), (1, .int (nI a)), (2, .int (nI lim))]) hx hb dX1_best_83 hl (k := 2) rfl (nI_1 _) (by decide) rfl (fun ls hl => ?_)
                refine lv_goto (tgt := 5) hx hb dX1_best_86 (by decide) ?_
                exact ih _ _ (by omega) ⟨j + 1, by omega, rfl, by rw [hbs]; exact lv_sub hl [0, 1, 3, 4, 5] rfl⟩
              · have hw4 := mt (nI_leI (a := rj.1 / 8 % 64) (b := ri.1 / 8 % 64) (by omega) (by omega)).mpr q73
                have hbs : pb_bs T a lim (j + 1) = some j := pb_bs_1 hmt hi (by rw [hlj, pb_ln_of hri]; omega)
                refine lv_iload hx hb dX1_best_76 (lv_at hl 1 rfl) ?_
                refine lv_goto (tgt := 82) hx hb dX1_best_78 (by decide) ?_
                refine lv_istore_n (lv' := [(3, .int (nI j)), (5, .int 1), (4, .int (nI j)), (0, .ref m0), (1, .int (nI a)), (2, .int (nI lim))]) hx hb dX1_best_82 rfl hl (by decide) rfl (fun ls hl => ?_)
                refine lv_iinc (v := nI (j + 1)) (lv' := [(4, .int (nI (j + 1))), (3, .int (nI j)), (5, .int 1), (0, .ref m0), (1, .int (nI a)), (2, .int (nI lim))]) hx hb dX1_best_83 hl (k := 2) rfl (nI_1 _) (by decide) rfl (fun ls hl => ?_)
                refine lv_goto (tgt := 5) hx hb dX1_best_86 (by decide) ?_
                exact ih _ _ (by omega) ⟨j + 1, by omega, rfl, by rw [hbs]; exact lv_sub hl [0, 1, 3, 4, 5] rfl⟩
  · exact hL _ _ ⟨0, Nat.zero_le _, rfl, lv_sub hl [0, 1, 2, 3, 4] rfl⟩

set_option maxHeartbeats 4000000 in
set_option maxRecDepth 100000 in
theorem c_X1_size (a : Nat) (ha : a < 2 ^ 64) : pb_Rd l yX1_size wsX1_size 0 0 (pb_S [.long (lN a)]) (.int (nI (pb_bits a 64))) := by
  refine pb_ofS RX1 (by decide) rfl rfl (Nat.le_of_ble_eq_true rfl) (fun p e s m args below meth c ls hx hb hml hr hlocks hown hts hl => ?_)
  have hl : lv_has ls 4 [(0, .long (lN a))] := hl
  refine lv_iconst (v := 0) hx hb dX1_size_0 (by decide) ?_
  refine lv_istore_n (lv' := [(2, .int 0), (0, .long (lN a))]) hx hb dX1_size_1 rfl hl (by decide) rfl (fun ls hl => ?_)
  refine lv_iconst (v := 0) hx hb dX1_size_2 (by decide) ?_
  refine lv_istore_n (lv' := [(3, .int 0), (2, .int 0), (0, .long (lN a))]) hx hb dX1_size_3 rfl hl (by decide) rfl (fun ls hl => ?_)
  refine pb_loop (fun kk ls => ∃ i : Nat, i ≤ 64 ∧ 64 - i = kk ∧ lv_has ls 4 [(3, .int (nI i)), (2, .int (nI (pb_bits a i))), (0, .long (lN a))]) 4 [] (fun kk ls hI ih => ?_) (fun hL => ?_)
  · obtain ⟨i, hi, rfl, hl⟩ := hI
    refine lv_iload_n hx hb dX1_size_4 rfl (lv_at hl 0 rfl) ?_
    refine lv_bipush (v := 64) hx hb dX1_size_5 (by decide) ?_
    refine lv_icmp_ge (tgt := 34) hx hb dX1_size_7 (by decide) (fun q7 => ?_) (fun q7 => ?_)
    · have hw := (nI_leI (a := 64) (b := i) (by decide) (by omega)).mp q7
      refine lv_iload_n hx hb dX1_size_34 rfl (lv_at hl 1 rfl) ?_
      exact pb_iret hx hb hr hlocks dX1_size_35 (by rw [show 64 = i by omega])
    · have hw := mt (nI_leI (a := 64) (b := i) (by decide) (by omega)).mpr q7
      have hm2 := Nat.mod_lt (a / 2 ^ i) (y := 2) (by decide)
      refine lv_iload_n hx hb dX1_size_10 rfl (lv_at hl 1 rfl) ?_
      refine lv_lload_n hx hb dX1_size_11 rfl (lv_at hl 2 rfl) ?_
      refine lv_iload_n hx hb dX1_size_12 rfl (lv_at hl 0 rfl) ?_
      refine lv_lshr hx hb dX1_size_13 rfl ?_
      refine lv_lconst (v := 1) hx hb dX1_size_14 (by decide) ?_
      refine lv_land hx hb dX1_size_15 ?_
      refine pb_topl (z := lN (a / 2 ^ i % 2)) (pb_sbit ha (by omega)) ?_
      refine lv_lconst (v := 1) hx hb dX1_size_16 (by decide) ?_
      refine W.lcmp hx hb dX1_size_17 ?_
      refine lv_if_ne (tgt := 25) hx hb dX1_size_18 (by decide) (fun q18 => ?_) (fun q18 => ?_)
      · have q18 := mt (lg_cmp_eq _ _).mpr q18
        have hb9 : a / 2 ^ i % 2 = 0 := by
          have : a / 2 ^ i % 2 ≠ 1 := fun z => q18 (by rw [z]; rfl)
          omega
        refine lv_iconst (v := 0) hx hb dX1_size_25 (by decide) ?_
        refine lv_iadd hx hb dX1_size_26 ?_
        refine pb_topi (z := nI (pb_bits a i + 0)) (nI_add _ 0) ?_
        refine lv_istore_n (lv' := [(2, .int (nI (pb_bits a i + 0))), (3, .int (nI i)), (0, .long (lN a))]) hx hb dX1_size_27 rfl hl (by decide) rfl (fun ls hl => ?_)
        refine lv_iinc (v := nI (i + 1)) (lv' := [(3, .int (nI (i + 1))), (2, .int (nI (pb_bits a i + 0))), (0, .long (lN a))]) hx hb dX1_size_28 hl (k := 1) rfl (nI_1 _) (by decide) rfl (fun ls hl => ?_)
        refine lv_goto (tgt := 4) hx hb dX1_size_31 (by decide) ?_
        exact ih _ _ (by omega) ⟨i + 1, by omega, rfl, by rw [pb_bits, hb9]; exact lv_sub hl [0, 1, 2] rfl⟩
      · have q18 := (lg_cmp_eq _ _).mp q18
        have hb9 : a / 2 ^ i % 2 = 1 := (pk_lEQ (a := a / 2 ^ i % 2) (b := 1) (by omega) (by decide)).mp q18
        refine lv_iconst (v := 1) hx hb dX1_size_21 (by decide) ?_
        refine lv_goto (tgt := 26) hx hb dX1_size_22 (by decide) ?_
        refine lv_iadd hx hb dX1_size_26 ?_
        refine pb_topi (z := nI (pb_bits a i + 1)) (nI_add _ 1) ?_
        refine lv_istore_n (lv' := [(2, .int (nI (pb_bits a i + 1))), (3, .int (nI i)), (0, .long (lN a))]) hx hb dX1_size_27 rfl hl (by decide) rfl (fun ls hl => ?_)
        refine lv_iinc (v := nI (i + 1)) (lv' := [(3, .int (nI (i + 1))), (2, .int (nI (pb_bits a i + 1))), (0, .long (lN a))]) hx hb dX1_size_28 hl (k := 1) rfl (nI_1 _) (by decide) rfl (fun ls hl => ?_)
        refine lv_goto (tgt := 4) hx hb dX1_size_31 (by decide) ?_
        exact ih _ _ (by omega) ⟨i + 1, by omega, rfl, by rw [pb_bits, hb9]; exact lv_sub hl [0, 1, 2] rfl⟩
  · exact hL _ _ ⟨0, Nat.zero_le _, rfl, lv_sub hl [0, 1, 2] rfl⟩

set_option maxHeartbeats 4000000 in
set_option maxRecDepth 100000 in
theorem c_X1_isKnown {T : List pb_Rt} (hT : pb_ok T) (hR : pb_rM T Af Lf Of Cf Hf) (a k : Nat) (ha : a < 2 ^ 32) (hk : k < 64) : pb_Rd l yX1_isKnown wsX1_isKnown 4 88 (pb_X [.ref m0, .int (nI a), .int (nI k)] D (pb_ty cI cJ) (pb_wM cI cJ m0 a1 l1 o1 c1 h1 Af Lf Of Cf Hf co (nI T.length))) (.int (if pb_kn T (pb_pre a k) = true then 1 else 0)) := by
  refine pb_ofX RX1 (by decide) rfl rfl (Nat.le_of_ble_eq_true rfl) (fun p e s m args below meth c ls hx hb hml hr hlocks hown hts hP hK hl => ?_)
  have hinX1 : ∀ w ∈ wsX10, w ∈ wsX1_isKnown := by decide +kernel
  have hl : lv_has ls 4 [(0, .ref m0), (1, .int (nI a)), (2, .int (nI k))] := hl
  have hcap := hR.1
  refine lv_aload_n hx hb dX1_isKnown_0 rfl (lv_at hl 0 rfl) ?_
  refine lv_iload_n hx hb dX1_isKnown_1 rfl (lv_at hl 1 rfl) ?_
  refine lv_iload_n hx hb dX1_isKnown_2 rfl (lv_at hl 2 rfl) ?_
  refine lv_iconst (v := 0) hx hb dX1_isKnown_3 (by decide) ?_
  refine pb_callS (As := [.int (nI a), .int (nI k), .int 0]) (rest := [.ref m0]) ⟨hx, hb, hml, hown, hts⟩ (c_X1_rank a k 0 ha (by omega) (by decide)) (va_cwS 3 hts gX1_isKnown_X1_rank rfl rfl rfl (by decide +kernel) ⟨Nat.le_of_ble_eq_true rfl, Nat.le_of_ble_eq_true rfl⟩) rfl rfl hl (Nat.le_of_ble_eq_true rfl) dX1_isKnown_4 ⟨Nat.zero_le _, Nat.zero_le _⟩ ?_
  refine pb_callV (As := [.long (lN (pb_pre a k * 8 + 0))]) (rest := []) ⟨hx, hb, hml, hown, hts⟩ (c_X1_place hT hR (pb_pre a k * 8 + 0) (by show (64 * a + k) * 8 + 0 < _; omega)) (cwV 1 hts gX1_isKnown_X1_place rfl rfl rfl (by decide +kernel) ⟨Nat.le_of_ble_eq_true rfl, Nat.le_of_ble_eq_true rfl⟩) hP hK (va_recv hK hP (ci := 1) (q0 := 0) rfl rfl) rfl rfl hl (Nat.le_of_ble_eq_true rfl) dX1_isKnown_7 ⟨Nat.zero_le _, Nat.zero_le _⟩ ?_
  refine lv_istore_n (lv' := [(3, .int (nI (pb_lb T (pb_pre a k * 8)))), (0, .ref m0), (1, .int (nI a)), (2, .int (nI k))]) hx hb dX1_isKnown_10 rfl hl (by decide) rfl (fun ls hl => ?_)
  have hle := pb_lb_le T (pb_pre a k * 8)
  refine lv_iload_n hx hb dX1_isKnown_11 rfl (lv_at hl 0 rfl) ?_
  refine lv_aload_n hx hb dX1_isKnown_12 rfl (lv_at hl 1 rfl) ?_
  refine va_get (D := D) (ci := 1) (v := .int (nI T.length)) (C := RX1) (T := TX1) (N := 7) hx hb hts hinX1 hown hK hP 0 rfl rfl 1 (by decide) (hts (.fieldLink RX1 48 "PrefixBenchModel" "count" "I") (by decide +kernel)) (fun _ h9 => h9) rfl dX1_isKnown_13 ?_
  refine lv_icmp_ge (tgt := 43) hx hb dX1_isKnown_16 (by decide) (fun q16 => ?_) (fun q16 => ?_)
  · have hw := (nI_leI (a := T.length) (b := pb_lb T (pb_pre a k * 8)) (by omega) (by omega)).mp q16
    have hb9 : ¬ pb_kn T (pb_pre a k) = true := fun z => by
      rw [pb_kn_no hT.1 (List.getElem?_eq_none_iff.mpr hw)] at z
      exact absurd z (by decide)
    refine lv_iconst (v := 0) hx hb dX1_isKnown_43 (by decide) ?_
    exact pb_zret hx hb hr hlocks dX1_isKnown_44 (by decide) (by rw [if_neg hb9])
  · have hw := mt (nI_leI (a := T.length) (b := pb_lb T (pb_pre a k * 8)) (by omega) (by omega)).mpr q16
    obtain ⟨rz, hrz, mrz⟩ := pb_get (T := T) (j := pb_lb T (pb_pre a k * 8)) (by omega)
    have krz := pb_key_lt hT mrz
    have hiff := pb_kn_iff hT.1 hrz
    refine lv_aload_n hx hb dX1_isKnown_19 rfl (lv_at hl 1 rfl) ?_
    refine va_get (D := D) (ci := 1) (v := .ref a1) (C := RX1) (T := TX1) (N := 7) hx hb hts hinX1 hown hK hP 0 rfl rfl 2 (by decide) (hts (.fieldLink RX1 7 "PrefixBenchModel" "address" "[I") (by decide +kernel)) (fun _ h9 => h9) rfl dX1_isKnown_20 ?_
    refine lv_iload_n hx hb dX1_isKnown_23 rfl (lv_at hl 0 rfl) ?_
    refine pb_iald hx hb hK hP 1 1 rfl rfl (pb_lb T (pb_pre a k * 8)) (rfl) (⟨by omega, by decide⟩) dX1_isKnown_24 ?_
    refine pb_topi (z := nI (rz.1 / 512)) ((hR.2 _ _ hrz).1) ?_
    refine lv_iload_n hx hb dX1_isKnown_25 rfl (lv_at hl 2 rfl) ?_
    refine lv_icmp_ne (tgt := 43) hx hb dX1_isKnown_26 (by decide) (fun q26 => ?_) (fun q26 => ?_)
    · have hb9 : ¬ pb_kn T (pb_pre a k) = true := fun z => q26 (by rw [show rz.1 / 512 = a by have z2 : rz.1 / 8 = 64 * a + k := hiff.mpr z; omega])
      refine lv_iconst (v := 0) hx hb dX1_isKnown_43 (by decide) ?_
      exact pb_zret hx hb hr hlocks dX1_isKnown_44 (by decide) (by rw [if_neg hb9])
    · have w1 := (pb_nI_inj (by omega) ha).mp q26
      refine lv_aload_n hx hb dX1_isKnown_29 rfl (lv_at hl 1 rfl) ?_
      refine va_get (D := D) (ci := 1) (v := .ref l1) (C := RX1) (T := TX1) (N := 7) hx hb hts hinX1 hown hK hP 0 rfl rfl 3 (by decide) (hts (.fieldLink RX1 13 "PrefixBenchModel" "length" "[I") (by decide +kernel)) (fun _ h9 => h9) rfl dX1_isKnown_30 ?_
      refine lv_iload_n hx hb dX1_isKnown_33 rfl (lv_at hl 0 rfl) ?_
      refine pb_iald hx hb hK hP 2 1 rfl rfl (pb_lb T (pb_pre a k * 8)) (rfl) (⟨by omega, by decide⟩) dX1_isKnown_34 ?_
      refine pb_topi (z := nI (rz.1 / 8 % 64)) ((hR.2 _ _ hrz).2.1) ?_
      refine lv_iload_n hx hb dX1_isKnown_35 rfl (lv_at hl 3 rfl) ?_
      refine lv_icmp_ne (tgt := 43) hx hb dX1_isKnown_36 (by decide) (fun q36 => ?_) (fun q36 => ?_)
      · have hb9 : ¬ pb_kn T (pb_pre a k) = true := fun z => q36 (by rw [show rz.1 / 8 % 64 = k by have z2 : rz.1 / 8 = 64 * a + k := hiff.mpr z; omega])
        refine lv_iconst (v := 0) hx hb dX1_isKnown_43 (by decide) ?_
        exact pb_zret hx hb hr hlocks dX1_isKnown_44 (by decide) (by rw [if_neg hb9])
      · have w2 := (pb_nI_inj (by omega) (by omega)).mp q36
        have hb9 : pb_kn T (pb_pre a k) = true := hiff.mp (by show rz.1 / 8 = 64 * a + k; omega)
        refine lv_iconst (v := 1) hx hb dX1_isKnown_39 (by decide) ?_
        refine lv_goto (tgt := 44) hx hb dX1_isKnown_40 (by decide) ?_
        exact pb_zret hx hb hr hlocks dX1_isKnown_44 (by decide) (by rw [if_pos hb9])

end PB6
