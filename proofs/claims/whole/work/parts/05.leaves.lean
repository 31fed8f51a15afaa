/-! LEAVES of PrefixBench: static helpers, reads of a place, searches (laid by wip/gen/p05.py) -/
section PB2
theorem pb_no_lt {j n : Nat} (hj : j < n) (hn : n < 2 ^ 31) : ¬ nI n ≤ nI j := nI_ge hj hn
theorem pb_dn_lt {k : Nat} (hk : k < 2 ^ 31) : nI k - 1 < 0 ↔ k = 0 := by
  cases k with
  | zero => exact ⟨fun _ => rfl, fun _ => by decide⟩
  | succ k => rw [nI_pred]; exact ⟨fun h => absurd h (nI_pos (by omega)), fun h => by omega⟩
theorem pb_dec (x : Int32) : x + Int32.ofInt (-1) = x - 1 := by
  rw [Int32.sub_eq_add_neg, show Int32.ofInt (-1) = -1 from by decide]
theorem pb_m1_ne {j : Nat} (h : j < 2 ^ 31) : nI j ≠ -1 := fun z => by
  have h1 := congrArg Int32.toInt z
  rw [nI_toInt h] at h1
  have h2 : (-1 : Int32).toInt = -1 := by decide
  omega
theorem pb_lm1 {a : Nat} (h : a < 2 ^ 62) : lN a ≠ -1 := fun z => by
  have h1 := congrArg Int64.toInt z
  rw [pk_lT (by omega)] at h1
  have h2 : (-1 : Int64).toInt = -1 := by decide
  omega
theorem pb_key_lt {T : List pb_Rt} (h : pb_ok T) {r : pb_Rt} (hr : r ∈ T) : r.1 < 2 ^ 41 := by
  have := (h.2 r hr).1
  omega
theorem pb_ge {T : List pb_Rt} (hT : pb_so T) {k : Nat} {r : pb_Rt} (h : T[pb_lb T k]? = some r) : k ≤ r.1 := by
  have := (pb_lb_iff hT (k := k) h)
  omega
/-- there is a route of this key, of this prefix -/
def pb_hs (T : List pb_Rt) (k : Nat) : Bool := T.any (fun r => decide (r.1 = k))
def pb_kn (T : List pb_Rt) (q : Nat) : Bool := T.any (fun r => decide (r.1 / 8 = q))
theorem pb_hs_iff {T : List pb_Rt} (hT : pb_so T) {k : Nat} {r : pb_Rt} (h : T[pb_lb T k]? = some r) : r.1 = k ↔ pb_hs T k = true := by
  unfold pb_hs
  rw [List.any_eq_true]
  constructor
  · intro e; exact ⟨r, List.mem_of_getElem? h, by simpa using e⟩
  · rintro ⟨x, hx, he⟩
    have he : x.1 = k := by simpa using he
    obtain ⟨i, hi⟩ := List.getElem?_of_mem hx
    have h1 := pb_lb_iff hT (k := k) hi
    have h2 := pb_lb_iff hT (k := x.1 + 1) hi
    have h3 := pb_lb_iff hT (k := x.1 + 1) h
    have h4 := pb_lb_iff hT (k := k) h
    have h5 : ¬ r.1 < k := by omega
    rcases Nat.lt_trichotomy i (pb_lb T k) with z | z | z
    · omega
    · rw [z, h] at hi; cases hi; exact he
    · have := pb_lb_le T (x.1 + 1)
      have : r.1 < x.1 + 1 := h3.mpr (by omega)
      omega
theorem pb_hs_no {T : List pb_Rt} (hT : pb_so T) {k : Nat} (h : T[pb_lb T k]? = none) : pb_hs T k = false := by
  unfold pb_hs
  rw [List.any_eq_false]
  intro x hx
  obtain ⟨i, hi⟩ := List.getElem?_of_mem hx
  have h1 := pb_lb_iff hT (k := k) hi
  have h2 := (List.getElem?_eq_some_iff.mp hi).1
  have h3 := List.getElem?_eq_none_iff.mp h
  have : x.1 < k := h1.mpr (by omega)
  simp; omega
theorem pb_kn_iff {T : List pb_Rt} (hT : pb_so T) {q : Nat} {r : pb_Rt} (h : T[pb_lb T (q * 8)]? = some r) : r.1 / 8 = q ↔ pb_kn T q = true := by
  unfold pb_kn
  rw [List.any_eq_true]
  constructor
  · intro e; exact ⟨r, List.mem_of_getElem? h, by simpa using e⟩
  · rintro ⟨x, hx, he⟩
    have he : x.1 / 8 = q := by simpa using he
    obtain ⟨i, hi⟩ := List.getElem?_of_mem hx
    have h1 := pb_lb_iff hT (k := q * 8) hi
    have h2 := pb_lb_iff hT (k := x.1 + 1) hi
    have h3 := pb_lb_iff hT (k := x.1 + 1) h
    have h4 := pb_lb_iff hT (k := q * 8) h
    have h5 : ¬ r.1 < q * 8 := by omega
    rcases Nat.lt_trichotomy i (pb_lb T (q * 8)) with z | z | z
    · have := h1.mpr z; omega
    · rw [z, h] at hi; cases hi; exact he
    · have : r.1 < x.1 + 1 := h3.mpr (by have := h2.mp (by omega); omega)
      omega
theorem pb_kn_no {T : List pb_Rt} (hT : pb_so T) {q : Nat} (h : T[pb_lb T (q * 8)]? = none) : pb_kn T q = false := by
  unfold pb_kn
  rw [List.any_eq_false]
  intro x hx
  obtain ⟨i, hi⟩ := List.getElem?_of_mem hx
  have h1 := pb_lb_iff hT (k := q * 8) hi
  have h2 := (List.getElem?_eq_some_iff.mp hi).1
  have h3 := List.getElem?_eq_none_iff.mp h
  have : x.1 < q * 8 := h1.mpr (by omega)
  simp; omega
/-- the place of the best route of the longest known prefix of an address among those shorter than a limit; -1 for none -/
def pb_lg (T : List pb_Rt) (a : Nat) : Nat → Int32
  | 0 => -1
  | k + 1 => if pb_kn T (pb_pre (pb_cl a k) k) = true then nI (pb_lb T (pb_pre (pb_cl a k) k * 8)) else pb_lg T a k
variable {l : Launch} {D : va_G} {cI cJ : ClassId} {h0 k1 c1 h1 cap : Nat} {Kf : Nat → Int64} {Cf : Nat → Int32} {Hf : Nat → Int64}
set_option maxHeartbeats 4000000 in
set_option maxRecDepth 100000 in
theorem c_X0_mask (k : Nat) (hk : k < 2 ^ 31) : pb_Rd l yX0_mask wsX0_mask 0 0 (pb_S [.int (nI k)]) (.int (pb_mk k)) := by
  refine pb_ofS RX0 (by decide) rfl rfl (Nat.le_of_ble_eq_true rfl) (fun p e s m args below meth c ls hx hb hml hr hlocks hown hts hl => ?_)
  have hl : lv_has ls 1 [(0, .int (nI k))] := hl
  refine lv_iload_n hx hb dX0_mask_0 rfl (lv_at hl 0 rfl) ?_
  refine lv_if_gt (tgt := 8) hx hb dX0_mask_1 (by decide) (fun q1 => ?_) (fun q1 => ?_)
  · have hk0 : k ≠ 0 := fun z => by subst z; exact absurd q1 (by decide)
    refine lv_iconst (v := (-1)) hx hb dX0_mask_8 (by decide) ?_
    refine lv_bipush (v := 32) hx hb dX0_mask_9 (by decide) ?_
    refine lv_iload_n hx hb dX0_mask_11 rfl (lv_at hl 0 rfl) ?_
    refine lv_isub hx hb dX0_mask_12 ?_
    refine lv_ishl hx hb dX0_mask_13 ?_
    exact pb_iret hx hb hr hlocks dX0_mask_14 (by rw [pb_mk, if_neg hk0])
  · have hk0 : k = 0 := by
      rcases Nat.eq_zero_or_pos k with z | z
      · exact z
      · exact absurd ((nI_ltI (a := 0) (b := k) (by decide) hk).mpr z) q1
    exact lv_iconst (v := 0) hx hb dX0_mask_4 (by decide) (lv_goto (tgt := 14) hx hb dX0_mask_5 (by decide) (pb_iret hx hb hr hlocks dX0_mask_14 (by rw [hk0]; rfl)))

set_option maxHeartbeats 4000000 in
set_option maxRecDepth 100000 in
theorem c_X0_prefixOf (a k : Nat) (ha : a < 2 ^ 32) (hk : k < 2 ^ 31) : pb_Rd l yX0_prefixOf wsX0_prefixOf 0 0 (pb_S [.int (nI a), .int (nI k)]) (.long (lN (pb_pre a k))) := by
  refine pb_ofS RX0 (by decide) rfl rfl (Nat.le_of_ble_eq_true rfl) (fun p e s m args below meth c ls hx hb hml hr hlocks hown hts hl => ?_)
  have hl : lv_has ls 2 [(0, .int (nI a)), (1, .int (nI k))] := hl
  refine lv_iload_n hx hb dX0_prefixOf_0 rfl (lv_at hl 0 rfl) ?_
  refine lv_i2l hx hb dX0_prefixOf_1 rfl ?_
  refine lv_ldc2 (v := 4294967295) hx hb hown (hts (.constantLong RX0 111 4294967295) (by decide +kernel)) dX0_prefixOf_2 ?_
  refine lv_land hx hb dX0_prefixOf_5 ?_
  refine lv_bipush (v := 6) hx hb dX0_prefixOf_6 (by decide) ?_
  refine lv_lshl hx hb dX0_prefixOf_8 rfl ?_
  refine lv_iload_n hx hb dX0_prefixOf_9 rfl (lv_at hl 1 rfl) ?_
  refine lv_i2l hx hb dX0_prefixOf_10 rfl ?_
  refine lv_ladd hx hb dX0_prefixOf_11 ?_
  exact pb_lret hx hb hr hlocks dX0_prefixOf_12 (by rw [← pb_preOf ha hk])

set_option maxHeartbeats 4000000 in
set_option maxRecDepth 100000 in
theorem c_X0_routeKey (q o : Nat) (ho : o < 2 ^ 31) : pb_Rd l yX0_routeKey wsX0_routeKey 0 0 (pb_S [.long (lN q), .int (nI o)]) (.long (lN (q * 8 + o))) := by
  refine pb_ofS RX0 (by decide) rfl rfl (Nat.le_of_ble_eq_true rfl) (fun p e s m args below meth c ls hx hb hml hr hlocks hown hts hl => ?_)
  have hl : lv_has ls 3 [(0, .long (lN q)), (2, .int (nI o))] := hl
  refine lv_lload_n hx hb dX0_routeKey_0 rfl (lv_at hl 0 rfl) ?_
  refine lv_iconst (v := 3) hx hb dX0_routeKey_1 (by decide) ?_
  refine lv_lshl hx hb dX0_routeKey_2 rfl ?_
  refine lv_iload_n hx hb dX0_routeKey_3 rfl (lv_at hl 1 rfl) ?_
  refine lv_i2l hx hb dX0_routeKey_4 rfl ?_
  refine lv_ladd hx hb dX0_routeKey_5 ?_
  exact pb_lret hx hb hr hlocks dX0_routeKey_6 (by rw [← pb_keyOf ho])

set_option maxHeartbeats 4000000 in
set_option maxRecDepth 100000 in
theorem c_X0_addressOf (q : Nat) (hq : q < 2 ^ 62) : pb_Rd l yX0_addressOf wsX0_addressOf 0 0 (pb_S [.long (lN q)]) (.int (nI (q / 64))) := by
  refine pb_ofS RX0 (by decide) rfl rfl (Nat.le_of_ble_eq_true rfl) (fun p e s m args below meth c ls hx hb hml hr hlocks hown hts hl => ?_)
  have hl : lv_has ls 2 [(0, .long (lN q))] := hl
  refine lv_lload_n hx hb dX0_addressOf_0 rfl (lv_at hl 0 rfl) ?_
  refine lv_bipush (v := 6) hx hb dX0_addressOf_1 (by decide) ?_
  refine lv_lshr hx hb dX0_addressOf_3 rfl ?_
  refine lv_l2i hx hb dX0_addressOf_4 rfl ?_
  exact pb_iret hx hb hr hlocks dX0_addressOf_5 (by rw [← pb_adrOf hq])

set_option maxHeartbeats 4000000 in
set_option maxRecDepth 100000 in
theorem c_X0_lengthOf (q : Nat) : pb_Rd l yX0_lengthOf wsX0_lengthOf 0 0 (pb_S [.long (lN q)]) (.int (nI (q % 64))) := by
  refine pb_ofS RX0 (by decide) rfl rfl (Nat.le_of_ble_eq_true rfl) (fun p e s m args below meth c ls hx hb hml hr hlocks hown hts hl => ?_)
  have hl : lv_has ls 2 [(0, .long (lN q))] := hl
  refine lv_lload_n hx hb dX0_lengthOf_0 rfl (lv_at hl 0 rfl) ?_
  refine lv_ldc2 (v := 63) hx hb hown (hts (.constantLong RX0 163 63) (by decide +kernel)) dX0_lengthOf_1 ?_
  refine lv_land hx hb dX0_lengthOf_4 ?_
  refine lv_l2i hx hb dX0_lengthOf_5 rfl ?_
  exact pb_iret hx hb hr hlocks dX0_lengthOf_6 (by rw [← pb_lenOf q])

set_option maxHeartbeats 4000000 in
set_option maxRecDepth 100000 in
theorem c_X0_isPlace_t (j n : Nat) (hj : j < n) (hn : n ≤ cap ∧ cap < 2 ^ 30) : pb_Rd l yX0_isPlace wsX0_isPlace 0 0 (pb_X [.ref h0, .int (nI j)] D (pb_ty cI cJ) (pb_wX cI cJ h0 k1 c1 h1 cap Kf Cf Hf (nI n))) (.int 1) := by
  refine pb_ofX RX0 (by decide) rfl rfl (Nat.le_of_ble_eq_true rfl) (fun p e s m args below meth c ls hx hb hml hr hlocks hown hts hP hK hl => ?_)
  have hinX0 : ∀ w ∈ wsX00, w ∈ wsX0_isPlace := by decide +kernel
  have hl : lv_has ls 2 [(0, .ref h0), (1, .int (nI j))] := hl
  refine lv_iload_n hx hb dX0_isPlace_0 rfl (lv_at hl 1 rfl) ?_
  refine lv_if_lt (tgt := 43) hx hb dX0_isPlace_1 (by decide) (fun q1 => absurd q1 (nI_pos (by omega))) (fun q1 => ?_)
  refine lv_iload_n hx hb dX0_isPlace_4 rfl (lv_at hl 1 rfl) ?_
  refine lv_aload_n hx hb dX0_isPlace_5 rfl (lv_at hl 0 rfl) ?_
  refine va_get (D := D) (ci := 0) (v := .int (nI n)) (C := RX0) (T := TX0) (N := 4) hx hb hts hinX0 hown hK hP 0 rfl rfl 3 (by decide) (hts (.fieldLink RX0 20 "PrefixBench" "count" "I") (by decide +kernel)) (fun _ h9 => h9) rfl dX0_isPlace_6 ?_
  refine lv_icmp_ge (tgt := 43) hx hb dX0_isPlace_9 (by decide) (fun q9 => absurd q9 (pb_no_lt hj (by omega))) (fun q9 => ?_)
  refine lv_iload_n hx hb dX0_isPlace_12 rfl (lv_at hl 1 rfl) ?_
  refine lv_aload_n hx hb dX0_isPlace_13 rfl (lv_at hl 0 rfl) ?_
  refine va_get (D := D) (ci := 0) (v := .ref k1) (C := RX0) (T := TX0) (N := 4) hx hb hts hinX0 hown hK hP 0 rfl rfl 0 (by decide) (hts (.fieldLink RX0 9 "PrefixBench" "keys" "[J") (by decide +kernel)) (fun _ h9 => h9) rfl dX0_isPlace_14 ?_
  refine va_alen hx hb hK hP 1 0 rfl rfl (v := nI cap) rfl dX0_isPlace_17 ?_
  refine lv_icmp_ge (tgt := 43) hx hb dX0_isPlace_18 (by decide) (fun q18 => absurd q18 (pb_no_lt (n := cap) (by omega) (by omega))) (fun q18 => ?_)
  refine lv_iload_n hx hb dX0_isPlace_21 rfl (lv_at hl 1 rfl) ?_
  refine lv_aload_n hx hb dX0_isPlace_22 rfl (lv_at hl 0 rfl) ?_
  refine va_get (D := D) (ci := 0) (v := .ref c1) (C := RX0) (T := TX0) (N := 4) hx hb hts hinX0 hown hK hP 0 rfl rfl 1 (by decide) (hts (.fieldLink RX0 13 "PrefixBench" "costs" "[I") (by decide +kernel)) (fun _ h9 => h9) rfl dX0_isPlace_23 ?_
  refine va_alen hx hb hK hP 2 1 rfl rfl (v := nI cap) rfl dX0_isPlace_26 ?_
  refine lv_icmp_ge (tgt := 43) hx hb dX0_isPlace_27 (by decide) (fun q27 => absurd q27 (pb_no_lt (n := cap) (by omega) (by omega))) (fun q27 => ?_)
  refine lv_iload_n hx hb dX0_isPlace_30 rfl (lv_at hl 1 rfl) ?_
  refine lv_aload_n hx hb dX0_isPlace_31 rfl (lv_at hl 0 rfl) ?_
  refine va_get (D := D) (ci := 0) (v := .ref h1) (C := RX0) (T := TX0) (N := 4) hx hb hts hinX0 hown hK hP 0 rfl rfl 2 (by decide) (hts (.fieldLink RX0 17 "PrefixBench" "hopSets" "[J") (by decide +kernel)) (fun _ h9 => h9) rfl dX0_isPlace_32 ?_
  refine va_alen hx hb hK hP 3 0 rfl rfl (v := nI cap) rfl dX0_isPlace_35 ?_
  refine lv_icmp_ge (tgt := 43) hx hb dX0_isPlace_36 (by decide) (fun q36 => absurd q36 (pb_no_lt (n := cap) (by omega) (by omega))) (fun q36 => ?_)
  refine lv_iconst (v := 1) hx hb dX0_isPlace_39 (by decide) ?_
  refine lv_goto (tgt := 44) hx hb dX0_isPlace_40 (by decide) ?_
  exact pb_zret hx hb hr hlocks dX0_isPlace_44 (by decide) (rfl)

set_option maxHeartbeats 4000000 in
set_option maxRecDepth 100000 in
theorem c_X0_isPlace_f (i : Int32) (n : Nat) (hi : i < 0 ∨ nI n ≤ i) : pb_Rd l yX0_isPlace wsX0_isPlace 0 0 (pb_X [.ref h0, .int i] D (pb_ty cI cJ) (pb_wX cI cJ h0 k1 c1 h1 cap Kf Cf Hf (nI n))) (.int 0) := by
  refine pb_ofX RX0 (by decide) rfl rfl (Nat.le_of_ble_eq_true rfl) (fun p e s m args below meth c ls hx hb hml hr hlocks hown hts hP hK hl => ?_)
  have hinX0 : ∀ w ∈ wsX00, w ∈ wsX0_isPlace := by decide +kernel
  have hl : lv_has ls 2 [(0, .ref h0), (1, .int i)] := hl
  refine lv_iload_n hx hb dX0_isPlace_0 rfl (lv_at hl 1 rfl) ?_
  refine lv_if_lt (tgt := 43) hx hb dX0_isPlace_1 (by decide) (fun q1 => ?_) (fun q1 => ?_)
  · refine lv_iconst (v := 0) hx hb dX0_isPlace_43 (by decide) ?_
    exact pb_zret hx hb hr hlocks dX0_isPlace_44 (by decide) (rfl)
  · refine lv_iload_n hx hb dX0_isPlace_4 rfl (lv_at hl 1 rfl) ?_
    refine lv_aload_n hx hb dX0_isPlace_5 rfl (lv_at hl 0 rfl) ?_
    refine va_get (D := D) (ci := 0) (v := .int (nI n)) (C := RX0) (T := TX0) (N := 4) hx hb hts hinX0 hown hK hP 0 rfl rfl 3 (by decide) (hts (.fieldLink RX0 20 "PrefixBench" "count" "I") (by decide +kernel)) (fun _ h9 => h9) rfl dX0_isPlace_6 ?_
    refine lv_icmp_ge (tgt := 43) hx hb dX0_isPlace_9 (by decide) (fun q9 => ?_) (fun q9 => absurd (hi.resolve_left q1) q9)
    refine lv_iconst (v := 0) hx hb dX0_isPlace_43 (by decide) ?_
    exact pb_zret hx hb hr hlocks dX0_isPlace_44 (by decide) (rfl)

set_option maxHeartbeats 4000000 in
set_option maxRecDepth 100000 in
theorem c_X0_keyAt_t (j n : Nat) (hj : j < n) (hn : n ≤ cap ∧ cap < 2 ^ 30) : pb_Rd l yX0_keyAt wsX0_keyAt 1 21 (pb_X [.ref h0, .int (nI j)] D (pb_ty cI cJ) (pb_wX cI cJ h0 k1 c1 h1 cap Kf Cf Hf (nI n))) (.long (Kf j)) := by
  refine pb_ofX RX0 (by decide) rfl rfl (Nat.le_of_ble_eq_true rfl) (fun p e s m args below meth c ls hx hb hml hr hlocks hown hts hP hK hl => ?_)
  have hinX0 : ∀ w ∈ wsX00, w ∈ wsX0_keyAt := by decide +kernel
  have hl : lv_has ls 2 [(0, .ref h0), (1, .int (nI j))] := hl
  refine lv_aload_n hx hb dX0_keyAt_0 rfl (lv_at hl 0 rfl) ?_
  refine lv_iload_n hx hb dX0_keyAt_1 rfl (lv_at hl 1 rfl) ?_
  refine pb_callV (As := [.int (nI j)]) (rest := []) ⟨hx, hb, hml, hown, hts⟩ (c_X0_isPlace_t j n hj hn) (cwV 1 hts gX0_keyAt_X0_isPlace rfl rfl rfl (by decide +kernel) ⟨Nat.le_of_ble_eq_true rfl, Nat.le_of_ble_eq_true rfl⟩) hP hK (va_recv hK hP (ci := 0) (q0 := 0) rfl rfl) rfl rfl hl (Nat.le_of_ble_eq_true rfl) dX0_keyAt_2 ⟨Nat.zero_le _, Nat.zero_le _⟩ ?_
  refine lv_if_eq (tgt := 17) hx hb dX0_keyAt_5 (by decide) (fun q5 => absurd q5 (by decide)) (fun q5 => ?_)
  refine lv_aload_n hx hb dX0_keyAt_8 rfl (lv_at hl 0 rfl) ?_
  refine va_get (D := D) (ci := 0) (v := .ref k1) (C := RX0) (T := TX0) (N := 4) hx hb hts hinX0 hown hK hP 0 rfl rfl 0 (by decide) (hts (.fieldLink RX0 9 "PrefixBench" "keys" "[J") (by decide +kernel)) (fun _ h9 => h9) rfl dX0_keyAt_9 ?_
  refine lv_iload_n hx hb dX0_keyAt_12 rfl (lv_at hl 1 rfl) ?_
  refine pb_lald hx hb hK hP 1 0 rfl rfl j (rfl) (⟨by omega, by omega⟩) dX0_keyAt_13 ?_
  refine lv_goto (tgt := 20) hx hb dX0_keyAt_14 (by decide) ?_
  exact pb_lret hx hb hr hlocks dX0_keyAt_20 (rfl)

set_option maxHeartbeats 4000000 in
set_option maxRecDepth 100000 in
theorem c_X0_keyAt_f (i : Int32) (n : Nat) (hi : i < 0 ∨ nI n ≤ i) : pb_Rd l yX0_keyAt wsX0_keyAt 1 21 (pb_X [.ref h0, .int i] D (pb_ty cI cJ) (pb_wX cI cJ h0 k1 c1 h1 cap Kf Cf Hf (nI n))) (.long (-1)) := by
  refine pb_ofX RX0 (by decide) rfl rfl (Nat.le_of_ble_eq_true rfl) (fun p e s m args below meth c ls hx hb hml hr hlocks hown hts hP hK hl => ?_)
  have hinX0 : ∀ w ∈ wsX00, w ∈ wsX0_keyAt := by decide +kernel
  have hl : lv_has ls 2 [(0, .ref h0), (1, .int i)] := hl
  refine lv_aload_n hx hb dX0_keyAt_0 rfl (lv_at hl 0 rfl) ?_
  refine lv_iload_n hx hb dX0_keyAt_1 rfl (lv_at hl 1 rfl) ?_
  refine pb_callV (As := [.int i]) (rest := []) ⟨hx, hb, hml, hown, hts⟩ (c_X0_isPlace_f i n hi) (cwV 1 hts gX0_keyAt_X0_isPlace rfl rfl rfl (by decide +kernel) ⟨Nat.le_of_ble_eq_true rfl, Nat.le_of_ble_eq_true rfl⟩) hP hK (va_recv hK hP (ci := 0) (q0 := 0) rfl rfl) rfl rfl hl (Nat.le_of_ble_eq_true rfl) dX0_keyAt_2 ⟨Nat.zero_le _, Nat.zero_le _⟩ ?_
  refine lv_if_eq (tgt := 17) hx hb dX0_keyAt_5 (by decide) (fun q5 => ?_) (fun q5 => absurd (rfl) q5)
  refine lv_ldc2 (v := (-1)) hx hb hown (hts (.constantLong RX0 82 (-1)) (by decide +kernel)) dX0_keyAt_17 ?_
  exact pb_lret hx hb hr hlocks dX0_keyAt_20 (rfl)

set_option maxHeartbeats 4000000 in
set_option maxRecDepth 100000 in
theorem c_X0_costAt_t (j n : Nat) (hj : j < n) (hn : n ≤ cap ∧ cap < 2 ^ 30) : pb_Rd l yX0_costAt wsX0_costAt 1 21 (pb_X [.ref h0, .int (nI j)] D (pb_ty cI cJ) (pb_wX cI cJ h0 k1 c1 h1 cap Kf Cf Hf (nI n))) (.int (Cf j)) := by
  refine pb_ofX RX0 (by decide) rfl rfl (Nat.le_of_ble_eq_true rfl) (fun p e s m args below meth c ls hx hb hml hr hlocks hown hts hP hK hl => ?_)
  have hinX0 : ∀ w ∈ wsX00, w ∈ wsX0_costAt := by decide +kernel
  have hl : lv_has ls 2 [(0, .ref h0), (1, .int (nI j))] := hl
  refine lv_aload_n hx hb dX0_costAt_0 rfl (lv_at hl 0 rfl) ?_
  refine lv_iload_n hx hb dX0_costAt_1 rfl (lv_at hl 1 rfl) ?_
  refine pb_callV (As := [.int (nI j)]) (rest := []) ⟨hx, hb, hml, hown, hts⟩ (c_X0_isPlace_t j n hj hn) (cwV 1 hts gX0_costAt_X0_isPlace rfl rfl rfl (by decide +kernel) ⟨Nat.le_of_ble_eq_true rfl, Nat.le_of_ble_eq_true rfl⟩) hP hK (va_recv hK hP (ci := 0) (q0 := 0) rfl rfl) rfl rfl hl (Nat.le_of_ble_eq_true rfl) dX0_costAt_2 ⟨Nat.zero_le _, Nat.zero_le _⟩ ?_
  refine lv_if_eq (tgt := 17) hx hb dX0_costAt_5 (by decide) (fun q5 => absurd q5 (by decide)) (fun q5 => ?_)
  refine lv_aload_n hx hb dX0_costAt_8 rfl (lv_at hl 0 rfl) ?_
  refine va_get (D := D) (ci := 0) (v := .ref c1) (C := RX0) (T := TX0) (N := 4) hx hb hts hinX0 hown hK hP 0 rfl rfl 1 (by decide) (hts (.fieldLink RX0 13 "PrefixBench" "costs" "[I") (by decide +kernel)) (fun _ h9 => h9) rfl dX0_costAt_9 ?_
  refine lv_iload_n hx hb dX0_costAt_12 rfl (lv_at hl 1 rfl) ?_
  refine pb_iald hx hb hK hP 2 1 rfl rfl j (rfl) (⟨by omega, by omega⟩) dX0_costAt_13 ?_
  refine lv_goto (tgt := 18) hx hb dX0_costAt_14 (by decide) ?_
  exact pb_iret hx hb hr hlocks dX0_costAt_18 (rfl)

set_option maxHeartbeats 4000000 in
set_option maxRecDepth 100000 in
theorem c_X0_costAt_f (i : Int32) (n : Nat) (hi : i < 0 ∨ nI n ≤ i) : pb_Rd l yX0_costAt wsX0_costAt 1 21 (pb_X [.ref h0, .int i] D (pb_ty cI cJ) (pb_wX cI cJ h0 k1 c1 h1 cap Kf Cf Hf (nI n))) (.int (-1)) := by
  refine pb_ofX RX0 (by decide) rfl rfl (Nat.le_of_ble_eq_true rfl) (fun p e s m args below meth c ls hx hb hml hr hlocks hown hts hP hK hl => ?_)
  have hinX0 : ∀ w ∈ wsX00, w ∈ wsX0_costAt := by decide +kernel
  have hl : lv_has ls 2 [(0, .ref h0), (1, .int i)] := hl
  refine lv_aload_n hx hb dX0_costAt_0 rfl (lv_at hl 0 rfl) ?_
  refine lv_iload_n hx hb dX0_costAt_1 rfl (lv_at hl 1 rfl) ?_
  refine pb_callV (As := [.int i]) (rest := []) ⟨hx, hb, hml, hown, hts⟩ (c_X0_isPlace_f i n hi) (cwV 1 hts gX0_costAt_X0_isPlace rfl rfl rfl (by decide +kernel) ⟨Nat.le_of_ble_eq_true rfl, Nat.le_of_ble_eq_true rfl⟩) hP hK (va_recv hK hP (ci := 0) (q0 := 0) rfl rfl) rfl rfl hl (Nat.le_of_ble_eq_true rfl) dX0_costAt_2 ⟨Nat.zero_le _, Nat.zero_le _⟩ ?_
  refine lv_if_eq (tgt := 17) hx hb dX0_costAt_5 (by decide) (fun q5 => ?_) (fun q5 => absurd (rfl) q5)
  refine lv_iconst (v := (-1)) hx hb dX0_costAt_17 (by decide) ?_
  exact pb_iret hx hb hr hlocks dX0_costAt_18 (rfl)

set_option maxHeartbeats 4000000 in
set_option maxRecDepth 100000 in
theorem c_X0_hopsAt_t (j n : Nat) (hj : j < n) (hn : n ≤ cap ∧ cap < 2 ^ 30) : pb_Rd l yX0_hopsAt wsX0_hopsAt 1 21 (pb_X [.ref h0, .int (nI j)] D (pb_ty cI cJ) (pb_wX cI cJ h0 k1 c1 h1 cap Kf Cf Hf (nI n))) (.long (Hf j)) := by
  refine pb_ofX RX0 (by decide) rfl rfl (Nat.le_of_ble_eq_true rfl) (fun p e s m args below meth c ls hx hb hml hr hlocks hown hts hP hK hl => ?_)
  have hinX0 : ∀ w ∈ wsX00, w ∈ wsX0_hopsAt := by decide +kernel
  have hl : lv_has ls 2 [(0, .ref h0), (1, .int (nI j))] := hl
  refine lv_aload_n hx hb dX0_hopsAt_0 rfl (lv_at hl 0 rfl) ?_
  refine lv_iload_n hx hb dX0_hopsAt_1 rfl (lv_at hl 1 rfl) ?_
  refine pb_callV (As := [.int (nI j)]) (rest := []) ⟨hx, hb, hml, hown, hts⟩ (c_X0_isPlace_t j n hj hn) (cwV 1 hts gX0_hopsAt_X0_isPlace rfl rfl rfl (by decide +kernel) ⟨Nat.le_of_ble_eq_true rfl, Nat.le_of_ble_eq_true rfl⟩) hP hK (va_recv hK hP (ci := 0) (q0 := 0) rfl rfl) rfl rfl hl (Nat.le_of_ble_eq_true rfl) dX0_hopsAt_2 ⟨Nat.zero_le _, Nat.zero_le _⟩ ?_
  refine lv_if_eq (tgt := 17) hx hb dX0_hopsAt_5 (by decide) (fun q5 => absurd q5 (by decide)) (fun q5 => ?_)
  refine lv_aload_n hx hb dX0_hopsAt_8 rfl (lv_at hl 0 rfl) ?_
  refine va_get (D := D) (ci := 0) (v := .ref h1) (C := RX0) (T := TX0) (N := 4) hx hb hts hinX0 hown hK hP 0 rfl rfl 2 (by decide) (hts (.fieldLink RX0 17 "PrefixBench" "hopSets" "[J") (by decide +kernel)) (fun _ h9 => h9) rfl dX0_hopsAt_9 ?_
  refine lv_iload_n hx hb dX0_hopsAt_12 rfl (lv_at hl 1 rfl) ?_
  refine pb_lald hx hb hK hP 3 0 rfl rfl j (rfl) (⟨by omega, by omega⟩) dX0_hopsAt_13 ?_
  refine lv_goto (tgt := 18) hx hb dX0_hopsAt_14 (by decide) ?_
  exact pb_lret hx hb hr hlocks dX0_hopsAt_18 (rfl)

set_option maxHeartbeats 4000000 in
set_option maxRecDepth 100000 in
theorem c_X0_hopsAt_f (i : Int32) (n : Nat) (hi : i < 0 ∨ nI n ≤ i) : pb_Rd l yX0_hopsAt wsX0_hopsAt 1 21 (pb_X [.ref h0, .int i] D (pb_ty cI cJ) (pb_wX cI cJ h0 k1 c1 h1 cap Kf Cf Hf (nI n))) (.long 0) := by
  refine pb_ofX RX0 (by decide) rfl rfl (Nat.le_of_ble_eq_true rfl) (fun p e s m args below meth c ls hx hb hml hr hlocks hown hts hP hK hl => ?_)
  have hinX0 : ∀ w ∈ wsX00, w ∈ wsX0_hopsAt := by decide +kernel
  have hl : lv_has ls 2 [(0, .ref h0), (1, .int i)] := hl
  refine lv_aload_n hx hb dX0_hopsAt_0 rfl (lv_at hl 0 rfl) ?_
  refine lv_iload_n hx hb dX0_hopsAt_1 rfl (lv_at hl 1 rfl) ?_
  refine pb_callV (As := [.int i]) (rest := []) ⟨hx, hb, hml, hown, hts⟩ (c_X0_isPlace_f i n hi) (cwV 1 hts gX0_hopsAt_X0_isPlace rfl rfl rfl (by decide +kernel) ⟨Nat.le_of_ble_eq_true rfl, Nat.le_of_ble_eq_true rfl⟩) hP hK (va_recv hK hP (ci := 0) (q0 := 0) rfl rfl) rfl rfl hl (Nat.le_of_ble_eq_true rfl) dX0_hopsAt_2 ⟨Nat.zero_le _, Nat.zero_le _⟩ ?_
  refine lv_if_eq (tgt := 17) hx hb dX0_hopsAt_5 (by decide) (fun q5 => ?_) (fun q5 => absurd (rfl) q5)
  refine lv_lconst (v := 0) hx hb dX0_hopsAt_17 (by decide) ?_
  exact pb_lret hx hb hr hlocks dX0_hopsAt_18 (rfl)

set_option maxHeartbeats 4000000 in
set_option maxRecDepth 100000 in
theorem c_X0_prefixAt_t (j n : Nat) (hj : j < n) (hn : n ≤ cap ∧ cap < 2 ^ 30) (g : Nat) (hg : g < 2 ^ 62) (hk : Kf j = lN g) : pb_Rd l yX0_prefixAt wsX0_prefixAt 2 42 (pb_X [.ref h0, .int (nI j)] D (pb_ty cI cJ) (pb_wX cI cJ h0 k1 c1 h1 cap Kf Cf Hf (nI n))) (.long (lN (g / 8))) := by
  refine pb_ofX RX0 (by decide) rfl rfl (Nat.le_of_ble_eq_true rfl) (fun p e s m args below meth c ls hx hb hml hr hlocks hown hts hP hK hl => ?_)
  have hl : lv_has ls 2 [(0, .ref h0), (1, .int (nI j))] := hl
  refine lv_aload_n hx hb dX0_prefixAt_0 rfl (lv_at hl 0 rfl) ?_
  refine lv_iload_n hx hb dX0_prefixAt_1 rfl (lv_at hl 1 rfl) ?_
  refine pb_callV (As := [.int (nI j)]) (rest := []) ⟨hx, hb, hml, hown, hts⟩ (c_X0_keyAt_t j n hj hn) (cwV 1 hts gX0_prefixAt_X0_keyAt rfl rfl rfl (by decide +kernel) ⟨Nat.le_of_ble_eq_true rfl, Nat.le_of_ble_eq_true rfl⟩) hP hK (va_recv hK hP (ci := 0) (q0 := 0) rfl rfl) rfl rfl hl (Nat.le_of_ble_eq_true rfl) dX0_prefixAt_2 ⟨Nat.zero_le _, Nat.zero_le _⟩ ?_
  refine pb_topl (z := lN g) (hk) ?_
  refine lv_iconst (v := 3) hx hb dX0_prefixAt_5 (by decide) ?_
  refine lv_lshr hx hb dX0_prefixAt_6 rfl ?_
  exact pb_lret hx hb hr hlocks dX0_prefixAt_7 (by rw [show (3 : Int32) = nI 3 from rfl, pb_shr 3 (by decide) hg])

set_option maxHeartbeats 4000000 in
set_option maxRecDepth 100000 in
theorem c_X0_prefixAt_f (i : Int32) (n : Nat) (hi : i < 0 ∨ nI n ≤ i) : pb_Rd l yX0_prefixAt wsX0_prefixAt 2 42 (pb_X [.ref h0, .int i] D (pb_ty cI cJ) (pb_wX cI cJ h0 k1 c1 h1 cap Kf Cf Hf (nI n))) (.long (-1)) := by
  refine pb_ofX RX0 (by decide) rfl rfl (Nat.le_of_ble_eq_true rfl) (fun p e s m args below meth c ls hx hb hml hr hlocks hown hts hP hK hl => ?_)
  have hl : lv_has ls 2 [(0, .ref h0), (1, .int i)] := hl
  refine lv_aload_n hx hb dX0_prefixAt_0 rfl (lv_at hl 0 rfl) ?_
  refine lv_iload_n hx hb dX0_prefixAt_1 rfl (lv_at hl 1 rfl) ?_
  refine pb_callV (As := [.int i]) (rest := []) ⟨hx, hb, hml, hown, hts⟩ (c_X0_keyAt_f i n hi) (cwV 1 hts gX0_prefixAt_X0_keyAt rfl rfl rfl (by decide +kernel) ⟨Nat.le_of_ble_eq_true rfl, Nat.le_of_ble_eq_true rfl⟩) hP hK (va_recv hK hP (ci := 0) (q0 := 0) rfl rfl) rfl rfl hl (Nat.le_of_ble_eq_true rfl) dX0_prefixAt_2 ⟨Nat.zero_le _, Nat.zero_le _⟩ ?_
  refine lv_iconst (v := 3) hx hb dX0_prefixAt_5 (by decide) ?_
  refine lv_lshr hx hb dX0_prefixAt_6 rfl ?_
  exact pb_lret hx hb hr hlocks dX0_prefixAt_7 (by decide +kernel)

set_option maxHeartbeats 4000000 in
set_option maxRecDepth 100000 in
theorem c_X0_lengthAt_t (j n : Nat) (hj : j < n) (hn : n ≤ cap ∧ cap < 2 ^ 30) (g : Nat) (hg : g < 2 ^ 62) (hk : Kf j = lN g) : pb_Rd l yX0_lengthAt wsX0_lengthAt 3 63 (pb_X [.ref h0, .int (nI j)] D (pb_ty cI cJ) (pb_wX cI cJ h0 k1 c1 h1 cap Kf Cf Hf (nI n))) (.int (nI (g / 8 % 64))) := by
  refine pb_ofX RX0 (by decide) rfl rfl (Nat.le_of_ble_eq_true rfl) (fun p e s m args below meth c ls hx hb hml hr hlocks hown hts hP hK hl => ?_)
  have hl : lv_has ls 2 [(0, .ref h0), (1, .int (nI j))] := hl
  refine lv_aload_n hx hb dX0_lengthAt_0 rfl (lv_at hl 0 rfl) ?_
  refine lv_iload_n hx hb dX0_lengthAt_1 rfl (lv_at hl 1 rfl) ?_
  refine pb_callV (As := [.int (nI j)]) (rest := []) ⟨hx, hb, hml, hown, hts⟩ (c_X0_isPlace_t j n hj hn) (cwV 1 hts gX0_lengthAt_X0_isPlace rfl rfl rfl (by decide +kernel) ⟨Nat.le_of_ble_eq_true rfl, Nat.le_of_ble_eq_true rfl⟩) hP hK (va_recv hK hP (ci := 0) (q0 := 0) rfl rfl) rfl rfl hl (Nat.le_of_ble_eq_true rfl) dX0_lengthAt_2 ⟨Nat.zero_le _, Nat.zero_le _⟩ ?_
  refine lv_if_eq (tgt := 19) hx hb dX0_lengthAt_5 (by decide) (fun q5 => absurd q5 (by decide)) (fun q5 => ?_)
  refine lv_aload_n hx hb dX0_lengthAt_8 rfl (lv_at hl 0 rfl) ?_
  refine lv_iload_n hx hb dX0_lengthAt_9 rfl (lv_at hl 1 rfl) ?_
  refine pb_callV (As := [.int (nI j)]) (rest := []) ⟨hx, hb, hml, hown, hts⟩ (c_X0_prefixAt_t j n hj hn g hg hk) (cwV 1 hts gX0_lengthAt_X0_prefixAt rfl rfl rfl (by decide +kernel) ⟨Nat.le_of_ble_eq_true rfl, Nat.le_of_ble_eq_true rfl⟩) hP hK (va_recv hK hP (ci := 0) (q0 := 0) rfl rfl) rfl rfl hl (Nat.le_of_ble_eq_true rfl) dX0_lengthAt_10 ⟨Nat.zero_le _, Nat.zero_le _⟩ ?_
  refine pb_callS (As := [.long (lN (g / 8))]) (rest := []) ⟨hx, hb, hml, hown, hts⟩ (c_X0_lengthOf (g / 8)) (va_cwS 1 hts gX0_lengthAt_X0_lengthOf rfl rfl rfl (by decide +kernel) ⟨Nat.le_of_ble_eq_true rfl, Nat.le_of_ble_eq_true rfl⟩) rfl rfl hl (Nat.le_of_ble_eq_true rfl) dX0_lengthAt_13 ⟨Nat.zero_le _, Nat.zero_le _⟩ ?_
  refine lv_goto (tgt := 20) hx hb dX0_lengthAt_16 (by decide) ?_
  exact pb_iret hx hb hr hlocks dX0_lengthAt_20 (rfl)

set_option maxHeartbeats 4000000 in
set_option maxRecDepth 100000 in
theorem c_X0_lengthAt_f (i : Int32) (n : Nat) (hi : i < 0 ∨ nI n ≤ i) : pb_Rd l yX0_lengthAt wsX0_lengthAt 3 63 (pb_X [.ref h0, .int i] D (pb_ty cI cJ) (pb_wX cI cJ h0 k1 c1 h1 cap Kf Cf Hf (nI n))) (.int (-1)) := by
  refine pb_ofX RX0 (by decide) rfl rfl (Nat.le_of_ble_eq_true rfl) (fun p e s m args below meth c ls hx hb hml hr hlocks hown hts hP hK hl => ?_)
  have hl : lv_has ls 2 [(0, .ref h0), (1, .int i)] := hl
  refine lv_aload_n hx hb dX0_lengthAt_0 rfl (lv_at hl 0 rfl) ?_
  refine lv_iload_n hx hb dX0_lengthAt_1 rfl (lv_at hl 1 rfl) ?_
  refine pb_callV (As := [.int i]) (rest := []) ⟨hx, hb, hml, hown, hts⟩ (c_X0_isPlace_f i n hi) (cwV 1 hts gX0_lengthAt_X0_isPlace rfl rfl rfl (by decide +kernel) ⟨Nat.le_of_ble_eq_true rfl, Nat.le_of_ble_eq_true rfl⟩) hP hK (va_recv hK hP (ci := 0) (q0 := 0) rfl rfl) rfl rfl hl (Nat.le_of_ble_eq_true rfl) dX0_lengthAt_2 ⟨Nat.zero_le _, Nat.zero_le _⟩ ?_
  refine lv_if_eq (tgt := 19) hx hb dX0_lengthAt_5 (by decide) (fun q5 => ?_) (fun q5 => absurd (rfl) q5)
  refine lv_iconst (v := (-1)) hx hb dX0_lengthAt_19 (by decide) ?_
  exact pb_iret hx hb hr hlocks dX0_lengthAt_20 (rfl)

set_option maxHeartbeats 4000000 in
set_option maxRecDepth 100000 in
theorem c_X0_originAt_t (j n : Nat) (hj : j < n) (hn : n ≤ cap ∧ cap < 2 ^ 30) (g : Nat) (hk : Kf j = lN g) : pb_Rd l yX0_originAt wsX0_originAt 2 42 (pb_X [.ref h0, .int (nI j)] D (pb_ty cI cJ) (pb_wX cI cJ h0 k1 c1 h1 cap Kf Cf Hf (nI n))) (.int (nI (g % 8))) := by
  refine pb_ofX RX0 (by decide) rfl rfl (Nat.le_of_ble_eq_true rfl) (fun p e s m args below meth c ls hx hb hml hr hlocks hown hts hP hK hl => ?_)
  have hl : lv_has ls 2 [(0, .ref h0), (1, .int (nI j))] := hl
  refine lv_aload_n hx hb dX0_originAt_0 rfl (lv_at hl 0 rfl) ?_
  refine lv_iload_n hx hb dX0_originAt_1 rfl (lv_at hl 1 rfl) ?_
  refine pb_callV (As := [.int (nI j)]) (rest := []) ⟨hx, hb, hml, hown, hts⟩ (c_X0_isPlace_t j n hj hn) (cwV 1 hts gX0_originAt_X0_isPlace rfl rfl rfl (by decide +kernel) ⟨Nat.le_of_ble_eq_true rfl, Nat.le_of_ble_eq_true rfl⟩) hP hK (va_recv hK hP (ci := 0) (q0 := 0) rfl rfl) rfl rfl hl (Nat.le_of_ble_eq_true rfl) dX0_originAt_2 ⟨Nat.zero_le _, Nat.zero_le _⟩ ?_
  refine lv_if_eq (tgt := 21) hx hb dX0_originAt_5 (by decide) (fun q5 => absurd q5 (by decide)) (fun q5 => ?_)
  refine lv_aload_n hx hb dX0_originAt_8 rfl (lv_at hl 0 rfl) ?_
  refine lv_iload_n hx hb dX0_originAt_9 rfl (lv_at hl 1 rfl) ?_
  refine pb_callV (As := [.int (nI j)]) (rest := []) ⟨hx, hb, hml, hown, hts⟩ (c_X0_keyAt_t j n hj hn) (cwV 1 hts gX0_originAt_X0_keyAt rfl rfl rfl (by decide +kernel) ⟨Nat.le_of_ble_eq_true rfl, Nat.le_of_ble_eq_true rfl⟩) hP hK (va_recv hK hP (ci := 0) (q0 := 0) rfl rfl) rfl rfl hl (Nat.le_of_ble_eq_true rfl) dX0_originAt_10 ⟨Nat.zero_le _, Nat.zero_le _⟩ ?_
  refine pb_topl (z := lN g) (hk) ?_
  refine lv_ldc2 (v := 7) hx hb hown (hts (.constantLong RX0 179 7) (by decide +kernel)) dX0_originAt_13 ?_
  refine lv_land hx hb dX0_originAt_16 ?_
  refine lv_l2i hx hb dX0_originAt_17 rfl ?_
  refine lv_goto (tgt := 22) hx hb dX0_originAt_18 (by decide) ?_
  exact pb_iret hx hb hr hlocks dX0_originAt_22 (by rw [← pb_orgOf g])

set_option maxHeartbeats 4000000 in
set_option maxRecDepth 100000 in
theorem c_X0_firstFrom {T : List pb_Rt} (hT : pb_ok T) (hR : pb_rX T cap Kf Cf Hf) (k : Nat) (hk : k < 2 ^ 62) : pb_Rd l yX0_firstFrom wsX0_firstFrom 2 42 (pb_X [.ref h0, .long (lN k)] D (pb_ty cI cJ) (pb_wX cI cJ h0 k1 c1 h1 cap Kf Cf Hf (nI T.length))) (.int (nI (pb_lb T k))) := by
  refine pb_ofX RX0 (by decide) rfl rfl (Nat.le_of_ble_eq_true rfl) (fun p e s m args below meth c ls hx hb hml hr hlocks hown hts hP hK hl => ?_)
  have hinX0 : ∀ w ∈ wsX00, w ∈ wsX0_firstFrom := by decide +kernel
  have hl : lv_has ls 7 [(0, .ref h0), (1, .long (lN k))] := hl
  refine lv_iconst (v := 0) hx hb dX0_firstFrom_0 (by decide) ?_
  refine lv_istore_n (lv' := [(3, .int 0), (0, .ref h0), (1, .long (lN k))]) hx hb dX0_firstFrom_1 rfl hl (by decide) rfl (fun ls hl => ?_)
  refine lv_aload_n hx hb dX0_firstFrom_2 rfl (lv_at hl 1 rfl) ?_
  refine va_get (D := D) (ci := 0) (v := .int (nI T.length)) (C := RX0) (T := TX0) (N := 4) hx hb hts hinX0 hown hK hP 0 rfl rfl 3 (by decide) (hts (.fieldLink RX0 20 "PrefixBench" "count" "I") (by decide +kernel)) (fun _ h9 => h9) rfl dX0_firstFrom_3 ?_
  refine lv_istore (lv' := [(4, .int (nI T.length)), (3, .int 0), (0, .ref h0), (1, .long (lN k))]) hx hb dX0_firstFrom_6 hl (by decide) rfl (fun ls hl => ?_)
  have hcap := hR.1
  refine lv_iconst (v := 0) hx hb dX0_firstFrom_8 (by decide) ?_
  refine lv_istore (lv' := [(5, .int 0), (4, .int (nI T.length)), (3, .int 0), (0, .ref h0), (1, .long (lN k))]) hx hb dX0_firstFrom_9 hl (by decide) rfl (fun ls hl => ?_)
  refine pb_loop (fun kk ls => ∃ lo hi sp : Nat, kk + sp = 30 ∧ (lo ≤ pb_lb T k ∧ pb_lb T k ≤ hi ∧ hi ≤ T.length ∧ hi - lo < 2 ^ kk) ∧ lv_has ls 7 [(5, .int (nI sp)), (4, .int (nI hi)), (3, .int (nI lo)), (0, .ref h0), (1, .long (lN k))]) 11 [] (fun kk ls hI ih => ?_) (fun hL => ?_)
  · obtain ⟨lo, hi, sp, hsp, ⟨hlo, hhi, hhn, hpw⟩, hl⟩ := hI
    refine lv_iload hx hb dX0_firstFrom_11 (lv_at hl 0 rfl) ?_
    refine lv_sipush (v := 2048) hx hb dX0_firstFrom_13 (by decide) ?_
    refine lv_icmp_ge (tgt := 62) hx hb dX0_firstFrom_16 (by decide) (fun q16 => absurd q16 (fun z => absurd ((nI_leI (a := 2048) (b := sp) (by decide) (by omega)).mp z) (by omega))) (fun q16 => ?_)
    refine lv_iload_n hx hb dX0_firstFrom_19 rfl (lv_at hl 2 rfl) ?_
    refine lv_iload hx hb dX0_firstFrom_20 (lv_at hl 1 rfl) ?_
    refine lv_icmp_ge (tgt := 62) hx hb dX0_firstFrom_22 (by decide) (fun q22 => ?_) (fun q22 => ?_)
    · have hw := (nI_leI (a := hi) (b := lo) (by omega) (by omega)).mp q22
      refine lv_iload_n hx hb dX0_firstFrom_62 rfl (lv_at hl 2 rfl) ?_
      exact pb_iret hx hb hr hlocks dX0_firstFrom_63 (by rw [show pb_lb T k = lo by omega])
    · have hw : lo < hi := Nat.lt_of_not_le (mt (nI_leI (a := hi) (b := lo) (by omega) (by omega)).mpr q22)
      obtain ⟨ku, rfl⟩ : ∃ ku, kk = ku + 1 := Nat.exists_eq_succ_of_ne_zero (fun z => by subst z; omega)
      rw [Nat.pow_succ] at hpw
      refine lv_iload_n hx hb dX0_firstFrom_25 rfl (lv_at hl 2 rfl) ?_
      refine lv_iload hx hb dX0_firstFrom_26 (lv_at hl 1 rfl) ?_
      refine lv_iadd hx hb dX0_firstFrom_28 ?_
      refine lv_iconst (v := 1) hx hb dX0_firstFrom_29 (by decide) ?_
      refine lv_iushr hx hb dX0_firstFrom_30 rfl ?_
      refine pb_topi (z := nI ((lo + hi) / 2)) (by rw [nI_add]; exact (pk_ushrN (by omega) 1 1 (by decide)).trans (by rw [Nat.pow_one])) ?_
      refine lv_istore (lv' := [(6, .int (nI ((lo + hi) / 2))), (5, .int (nI sp)), (4, .int (nI hi)), (3, .int (nI lo)), (0, .ref h0), (1, .long (lN k))]) hx hb dX0_firstFrom_31 hl (by decide) rfl (fun ls hl => ?_)
      refine lv_aload_n hx hb dX0_firstFrom_33 rfl (lv_at hl 4 rfl) ?_
      refine lv_iload hx hb dX0_firstFrom_34 (lv_at hl 0 rfl) ?_
      obtain ⟨r, hrr⟩ : ∃ r, T[(lo + hi) / 2]? = some r := ⟨_, List.getElem?_eq_getElem (by omega)⟩
      have hlt := pb_lb_iff hT.1 (k := k) hrr
      have hkb := pb_key_lt hT (List.mem_of_getElem? hrr)
      refine pb_callV (As := [.int (nI ((lo + hi) / 2))]) (rest := []) ⟨hx, hb, hml, hown, hts⟩ (c_X0_keyAt_t ((lo + hi) / 2) T.length (by omega) ⟨hR.1.1, hR.1.2.1⟩) (cwV 1 hts gX0_firstFrom_X0_keyAt rfl rfl rfl (by decide +kernel) ⟨Nat.le_of_ble_eq_true rfl, Nat.le_of_ble_eq_true rfl⟩) hP hK (va_recv hK hP (ci := 0) (q0 := 0) rfl rfl) rfl rfl hl (Nat.le_of_ble_eq_true rfl) dX0_firstFrom_36 ⟨Nat.zero_le _, Nat.zero_le _⟩ ?_
      refine pb_topl (z := lN r.1) ((hR.2 _ _ hrr).1) ?_
      refine lv_lload_n hx hb dX0_firstFrom_39 rfl (lv_at hl 5 rfl) ?_
      refine W.lcmp hx hb dX0_firstFrom_40 ?_
      refine lv_if_ge (tgt := 52) hx hb dX0_firstFrom_41 (by decide) (fun q41 => ?_) (fun q41 => ?_)
      · have q41 := (lg_cmp_ge _ _).mp q41
        have hw2 := (pk_lLE (a := k) (b := r.1) (by omega) (by omega)).mp q41
        refine lv_iload hx hb dX0_firstFrom_52 (lv_at hl 0 rfl) ?_
        refine lv_istore (lv' := [(4, .int (nI ((lo + hi) / 2))), (6, .int (nI ((lo + hi) / 2))), (5, .int (nI sp)), (3, .int (nI lo)), (0, .ref h0), (1, .long (lN k))]) hx hb dX0_firstFrom_54 hl (by decide) rfl (fun ls hl => ?_)
        refine lv_iinc (v := nI (sp + 1)) (lv' := [(5, .int (nI (sp + 1))), (4, .int (nI ((lo + hi) / 2))), (6, .int (nI ((lo + hi) / 2))), (3, .int (nI lo)), (0, .ref h0), (1, .long (lN k))]) hx hb dX0_firstFrom_56 hl (k := 2) rfl (nI_1 _) (by decide) rfl (fun ls hl => ?_)
        refine lv_goto (tgt := 11) hx hb dX0_firstFrom_59 (by decide) ?_
        exact ih ku _ (Nat.lt_succ_self ku) ⟨lo, (lo + hi) / 2, sp + 1, by omega, ⟨hlo, by omega, by omega, by omega⟩, lv_sub hl [0, 1, 3, 4, 5] rfl⟩
      · have q41 := mt (lg_cmp_ge _ _).mpr q41
        have hw2 := mt (pk_lLE (a := k) (b := r.1) (by omega) (by omega)).mpr q41
        refine lv_iload hx hb dX0_firstFrom_44 (lv_at hl 0 rfl) ?_
        refine lv_iconst (v := 1) hx hb dX0_firstFrom_46 (by decide) ?_
        refine lv_iadd hx hb dX0_firstFrom_47 ?_
        refine pb_topi (z := nI (((lo + hi) / 2) + 1)) (nI_1 _) ?_
        refine lv_istore_n (lv' := [(3, .int (nI (((lo + hi) / 2) + 1))), (6, .int (nI ((lo + hi) / 2))), (5, .int (nI sp)), (4, .int (nI hi)), (0, .ref h0), (1, .long (lN k))]) hx hb dX0_firstFrom_48 rfl hl (by decide) rfl (fun ls hl => ?_)
        refine lv_goto (tgt := 56) hx hb dX0_firstFrom_49 (by decide) ?_
        refine lv_iinc (v := nI (sp + 1)) (lv' := [(5, .int (nI (sp + 1))), (3, .int (nI (((lo + hi) / 2) + 1))), (6, .int (nI ((lo + hi) / 2))), (4, .int (nI hi)), (0, .ref h0), (1, .long (lN k))]) hx hb dX0_firstFrom_56 hl (k := 2) rfl (nI_1 _) (by decide) rfl (fun ls hl => ?_)
        refine lv_goto (tgt := 11) hx hb dX0_firstFrom_59 (by decide) ?_
        exact ih ku _ (Nat.lt_succ_self ku) ⟨(lo + hi) / 2 + 1, hi, sp + 1, by omega, ⟨by omega, hhi, hhn, by omega⟩, lv_sub hl [0, 3, 1, 4, 5] rfl⟩
  · exact hL 30 _ ⟨0, T.length, 0, rfl, ⟨Nat.zero_le _, pb_lb_le T k, Nat.le_refl _, by omega⟩, lv_sub hl [0, 1, 2, 3, 4] rfl⟩

set_option maxHeartbeats 4000000 in
set_option maxRecDepth 100000 in
theorem c_X0_firstOfPrefix {T : List pb_Rt} (hT : pb_ok T) (hR : pb_rX T cap Kf Cf Hf) (q : Nat) (hq : q < 2 ^ 50) : pb_Rd l yX0_firstOfPrefix wsX0_firstOfPrefix 3 68 (pb_X [.ref h0, .long (lN q)] D (pb_ty cI cJ) (pb_wX cI cJ h0 k1 c1 h1 cap Kf Cf Hf (nI T.length))) (.int (nI (pb_lb T (q * 8)))) := by
  refine pb_ofX RX0 (by decide) rfl rfl (Nat.le_of_ble_eq_true rfl) (fun p e s m args below meth c ls hx hb hml hr hlocks hown hts hP hK hl => ?_)
  have hl : lv_has ls 3 [(0, .ref h0), (1, .long (lN q))] := hl
  refine lv_aload_n hx hb dX0_firstOfPrefix_0 rfl (lv_at hl 0 rfl) ?_
  refine lv_lload_n hx hb dX0_firstOfPrefix_1 rfl (lv_at hl 1 rfl) ?_
  refine lv_iconst (v := 0) hx hb dX0_firstOfPrefix_2 (by decide) ?_
  refine pb_callS (As := [.long (lN q), .int 0]) (rest := [.ref h0]) ⟨hx, hb, hml, hown, hts⟩ (c_X0_routeKey q 0 (by decide)) (va_cwS 2 hts gX0_firstOfPrefix_X0_routeKey rfl rfl rfl (by decide +kernel) ⟨Nat.le_of_ble_eq_true rfl, Nat.le_of_ble_eq_true rfl⟩) rfl rfl hl (Nat.le_of_ble_eq_true rfl) dX0_firstOfPrefix_3 ⟨Nat.zero_le _, Nat.zero_le _⟩ ?_
  refine pb_callV (As := [.long (lN (q * 8 + 0))]) (rest := []) ⟨hx, hb, hml, hown, hts⟩ (c_X0_firstFrom hT hR (q * 8 + 0) (by omega)) (cwV 1 hts gX0_firstOfPrefix_X0_firstFrom rfl rfl rfl (by decide +kernel) ⟨Nat.le_of_ble_eq_true rfl, Nat.le_of_ble_eq_true rfl⟩) hP hK (va_recv hK hP (ci := 0) (q0 := 0) rfl rfl) rfl rfl hl (Nat.le_of_ble_eq_true rfl) dX0_firstOfPrefix_6 ⟨Nat.zero_le _, Nat.zero_le _⟩ ?_
  exact pb_iret hx hb hr hlocks dX0_firstOfPrefix_9 (rfl)

set_option maxHeartbeats 4000000 in
set_option maxRecDepth 100000 in
theorem c_X0_placeOfRoute {T : List pb_Rt} (hT : pb_ok T) (hR : pb_rX T cap Kf Cf Hf) (q o : Nat) (hq : q < 2 ^ 50) (ho : o < 8) : pb_Rd l yX0_placeOfRoute wsX0_placeOfRoute 3 68 (pb_X [.ref h0, .long (lN q), .int (nI o)] D (pb_ty cI cJ) (pb_wX cI cJ h0 k1 c1 h1 cap Kf Cf Hf (nI T.length))) (.int (if pb_hs T (q * 8 + o) = true then nI (pb_lb T (q * 8 + o)) else -1)) := by
  refine pb_ofX RX0 (by decide) rfl rfl (Nat.le_of_ble_eq_true rfl) (fun p e s m args below meth c ls hx hb hml hr hlocks hown hts hP hK hl => ?_)
  have hl : lv_has ls 7 [(0, .ref h0), (1, .long (lN q)), (3, .int (nI o))] := hl
  refine lv_lload_n hx hb dX0_placeOfRoute_0 rfl (lv_at hl 1 rfl) ?_
  refine lv_iload_n hx hb dX0_placeOfRoute_1 rfl (lv_at hl 2 rfl) ?_
  refine pb_callS (As := [.long (lN q), .int (nI o)]) (rest := []) ⟨hx, hb, hml, hown, hts⟩ (c_X0_routeKey q o (by omega)) (va_cwS 2 hts gX0_placeOfRoute_X0_routeKey rfl rfl rfl (by decide +kernel) ⟨Nat.le_of_ble_eq_true rfl, Nat.le_of_ble_eq_true rfl⟩) rfl rfl hl (Nat.le_of_ble_eq_true rfl) dX0_placeOfRoute_2 ⟨Nat.zero_le _, Nat.zero_le _⟩ ?_
  refine lv_lstore (lv' := [(4, .long (lN (q * 8 + o))), (0, .ref h0), (1, .long (lN q)), (3, .int (nI o))]) hx hb dX0_placeOfRoute_5 hl (by decide) rfl (fun ls hl => ?_)
  refine lv_aload_n hx hb dX0_placeOfRoute_7 rfl (lv_at hl 1 rfl) ?_
  refine lv_lload hx hb dX0_placeOfRoute_8 (lv_at hl 0 rfl) ?_
  refine pb_callV (As := [.long (lN (q * 8 + o))]) (rest := []) ⟨hx, hb, hml, hown, hts⟩ (c_X0_firstFrom hT hR (q * 8 + o) (by omega)) (cwV 1 hts gX0_placeOfRoute_X0_firstFrom rfl rfl rfl (by decide +kernel) ⟨Nat.le_of_ble_eq_true rfl, Nat.le_of_ble_eq_true rfl⟩) hP hK (va_recv hK hP (ci := 0) (q0 := 0) rfl rfl) rfl rfl hl (Nat.le_of_ble_eq_true rfl) dX0_placeOfRoute_10 ⟨Nat.zero_le _, Nat.zero_le _⟩ ?_
  refine lv_istore (lv' := [(6, .int (nI (pb_lb T (q * 8 + o)))), (4, .long (lN (q * 8 + o))), (0, .ref h0), (1, .long (lN q)), (3, .int (nI o))]) hx hb dX0_placeOfRoute_13 hl (by decide) rfl (fun ls hl => ?_)
  refine lv_aload_n hx hb dX0_placeOfRoute_15 rfl (lv_at hl 2 rfl) ?_
  refine lv_iload hx hb dX0_placeOfRoute_16 (lv_at hl 0 rfl) ?_
  have hcap := hR.1
  have hle := pb_lb_le T (q * 8 + o)
  rcases hd : T[pb_lb T (q * 8 + o)]? with _ | r
  · have hle2 := List.getElem?_eq_none_iff.mp hd
    have hno := pb_hs_no hT.1 hd
    refine pb_callV (As := [.int (nI (pb_lb T (q * 8 + o)))]) (rest := []) ⟨hx, hb, hml, hown, hts⟩ (c_X0_keyAt_f (nI (pb_lb T (q * 8 + o))) T.length (Or.inr (nI_le (by omega) (by omega)))) (cwV 1 hts gX0_placeOfRoute_X0_keyAt rfl rfl rfl (by decide +kernel) ⟨Nat.le_of_ble_eq_true rfl, Nat.le_of_ble_eq_true rfl⟩) hP hK (va_recv hK hP (ci := 0) (q0 := 0) rfl rfl) rfl rfl hl (Nat.le_of_ble_eq_true rfl) dX0_placeOfRoute_18 ⟨Nat.zero_le _, Nat.zero_le _⟩ ?_
    refine lv_lload hx hb dX0_placeOfRoute_21 (lv_at hl 1 rfl) ?_
    refine W.lcmp hx hb dX0_placeOfRoute_23 ?_
    refine lv_if_ne (tgt := 32) hx hb dX0_placeOfRoute_24 (by decide) (fun _ => ?_) (fun z => absurd ((lg_cmp_eq _ _).mp z).symm (pb_lm1 (by omega)))
    refine lv_iconst (v := (-1)) hx hb dX0_placeOfRoute_32 (by decide) ?_
    exact pb_iret hx hb hr hlocks dX0_placeOfRoute_33 (by rw [hno]; rfl)
  have hkb := pb_key_lt hT (List.mem_of_getElem? hd)
  have hlt := (List.getElem?_eq_some_iff.mp hd).1
  have hiff := pb_hs_iff hT.1 hd
  refine pb_callV (As := [.int (nI (pb_lb T (q * 8 + o)))]) (rest := []) ⟨hx, hb, hml, hown, hts⟩ (c_X0_keyAt_t (pb_lb T (q * 8 + o)) T.length hlt ⟨hR.1.1, hR.1.2.1⟩) (cwV 1 hts gX0_placeOfRoute_X0_keyAt rfl rfl rfl (by decide +kernel) ⟨Nat.le_of_ble_eq_true rfl, Nat.le_of_ble_eq_true rfl⟩) hP hK (va_recv hK hP (ci := 0) (q0 := 0) rfl rfl) rfl rfl hl (Nat.le_of_ble_eq_true rfl) dX0_placeOfRoute_18 ⟨Nat.zero_le _, Nat.zero_le _⟩ ?_
  refine pb_topl (z := lN r.1) ((hR.2 _ _ hd).1) ?_
  refine lv_lload hx hb dX0_placeOfRoute_21 (lv_at hl 1 rfl) ?_
  refine W.lcmp hx hb dX0_placeOfRoute_23 ?_
  refine lv_if_ne (tgt := 32) hx hb dX0_placeOfRoute_24 (by decide) (fun q24 => ?_) (fun q24 => ?_)
  · have q24 := mt (lg_cmp_eq _ _).mpr q24
    have hne : ¬ pb_hs T (q * 8 + o) = true := fun z => q24 (by rw [hiff.mpr z])
    refine lv_iconst (v := (-1)) hx hb dX0_placeOfRoute_32 (by decide) ?_
    exact pb_iret hx hb hr hlocks dX0_placeOfRoute_33 (by rw [if_neg hne])
  · have q24 := (lg_cmp_eq _ _).mp q24
    have hye : pb_hs T (q * 8 + o) = true := hiff.mp ((pk_lEQ (by omega) (by omega)).mp q24)
    refine lv_iload hx hb dX0_placeOfRoute_27 (lv_at hl 0 rfl) ?_
    refine lv_goto (tgt := 33) hx hb dX0_placeOfRoute_29 (by decide) ?_
    exact pb_iret hx hb hr hlocks dX0_placeOfRoute_33 (by rw [if_pos hye])

set_option maxHeartbeats 4000000 in
set_option maxRecDepth 100000 in
theorem c_X0_placeOfBest {T : List pb_Rt} (hT : pb_ok T) (hR : pb_rX T cap Kf Cf Hf) (q : Nat) (hq : q < 2 ^ 50) : pb_Rd l yX0_placeOfBest wsX0_placeOfBest 4 90 (pb_X [.ref h0, .long (lN q)] D (pb_ty cI cJ) (pb_wX cI cJ h0 k1 c1 h1 cap Kf Cf Hf (nI T.length))) (.int (if pb_kn T q = true then nI (pb_lb T (q * 8)) else -1)) := by
  refine pb_ofX RX0 (by decide) rfl rfl (Nat.le_of_ble_eq_true rfl) (fun p e s m args below meth c ls hx hb hml hr hlocks hown hts hP hK hl => ?_)
  have hl : lv_has ls 4 [(0, .ref h0), (1, .long (lN q))] := hl
  refine lv_aload_n hx hb dX0_placeOfBest_0 rfl (lv_at hl 0 rfl) ?_
  refine lv_lload_n hx hb dX0_placeOfBest_1 rfl (lv_at hl 1 rfl) ?_
  refine pb_callV (As := [.long (lN q)]) (rest := []) ⟨hx, hb, hml, hown, hts⟩ (c_X0_firstOfPrefix hT hR q hq) (cwV 1 hts gX0_placeOfBest_X0_firstOfPrefix rfl rfl rfl (by decide +kernel) ⟨Nat.le_of_ble_eq_true rfl, Nat.le_of_ble_eq_true rfl⟩) hP hK (va_recv hK hP (ci := 0) (q0 := 0) rfl rfl) rfl rfl hl (Nat.le_of_ble_eq_true rfl) dX0_placeOfBest_2 ⟨Nat.zero_le _, Nat.zero_le _⟩ ?_
  refine lv_istore_n (lv' := [(3, .int (nI (pb_lb T (q * 8)))), (0, .ref h0), (1, .long (lN q))]) hx hb dX0_placeOfBest_5 rfl hl (by decide) rfl (fun ls hl => ?_)
  refine lv_aload_n hx hb dX0_placeOfBest_6 rfl (lv_at hl 1 rfl) ?_
  refine lv_iload_n hx hb dX0_placeOfBest_7 rfl (lv_at hl 0 rfl) ?_
  have hcap := hR.1
  have hle := pb_lb_le T (q * 8)
  rcases hd : T[pb_lb T (q * 8)]? with _ | r
  · have hle2 := List.getElem?_eq_none_iff.mp hd
    have hno := pb_kn_no hT.1 hd
    refine pb_callV (As := [.int (nI (pb_lb T (q * 8)))]) (rest := []) ⟨hx, hb, hml, hown, hts⟩ (c_X0_prefixAt_f (nI (pb_lb T (q * 8))) T.length (Or.inr (nI_le (by omega) (by omega)))) (cwV 1 hts gX0_placeOfBest_X0_prefixAt rfl rfl rfl (by decide +kernel) ⟨Nat.le_of_ble_eq_true rfl, Nat.le_of_ble_eq_true rfl⟩) hP hK (va_recv hK hP (ci := 0) (q0 := 0) rfl rfl) rfl rfl hl (Nat.le_of_ble_eq_true rfl) dX0_placeOfBest_8 ⟨Nat.zero_le _, Nat.zero_le _⟩ ?_
    refine lv_lload_n hx hb dX0_placeOfBest_11 rfl (lv_at hl 2 rfl) ?_
    refine W.lcmp hx hb dX0_placeOfBest_12 ?_
    refine lv_if_ne (tgt := 20) hx hb dX0_placeOfBest_13 (by decide) (fun _ => ?_) (fun z => absurd ((lg_cmp_eq _ _).mp z).symm (pb_lm1 (by omega)))
    refine lv_iconst (v := (-1)) hx hb dX0_placeOfBest_20 (by decide) ?_
    exact pb_iret hx hb hr hlocks dX0_placeOfBest_21 (by rw [hno]; rfl)
  have hkb := pb_key_lt hT (List.mem_of_getElem? hd)
  have hlt := (List.getElem?_eq_some_iff.mp hd).1
  have hiff := pb_kn_iff hT.1 hd
  refine pb_callV (As := [.int (nI (pb_lb T (q * 8)))]) (rest := []) ⟨hx, hb, hml, hown, hts⟩ (c_X0_prefixAt_t (pb_lb T (q * 8)) T.length hlt ⟨hR.1.1, hR.1.2.1⟩ r.1 (by omega) (hR.2 _ _ hd).1) (cwV 1 hts gX0_placeOfBest_X0_prefixAt rfl rfl rfl (by decide +kernel) ⟨Nat.le_of_ble_eq_true rfl, Nat.le_of_ble_eq_true rfl⟩) hP hK (va_recv hK hP (ci := 0) (q0 := 0) rfl rfl) rfl rfl hl (Nat.le_of_ble_eq_true rfl) dX0_placeOfBest_8 ⟨Nat.zero_le _, Nat.zero_le _⟩ ?_
  refine lv_lload_n hx hb dX0_placeOfBest_11 rfl (lv_at hl 2 rfl) ?_
  refine W.lcmp hx hb dX0_placeOfBest_12 ?_
  refine lv_if_ne (tgt := 20) hx hb dX0_placeOfBest_13 (by decide) (fun q13 => ?_) (fun q13 => ?_)
  · have q13 := mt (lg_cmp_eq _ _).mpr q13
    have hne : ¬ pb_kn T q = true := fun z => q13 (by rw [hiff.mpr z])
    refine lv_iconst (v := (-1)) hx hb dX0_placeOfBest_20 (by decide) ?_
    exact pb_iret hx hb hr hlocks dX0_placeOfBest_21 (by rw [if_neg hne])
  · have q13 := (lg_cmp_eq _ _).mp q13
    have hye : pb_kn T q = true := hiff.mp ((pk_lEQ (by omega) (by omega)).mp q13)
    refine lv_iload_n hx hb dX0_placeOfBest_16 rfl (lv_at hl 0 rfl) ?_
    refine lv_goto (tgt := 21) hx hb dX0_placeOfBest_17 (by decide) ?_
    exact pb_iret hx hb hr hlocks dX0_placeOfBest_21 (by rw [if_pos hye])

set_option maxHeartbeats 4000000 in
set_option maxRecDepth 100000 in
theorem c_X0_placeOfLongest {T : List pb_Rt} (hT : pb_ok T) (hR : pb_rX T cap Kf Cf Hf) (a lim : Nat) (ha : a < 2 ^ 32) (hlim : lim ≤ 33) : pb_Rd l yX0_placeOfLongest wsX0_placeOfLongest 5 113 (pb_X [.ref h0, .int (nI a), .int (nI lim)] D (pb_ty cI cJ) (pb_wX cI cJ h0 k1 c1 h1 cap Kf Cf Hf (nI T.length))) (.int (pb_lg T a lim)) := by
  refine pb_ofX RX0 (by decide) rfl rfl (Nat.le_of_ble_eq_true rfl) (fun p e s m args below meth c ls hx hb hml hr hlocks hown hts hP hK hl => ?_)
  have hl : lv_has ls 5 [(0, .ref h0), (1, .int (nI a)), (2, .int (nI lim))] := hl
  refine lv_iload_n hx hb dX0_placeOfLongest_0 rfl (lv_at hl 2 rfl) ?_
  refine lv_iconst (v := 1) hx hb dX0_placeOfLongest_1 (by decide) ?_
  refine lv_isub hx hb dX0_placeOfLongest_2 ?_
  refine lv_istore_n (lv' := [(3, .int (nI lim - 1)), (0, .ref h0), (1, .int (nI a)), (2, .int (nI lim))]) hx hb dX0_placeOfLongest_3 rfl hl (by decide) rfl (fun ls hl => ?_)
  refine pb_loop (fun kk ls => ∃ kz : Nat, kz = kk ∧ kz ≤ 33 ∧ pb_lg T a lim = pb_lg T a kz ∧ lv_has ls 5 [(3, .int (nI kz - 1)), (0, .ref h0), (1, .int (nI a)), (2, .int (nI lim))]) 4 [] (fun kk ls hI ih => ?_) (fun hL => ?_)
  · obtain ⟨kz, rfl, hk, hv, hl⟩ := hI
    refine lv_iload_n hx hb dX0_placeOfLongest_4 rfl (lv_at hl 0 rfl) ?_
    refine lv_if_lt (tgt := 39) hx hb dX0_placeOfLongest_5 (by decide) (fun q5 => ?_) (fun q5 => ?_)
    · have hk0 : kz = 0 := (pb_dn_lt (by omega)).mp q5
      rw [hk0] at hv
      refine lv_iconst (v := (-1)) hx hb dX0_placeOfLongest_39 (by decide) ?_
      exact pb_iret hx hb hr hlocks dX0_placeOfLongest_40 (by rw [hv]; rfl)
    · obtain ⟨j, rfl⟩ : ∃ j, kz = j + 1 := Nat.exists_eq_succ_of_ne_zero (mt (pb_dn_lt (k := kz) (by omega)).mpr q5)
      rw [nI_pred] at hl
      have hclt := pb_cl_lt (k := j) ha
      refine lv_aload_n hx hb dX0_placeOfLongest_8 rfl (lv_at hl 1 rfl) ?_
      refine lv_iload_n hx hb dX0_placeOfLongest_9 rfl (lv_at hl 2 rfl) ?_
      refine lv_iload_n hx hb dX0_placeOfLongest_10 rfl (lv_at hl 0 rfl) ?_
      refine pb_callS (As := [.int (nI j)]) (rest := [.int (nI a), .ref h0]) ⟨hx, hb, hml, hown, hts⟩ (c_X0_mask j (by omega)) (va_cwS 1 hts gX0_placeOfLongest_X0_mask rfl rfl rfl (by decide +kernel) ⟨Nat.le_of_ble_eq_true rfl, Nat.le_of_ble_eq_true rfl⟩) rfl rfl hl (Nat.le_of_ble_eq_true rfl) dX0_placeOfLongest_11 ⟨Nat.zero_le _, Nat.zero_le _⟩ ?_
      refine lv_iand hx hb dX0_placeOfLongest_14 ?_
      refine pb_topi (z := nI (pb_cl a j)) (pb_mk_and ha (by omega)) ?_
      refine lv_iload_n hx hb dX0_placeOfLongest_15 rfl (lv_at hl 0 rfl) ?_
      refine pb_callS (As := [.int (nI (pb_cl a j)), .int (nI j)]) (rest := [.ref h0]) ⟨hx, hb, hml, hown, hts⟩ (c_X0_prefixOf (pb_cl a j) j hclt (by omega)) (va_cwS 2 hts gX0_placeOfLongest_X0_prefixOf rfl rfl rfl (by decide +kernel) ⟨Nat.le_of_ble_eq_true rfl, Nat.le_of_ble_eq_true rfl⟩) rfl rfl hl (Nat.le_of_ble_eq_true rfl) dX0_placeOfLongest_16 ⟨Nat.zero_le _, Nat.zero_le _⟩ ?_
      refine pb_callV (As := [.long (lN (pb_pre (pb_cl a j) j))]) (rest := []) ⟨hx, hb, hml, hown, hts⟩ (c_X0_placeOfBest hT hR (pb_pre (pb_cl a j) j) (by show 64 * pb_cl a j + j < _; omega)) (cwV 1 hts gX0_placeOfLongest_X0_placeOfBest rfl rfl rfl (by decide +kernel) ⟨Nat.le_of_ble_eq_true rfl, Nat.le_of_ble_eq_true rfl⟩) hP hK (va_recv hK hP (ci := 0) (q0 := 0) rfl rfl) rfl rfl hl (Nat.le_of_ble_eq_true rfl) dX0_placeOfLongest_19 ⟨Nat.zero_le _, Nat.zero_le _⟩ ?_
      refine lv_istore (lv' := [(4, .int (if pb_kn T (pb_pre (pb_cl a j) j) = true then nI (pb_lb T (pb_pre (pb_cl a j) j * 8)) else -1)), (3, .int (nI j)), (0, .ref h0), (1, .int (nI a)), (2, .int (nI lim))]) hx hb dX0_placeOfLongest_22 hl (by decide) rfl (fun ls hl => ?_)
      refine lv_iload hx hb dX0_placeOfLongest_24 (lv_at hl 0 rfl) ?_
      refine lv_iconst (v := (-1)) hx hb dX0_placeOfLongest_26 (by decide) ?_
      refine lv_icmp_eq (tgt := 33) hx hb dX0_placeOfLongest_27 (by decide) (fun q27 => ?_) (fun q27 => ?_)
      · have hno : ¬ pb_kn T (pb_pre (pb_cl a j) j) = true := fun z => by
          rw [if_pos z] at q27
          have := pb_lb_le T (pb_pre (pb_cl a j) j * 8)
          have := hR.1
          exact pb_m1_ne (by omega) q27
        refine lv_iinc (v := (nI j - 1)) (lv' := [(3, .int (nI j - 1)), (4, .int (if pb_kn T (pb_pre (pb_cl a j) j) = true then nI (pb_lb T (pb_pre (pb_cl a j) j * 8)) else -1)), (0, .ref h0), (1, .int (nI a)), (2, .int (nI lim))]) hx hb dX0_placeOfLongest_33 hl (k := 1) rfl (pb_dec _) (by decide) rfl (fun ls hl => ?_)
        refine lv_goto (tgt := 4) hx hb dX0_placeOfLongest_36 (by decide) ?_
        exact ih j _ (Nat.lt_succ_self j) ⟨j, rfl, by omega, by rw [hv, pb_lg, if_neg hno], lv_sub hl [0, 2, 3, 4] rfl⟩
      · have hye : pb_kn T (pb_pre (pb_cl a j) j) = true := by
          by_cases z : pb_kn T (pb_pre (pb_cl a j) j) = true
          · exact z
          · exact absurd (if_neg z) q27
        refine lv_iload hx hb dX0_placeOfLongest_30 (lv_at hl 0 rfl) ?_
        exact pb_iret hx hb hr hlocks dX0_placeOfLongest_32 (by rw [hv, pb_lg, if_pos hye, if_pos hye])
  · exact hL _ _ ⟨lim, rfl, hlim, rfl, lv_sub hl [0, 1, 2, 3] rfl⟩

end PB2
