/-! READS of PrefixBench: counts of prefixes, the public questions at good arguments (laid by wip/gen/p07.py) -/
section PB4
def pb_k (T : List pb_Rt) (j : Nat) : Nat := (T.getD j (0, 0, 0)).1
theorem pb_k_of {T : List pb_Rt} {j : Nat} {r : pb_Rt} (h : T[j]? = some r) : pb_k T j = r.1 := by
  rw [pb_k, List.getD_eq_getElem?_getD, h]; rfl
/-- a place begins a prefix -/
def pb_bg (T : List pb_Rt) (j : Nat) : Bool := decide (j = 0 ∨ pb_k T j / 8 ≠ pb_k T (j - 1) / 8)
/-- how many places of a stretch begin one -/
def pb_cn (T : List pb_Rt) (f d : Nat) : Nat := fb_ct (fun i => pb_bg T (f + i)) d
theorem pb_cn_t {T : List pb_Rt} {f d : Nat} (h : pb_bg T (f + d) = true) : pb_cn T f (d + 1) = pb_cn T f d + 1 := by
  unfold pb_cn; rw [fb_ct_succ, if_pos h]
theorem pb_cn_f {T : List pb_Rt} {f d : Nat} (h : pb_bg T (f + d) = false) : pb_cn T f (d + 1) = pb_cn T f d := by
  unfold pb_cn; rw [fb_ct_succ, h]; simp
theorem pb_cn_le (T : List pb_Rt) (f d : Nat) : pb_cn T f d ≤ d := fb_ct_le _ d
/-- two neighbours part at a prefix that isn't known -/
def pb_pu (T : List pb_Rt) (q1 q2 : Nat) : Bool := decide (pb_nz (q1 / 64 ^^^ q2 / 64) < q1 % 64 ∧ pb_kn T (pb_pre (pb_cl (q1 / 64) (pb_nz (q1 / 64 ^^^ q2 / 64))) (pb_nz (q1 / 64 ^^^ q2 / 64))) = false)
def pb_nd (T : List pb_Rt) : Nat → Nat
  | 0 => 0
  | j + 1 => pb_nd T j + (if pb_bg T j = true then 1 + (if 0 < j ∧ pb_pu T (pb_k T (j - 1) / 8) (pb_k T j / 8) = true then 1 else 0) else 0)
theorem pb_nd_le (T : List pb_Rt) : ∀ j, pb_nd T j ≤ 2 * j
  | 0 => Nat.le_refl _
  | j + 1 => by
    have := pb_nd_le T j
    rw [pb_nd]
    split
    · split <;> omega
    · omega
def pb_tl (r : pb_Rt) (w : Nat) : Int32 := if w = 0 then r.2.1 else if w = 1 then nI (r.1 % 8) else nI (pb_bits (uN r.2.2) 64)
theorem pb_uN (x : Int64) : lN (uN x) = x := by
  obtain ⟨n, h, rfl⟩ := wb_of x
  rw [show uN (lN n) = n from wb_tn h]
theorem pb_get {T : List pb_Rt} {j : Nat} (h : j < T.length) : ∃ r, T[j]? = some r ∧ r ∈ T := ⟨_, List.getElem?_eq_getElem h, List.getElem_mem h⟩
theorem pb_lenR {T : List pb_Rt} (hT : pb_ok T) {r : pb_Rt} (h : r ∈ T) : r.1 / 8 % 64 ≤ 32 := (hT.2 r h).2.1
variable {l : Launch} {D : va_G} {cI cJ : ClassId} {h0 k1 c1 h1 cap : Nat} {Kf : Nat → Int64} {Cf : Nat → Int32} {Hf : Nat → Int64}
set_option maxHeartbeats 4000000 in
set_option maxRecDepth 100000 in
theorem c_X0_begins_0 {T : List pb_Rt} (hT : pb_ok T) (hR : pb_rX T cap Kf Cf Hf) (hj : 0 < T.length) : pb_Rd l yX0_beginsPrefix wsX0_beginsPrefix 3 63 (pb_X [.ref h0, .int (nI 0)] D (pb_ty cI cJ) (pb_wX cI cJ h0 k1 c1 h1 cap Kf Cf Hf (nI T.length))) (.int 1) := by
  refine pb_ofX RX0 (by decide) rfl rfl (Nat.le_of_ble_eq_true rfl) (fun p e s m args below meth c ls hx hb hml hr hlocks hown hts hP hK hl => ?_)
  have hl : lv_has ls 2 [(0, .ref h0), (1, .int (nI 0))] := hl
  have hcap := hR.1
  refine lv_aload_n hx hb dX0_beginsPrefix_0 rfl (lv_at hl 0 rfl) ?_
  refine lv_iload_n hx hb dX0_beginsPrefix_1 rfl (lv_at hl 1 rfl) ?_
  obtain ⟨rz, hrz, mrz⟩ := pb_get (T := T) (j := 0) (by omega)
  have krz := pb_key_lt hT mrz
  refine pb_callV (As := [.int (nI 0)]) (rest := []) ⟨hx, hb, hml, hown, hts⟩ (c_X0_prefixAt_t 0 T.length hj ⟨hR.1.1, hR.1.2.1⟩ rz.1 (by omega) (hR.2 _ _ hrz).1) (cwV 1 hts gX0_beginsPrefix_X0_prefixAt rfl rfl rfl (by decide +kernel) ⟨Nat.le_of_ble_eq_true rfl, Nat.le_of_ble_eq_true rfl⟩) hP hK (va_recv hK hP (ci := 0) (q0 := 0) rfl rfl) rfl rfl hl (Nat.le_of_ble_eq_true rfl) dX0_beginsPrefix_2 ⟨Nat.zero_le _, Nat.zero_le _⟩ ?_
  refine lv_aload_n hx hb dX0_beginsPrefix_5 rfl (lv_at hl 0 rfl) ?_
  refine lv_iload_n hx hb dX0_beginsPrefix_6 rfl (lv_at hl 1 rfl) ?_
  refine lv_iconst (v := 1) hx hb dX0_beginsPrefix_7 (by decide) ?_
  refine lv_isub hx hb dX0_beginsPrefix_8 ?_
  refine pb_callV (As := [.int (nI 0 - 1)]) (rest := [.long (lN (rz.1 / 8))]) ⟨hx, hb, hml, hown, hts⟩ (c_X0_prefixAt_f (nI 0 - 1) T.length (Or.inl (by decide))) (cwV 1 hts gX0_beginsPrefix_X0_prefixAt rfl rfl rfl (by decide +kernel) ⟨Nat.le_of_ble_eq_true rfl, Nat.le_of_ble_eq_true rfl⟩) hP hK (va_recv hK hP (ci := 0) (q0 := 0) rfl rfl) rfl rfl hl (Nat.le_of_ble_eq_true rfl) dX0_beginsPrefix_9 ⟨Nat.zero_le _, Nat.zero_le _⟩ ?_
  refine W.lcmp hx hb dX0_beginsPrefix_12 ?_
  refine lv_if_eq (tgt := 20) hx hb dX0_beginsPrefix_13 (by decide) (fun q13 => absurd ((lg_cmp_eq _ _).mp q13) (fun z => pb_lm1 (by omega) z)) (fun q13 => ?_)
  have q13 := mt (lg_cmp_eq _ _).mpr q13
  refine lv_iconst (v := 1) hx hb dX0_beginsPrefix_16 (by decide) ?_
  refine lv_goto (tgt := 21) hx hb dX0_beginsPrefix_17 (by decide) ?_
  exact pb_zret hx hb hr hlocks dX0_beginsPrefix_21 (by decide) (rfl)

set_option maxHeartbeats 4000000 in
set_option maxRecDepth 100000 in
theorem c_X0_begins_s {T : List pb_Rt} (hT : pb_ok T) (hR : pb_rX T cap Kf Cf Hf) (j : Nat) (hj : j + 1 < T.length) : pb_Rd l yX0_beginsPrefix wsX0_beginsPrefix 3 63 (pb_X [.ref h0, .int (nI (j + 1))] D (pb_ty cI cJ) (pb_wX cI cJ h0 k1 c1 h1 cap Kf Cf Hf (nI T.length))) (.int (if pb_bg T (j + 1) = true then 1 else 0)) := by
  refine pb_ofX RX0 (by decide) rfl rfl (Nat.le_of_ble_eq_true rfl) (fun p e s m args below meth c ls hx hb hml hr hlocks hown hts hP hK hl => ?_)
  have hl : lv_has ls 2 [(0, .ref h0), (1, .int (nI (j + 1)))] := hl
  have hcap := hR.1
  refine lv_aload_n hx hb dX0_beginsPrefix_0 rfl (lv_at hl 0 rfl) ?_
  refine lv_iload_n hx hb dX0_beginsPrefix_1 rfl (lv_at hl 1 rfl) ?_
  obtain ⟨rz, hrz, mrz⟩ := pb_get (T := T) (j := j + 1) (by omega)
  have krz := pb_key_lt hT mrz
  obtain ⟨ry, hry, mry⟩ := pb_get (T := T) (j := j) (by omega)
  have kry := pb_key_lt hT mry
  have hbg : pb_bg T (j + 1) = true ↔ rz.1 / 8 ≠ ry.1 / 8 := by
    rw [pb_bg, decide_eq_true_iff, pb_k_of hrz, Nat.add_sub_cancel, pb_k_of hry]
    exact ⟨fun h => h.resolve_left (by omega), Or.inr⟩
  refine pb_callV (As := [.int (nI (j + 1))]) (rest := []) ⟨hx, hb, hml, hown, hts⟩ (c_X0_prefixAt_t (j + 1) T.length hj ⟨hR.1.1, hR.1.2.1⟩ rz.1 (by omega) (hR.2 _ _ hrz).1) (cwV 1 hts gX0_beginsPrefix_X0_prefixAt rfl rfl rfl (by decide +kernel) ⟨Nat.le_of_ble_eq_true rfl, Nat.le_of_ble_eq_true rfl⟩) hP hK (va_recv hK hP (ci := 0) (q0 := 0) rfl rfl) rfl rfl hl (Nat.le_of_ble_eq_true rfl) dX0_beginsPrefix_2 ⟨Nat.zero_le _, Nat.zero_le _⟩ ?_
  refine lv_aload_n hx hb dX0_beginsPrefix_5 rfl (lv_at hl 0 rfl) ?_
  refine lv_iload_n hx hb dX0_beginsPrefix_6 rfl (lv_at hl 1 rfl) ?_
  refine lv_iconst (v := 1) hx hb dX0_beginsPrefix_7 (by decide) ?_
  refine lv_isub hx hb dX0_beginsPrefix_8 ?_
  refine pb_topi (z := nI j) (nI_pred j) ?_
  refine pb_callV (As := [.int (nI j)]) (rest := [.long (lN (rz.1 / 8))]) ⟨hx, hb, hml, hown, hts⟩ (c_X0_prefixAt_t j T.length (by omega) ⟨hR.1.1, hR.1.2.1⟩ ry.1 (by omega) (hR.2 _ _ hry).1) (cwV 1 hts gX0_beginsPrefix_X0_prefixAt rfl rfl rfl (by decide +kernel) ⟨Nat.le_of_ble_eq_true rfl, Nat.le_of_ble_eq_true rfl⟩) hP hK (va_recv hK hP (ci := 0) (q0 := 0) rfl rfl) rfl rfl hl (Nat.le_of_ble_eq_true rfl) dX0_beginsPrefix_9 ⟨Nat.zero_le _, Nat.zero_le _⟩ ?_
  refine W.lcmp hx hb dX0_beginsPrefix_12 ?_
  refine lv_if_eq (tgt := 20) hx hb dX0_beginsPrefix_13 (by decide) (fun q13 => ?_) (fun q13 => ?_)
  · have q13 := (lg_cmp_eq _ _).mp q13
    have hb9 : ¬ pb_bg T (j + 1) = true := fun z => hbg.mp z ((pk_lEQ (by omega) (by omega)).mp q13)
    refine lv_iconst (v := 0) hx hb dX0_beginsPrefix_20 (by decide) ?_
    exact pb_zret hx hb hr hlocks dX0_beginsPrefix_21 (by decide) (by rw [if_neg hb9])
  · have q13 := mt (lg_cmp_eq _ _).mpr q13
    have hb9 : pb_bg T (j + 1) = true := hbg.mpr (fun z => q13 (by rw [z]))
    refine lv_iconst (v := 1) hx hb dX0_beginsPrefix_16 (by decide) ?_
    refine lv_goto (tgt := 21) hx hb dX0_beginsPrefix_17 (by decide) ?_
    exact pb_zret hx hb hr hlocks dX0_beginsPrefix_21 (by decide) (by rw [if_pos hb9])

set_option maxHeartbeats 4000000 in
set_option maxRecDepth 100000 in
theorem c_X0_begins {T : List pb_Rt} (hT : pb_ok T) (hR : pb_rX T cap Kf Cf Hf) (j : Nat) (hj : j < T.length) : pb_Rd l yX0_beginsPrefix wsX0_beginsPrefix 3 63 (pb_X [.ref h0, .int (nI j)] D (pb_ty cI cJ) (pb_wX cI cJ h0 k1 c1 h1 cap Kf Cf Hf (nI T.length))) (.int (if pb_bg T j = true then 1 else 0)) := by
  cases j with
  | zero =>
    rw [if_pos (by simp [pb_bg])]
    exact c_X0_begins_0 hT hR hj
  | succ j => exact c_X0_begins_s hT hR j hj
set_option maxHeartbeats 4000000 in
set_option maxRecDepth 100000 in
theorem c_X0_prefixesBetween {T : List pb_Rt} (hT : pb_ok T) (hR : pb_rX T cap Kf Cf Hf) (f t : Nat) (hft : f ≤ t) (ht : t ≤ T.length) : pb_Rd l yX0_prefixesBetween wsX0_prefixesBetween 4 84 (pb_X [.ref h0, .int (nI f), .int (nI t)] D (pb_ty cI cJ) (pb_wX cI cJ h0 k1 c1 h1 cap Kf Cf Hf (nI T.length))) (.int (nI (pb_cn T f (t - f)))) := by
  refine pb_ofX RX0 (by decide) rfl rfl (Nat.le_of_ble_eq_true rfl) (fun p e s m args below meth c ls hx hb hml hr hlocks hown hts hP hK hl => ?_)
  have hl : lv_has ls 5 [(0, .ref h0), (1, .int (nI f)), (2, .int (nI t))] := hl
  have hcap := hR.1
  refine lv_iconst (v := 0) hx hb dX0_prefixesBetween_0 (by decide) ?_
  refine lv_istore_n (lv' := [(3, .int 0), (0, .ref h0), (1, .int (nI f)), (2, .int (nI t))]) hx hb dX0_prefixesBetween_1 rfl hl (by decide) rfl (fun ls hl => ?_)
  refine lv_iload_n hx hb dX0_prefixesBetween_2 rfl (lv_at hl 2 rfl) ?_
  refine lv_istore (lv' := [(4, .int (nI f)), (3, .int 0), (0, .ref h0), (1, .int (nI f)), (2, .int (nI t))]) hx hb dX0_prefixesBetween_3 hl (by decide) rfl (fun ls hl => ?_)
  refine pb_loop (fun kk ls => ∃ d : Nat, d ≤ t - f ∧ t - f - d = kk ∧ lv_has ls 5 [(4, .int (nI (f + d))), (3, .int (nI (pb_cn T f d))), (0, .ref h0), (1, .int (nI f)), (2, .int (nI t))]) 5 [] (fun kk ls hI ih => ?_) (fun hL => ?_)
  · obtain ⟨d, hd, rfl, hl⟩ := hI
    refine lv_iload hx hb dX0_prefixesBetween_5 (lv_at hl 0 rfl) ?_
    refine lv_iload_n hx hb dX0_prefixesBetween_7 rfl (lv_at hl 4 rfl) ?_
    refine lv_icmp_ge (tgt := 29) hx hb dX0_prefixesBetween_8 (by decide) (fun q8 => ?_) (fun q8 => ?_)
    · have hw := (nI_leI (a := t) (b := f + d) (by omega) (by omega)).mp q8
      refine lv_iload_n hx hb dX0_prefixesBetween_29 rfl (lv_at hl 1 rfl) ?_
      exact pb_iret hx hb hr hlocks dX0_prefixesBetween_30 (by rw [show t - f = d by omega])
    · have hw := mt (nI_leI (a := t) (b := f + d) (by omega) (by omega)).mpr q8
      refine lv_aload_n hx hb dX0_prefixesBetween_11 rfl (lv_at hl 2 rfl) ?_
      refine lv_iload hx hb dX0_prefixesBetween_12 (lv_at hl 0 rfl) ?_
      refine pb_callV (As := [.int (nI (f + d))]) (rest := []) ⟨hx, hb, hml, hown, hts⟩ (c_X0_begins hT hR (f + d) (by omega)) (cwV 1 hts gX0_prefixesBetween_X0_beginsPrefix rfl rfl rfl (by decide +kernel) ⟨Nat.le_of_ble_eq_true rfl, Nat.le_of_ble_eq_true rfl⟩) hP hK (va_recv hK hP (ci := 0) (q0 := 0) rfl rfl) rfl rfl hl (Nat.le_of_ble_eq_true rfl) dX0_prefixesBetween_14 ⟨Nat.zero_le _, Nat.zero_le _⟩ ?_
      refine lv_if_eq (tgt := 23) hx hb dX0_prefixesBetween_17 (by decide) (fun q17 => ?_) (fun q17 => ?_)
      · have hb9 : pb_bg T (f + d) = false := by
          rcases hz : pb_bg T (f + d) with _ | _
          · rfl
          · rw [hz] at q17; exact absurd q17 (by decide)
        refine lv_iinc (v := nI (f + d + 1)) (lv' := [(4, .int (nI (f + d + 1))), (3, .int (nI (pb_cn T f d))), (0, .ref h0), (1, .int (nI f)), (2, .int (nI t))]) hx hb dX0_prefixesBetween_23 hl (k := 0) rfl (nI_1 _) (by decide) rfl (fun ls hl => ?_)
        refine lv_goto (tgt := 5) hx hb dX0_prefixesBetween_26 (by decide) ?_
        exact ih _ _ (by omega) ⟨d + 1, by omega, rfl, by rw [pb_cn_f hb9]; exact lv_sub hl [0, 1, 2, 3, 4] rfl⟩
      · have hb9 : pb_bg T (f + d) = true := by
          rcases hz : pb_bg T (f + d) with _ | _
          · rw [hz] at q17; exact absurd rfl q17
          · rfl
        refine lv_iinc (v := nI (pb_cn T f d + 1)) (lv' := [(3, .int (nI (pb_cn T f d + 1))), (4, .int (nI (f + d))), (0, .ref h0), (1, .int (nI f)), (2, .int (nI t))]) hx hb dX0_prefixesBetween_20 hl (k := 1) rfl (nI_1 _) (by decide) rfl (fun ls hl => ?_)
        refine lv_iinc (v := nI (f + d + 1)) (lv' := [(4, .int (nI (f + d + 1))), (3, .int (nI (pb_cn T f d + 1))), (0, .ref h0), (1, .int (nI f)), (2, .int (nI t))]) hx hb dX0_prefixesBetween_23 hl (k := 1) rfl (nI_1 _) (by decide) rfl (fun ls hl => ?_)
        refine lv_goto (tgt := 5) hx hb dX0_prefixesBetween_26 (by decide) ?_
        exact ih _ _ (by omega) ⟨d + 1, by omega, rfl, by rw [pb_cn_t hb9]; exact lv_sub hl [0, 1, 2, 3, 4] rfl⟩
  · exact hL _ _ ⟨0, Nat.zero_le _, rfl, lv_sub hl [0, 1, 2, 3, 4] rfl⟩

theorem pb_nz_lt (u : Nat) : pb_nz u < 33 := by
  unfold pb_nz
  split
  · decide
  · split
    · decide
    · dsimp only
      repeat' split
      all_goals (dsimp only; omega)
set_option maxHeartbeats 4000000 in
set_option maxRecDepth 100000 in
theorem c_X0_partAtUnknown {T : List pb_Rt} (hT : pb_ok T) (hR : pb_rX T cap Kf Cf Hf) (g g2 : Nat) (hg : g / 64 < 2 ^ 32) (hg2 : g2 / 64 < 2 ^ 32) (hgl : g % 64 ≤ 32) : pb_Rd l yX0_partAtUnknown wsX0_partAtUnknown 5 113 (pb_X [.ref h0, .long (lN g), .long (lN g2)] D (pb_ty cI cJ) (pb_wX cI cJ h0 k1 c1 h1 cap Kf Cf Hf (nI T.length))) (.int (if pb_pu T g g2 = true then 1 else 0)) := by
  refine pb_ofX RX0 (by decide) rfl rfl (Nat.le_of_ble_eq_true rfl) (fun p e s m args below meth c ls hx hb hml hr hlocks hown hts hP hK hl => ?_)
  have hl : lv_has ls 7 [(0, .ref h0), (1, .long (lN g)), (3, .long (lN g2))] := hl
  have hcap := hR.1
  refine lv_lload_n hx hb dX0_partAtUnknown_0 rfl (lv_at hl 1 rfl) ?_
  refine pb_callS (As := [.long (lN g)]) (rest := []) ⟨hx, hb, hml, hown, hts⟩ (c_X0_addressOf g (by omega)) (va_cwS 1 hts gX0_partAtUnknown_X0_addressOf rfl rfl rfl (by decide +kernel) ⟨Nat.le_of_ble_eq_true rfl, Nat.le_of_ble_eq_true rfl⟩) rfl rfl hl (Nat.le_of_ble_eq_true rfl) dX0_partAtUnknown_1 ⟨Nat.zero_le _, Nat.zero_le _⟩ ?_
  refine lv_istore (lv' := [(5, .int (nI (g / 64))), (0, .ref h0), (1, .long (lN g)), (3, .long (lN g2))]) hx hb dX0_partAtUnknown_4 hl (by decide) rfl (fun ls hl => ?_)
  refine lv_iload hx hb dX0_partAtUnknown_6 (lv_at hl 0 rfl) ?_
  refine lv_lload_n hx hb dX0_partAtUnknown_8 rfl (lv_at hl 3 rfl) ?_
  refine pb_callS (As := [.long (lN g2)]) (rest := [.int (nI (g / 64))]) ⟨hx, hb, hml, hown, hts⟩ (c_X0_addressOf g2 (by omega)) (va_cwS 1 hts gX0_partAtUnknown_X0_addressOf rfl rfl rfl (by decide +kernel) ⟨Nat.le_of_ble_eq_true rfl, Nat.le_of_ble_eq_true rfl⟩) rfl rfl hl (Nat.le_of_ble_eq_true rfl) dX0_partAtUnknown_9 ⟨Nat.zero_le _, Nat.zero_le _⟩ ?_
  refine lv_ixor hx hb dX0_partAtUnknown_12 ?_
  refine pb_topi (z := nI (g / 64 ^^^ g2 / 64)) (nx_xor _ _) ?_
  refine pb_callS (As := [.int (nI (g / 64 ^^^ g2 / 64))]) (rest := []) ⟨hx, hb, hml, hown, hts⟩ (c_nlz (g / 64 ^^^ g2 / 64) (Nat.xor_lt_two_pow hg hg2)) (va_cwS 1 hts gX0_partAtUnknown_J6_numberOfLeadingZeros_0f7a4 rfl rfl rfl (by decide +kernel) ⟨Nat.le_of_ble_eq_true rfl, Nat.le_of_ble_eq_true rfl⟩) rfl rfl hl (Nat.le_of_ble_eq_true rfl) dX0_partAtUnknown_13 ⟨Nat.zero_le _, Nat.zero_le _⟩ ?_
  refine lv_istore (lv' := [(6, .int (nI (pb_nz (g / 64 ^^^ g2 / 64)))), (5, .int (nI (g / 64))), (0, .ref h0), (1, .long (lN g)), (3, .long (lN g2))]) hx hb dX0_partAtUnknown_16 hl (by decide) rfl (fun ls hl => ?_)
  refine lv_iload hx hb dX0_partAtUnknown_18 (lv_at hl 0 rfl) ?_
  refine lv_lload_n hx hb dX0_partAtUnknown_20 rfl (lv_at hl 3 rfl) ?_
  refine pb_callS (As := [.long (lN g)]) (rest := [.int (nI (pb_nz (g / 64 ^^^ g2 / 64)))]) ⟨hx, hb, hml, hown, hts⟩ (c_X0_lengthOf g) (va_cwS 1 hts gX0_partAtUnknown_X0_lengthOf rfl rfl rfl (by decide +kernel) ⟨Nat.le_of_ble_eq_true rfl, Nat.le_of_ble_eq_true rfl⟩) rfl rfl hl (Nat.le_of_ble_eq_true rfl) dX0_partAtUnknown_21 ⟨Nat.zero_le _, Nat.zero_le _⟩ ?_
  have hzb : (pb_nz (g / 64 ^^^ g2 / 64)) < 33 := pb_nz_lt _
  refine lv_icmp_ge (tgt := 52) hx hb dX0_partAtUnknown_24 (by decide) (fun q24 => ?_) (fun q24 => ?_)
  · have hw := (nI_leI (a := g % 64) (b := (pb_nz (g / 64 ^^^ g2 / 64))) (by omega) (by omega)).mp q24
    have hno : ¬ pb_pu T g g2 = true := fun z => by
      have := (decide_eq_true_iff.mp z).1
      omega
    refine lv_iconst (v := 0) hx hb dX0_partAtUnknown_52 (by decide) ?_
    exact pb_zret hx hb hr hlocks dX0_partAtUnknown_53 (by decide) (by rw [if_neg hno])
  · have hw := mt (nI_leI (a := g % 64) (b := (pb_nz (g / 64 ^^^ g2 / 64))) (by omega) (by omega)).mpr q24
    refine lv_aload_n hx hb dX0_partAtUnknown_27 rfl (lv_at hl 2 rfl) ?_
    refine lv_iload hx hb dX0_partAtUnknown_28 (lv_at hl 1 rfl) ?_
    refine lv_iload hx hb dX0_partAtUnknown_30 (lv_at hl 0 rfl) ?_
    have hclt := pb_cl_lt (k := (pb_nz (g / 64 ^^^ g2 / 64))) hg
    refine pb_callS (As := [.int (nI (pb_nz (g / 64 ^^^ g2 / 64)))]) (rest := [.int (nI (g / 64)), .ref h0]) ⟨hx, hb, hml, hown, hts⟩ (c_X0_mask (pb_nz (g / 64 ^^^ g2 / 64)) (by omega)) (va_cwS 1 hts gX0_partAtUnknown_X0_mask rfl rfl rfl (by decide +kernel) ⟨Nat.le_of_ble_eq_true rfl, Nat.le_of_ble_eq_true rfl⟩) rfl rfl hl (Nat.le_of_ble_eq_true rfl) dX0_partAtUnknown_32 ⟨Nat.zero_le _, Nat.zero_le _⟩ ?_
    refine lv_iand hx hb dX0_partAtUnknown_35 ?_
    refine pb_topi (z := nI (pb_cl (g / 64) (pb_nz (g / 64 ^^^ g2 / 64)))) (pb_mk_and hg (by omega)) ?_
    refine lv_iload hx hb dX0_partAtUnknown_36 (lv_at hl 0 rfl) ?_
    refine pb_callS (As := [.int (nI (pb_cl (g / 64) (pb_nz (g / 64 ^^^ g2 / 64)))), .int (nI (pb_nz (g / 64 ^^^ g2 / 64)))]) (rest := [.ref h0]) ⟨hx, hb, hml, hown, hts⟩ (c_X0_prefixOf (pb_cl (g / 64) (pb_nz (g / 64 ^^^ g2 / 64))) (pb_nz (g / 64 ^^^ g2 / 64)) hclt (by omega)) (va_cwS 2 hts gX0_partAtUnknown_X0_prefixOf rfl rfl rfl (by decide +kernel) ⟨Nat.le_of_ble_eq_true rfl, Nat.le_of_ble_eq_true rfl⟩) rfl rfl hl (Nat.le_of_ble_eq_true rfl) dX0_partAtUnknown_38 ⟨Nat.zero_le _, Nat.zero_le _⟩ ?_
    refine pb_callV (As := [.long (lN (pb_pre (pb_cl (g / 64) (pb_nz (g / 64 ^^^ g2 / 64))) (pb_nz (g / 64 ^^^ g2 / 64))))]) (rest := []) ⟨hx, hb, hml, hown, hts⟩ (c_X0_placeOfBest hT hR (pb_pre (pb_cl (g / 64) (pb_nz (g / 64 ^^^ g2 / 64))) (pb_nz (g / 64 ^^^ g2 / 64))) (by show 64 * pb_cl (g / 64) (pb_nz (g / 64 ^^^ g2 / 64)) + (pb_nz (g / 64 ^^^ g2 / 64)) < _; omega)) (cwV 1 hts gX0_partAtUnknown_X0_placeOfBest rfl rfl rfl (by decide +kernel) ⟨Nat.le_of_ble_eq_true rfl, Nat.le_of_ble_eq_true rfl⟩) hP hK (va_recv hK hP (ci := 0) (q0 := 0) rfl rfl) rfl rfl hl (Nat.le_of_ble_eq_true rfl) dX0_partAtUnknown_41 ⟨Nat.zero_le _, Nat.zero_le _⟩ ?_
    refine lv_iconst (v := (-1)) hx hb dX0_partAtUnknown_44 (by decide) ?_
    refine lv_icmp_ne (tgt := 52) hx hb dX0_partAtUnknown_45 (by decide) (fun q45 => ?_) (fun q45 => ?_)
    · have hno : ¬ pb_pu T g g2 = true := fun z => by
        have := (decide_eq_true_iff.mp z).2
        rw [this] at q45
        exact q45 rfl
      refine lv_iconst (v := 0) hx hb dX0_partAtUnknown_52 (by decide) ?_
      exact pb_zret hx hb hr hlocks dX0_partAtUnknown_53 (by decide) (by rw [if_neg hno])
    · have hye : pb_pu T g g2 = true := decide_eq_true_iff.mpr ⟨by omega, by
        rcases hz : pb_kn T (pb_pre (pb_cl (g / 64) (pb_nz (g / 64 ^^^ g2 / 64))) (pb_nz (g / 64 ^^^ g2 / 64))) with _ | _
        · rfl
        · rw [hz, if_pos rfl] at q45
          have := pb_lb_le T (pb_pre (pb_cl (g / 64) (pb_nz (g / 64 ^^^ g2 / 64))) (pb_nz (g / 64 ^^^ g2 / 64)) * 8)
          exact absurd q45 (pb_m1_ne (by omega))⟩
      refine lv_iconst (v := 1) hx hb dX0_partAtUnknown_48 (by decide) ?_
      refine lv_goto (tgt := 53) hx hb dX0_partAtUnknown_49 (by decide) ?_
      exact pb_zret hx hb hr hlocks dX0_partAtUnknown_53 (by decide) (by rw [if_pos hye])

set_option maxHeartbeats 4000000 in
set_option maxRecDepth 100000 in
theorem c_X0_tell_0 {T : List pb_Rt} (hT : pb_ok T) (hR : pb_rX T cap Kf Cf Hf) (j : Nat) {r : pb_Rt} (hr1 : T[j]? = some r) : pb_Rd l yX0_tell wsX0_tell 3 63 (pb_X [.ref h0, .int (nI j), .int 0] D (pb_ty cI cJ) (pb_wX cI cJ h0 k1 c1 h1 cap Kf Cf Hf (nI T.length))) (.int (pb_tl r 0)) := by
  refine pb_ofX RX0 (by decide) rfl rfl (Nat.le_of_ble_eq_true rfl) (fun p e s m args below meth c ls hx hb hml hr hlocks hown hts hP hK hl => ?_)
  have hl : lv_has ls 3 [(0, .ref h0), (1, .int (nI j)), (2, .int 0)] := hl
  have hcap := hR.1
  have hj := (List.getElem?_eq_some_iff.mp hr1).1
  refine lv_iload_n hx hb dX0_tell_0 rfl (lv_at hl 2 rfl) ?_
  refine lv_lookup (off := 27) (tgt := 28) hx hb dX0_tell_1 (by decide) (by decide) (by decide) ?_
  refine lv_aload_n hx hb dX0_tell_28 rfl (lv_at hl 0 rfl) ?_
  refine lv_iload_n hx hb dX0_tell_29 rfl (lv_at hl 1 rfl) ?_
  refine pb_callV (As := [.int (nI j)]) (rest := []) ⟨hx, hb, hml, hown, hts⟩ (c_X0_costAt_t j T.length hj ⟨hR.1.1, hR.1.2.1⟩) (cwV 1 hts gX0_tell_X0_costAt rfl rfl rfl (by decide +kernel) ⟨Nat.le_of_ble_eq_true rfl, Nat.le_of_ble_eq_true rfl⟩) hP hK (va_recv hK hP (ci := 0) (q0 := 0) rfl rfl) rfl rfl hl (Nat.le_of_ble_eq_true rfl) dX0_tell_30 ⟨Nat.zero_le _, Nat.zero_le _⟩ ?_
  exact pb_iret hx hb hr hlocks dX0_tell_33 (by rw [(hR.2 _ _ hr1).2.1]; rfl)

set_option maxHeartbeats 4000000 in
set_option maxRecDepth 100000 in
theorem c_X0_tell_1 {T : List pb_Rt} (hT : pb_ok T) (hR : pb_rX T cap Kf Cf Hf) (j : Nat) {r : pb_Rt} (hr1 : T[j]? = some r) : pb_Rd l yX0_tell wsX0_tell 3 63 (pb_X [.ref h0, .int (nI j), .int 1] D (pb_ty cI cJ) (pb_wX cI cJ h0 k1 c1 h1 cap Kf Cf Hf (nI T.length))) (.int (pb_tl r 1)) := by
  refine pb_ofX RX0 (by decide) rfl rfl (Nat.le_of_ble_eq_true rfl) (fun p e s m args below meth c ls hx hb hml hr hlocks hown hts hP hK hl => ?_)
  have hl : lv_has ls 3 [(0, .ref h0), (1, .int (nI j)), (2, .int 1)] := hl
  have hcap := hR.1
  have hj := (List.getElem?_eq_some_iff.mp hr1).1
  refine lv_iload_n hx hb dX0_tell_0 rfl (lv_at hl 2 rfl) ?_
  refine lv_lookup (off := 33) (tgt := 34) hx hb dX0_tell_1 (by decide) (by decide) (by decide) ?_
  refine lv_aload_n hx hb dX0_tell_34 rfl (lv_at hl 0 rfl) ?_
  refine lv_iload_n hx hb dX0_tell_35 rfl (lv_at hl 1 rfl) ?_
  refine pb_callV (As := [.int (nI j)]) (rest := []) ⟨hx, hb, hml, hown, hts⟩ (c_X0_originAt_t j T.length hj ⟨hR.1.1, hR.1.2.1⟩ r.1 (hR.2 _ _ hr1).1) (cwV 1 hts gX0_tell_X0_originAt rfl rfl rfl (by decide +kernel) ⟨Nat.le_of_ble_eq_true rfl, Nat.le_of_ble_eq_true rfl⟩) hP hK (va_recv hK hP (ci := 0) (q0 := 0) rfl rfl) rfl rfl hl (Nat.le_of_ble_eq_true rfl) dX0_tell_36 ⟨Nat.zero_le _, Nat.zero_le _⟩ ?_
  exact pb_iret hx hb hr hlocks dX0_tell_39 (rfl)

set_option maxHeartbeats 4000000 in
set_option maxRecDepth 100000 in
theorem c_X0_tell_2 {T : List pb_Rt} (hT : pb_ok T) (hR : pb_rX T cap Kf Cf Hf) (j : Nat) {r : pb_Rt} (hr1 : T[j]? = some r) : pb_Rd l yX0_tell wsX0_tell 3 63 (pb_X [.ref h0, .int (nI j), .int 2] D (pb_ty cI cJ) (pb_wX cI cJ h0 k1 c1 h1 cap Kf Cf Hf (nI T.length))) (.int (pb_tl r 2)) := by
  refine pb_ofX RX0 (by decide) rfl rfl (Nat.le_of_ble_eq_true rfl) (fun p e s m args below meth c ls hx hb hml hr hlocks hown hts hP hK hl => ?_)
  have hl : lv_has ls 3 [(0, .ref h0), (1, .int (nI j)), (2, .int 2)] := hl
  have hcap := hR.1
  have hj := (List.getElem?_eq_some_iff.mp hr1).1
  refine lv_iload_n hx hb dX0_tell_0 rfl (lv_at hl 2 rfl) ?_
  refine lv_lookup (off := 39) (tgt := 40) hx hb dX0_tell_1 (by decide) (by decide) (by decide) ?_
  refine lv_aload_n hx hb dX0_tell_40 rfl (lv_at hl 0 rfl) ?_
  refine lv_iload_n hx hb dX0_tell_41 rfl (lv_at hl 1 rfl) ?_
  refine pb_callV (As := [.int (nI j)]) (rest := []) ⟨hx, hb, hml, hown, hts⟩ (c_X0_hopsAt_t j T.length hj ⟨hR.1.1, hR.1.2.1⟩) (cwV 1 hts gX0_tell_X0_hopsAt rfl rfl rfl (by decide +kernel) ⟨Nat.le_of_ble_eq_true rfl, Nat.le_of_ble_eq_true rfl⟩) hP hK (va_recv hK hP (ci := 0) (q0 := 0) rfl rfl) rfl rfl hl (Nat.le_of_ble_eq_true rfl) dX0_tell_42 ⟨Nat.zero_le _, Nat.zero_le _⟩ ?_
  refine pb_topl (z := lN (uN r.2.2)) (by rw [pb_uN]; exact (hR.2 _ _ hr1).2.2) ?_
  refine pb_callS (As := [.long (lN (uN r.2.2))]) (rest := []) ⟨hx, hb, hml, hown, hts⟩ (c_bitCount (uN r.2.2) (uN_lt _)) (va_cwS 1 hts gX0_tell_J13_bitCount_95d88 rfl rfl rfl (by decide +kernel) ⟨Nat.le_of_ble_eq_true rfl, Nat.le_of_ble_eq_true rfl⟩) rfl rfl hl (Nat.le_of_ble_eq_true rfl) dX0_tell_45 ⟨Nat.zero_le _, Nat.zero_le _⟩ ?_
  exact pb_iret hx hb hr hlocks dX0_tell_48 (rfl)

theorem pb_bits_mono (a : Nat) {i j : Nat} (h : i ≤ j) : pb_bits a i ≤ pb_bits a j := by
  induction j with
  | zero => rw [show i = 0 by omega]; exact Nat.le_refl _
  | succ j ih =>
    rcases Nat.lt_or_ge i (j + 1) with z | z
    · have := ih (by omega)
      rw [pb_bits]; omega
    · rw [show i = j + 1 by omega]; exact Nat.le_refl _
theorem pb_bit1 {a hz i : Nat} (h1 : a / 2 ^ hz % 2 = 1) (hi : hz < i) : pb_bits a hz + 1 ≤ pb_bits a i := by
  have := pb_bits_mono a (i := hz + 1) (j := i) hi
  rw [pb_bits] at this; omega
theorem pb_bit_lt2 {a hz i rk : Nat} (h1 : a / 2 ^ hz % 2 = 1) (h2 : pb_bits a hz = rk) (hi : i ≤ hz) : (a / 2 ^ i % 2 = 1 ∧ pb_bits a i = rk) ↔ i = hz := by
  constructor
  · rintro ⟨g1, g2⟩
    rcases Nat.lt_or_ge i hz with z | z
    · have := pb_bit1 g1 z; omega
    · omega
  · rintro rfl; exact ⟨h1, h2⟩
theorem pb_kth (a : Nat) : ∀ n rk, rk < pb_bits a n → ∃ hz, hz < n ∧ a / 2 ^ hz % 2 = 1 ∧ pb_bits a hz = rk
  | 0, _, h => absurd h (Nat.not_lt_zero _)
  | n + 1, rk, h => by
    rcases Nat.lt_or_ge rk (pb_bits a n) with z | z
    · obtain ⟨hz, h1, h2⟩ := pb_kth a n rk z
      exact ⟨hz, by omega, h2⟩
    · rw [pb_bits] at h
      have := Nat.mod_lt (a / 2 ^ n) (y := 2) (by decide)
      exact ⟨n, by omega, by omega, by omega⟩
set_option maxHeartbeats 4000000 in
set_option maxRecDepth 100000 in
theorem c_X0_hopOfRank (a rk hz : Nat) (ha : a < 2 ^ 64) (hz64 : hz < 64) (h1 : a / 2 ^ hz % 2 = 1) (h2 : pb_bits a hz = rk) : pb_Rd l yX0_hopOfRank wsX0_hopOfRank 0 0 (pb_S [.long (lN a), .int (nI rk)]) (.int (nI hz)) := by
  refine pb_ofS RX0 (by decide) rfl rfl (Nat.le_of_ble_eq_true rfl) (fun p e s m args below meth c ls hx hb hml hr hlocks hown hts hl => ?_)
  have hl : lv_has ls 5 [(0, .long (lN a)), (2, .int (nI rk))] := hl
  refine lv_iconst (v := 0) hx hb dX0_hopOfRank_0 (by decide) ?_
  refine lv_istore_n (lv' := [(3, .int 0), (0, .long (lN a)), (2, .int (nI rk))]) hx hb dX0_hopOfRank_1 rfl hl (by decide) rfl (fun ls hl => ?_)
  refine lv_iconst (v := 0) hx hb dX0_hopOfRank_2 (by decide) ?_
  refine lv_istore (lv' := [(4, .int 0), (3, .int 0), (0, .long (lN a)), (2, .int (nI rk))]) hx hb dX0_hopOfRank_3 hl (by decide) rfl (fun ls hl => ?_)
  refine pb_loop (fun kk ls => ∃ i : Nat, i ≤ hz ∧ hz - i = kk ∧ lv_has ls 5 [(4, .int (nI i)), (3, .int (nI (pb_bits a i))), (0, .long (lN a)), (2, .int (nI rk))]) 5 [] (fun kk ls hI ih => ?_) (fun hL => ?_)
  · obtain ⟨i, hi, rfl, hl⟩ := hI
    refine lv_iload hx hb dX0_hopOfRank_5 (lv_at hl 0 rfl) ?_
    refine lv_bipush (v := 63) hx hb dX0_hopOfRank_7 (by decide) ?_
    refine lv_icmp_gt (tgt := 40) hx hb dX0_hopOfRank_9 (by decide) (fun q9 => absurd q9 (fun z => absurd ((nI_ltI (a := 63) (b := i) (by decide) (by omega)).mp z) (by omega))) (fun q9 => ?_)
    have hiff := pb_bit_lt2 h1 h2 hi
    have hm2 := Nat.mod_lt (a / 2 ^ i) (y := 2) (by decide)
    have hle := pb_bits_le a i
    have hle2 := pb_bits_le a hz
    refine lv_lload_n hx hb dX0_hopOfRank_12 rfl (lv_at hl 2 rfl) ?_
    refine lv_iload hx hb dX0_hopOfRank_13 (lv_at hl 0 rfl) ?_
    refine lv_lushr hx hb dX0_hopOfRank_15 rfl ?_
    refine pb_topl (z := lN (a / 2 ^ i)) (wb_shr ha (by omega)) ?_
    refine lv_lconst (v := 1) hx hb dX0_hopOfRank_16 (by decide) ?_
    refine lv_land hx hb dX0_hopOfRank_17 ?_
    refine pb_topl (z := lN (a / 2 ^ i % 2)) (wb_a1 (Nat.lt_of_le_of_lt (Nat.div_le_self _ _) ha)) ?_
    refine lv_lconst (v := 0) hx hb dX0_hopOfRank_18 (by decide) ?_
    refine W.lcmp hx hb dX0_hopOfRank_19 ?_
    refine lv_if_eq (tgt := 34) hx hb dX0_hopOfRank_20 (by decide) (fun q20 => ?_) (fun q20 => ?_)
    · have q20 := (lg_cmp_eq _ _).mp q20
      have hb9 : a / 2 ^ i % 2 = 0 := (pk_lEQ (a := a / 2 ^ i % 2) (b := 0) (by omega) (by decide)).mp q20
      have hne : i ≠ hz := fun z => by have := (hiff.mpr z).1; omega
      refine lv_iinc (v := nI (i + 1)) (lv' := [(4, .int (nI (i + 1))), (3, .int (nI (pb_bits a i))), (0, .long (lN a)), (2, .int (nI rk))]) hx hb dX0_hopOfRank_34 hl (k := 0) rfl (nI_1 _) (by decide) rfl (fun ls hl => ?_)
      refine lv_goto (tgt := 5) hx hb dX0_hopOfRank_37 (by decide) ?_
      exact ih _ _ (by omega) ⟨i + 1, by omega, rfl, by rw [pb_bits, hb9, Nat.add_zero]; exact lv_sub hl [0, 1, 2, 3] rfl⟩
    · have q20 := mt (lg_cmp_eq _ _).mpr q20
      have hb9 : a / 2 ^ i % 2 ≠ 0 := fun z => q20 (by rw [z]; rfl)
      refine lv_iload_n hx hb dX0_hopOfRank_23 rfl (lv_at hl 1 rfl) ?_
      refine lv_iload_n hx hb dX0_hopOfRank_24 rfl (lv_at hl 3 rfl) ?_
      refine lv_icmp_ne (tgt := 31) hx hb dX0_hopOfRank_25 (by decide) (fun q25 => ?_) (fun q25 => ?_)
      · have hne : i ≠ hz := fun z => q25 (by rw [(hiff.mpr z).2])
        refine lv_iinc (v := nI (pb_bits a i + 1)) (lv' := [(3, .int (nI (pb_bits a i + 1))), (4, .int (nI i)), (0, .long (lN a)), (2, .int (nI rk))]) hx hb dX0_hopOfRank_31 hl (k := 1) rfl (nI_1 _) (by decide) rfl (fun ls hl => ?_)
        refine lv_iinc (v := nI (i + 1)) (lv' := [(4, .int (nI (i + 1))), (3, .int (nI (pb_bits a i + 1))), (0, .long (lN a)), (2, .int (nI rk))]) hx hb dX0_hopOfRank_34 hl (k := 1) rfl (nI_1 _) (by decide) rfl (fun ls hl => ?_)
        refine lv_goto (tgt := 5) hx hb dX0_hopOfRank_37 (by decide) ?_
        exact ih _ _ (by omega) ⟨i + 1, by omega, rfl, by rw [pb_bits, show a / 2 ^ i % 2 = 1 by omega]; exact lv_sub hl [0, 1, 2, 3] rfl⟩
      · have hy : i = hz := hiff.mp ⟨by omega, (nI_eq (by omega) (by omega)).mp q25⟩
        refine lv_iload hx hb dX0_hopOfRank_28 (lv_at hl 0 rfl) ?_
        exact pb_iret hx hb hr hlocks dX0_hopOfRank_30 (by rw [hy])
  · exact hL _ _ ⟨0, Nat.zero_le _, rfl, lv_sub hl [0, 1, 2, 3] rfl⟩

theorem pb_lg_ix (T : List pb_Rt) (hT : pb_so T) (a : Nat) : ∀ lim, pb_lg T a lim = -1 ∨ ∃ j r, T[j]? = some r ∧ pb_lg T a lim = nI j
  | 0 => Or.inl rfl
  | k + 1 => by
    rw [pb_lg]
    split
    · rename_i hk
      rcases hd : T[pb_lb T (pb_pre (pb_cl a k) k * 8)]? with _ | r
      · rw [pb_kn_no hT hd] at hk; exact absurd hk (by decide)
      · exact Or.inr ⟨_, r, hd, rfl⟩
    · exact pb_lg_ix T hT a k
set_option maxHeartbeats 4000000 in
set_option maxRecDepth 100000 in
theorem c_X0_look_n {T : List pb_Rt} (hT : pb_ok T) (hR : pb_rX T cap Kf Cf Hf) (a : Nat) (ha : a < 2 ^ 32) (hv : pb_lg T a 33 = -1) : pb_Rd l yX0_look wsX0_look 6 137 (pb_X [.ref h0, .int (nI a)] D (pb_ty cI cJ) (pb_wX cI cJ h0 k1 c1 h1 cap Kf Cf Hf (nI T.length))) (.int (-1)) := by
  refine pb_ofX RX0 (by decide) rfl rfl (Nat.le_of_ble_eq_true rfl) (fun p e s m args below meth c ls hx hb hml hr hlocks hown hts hP hK hl => ?_)
  have hl : lv_has ls 2 [(0, .ref h0), (1, .int (nI a))] := hl
  have hcap := hR.1
  refine lv_aload_n hx hb dX0_look_0 rfl (lv_at hl 0 rfl) ?_
  refine lv_aload_n hx hb dX0_look_1 rfl (lv_at hl 0 rfl) ?_
  refine lv_iload_n hx hb dX0_look_2 rfl (lv_at hl 1 rfl) ?_
  refine lv_bipush (v := 33) hx hb dX0_look_3 (by decide) ?_
  refine pb_callV (As := [.int (nI a), .int 33]) (rest := [.ref h0]) ⟨hx, hb, hml, hown, hts⟩ (c_X0_placeOfLongest hT hR a 33 ha (by decide)) (cwV 2 hts gX0_look_X0_placeOfLongest rfl rfl rfl (by decide +kernel) ⟨Nat.le_of_ble_eq_true rfl, Nat.le_of_ble_eq_true rfl⟩) hP hK (va_recv hK hP (ci := 0) (q0 := 0) rfl rfl) rfl rfl hl (Nat.le_of_ble_eq_true rfl) dX0_look_5 ⟨Nat.zero_le _, Nat.zero_le _⟩ ?_
  refine pb_topi (z := (-1)) (hv) ?_
  refine pb_callV (As := [.int (-1)]) (rest := []) ⟨hx, hb, hml, hown, hts⟩ (c_X0_lengthAt_f (-1) T.length (Or.inl (by decide))) (cwV 1 hts gX0_look_X0_lengthAt rfl rfl rfl (by decide +kernel) ⟨Nat.le_of_ble_eq_true rfl, Nat.le_of_ble_eq_true rfl⟩) hP hK (va_recv hK hP (ci := 0) (q0 := 0) rfl rfl) rfl rfl hl (Nat.le_of_ble_eq_true rfl) dX0_look_8 ⟨Nat.zero_le _, Nat.zero_le _⟩ ?_
  exact pb_iret hx hb hr hlocks dX0_look_11 (rfl)

set_option maxHeartbeats 4000000 in
set_option maxRecDepth 100000 in
theorem c_X0_look_s {T : List pb_Rt} (hT : pb_ok T) (hR : pb_rX T cap Kf Cf Hf) (a : Nat) (ha : a < 2 ^ 32) (j : Nat) {r : pb_Rt} (hr1 : T[j]? = some r) (hv : pb_lg T a 33 = nI j) : pb_Rd l yX0_look wsX0_look 6 137 (pb_X [.ref h0, .int (nI a)] D (pb_ty cI cJ) (pb_wX cI cJ h0 k1 c1 h1 cap Kf Cf Hf (nI T.length))) (.int (nI (r.1 / 8 % 64))) := by
  refine pb_ofX RX0 (by decide) rfl rfl (Nat.le_of_ble_eq_true rfl) (fun p e s m args below meth c ls hx hb hml hr hlocks hown hts hP hK hl => ?_)
  have hl : lv_has ls 2 [(0, .ref h0), (1, .int (nI a))] := hl
  have hcap := hR.1
  have hj := (List.getElem?_eq_some_iff.mp hr1).1
  have hkb := pb_key_lt hT (List.mem_of_getElem? hr1)
  refine lv_aload_n hx hb dX0_look_0 rfl (lv_at hl 0 rfl) ?_
  refine lv_aload_n hx hb dX0_look_1 rfl (lv_at hl 0 rfl) ?_
  refine lv_iload_n hx hb dX0_look_2 rfl (lv_at hl 1 rfl) ?_
  refine lv_bipush (v := 33) hx hb dX0_look_3 (by decide) ?_
  refine pb_callV (As := [.int (nI a), .int 33]) (rest := [.ref h0]) ⟨hx, hb, hml, hown, hts⟩ (c_X0_placeOfLongest hT hR a 33 ha (by decide)) (cwV 2 hts gX0_look_X0_placeOfLongest rfl rfl rfl (by decide +kernel) ⟨Nat.le_of_ble_eq_true rfl, Nat.le_of_ble_eq_true rfl⟩) hP hK (va_recv hK hP (ci := 0) (q0 := 0) rfl rfl) rfl rfl hl (Nat.le_of_ble_eq_true rfl) dX0_look_5 ⟨Nat.zero_le _, Nat.zero_le _⟩ ?_
  refine pb_topi (z := nI j) (hv) ?_
  refine pb_callV (As := [.int (nI j)]) (rest := []) ⟨hx, hb, hml, hown, hts⟩ (c_X0_lengthAt_t j T.length hj ⟨hR.1.1, hR.1.2.1⟩ r.1 (by omega) (hR.2 _ _ hr1).1) (cwV 1 hts gX0_look_X0_lengthAt rfl rfl rfl (by decide +kernel) ⟨Nat.le_of_ble_eq_true rfl, Nat.le_of_ble_eq_true rfl⟩) hP hK (va_recv hK hP (ci := 0) (q0 := 0) rfl rfl) rfl rfl hl (Nat.le_of_ble_eq_true rfl) dX0_look_8 ⟨Nat.zero_le _, Nat.zero_le _⟩ ?_
  exact pb_iret hx hb hr hlocks dX0_look_11 (rfl)

set_option maxHeartbeats 4000000 in
set_option maxRecDepth 100000 in
theorem c_X0_hops_n {T : List pb_Rt} (hT : pb_ok T) (hR : pb_rX T cap Kf Cf Hf) (a : Nat) (ha : a < 2 ^ 32) (hv : pb_lg T a 33 = -1) : pb_Rd l yX0_hops wsX0_hops 6 137 (pb_X [.ref h0, .int (nI a)] D (pb_ty cI cJ) (pb_wX cI cJ h0 k1 c1 h1 cap Kf Cf Hf (nI T.length))) (.long 0) := by
  refine pb_ofX RX0 (by decide) rfl rfl (Nat.le_of_ble_eq_true rfl) (fun p e s m args below meth c ls hx hb hml hr hlocks hown hts hP hK hl => ?_)
  have hl : lv_has ls 2 [(0, .ref h0), (1, .int (nI a))] := hl
  have hcap := hR.1
  refine lv_aload_n hx hb dX0_hops_0 rfl (lv_at hl 0 rfl) ?_
  refine lv_aload_n hx hb dX0_hops_1 rfl (lv_at hl 0 rfl) ?_
  refine lv_iload_n hx hb dX0_hops_2 rfl (lv_at hl 1 rfl) ?_
  refine lv_bipush (v := 33) hx hb dX0_hops_3 (by decide) ?_
  refine pb_callV (As := [.int (nI a), .int 33]) (rest := [.ref h0]) ⟨hx, hb, hml, hown, hts⟩ (c_X0_placeOfLongest hT hR a 33 ha (by decide)) (cwV 2 hts gX0_hops_X0_placeOfLongest rfl rfl rfl (by decide +kernel) ⟨Nat.le_of_ble_eq_true rfl, Nat.le_of_ble_eq_true rfl⟩) hP hK (va_recv hK hP (ci := 0) (q0 := 0) rfl rfl) rfl rfl hl (Nat.le_of_ble_eq_true rfl) dX0_hops_5 ⟨Nat.zero_le _, Nat.zero_le _⟩ ?_
  refine pb_topi (z := (-1)) (hv) ?_
  refine pb_callV (As := [.int (-1)]) (rest := []) ⟨hx, hb, hml, hown, hts⟩ (c_X0_hopsAt_f (-1) T.length (Or.inl (by decide))) (cwV 1 hts gX0_hops_X0_hopsAt rfl rfl rfl (by decide +kernel) ⟨Nat.le_of_ble_eq_true rfl, Nat.le_of_ble_eq_true rfl⟩) hP hK (va_recv hK hP (ci := 0) (q0 := 0) rfl rfl) rfl rfl hl (Nat.le_of_ble_eq_true rfl) dX0_hops_8 ⟨Nat.zero_le _, Nat.zero_le _⟩ ?_
  exact pb_lret hx hb hr hlocks dX0_hops_11 (rfl)

set_option maxHeartbeats 4000000 in
set_option maxRecDepth 100000 in
theorem c_X0_hops_s {T : List pb_Rt} (hT : pb_ok T) (hR : pb_rX T cap Kf Cf Hf) (a : Nat) (ha : a < 2 ^ 32) (j : Nat) {r : pb_Rt} (hr1 : T[j]? = some r) (hv : pb_lg T a 33 = nI j) : pb_Rd l yX0_hops wsX0_hops 6 137 (pb_X [.ref h0, .int (nI a)] D (pb_ty cI cJ) (pb_wX cI cJ h0 k1 c1 h1 cap Kf Cf Hf (nI T.length))) (.long r.2.2) := by
  refine pb_ofX RX0 (by decide) rfl rfl (Nat.le_of_ble_eq_true rfl) (fun p e s m args below meth c ls hx hb hml hr hlocks hown hts hP hK hl => ?_)
  have hl : lv_has ls 2 [(0, .ref h0), (1, .int (nI a))] := hl
  have hcap := hR.1
  have hj := (List.getElem?_eq_some_iff.mp hr1).1
  have hkb := pb_key_lt hT (List.mem_of_getElem? hr1)
  refine lv_aload_n hx hb dX0_hops_0 rfl (lv_at hl 0 rfl) ?_
  refine lv_aload_n hx hb dX0_hops_1 rfl (lv_at hl 0 rfl) ?_
  refine lv_iload_n hx hb dX0_hops_2 rfl (lv_at hl 1 rfl) ?_
  refine lv_bipush (v := 33) hx hb dX0_hops_3 (by decide) ?_
  refine pb_callV (As := [.int (nI a), .int 33]) (rest := [.ref h0]) ⟨hx, hb, hml, hown, hts⟩ (c_X0_placeOfLongest hT hR a 33 ha (by decide)) (cwV 2 hts gX0_hops_X0_placeOfLongest rfl rfl rfl (by decide +kernel) ⟨Nat.le_of_ble_eq_true rfl, Nat.le_of_ble_eq_true rfl⟩) hP hK (va_recv hK hP (ci := 0) (q0 := 0) rfl rfl) rfl rfl hl (Nat.le_of_ble_eq_true rfl) dX0_hops_5 ⟨Nat.zero_le _, Nat.zero_le _⟩ ?_
  refine pb_topi (z := nI j) (hv) ?_
  refine pb_callV (As := [.int (nI j)]) (rest := []) ⟨hx, hb, hml, hown, hts⟩ (c_X0_hopsAt_t j T.length hj ⟨hR.1.1, hR.1.2.1⟩) (cwV 1 hts gX0_hops_X0_hopsAt rfl rfl rfl (by decide +kernel) ⟨Nat.le_of_ble_eq_true rfl, Nat.le_of_ble_eq_true rfl⟩) hP hK (va_recv hK hP (ci := 0) (q0 := 0) rfl rfl) rfl rfl hl (Nat.le_of_ble_eq_true rfl) dX0_hops_8 ⟨Nat.zero_le _, Nat.zero_le _⟩ ?_
  exact pb_lret hx hb hr hlocks dX0_hops_11 (by rw [(hR.2 _ _ hr1).2.2])

set_option maxHeartbeats 4000000 in
set_option maxRecDepth 100000 in
theorem c_X0_shorter_n {T : List pb_Rt} (hT : pb_ok T) (hR : pb_rX T cap Kf Cf Hf) (a lim : Nat) (ha : a < 2 ^ 32) (hlim : lim ≤ 33) (hv : pb_lg T a lim = -1) : pb_Rd l yX0_shorter wsX0_shorter 6 137 (pb_X [.ref h0, .int (nI a), .int (nI lim)] D (pb_ty cI cJ) (pb_wX cI cJ h0 k1 c1 h1 cap Kf Cf Hf (nI T.length))) (.int (-1)) := by
  refine pb_ofX RX0 (by decide) rfl rfl (Nat.le_of_ble_eq_true rfl) (fun p e s m args below meth c ls hx hb hml hr hlocks hown hts hP hK hl => ?_)
  have hl : lv_has ls 3 [(0, .ref h0), (1, .int (nI a)), (2, .int (nI lim))] := hl
  have hcap := hR.1
  refine lv_iload_n hx hb dX0_shorter_0 rfl (lv_at hl 2 rfl) ?_
  refine lv_if_lt (tgt := 10) hx hb dX0_shorter_1 (by decide) (fun q1 => absurd q1 (nI_pos (by omega))) (fun q1 => ?_)
  refine lv_iload_n hx hb dX0_shorter_4 rfl (lv_at hl 2 rfl) ?_
  refine lv_bipush (v := 33) hx hb dX0_shorter_5 (by decide) ?_
  refine lv_icmp_le (tgt := 20) hx hb dX0_shorter_7 (by decide) (fun q7 => ?_) (fun q7 => absurd ((nI_leI (a := lim) (b := 33) (by omega) (by decide)).mpr hlim) q7)
  refine lv_aload_n hx hb dX0_shorter_20 rfl (lv_at hl 0 rfl) ?_
  refine lv_aload_n hx hb dX0_shorter_21 rfl (lv_at hl 0 rfl) ?_
  refine lv_iload_n hx hb dX0_shorter_22 rfl (lv_at hl 1 rfl) ?_
  refine lv_iload_n hx hb dX0_shorter_23 rfl (lv_at hl 2 rfl) ?_
  refine pb_callV (As := [.int (nI a), .int (nI lim)]) (rest := [.ref h0]) ⟨hx, hb, hml, hown, hts⟩ (c_X0_placeOfLongest hT hR a lim ha hlim) (cwV 2 hts gX0_shorter_X0_placeOfLongest rfl rfl rfl (by decide +kernel) ⟨Nat.le_of_ble_eq_true rfl, Nat.le_of_ble_eq_true rfl⟩) hP hK (va_recv hK hP (ci := 0) (q0 := 0) rfl rfl) rfl rfl hl (Nat.le_of_ble_eq_true rfl) dX0_shorter_24 ⟨Nat.zero_le _, Nat.zero_le _⟩ ?_
  refine pb_topi (z := (-1)) (hv) ?_
  refine pb_callV (As := [.int (-1)]) (rest := []) ⟨hx, hb, hml, hown, hts⟩ (c_X0_lengthAt_f (-1) T.length (Or.inl (by decide))) (cwV 1 hts gX0_shorter_X0_lengthAt rfl rfl rfl (by decide +kernel) ⟨Nat.le_of_ble_eq_true rfl, Nat.le_of_ble_eq_true rfl⟩) hP hK (va_recv hK hP (ci := 0) (q0 := 0) rfl rfl) rfl rfl hl (Nat.le_of_ble_eq_true rfl) dX0_shorter_27 ⟨Nat.zero_le _, Nat.zero_le _⟩ ?_
  exact pb_iret hx hb hr hlocks dX0_shorter_30 (rfl)

set_option maxHeartbeats 4000000 in
set_option maxRecDepth 100000 in
theorem c_X0_shorter_s {T : List pb_Rt} (hT : pb_ok T) (hR : pb_rX T cap Kf Cf Hf) (a lim : Nat) (ha : a < 2 ^ 32) (hlim : lim ≤ 33) (j : Nat) {r : pb_Rt} (hr1 : T[j]? = some r) (hv : pb_lg T a lim = nI j) : pb_Rd l yX0_shorter wsX0_shorter 6 137 (pb_X [.ref h0, .int (nI a), .int (nI lim)] D (pb_ty cI cJ) (pb_wX cI cJ h0 k1 c1 h1 cap Kf Cf Hf (nI T.length))) (.int (nI (r.1 / 8 % 64))) := by
  refine pb_ofX RX0 (by decide) rfl rfl (Nat.le_of_ble_eq_true rfl) (fun p e s m args below meth c ls hx hb hml hr hlocks hown hts hP hK hl => ?_)
  have hl : lv_has ls 3 [(0, .ref h0), (1, .int (nI a)), (2, .int (nI lim))] := hl
  have hcap := hR.1
  have hj := (List.getElem?_eq_some_iff.mp hr1).1
  have hkb := pb_key_lt hT (List.mem_of_getElem? hr1)
  refine lv_iload_n hx hb dX0_shorter_0 rfl (lv_at hl 2 rfl) ?_
  refine lv_if_lt (tgt := 10) hx hb dX0_shorter_1 (by decide) (fun q1 => absurd q1 (nI_pos (by omega))) (fun q1 => ?_)
  refine lv_iload_n hx hb dX0_shorter_4 rfl (lv_at hl 2 rfl) ?_
  refine lv_bipush (v := 33) hx hb dX0_shorter_5 (by decide) ?_
  refine lv_icmp_le (tgt := 20) hx hb dX0_shorter_7 (by decide) (fun q7 => ?_) (fun q7 => absurd ((nI_leI (a := lim) (b := 33) (by omega) (by decide)).mpr hlim) q7)
  refine lv_aload_n hx hb dX0_shorter_20 rfl (lv_at hl 0 rfl) ?_
  refine lv_aload_n hx hb dX0_shorter_21 rfl (lv_at hl 0 rfl) ?_
  refine lv_iload_n hx hb dX0_shorter_22 rfl (lv_at hl 1 rfl) ?_
  refine lv_iload_n hx hb dX0_shorter_23 rfl (lv_at hl 2 rfl) ?_
  refine pb_callV (As := [.int (nI a), .int (nI lim)]) (rest := [.ref h0]) ⟨hx, hb, hml, hown, hts⟩ (c_X0_placeOfLongest hT hR a lim ha hlim) (cwV 2 hts gX0_shorter_X0_placeOfLongest rfl rfl rfl (by decide +kernel) ⟨Nat.le_of_ble_eq_true rfl, Nat.le_of_ble_eq_true rfl⟩) hP hK (va_recv hK hP (ci := 0) (q0 := 0) rfl rfl) rfl rfl hl (Nat.le_of_ble_eq_true rfl) dX0_shorter_24 ⟨Nat.zero_le _, Nat.zero_le _⟩ ?_
  refine pb_topi (z := nI j) (hv) ?_
  refine pb_callV (As := [.int (nI j)]) (rest := []) ⟨hx, hb, hml, hown, hts⟩ (c_X0_lengthAt_t j T.length hj ⟨hR.1.1, hR.1.2.1⟩ r.1 (by omega) (hR.2 _ _ hr1).1) (cwV 1 hts gX0_shorter_X0_lengthAt rfl rfl rfl (by decide +kernel) ⟨Nat.le_of_ble_eq_true rfl, Nat.le_of_ble_eq_true rfl⟩) hP hK (va_recv hK hP (ci := 0) (q0 := 0) rfl rfl) rfl rfl hl (Nat.le_of_ble_eq_true rfl) dX0_shorter_27 ⟨Nat.zero_le _, Nat.zero_le _⟩ ?_
  exact pb_iret hx hb hr hlocks dX0_shorter_30 (rfl)

set_option maxHeartbeats 4000000 in
set_option maxRecDepth 100000 in
theorem c_X0_hop_n {T : List pb_Rt} (hT : pb_ok T) (hR : pb_rX T cap Kf Cf Hf) (fl : Nat) (a : Nat) (ha : a < 2 ^ 32) (hv : pb_lg T a 33 = -1) : pb_Rd l yX0_hop wsX0_hop 6 137 (pb_X [.ref h0, .int (nI a), .int (nI fl)] D (pb_ty cI cJ) (pb_wX cI cJ h0 k1 c1 h1 cap Kf Cf Hf (nI T.length))) (.int (-1)) := by
  refine pb_ofX RX0 (by decide) rfl rfl (Nat.le_of_ble_eq_true rfl) (fun p e s m args below meth c ls hx hb hml hr hlocks hown hts hP hK hl => ?_)
  have hl : lv_has ls 6 [(0, .ref h0), (1, .int (nI a)), (2, .int (nI fl))] := hl
  have hcap := hR.1
  refine lv_aload_n hx hb dX0_hop_0 rfl (lv_at hl 0 rfl) ?_
  refine lv_aload_n hx hb dX0_hop_1 rfl (lv_at hl 0 rfl) ?_
  refine lv_iload_n hx hb dX0_hop_2 rfl (lv_at hl 1 rfl) ?_
  refine lv_bipush (v := 33) hx hb dX0_hop_3 (by decide) ?_
  refine pb_callV (As := [.int (nI a), .int 33]) (rest := [.ref h0]) ⟨hx, hb, hml, hown, hts⟩ (c_X0_placeOfLongest hT hR a 33 ha (by decide)) (cwV 2 hts gX0_hop_X0_placeOfLongest rfl rfl rfl (by decide +kernel) ⟨Nat.le_of_ble_eq_true rfl, Nat.le_of_ble_eq_true rfl⟩) hP hK (va_recv hK hP (ci := 0) (q0 := 0) rfl rfl) rfl rfl hl (Nat.le_of_ble_eq_true rfl) dX0_hop_5 ⟨Nat.zero_le _, Nat.zero_le _⟩ ?_
  refine pb_topi (z := (-1)) (hv) ?_
  refine pb_callV (As := [.int (-1)]) (rest := []) ⟨hx, hb, hml, hown, hts⟩ (c_X0_hopsAt_f (-1) T.length (Or.inl (by decide))) (cwV 1 hts gX0_hop_X0_hopsAt rfl rfl rfl (by decide +kernel) ⟨Nat.le_of_ble_eq_true rfl, Nat.le_of_ble_eq_true rfl⟩) hP hK (va_recv hK hP (ci := 0) (q0 := 0) rfl rfl) rfl rfl hl (Nat.le_of_ble_eq_true rfl) dX0_hop_8 ⟨Nat.zero_le _, Nat.zero_le _⟩ ?_
  refine lv_lstore_n (lv' := [(3, .long 0), (0, .ref h0), (1, .int (nI a)), (2, .int (nI fl))]) hx hb dX0_hop_11 rfl hl (by decide) rfl (fun ls hl => ?_)
  refine lv_lload_n hx hb dX0_hop_12 rfl (lv_at hl 0 rfl) ?_
  refine pb_topl (z := lN 0) (rfl) ?_
  refine pb_callS (As := [.long (lN 0)]) (rest := []) ⟨hx, hb, hml, hown, hts⟩ (c_bitCount 0 (by decide)) (va_cwS 1 hts gX0_hop_J13_bitCount_95d88 rfl rfl rfl (by decide +kernel) ⟨Nat.le_of_ble_eq_true rfl, Nat.le_of_ble_eq_true rfl⟩) rfl rfl hl (Nat.le_of_ble_eq_true rfl) dX0_hop_13 ⟨Nat.zero_le _, Nat.zero_le _⟩ ?_
  refine pb_topi (z := 0) (by decide +kernel) ?_
  refine lv_istore (lv' := [(5, .int 0), (3, .long 0), (0, .ref h0), (1, .int (nI a)), (2, .int (nI fl))]) hx hb dX0_hop_16 hl (by decide) rfl (fun ls hl => ?_)
  refine lv_iload hx hb dX0_hop_18 (lv_at hl 0 rfl) ?_
  refine lv_if_gt (tgt := 25) hx hb dX0_hop_20 (by decide) (fun q20 => absurd q20 (by decide)) (fun q20 => ?_)
  refine lv_iconst (v := (-1)) hx hb dX0_hop_23 (by decide) ?_
  exact pb_iret hx hb hr hlocks dX0_hop_24 (rfl)

set_option maxHeartbeats 4000000 in
set_option maxRecDepth 100000 in
theorem c_X0_hop_s {T : List pb_Rt} (hT : pb_ok T) (hR : pb_rX T cap Kf Cf Hf) (fl : Nat) (hfl : fl < 2 ^ 32) (a : Nat) (ha : a < 2 ^ 32) (j : Nat) {r : pb_Rt} (hr1 : T[j]? = some r) (hv : pb_lg T a 33 = nI j) (hz : Nat) (hz64 : hz < 64) (hb1 : uN r.2.2 / 2 ^ hz % 2 = 1) (hb2 : pb_bits (uN r.2.2) hz = fl % (pb_bits (uN r.2.2) 64)) (hpos : 0 < (pb_bits (uN r.2.2) 64)) : pb_Rd l yX0_hop wsX0_hop 6 137 (pb_X [.ref h0, .int (nI a), .int (nI fl)] D (pb_ty cI cJ) (pb_wX cI cJ h0 k1 c1 h1 cap Kf Cf Hf (nI T.length))) (.int (nI hz)) := by
  refine pb_ofX RX0 (by decide) rfl rfl (Nat.le_of_ble_eq_true rfl) (fun p e s m args below meth c ls hx hb hml hr hlocks hown hts hP hK hl => ?_)
  have hl : lv_has ls 6 [(0, .ref h0), (1, .int (nI a)), (2, .int (nI fl))] := hl
  have hcap := hR.1
  have hj := (List.getElem?_eq_some_iff.mp hr1).1
  have hkb := pb_key_lt hT (List.mem_of_getElem? hr1)
  have hle := pb_bits_le (uN r.2.2) 64
  refine lv_aload_n hx hb dX0_hop_0 rfl (lv_at hl 0 rfl) ?_
  refine lv_aload_n hx hb dX0_hop_1 rfl (lv_at hl 0 rfl) ?_
  refine lv_iload_n hx hb dX0_hop_2 rfl (lv_at hl 1 rfl) ?_
  refine lv_bipush (v := 33) hx hb dX0_hop_3 (by decide) ?_
  refine pb_callV (As := [.int (nI a), .int 33]) (rest := [.ref h0]) ⟨hx, hb, hml, hown, hts⟩ (c_X0_placeOfLongest hT hR a 33 ha (by decide)) (cwV 2 hts gX0_hop_X0_placeOfLongest rfl rfl rfl (by decide +kernel) ⟨Nat.le_of_ble_eq_true rfl, Nat.le_of_ble_eq_true rfl⟩) hP hK (va_recv hK hP (ci := 0) (q0 := 0) rfl rfl) rfl rfl hl (Nat.le_of_ble_eq_true rfl) dX0_hop_5 ⟨Nat.zero_le _, Nat.zero_le _⟩ ?_
  refine pb_topi (z := nI j) (hv) ?_
  refine pb_callV (As := [.int (nI j)]) (rest := []) ⟨hx, hb, hml, hown, hts⟩ (c_X0_hopsAt_t j T.length hj ⟨hR.1.1, hR.1.2.1⟩) (cwV 1 hts gX0_hop_X0_hopsAt rfl rfl rfl (by decide +kernel) ⟨Nat.le_of_ble_eq_true rfl, Nat.le_of_ble_eq_true rfl⟩) hP hK (va_recv hK hP (ci := 0) (q0 := 0) rfl rfl) rfl rfl hl (Nat.le_of_ble_eq_true rfl) dX0_hop_8 ⟨Nat.zero_le _, Nat.zero_le _⟩ ?_
  refine pb_topl (z := lN (uN r.2.2)) ((hR.2 _ _ hr1).2.2.trans (pb_uN _).symm) ?_
  refine lv_lstore_n (lv' := [(3, .long (lN (uN r.2.2))), (0, .ref h0), (1, .int (nI a)), (2, .int (nI fl))]) hx hb dX0_hop_11 rfl hl (by decide) rfl (fun ls hl => ?_)
  refine lv_lload_n hx hb dX0_hop_12 rfl (lv_at hl 0 rfl) ?_
  refine pb_callS (As := [.long (lN (uN r.2.2))]) (rest := []) ⟨hx, hb, hml, hown, hts⟩ (c_bitCount (uN r.2.2) (uN_lt _)) (va_cwS 1 hts gX0_hop_J13_bitCount_95d88 rfl rfl rfl (by decide +kernel) ⟨Nat.le_of_ble_eq_true rfl, Nat.le_of_ble_eq_true rfl⟩) rfl rfl hl (Nat.le_of_ble_eq_true rfl) dX0_hop_13 ⟨Nat.zero_le _, Nat.zero_le _⟩ ?_
  refine lv_istore (lv' := [(5, .int (nI (pb_bits (uN r.2.2) 64))), (3, .long (lN (uN r.2.2))), (0, .ref h0), (1, .int (nI a)), (2, .int (nI fl))]) hx hb dX0_hop_16 hl (by decide) rfl (fun ls hl => ?_)
  refine lv_iload hx hb dX0_hop_18 (lv_at hl 0 rfl) ?_
  refine lv_if_gt (tgt := 25) hx hb dX0_hop_20 (by decide) (fun q20 => ?_) (fun q20 => absurd ((nI_ltI (a := 0) (b := (pb_bits (uN r.2.2) 64)) (by decide) (by omega)).mpr hpos) q20)
  refine lv_lload_n hx hb dX0_hop_25 rfl (lv_at hl 1 rfl) ?_
  refine lv_iload_n hx hb dX0_hop_26 rfl (lv_at hl 4 rfl) ?_
  refine lv_i2l hx hb dX0_hop_27 rfl ?_
  refine lv_ldc2 (v := 4294967295) hx hb hown (hts (.constantLong RX0 111 4294967295) (by decide +kernel)) dX0_hop_28 ?_
  refine lv_land hx hb dX0_hop_31 ?_
  refine pb_topl (z := lN fl) (pb_uns hfl) ?_
  refine lv_iload hx hb dX0_hop_32 (lv_at hl 0 rfl) ?_
  refine lv_i2l hx hb dX0_hop_34 rfl ?_
  refine pb_topl (z := lN (pb_bits (uN r.2.2) 64)) (nI_l (by omega)) ?_
  refine lv_lrem hx hb dX0_hop_35 (fun z => absurd ((pk_lEQ (a := (pb_bits (uN r.2.2) 64)) (b := 0) (by omega) (by decide)).mp z) (by omega)) ?_
  refine pb_topl (z := lN (fl % (pb_bits (uN r.2.2) 64))) (pk_lRem (by omega) hpos (by omega)) ?_
  refine lv_l2i hx hb dX0_hop_36 rfl ?_
  refine pb_topi (z := nI (fl % (pb_bits (uN r.2.2) 64))) (lN_i _) ?_
  refine pb_callS (As := [.long (lN (uN r.2.2)), .int (nI (fl % (pb_bits (uN r.2.2) 64)))]) (rest := []) ⟨hx, hb, hml, hown, hts⟩ (c_X0_hopOfRank (uN r.2.2) (fl % (pb_bits (uN r.2.2) 64)) hz (uN_lt _) hz64 hb1 hb2) (va_cwS 2 hts gX0_hop_X0_hopOfRank rfl rfl rfl (by decide +kernel) ⟨Nat.le_of_ble_eq_true rfl, Nat.le_of_ble_eq_true rfl⟩) rfl rfl hl (Nat.le_of_ble_eq_true rfl) dX0_hop_37 ⟨Nat.zero_le _, Nat.zero_le _⟩ ?_
  exact pb_iret hx hb hr hlocks dX0_hop_40 (rfl)

set_option maxHeartbeats 4000000 in
set_option maxRecDepth 100000 in
theorem c_X0_checkPrefix (a k : Nat) (ha : a < 2 ^ 32) (hk : k ≤ 32) (hg : a % 2 ^ (32 - k) = 0) : pb_Vd l yX0_checkPrefix wsX0_checkPrefix 1 20 (pb_S [.int (nI a), .int (nI k)]) := by
  refine pb_ofS RX0 (by decide) rfl rfl (Nat.le_of_ble_eq_true rfl) (fun p e s m args below meth c ls hx hb hml hr hlocks hown hts hl => ?_)
  have hl : lv_has ls 2 [(0, .int (nI a)), (1, .int (nI k))] := hl
  refine lv_iload_n hx hb dX0_checkPrefix_0 rfl (lv_at hl 1 rfl) ?_
  refine lv_if_lt (tgt := 10) hx hb dX0_checkPrefix_1 (by decide) (fun q1 => absurd q1 (nI_pos (by omega))) (fun q1 => ?_)
  refine lv_iload_n hx hb dX0_checkPrefix_4 rfl (lv_at hl 1 rfl) ?_
  refine lv_bipush (v := 32) hx hb dX0_checkPrefix_5 (by decide) ?_
  refine lv_icmp_le (tgt := 20) hx hb dX0_checkPrefix_7 (by decide) (fun q7 => ?_) (fun q7 => absurd ((nI_leI (a := k) (b := 32) (by omega) (by decide)).mpr hk) q7)
  refine lv_iload_n hx hb dX0_checkPrefix_20 rfl (lv_at hl 0 rfl) ?_
  refine lv_iload_n hx hb dX0_checkPrefix_21 rfl (lv_at hl 1 rfl) ?_
  refine pb_callS (As := [.int (nI k)]) (rest := [.int (nI a)]) ⟨hx, hb, hml, hown, hts⟩ (c_X0_mask k (by omega)) (va_cwS 1 hts gX0_checkPrefix_X0_mask rfl rfl rfl (by decide +kernel) ⟨Nat.le_of_ble_eq_true rfl, Nat.le_of_ble_eq_true rfl⟩) rfl rfl hl (Nat.le_of_ble_eq_true rfl) dX0_checkPrefix_22 ⟨Nat.zero_le _, Nat.zero_le _⟩ ?_
  refine lv_iconst (v := (-1)) hx hb dX0_checkPrefix_25 (by decide) ?_
  refine lv_ixor hx hb dX0_checkPrefix_26 ?_
  refine lv_iand hx hb dX0_checkPrefix_27 ?_
  refine lv_if_eq (tgt := 41) hx hb dX0_checkPrefix_28 (by decide) (fun q28 => ?_) (fun q28 => absurd ((pb_mk_bad hk).mpr hg) q28)
  exact pb_vret hx hb hr hlocks dX0_checkPrefix_41

set_option maxHeartbeats 4000000 in
set_option maxRecDepth 100000 in
theorem c_X0_checkOrigin (o : Nat) (ho : o < 8) : pb_Vd l yX0_checkOrigin wsX0_checkOrigin 0 0 (pb_S [.int (nI o)]) := by
  refine pb_ofS RX0 (by decide) rfl rfl (Nat.le_of_ble_eq_true rfl) (fun p e s m args below meth c ls hx hb hml hr hlocks hown hts hl => ?_)
  have hl : lv_has ls 1 [(0, .int (nI o))] := hl
  refine lv_iload_n hx hb dX0_checkOrigin_0 rfl (lv_at hl 0 rfl) ?_
  refine lv_if_lt (tgt := 10) hx hb dX0_checkOrigin_1 (by decide) (fun q1 => absurd q1 (nI_pos (by omega))) (fun q1 => ?_)
  refine lv_iload_n hx hb dX0_checkOrigin_4 rfl (lv_at hl 0 rfl) ?_
  refine lv_bipush (v := 7) hx hb dX0_checkOrigin_5 (by decide) ?_
  refine lv_icmp_le (tgt := 20) hx hb dX0_checkOrigin_7 (by decide) (fun q7 => ?_) (fun q7 => absurd ((nI_leI (a := o) (b := 7) (by omega) (by decide)).mpr (by omega)) q7)
  exact pb_vret hx hb hr hlocks dX0_checkOrigin_20

set_option maxHeartbeats 4000000 in
set_option maxRecDepth 100000 in
theorem c_X0_checkHop (o : Nat) (ho : o < 64) : pb_Vd l yX0_checkHop wsX0_checkHop 0 0 (pb_S [.int (nI o)]) := by
  refine pb_ofS RX0 (by decide) rfl rfl (Nat.le_of_ble_eq_true rfl) (fun p e s m args below meth c ls hx hb hml hr hlocks hown hts hl => ?_)
  have hl : lv_has ls 1 [(0, .int (nI o))] := hl
  refine lv_iload_n hx hb dX0_checkHop_0 rfl (lv_at hl 0 rfl) ?_
  refine lv_if_lt (tgt := 10) hx hb dX0_checkHop_1 (by decide) (fun q1 => absurd q1 (nI_pos (by omega))) (fun q1 => ?_)
  refine lv_iload_n hx hb dX0_checkHop_4 rfl (lv_at hl 0 rfl) ?_
  refine lv_bipush (v := 63) hx hb dX0_checkHop_5 (by decide) ?_
  refine lv_icmp_le (tgt := 20) hx hb dX0_checkHop_7 (by decide) (fun q7 => ?_) (fun q7 => absurd ((nI_leI (a := o) (b := 63) (by omega) (by decide)).mpr (by omega)) q7)
  exact pb_vret hx hb hr hlocks dX0_checkHop_20

set_option maxHeartbeats 4000000 in
set_option maxRecDepth 100000 in
theorem c_X0_checkWhat (o : Nat) (ho : o < 3) : pb_Vd l yX0_checkWhat wsX0_checkWhat 0 0 (pb_S [.int (nI o)]) := by
  refine pb_ofS RX0 (by decide) rfl rfl (Nat.le_of_ble_eq_true rfl) (fun p e s m args below meth c ls hx hb hml hr hlocks hown hts hl => ?_)
  have hl : lv_has ls 1 [(0, .int (nI o))] := hl
  refine lv_iload_n hx hb dX0_checkWhat_0 rfl (lv_at hl 0 rfl) ?_
  refine lv_if_lt (tgt := 9) hx hb dX0_checkWhat_1 (by decide) (fun q1 => absurd q1 (nI_pos (by omega))) (fun q1 => ?_)
  refine lv_iload_n hx hb dX0_checkWhat_4 rfl (lv_at hl 0 rfl) ?_
  refine lv_iconst (v := 2) hx hb dX0_checkWhat_5 (by decide) ?_
  refine lv_icmp_le (tgt := 19) hx hb dX0_checkWhat_6 (by decide) (fun q6 => ?_) (fun q6 => absurd ((nI_leI (a := o) (b := 2) (by omega) (by decide)).mpr (by omega)) q6)
  exact pb_vret hx hb hr hlocks dX0_checkWhat_19

set_option maxHeartbeats 4000000 in
set_option maxRecDepth 100000 in
theorem c_X0_checkCostAndHops (o : Nat) (ho : o < 65536) (hs : Int64) (hs0 : hs ≠ 0) : pb_Vd l yX0_checkCostAndHops wsX0_checkCostAndHops 0 0 (pb_S [.int (nI o), .long hs]) := by
  refine pb_ofS RX0 (by decide) rfl rfl (Nat.le_of_ble_eq_true rfl) (fun p e s m args below meth c ls hx hb hml hr hlocks hown hts hl => ?_)
  have hl : lv_has ls 3 [(0, .int (nI o)), (1, .long hs)] := hl
  refine lv_iload_n hx hb dX0_checkCostAndHops_0 rfl (lv_at hl 0 rfl) ?_
  refine lv_if_lt (tgt := 10) hx hb dX0_checkCostAndHops_1 (by decide) (fun q1 => absurd q1 (nI_pos (by omega))) (fun q1 => ?_)
  refine lv_iload_n hx hb dX0_checkCostAndHops_4 rfl (lv_at hl 0 rfl) ?_
  refine lv_ldc (v := 65535) hx hb hown (hts (.constant RX0 149 65535) (by decide +kernel)) dX0_checkCostAndHops_5 ?_
  refine lv_icmp_le (tgt := 20) hx hb dX0_checkCostAndHops_7 (by decide) (fun q7 => ?_) (fun q7 => absurd ((nI_leI (a := o) (b := 65535) (by omega) (by decide)).mpr (by omega)) q7)
  refine lv_lload_n hx hb dX0_checkCostAndHops_20 rfl (lv_at hl 1 rfl) ?_
  refine lv_lconst (v := 0) hx hb dX0_checkCostAndHops_21 (by decide) ?_
  refine W.lcmp hx hb dX0_checkCostAndHops_22 ?_
  refine lv_if_ne (tgt := 36) hx hb dX0_checkCostAndHops_23 (by decide) (fun q23 => ?_) (fun q23 => absurd ((lg_cmp_eq _ _).mp q23) (hs0))
  have q23 := mt (lg_cmp_eq _ _).mpr q23
  exact pb_vret hx hb hr hlocks dX0_checkCostAndHops_36

set_option maxHeartbeats 4000000 in
set_option maxRecDepth 100000 in
theorem c_X0_checkRoom (n : Nat) (hn : n < 1000) : pb_Vd l yX0_checkRoom wsX0_checkRoom 0 0 (pb_X [.ref h0] D (pb_ty cI cJ) (pb_wX cI cJ h0 k1 c1 h1 cap Kf Cf Hf (nI n))) := by
  refine pb_ofX RX0 (by decide) rfl rfl (Nat.le_of_ble_eq_true rfl) (fun p e s m args below meth c ls hx hb hml hr hlocks hown hts hP hK hl => ?_)
  have hinX0 : ∀ w ∈ wsX00, w ∈ wsX0_checkRoom := by decide +kernel
  have hl : lv_has ls 1 [(0, .ref h0)] := hl
  refine lv_aload_n hx hb dX0_checkRoom_0 rfl (lv_at hl 0 rfl) ?_
  refine va_get (D := D) (ci := 0) (v := .int (nI n)) (C := RX0) (T := TX0) (N := 4) hx hb hts hinX0 hown hK hP 0 rfl rfl 3 (by decide) (hts (.fieldLink RX0 20 "PrefixBench" "count" "I") (by decide +kernel)) (fun _ h9 => h9) rfl dX0_checkRoom_1 ?_
  refine lv_sipush (v := 1000) hx hb dX0_checkRoom_4 (by decide) ?_
  refine lv_icmp_lt (tgt := 20) hx hb dX0_checkRoom_7 (by decide) (fun q7 => ?_) (fun q7 => absurd ((nI_ltI (a := n) (b := 1000) (by omega) (by decide)).mpr hn) q7)
  exact pb_vret hx hb hr hlocks dX0_checkRoom_20

set_option maxHeartbeats 4000000 in
set_option maxRecDepth 100000 in
theorem c_X0_after_s {T : List pb_Rt} (hT : pb_ok T) (hR : pb_rX T cap Kf Cf Hf) (a k : Nat) (ha : a < 2 ^ 32) (hk : k ≤ 32) (hg : a % 2 ^ (32 - k) = 0) {r : pb_Rt} (hr1 : T[pb_lb T ((pb_pre a k + 1) * 8)]? = some r) : pb_Rd l yX0_after wsX0_after 4 90 (pb_X [.ref h0, .int (nI a), .int (nI k)] D (pb_ty cI cJ) (pb_wX cI cJ h0 k1 c1 h1 cap Kf Cf Hf (nI T.length))) (.long (lN (r.1 / 8))) := by
  refine pb_ofX RX0 (by decide) rfl rfl (Nat.le_of_ble_eq_true rfl) (fun p e s m args below meth c ls hx hb hml hr hlocks hown hts hP hK hl => ?_)
  have hl : lv_has ls 3 [(0, .ref h0), (1, .int (nI a)), (2, .int (nI k))] := hl
  have hcap := hR.1
  have hj := (List.getElem?_eq_some_iff.mp hr1).1
  have hkb := pb_key_lt hT (List.mem_of_getElem? hr1)
  refine lv_iload_n hx hb dX0_after_0 rfl (lv_at hl 1 rfl) ?_
  refine lv_iload_n hx hb dX0_after_1 rfl (lv_at hl 2 rfl) ?_
  refine pb_callSv (As := [.int (nI a), .int (nI k)]) (rest := []) ⟨hx, hb, hml, hown, hts⟩ (c_X0_checkPrefix a k ha hk hg) (va_cwS 2 hts gX0_after_X0_checkPrefix rfl rfl rfl (by decide +kernel) ⟨Nat.le_of_ble_eq_true rfl, Nat.le_of_ble_eq_true rfl⟩) rfl rfl hl (Nat.le_of_ble_eq_true rfl) dX0_after_2 ⟨Nat.zero_le _, Nat.zero_le _⟩ ?_
  refine lv_aload_n hx hb dX0_after_5 rfl (lv_at hl 0 rfl) ?_
  refine lv_aload_n hx hb dX0_after_6 rfl (lv_at hl 0 rfl) ?_
  refine lv_iload_n hx hb dX0_after_7 rfl (lv_at hl 1 rfl) ?_
  refine lv_iload_n hx hb dX0_after_8 rfl (lv_at hl 2 rfl) ?_
  refine pb_callS (As := [.int (nI a), .int (nI k)]) (rest := [.ref h0, .ref h0]) ⟨hx, hb, hml, hown, hts⟩ (c_X0_prefixOf a k ha (by omega)) (va_cwS 2 hts gX0_after_X0_prefixOf rfl rfl rfl (by decide +kernel) ⟨Nat.le_of_ble_eq_true rfl, Nat.le_of_ble_eq_true rfl⟩) rfl rfl hl (Nat.le_of_ble_eq_true rfl) dX0_after_9 ⟨Nat.zero_le _, Nat.zero_le _⟩ ?_
  refine lv_lconst (v := 1) hx hb dX0_after_12 (by decide) ?_
  refine lv_ladd hx hb dX0_after_13 ?_
  refine pb_topl (z := lN (pb_pre a k + 1)) (lN_1 _) ?_
  refine pb_callV (As := [.long (lN (pb_pre a k + 1))]) (rest := [.ref h0]) ⟨hx, hb, hml, hown, hts⟩ (c_X0_firstOfPrefix hT hR (pb_pre a k + 1) (by show 64 * a + k + 1 < _; omega)) (cwV 1 hts gX0_after_X0_firstOfPrefix rfl rfl rfl (by decide +kernel) ⟨Nat.le_of_ble_eq_true rfl, Nat.le_of_ble_eq_true rfl⟩) hP hK (va_recv hK hP (ci := 0) (q0 := 0) rfl rfl) rfl rfl hl (Nat.le_of_ble_eq_true rfl) dX0_after_14 ⟨Nat.zero_le _, Nat.zero_le _⟩ ?_
  refine pb_callV (As := [.int (nI (pb_lb T ((pb_pre a k + 1) * 8)))]) (rest := []) ⟨hx, hb, hml, hown, hts⟩ (c_X0_prefixAt_t (pb_lb T ((pb_pre a k + 1) * 8)) T.length hj ⟨hR.1.1, hR.1.2.1⟩ r.1 (by omega) (hR.2 _ _ hr1).1) (cwV 1 hts gX0_after_X0_prefixAt rfl rfl rfl (by decide +kernel) ⟨Nat.le_of_ble_eq_true rfl, Nat.le_of_ble_eq_true rfl⟩) hP hK (va_recv hK hP (ci := 0) (q0 := 0) rfl rfl) rfl rfl hl (Nat.le_of_ble_eq_true rfl) dX0_after_17 ⟨Nat.zero_le _, Nat.zero_le _⟩ ?_
  exact pb_lret hx hb hr hlocks dX0_after_20 (rfl)

set_option maxHeartbeats 4000000 in
set_option maxRecDepth 100000 in
theorem c_X0_after_n {T : List pb_Rt} (hT : pb_ok T) (hR : pb_rX T cap Kf Cf Hf) (a k : Nat) (ha : a < 2 ^ 32) (hk : k ≤ 32) (hg : a % 2 ^ (32 - k) = 0) (hr1 : T[pb_lb T ((pb_pre a k + 1) * 8)]? = none) : pb_Rd l yX0_after wsX0_after 4 90 (pb_X [.ref h0, .int (nI a), .int (nI k)] D (pb_ty cI cJ) (pb_wX cI cJ h0 k1 c1 h1 cap Kf Cf Hf (nI T.length))) (.long (-1)) := by
  refine pb_ofX RX0 (by decide) rfl rfl (Nat.le_of_ble_eq_true rfl) (fun p e s m args below meth c ls hx hb hml hr hlocks hown hts hP hK hl => ?_)
  have hl : lv_has ls 3 [(0, .ref h0), (1, .int (nI a)), (2, .int (nI k))] := hl
  have hcap := hR.1
  refine lv_iload_n hx hb dX0_after_0 rfl (lv_at hl 1 rfl) ?_
  refine lv_iload_n hx hb dX0_after_1 rfl (lv_at hl 2 rfl) ?_
  refine pb_callSv (As := [.int (nI a), .int (nI k)]) (rest := []) ⟨hx, hb, hml, hown, hts⟩ (c_X0_checkPrefix a k ha hk hg) (va_cwS 2 hts gX0_after_X0_checkPrefix rfl rfl rfl (by decide +kernel) ⟨Nat.le_of_ble_eq_true rfl, Nat.le_of_ble_eq_true rfl⟩) rfl rfl hl (Nat.le_of_ble_eq_true rfl) dX0_after_2 ⟨Nat.zero_le _, Nat.zero_le _⟩ ?_
  refine lv_aload_n hx hb dX0_after_5 rfl (lv_at hl 0 rfl) ?_
  refine lv_aload_n hx hb dX0_after_6 rfl (lv_at hl 0 rfl) ?_
  refine lv_iload_n hx hb dX0_after_7 rfl (lv_at hl 1 rfl) ?_
  refine lv_iload_n hx hb dX0_after_8 rfl (lv_at hl 2 rfl) ?_
  refine pb_callS (As := [.int (nI a), .int (nI k)]) (rest := [.ref h0, .ref h0]) ⟨hx, hb, hml, hown, hts⟩ (c_X0_prefixOf a k ha (by omega)) (va_cwS 2 hts gX0_after_X0_prefixOf rfl rfl rfl (by decide +kernel) ⟨Nat.le_of_ble_eq_true rfl, Nat.le_of_ble_eq_true rfl⟩) rfl rfl hl (Nat.le_of_ble_eq_true rfl) dX0_after_9 ⟨Nat.zero_le _, Nat.zero_le _⟩ ?_
  refine lv_lconst (v := 1) hx hb dX0_after_12 (by decide) ?_
  refine lv_ladd hx hb dX0_after_13 ?_
  refine pb_topl (z := lN (pb_pre a k + 1)) (lN_1 _) ?_
  refine pb_callV (As := [.long (lN (pb_pre a k + 1))]) (rest := [.ref h0]) ⟨hx, hb, hml, hown, hts⟩ (c_X0_firstOfPrefix hT hR (pb_pre a k + 1) (by show 64 * a + k + 1 < _; omega)) (cwV 1 hts gX0_after_X0_firstOfPrefix rfl rfl rfl (by decide +kernel) ⟨Nat.le_of_ble_eq_true rfl, Nat.le_of_ble_eq_true rfl⟩) hP hK (va_recv hK hP (ci := 0) (q0 := 0) rfl rfl) rfl rfl hl (Nat.le_of_ble_eq_true rfl) dX0_after_14 ⟨Nat.zero_le _, Nat.zero_le _⟩ ?_
  refine pb_callV (As := [.int (nI (pb_lb T ((pb_pre a k + 1) * 8)))]) (rest := []) ⟨hx, hb, hml, hown, hts⟩ (c_X0_prefixAt_f (nI (pb_lb T ((pb_pre a k + 1) * 8))) T.length (Or.inr (nI_le (List.getElem?_eq_none_iff.mp hr1) (by have := pb_lb_le T ((pb_pre a k + 1) * 8); omega)))) (cwV 1 hts gX0_after_X0_prefixAt rfl rfl rfl (by decide +kernel) ⟨Nat.le_of_ble_eq_true rfl, Nat.le_of_ble_eq_true rfl⟩) hP hK (va_recv hK hP (ci := 0) (q0 := 0) rfl rfl) rfl rfl hl (Nat.le_of_ble_eq_true rfl) dX0_after_17 ⟨Nat.zero_le _, Nat.zero_le _⟩ ?_
  exact pb_lret hx hb hr hlocks dX0_after_20 (rfl)

theorem pb_end_lt {a k : Nat} (ha : a < 2 ^ 32) (hk : k ≤ 32) (hg : a % 2 ^ (32 - k) = 0) : a + (2 ^ (32 - k) - 1) < 2 ^ 32 := by
  have hp := pb_pow_pos k
  have e1 : 2 ^ 32 = 2 ^ k * 2 ^ (32 - k) := by rw [← Nat.pow_add, show k + (32 - k) = 32 by omega]
  have e2 : a = a / 2 ^ (32 - k) * 2 ^ (32 - k) := (pb_cl_self hg).symm
  have h3 : a / 2 ^ (32 - k) < 2 ^ k := Nat.div_lt_of_lt_mul (by rw [Nat.mul_comm, ← e1]; exact ha)
  have h4 : (a / 2 ^ (32 - k) + 1) * 2 ^ (32 - k) ≤ 2 ^ k * 2 ^ (32 - k) := Nat.mul_le_mul_right _ h3
  rw [Nat.add_mul, Nat.one_mul, ← e2, ← e1] at h4
  omega
theorem pb_lb_mono (T : List pb_Rt) {x y : Nat} (h : x ≤ y) : pb_lb T x ≤ pb_lb T y := by
  unfold pb_lb
  apply List.countP_mono_left
  intro r _ hr
  simp only [decide_eq_true_eq] at hr ⊢
  omega
set_option maxHeartbeats 4000000 in
set_option maxRecDepth 100000 in
theorem c_X0_within {T : List pb_Rt} (hT : pb_ok T) (hR : pb_rX T cap Kf Cf Hf) (a k : Nat) (ha : a < 2 ^ 32) (hk : k ≤ 32) (hg : a % 2 ^ (32 - k) = 0) : pb_Rd l yX0_within wsX0_within 5 108 (pb_X [.ref h0, .int (nI a), .int (nI k)] D (pb_ty cI cJ) (pb_wX cI cJ h0 k1 c1 h1 cap Kf Cf Hf (nI T.length))) (.int (nI (pb_cn T (pb_lb T (pb_pre a k * 8)) (pb_lb T ((pb_pre (a + (2 ^ (32 - k) - 1)) 32 + 1) * 8) - pb_lb T (pb_pre a k * 8))))) := by
  refine pb_ofX RX0 (by decide) rfl rfl (Nat.le_of_ble_eq_true rfl) (fun p e s m args below meth c ls hx hb hml hr hlocks hown hts hP hK hl => ?_)
  have hl : lv_has ls 7 [(0, .ref h0), (1, .int (nI a)), (2, .int (nI k))] := hl
  refine lv_iload_n hx hb dX0_within_0 rfl (lv_at hl 1 rfl) ?_
  refine lv_iload_n hx hb dX0_within_1 rfl (lv_at hl 2 rfl) ?_
  have he := pb_end_lt ha hk hg
  refine pb_callSv (As := [.int (nI a), .int (nI k)]) (rest := []) ⟨hx, hb, hml, hown, hts⟩ (c_X0_checkPrefix a k ha hk hg) (va_cwS 2 hts gX0_within_X0_checkPrefix rfl rfl rfl (by decide +kernel) ⟨Nat.le_of_ble_eq_true rfl, Nat.le_of_ble_eq_true rfl⟩) rfl rfl hl (Nat.le_of_ble_eq_true rfl) dX0_within_2 ⟨Nat.zero_le _, Nat.zero_le _⟩ ?_
  refine lv_iload_n hx hb dX0_within_5 rfl (lv_at hl 1 rfl) ?_
  refine lv_iload_n hx hb dX0_within_6 rfl (lv_at hl 2 rfl) ?_
  refine pb_callS (As := [.int (nI a), .int (nI k)]) (rest := []) ⟨hx, hb, hml, hown, hts⟩ (c_X0_prefixOf a k ha (by omega)) (va_cwS 2 hts gX0_within_X0_prefixOf rfl rfl rfl (by decide +kernel) ⟨Nat.le_of_ble_eq_true rfl, Nat.le_of_ble_eq_true rfl⟩) rfl rfl hl (Nat.le_of_ble_eq_true rfl) dX0_within_7 ⟨Nat.zero_le _, Nat.zero_le _⟩ ?_
  refine lv_lstore_n (lv' := [(3, .long (lN (pb_pre a k))), (0, .ref h0), (1, .int (nI a)), (2, .int (nI k))]) hx hb dX0_within_10 rfl hl (by decide) rfl (fun ls hl => ?_)
  refine lv_iload_n hx hb dX0_within_11 rfl (lv_at hl 2 rfl) ?_
  refine lv_iload_n hx hb dX0_within_12 rfl (lv_at hl 3 rfl) ?_
  refine pb_callS (As := [.int (nI k)]) (rest := [.int (nI a)]) ⟨hx, hb, hml, hown, hts⟩ (c_X0_mask k (by omega)) (va_cwS 1 hts gX0_within_X0_mask rfl rfl rfl (by decide +kernel) ⟨Nat.le_of_ble_eq_true rfl, Nat.le_of_ble_eq_true rfl⟩) rfl rfl hl (Nat.le_of_ble_eq_true rfl) dX0_within_13 ⟨Nat.zero_le _, Nat.zero_le _⟩ ?_
  refine lv_iconst (v := (-1)) hx hb dX0_within_16 (by decide) ?_
  refine lv_ixor hx hb dX0_within_17 ?_
  refine lv_ior hx hb dX0_within_18 ?_
  refine pb_topi (z := nI (a + (2 ^ (32 - k) - 1))) (pb_mk_or hk hg) ?_
  refine lv_bipush (v := 32) hx hb dX0_within_19 (by decide) ?_
  refine pb_callS (As := [.int (nI (a + (2 ^ (32 - k) - 1))), .int 32]) (rest := []) ⟨hx, hb, hml, hown, hts⟩ (c_X0_prefixOf (a + (2 ^ (32 - k) - 1)) 32 he (by decide)) (va_cwS 2 hts gX0_within_X0_prefixOf rfl rfl rfl (by decide +kernel) ⟨Nat.le_of_ble_eq_true rfl, Nat.le_of_ble_eq_true rfl⟩) rfl rfl hl (Nat.le_of_ble_eq_true rfl) dX0_within_21 ⟨Nat.zero_le _, Nat.zero_le _⟩ ?_
  refine lv_lstore (lv' := [(5, .long (lN (pb_pre (a + (2 ^ (32 - k) - 1)) 32))), (3, .long (lN (pb_pre a k))), (0, .ref h0), (1, .int (nI a)), (2, .int (nI k))]) hx hb dX0_within_24 hl (by decide) rfl (fun ls hl => ?_)
  refine lv_aload_n hx hb dX0_within_26 rfl (lv_at hl 2 rfl) ?_
  refine lv_aload_n hx hb dX0_within_27 rfl (lv_at hl 2 rfl) ?_
  refine lv_lload_n hx hb dX0_within_28 rfl (lv_at hl 1 rfl) ?_
  refine pb_callV (As := [.long (lN (pb_pre a k))]) (rest := [.ref h0]) ⟨hx, hb, hml, hown, hts⟩ (c_X0_firstOfPrefix hT hR (pb_pre a k) (by show 64 * a + k < _; omega)) (cwV 1 hts gX0_within_X0_firstOfPrefix rfl rfl rfl (by decide +kernel) ⟨Nat.le_of_ble_eq_true rfl, Nat.le_of_ble_eq_true rfl⟩) hP hK (va_recv hK hP (ci := 0) (q0 := 0) rfl rfl) rfl rfl hl (Nat.le_of_ble_eq_true rfl) dX0_within_29 ⟨Nat.zero_le _, Nat.zero_le _⟩ ?_
  refine lv_aload_n hx hb dX0_within_32 rfl (lv_at hl 2 rfl) ?_
  refine lv_lload hx hb dX0_within_33 (lv_at hl 0 rfl) ?_
  refine lv_lconst (v := 1) hx hb dX0_within_35 (by decide) ?_
  refine lv_ladd hx hb dX0_within_36 ?_
  refine pb_topl (z := lN (pb_pre (a + (2 ^ (32 - k) - 1)) 32 + 1)) (lN_1 _) ?_
  refine pb_callV (As := [.long (lN (pb_pre (a + (2 ^ (32 - k) - 1)) 32 + 1))]) (rest := [.int (nI (pb_lb T (pb_pre a k * 8))), .ref h0]) ⟨hx, hb, hml, hown, hts⟩ (c_X0_firstOfPrefix hT hR (pb_pre (a + (2 ^ (32 - k) - 1)) 32 + 1) (by show 64 * (a + (2 ^ (32 - k) - 1)) + 32 + 1 < _; omega)) (cwV 1 hts gX0_within_X0_firstOfPrefix rfl rfl rfl (by decide +kernel) ⟨Nat.le_of_ble_eq_true rfl, Nat.le_of_ble_eq_true rfl⟩) hP hK (va_recv hK hP (ci := 0) (q0 := 0) rfl rfl) rfl rfl hl (Nat.le_of_ble_eq_true rfl) dX0_within_37 ⟨Nat.zero_le _, Nat.zero_le _⟩ ?_
  refine pb_callV (As := [.int (nI (pb_lb T (pb_pre a k * 8))), .int (nI (pb_lb T ((pb_pre (a + (2 ^ (32 - k) - 1)) 32 + 1) * 8)))]) (rest := []) ⟨hx, hb, hml, hown, hts⟩ (c_X0_prefixesBetween hT hR (pb_lb T (pb_pre a k * 8)) (pb_lb T ((pb_pre (a + (2 ^ (32 - k) - 1)) 32 + 1) * 8)) (pb_lb_mono T (by show (64 * a + k) * 8 ≤ (64 * (a + (2 ^ (32 - k) - 1)) + 32 + 1) * 8; omega)) (pb_lb_le _ _)) (cwV 2 hts gX0_within_X0_prefixesBetween rfl rfl rfl (by decide +kernel) ⟨Nat.le_of_ble_eq_true rfl, Nat.le_of_ble_eq_true rfl⟩) hP hK (va_recv hK hP (ci := 0) (q0 := 0) rfl rfl) rfl rfl hl (Nat.le_of_ble_eq_true rfl) dX0_within_40 ⟨Nat.zero_le _, Nat.zero_le _⟩ ?_
  exact pb_iret hx hb hr hlocks dX0_within_43 (rfl)

set_option maxHeartbeats 4000000 in
set_option maxRecDepth 100000 in
theorem c_X0_routes (n : Nat) : pb_Rd l yX0_routes wsX0_routes 0 0 (pb_X [.ref h0] D (pb_ty cI cJ) (pb_wX cI cJ h0 k1 c1 h1 cap Kf Cf Hf (nI n))) (.int (nI n)) := by
  refine pb_ofX RX0 (by decide) rfl rfl (Nat.le_of_ble_eq_true rfl) (fun p e s m args below meth c ls hx hb hml hr hlocks hown hts hP hK hl => ?_)
  have hinX0 : ∀ w ∈ wsX00, w ∈ wsX0_routes := by decide +kernel
  have hl : lv_has ls 1 [(0, .ref h0)] := hl
  refine lv_aload_n hx hb dX0_routes_0 rfl (lv_at hl 0 rfl) ?_
  refine va_get (D := D) (ci := 0) (v := .int (nI n)) (C := RX0) (T := TX0) (N := 4) hx hb hts hinX0 hown hK hP 0 rfl rfl 3 (by decide) (hts (.fieldLink RX0 20 "PrefixBench" "count" "I") (by decide +kernel)) (fun _ h9 => h9) rfl dX0_routes_1 ?_
  exact pb_iret hx hb hr hlocks dX0_routes_4 (rfl)

set_option maxHeartbeats 4000000 in
set_option maxRecDepth 100000 in
theorem c_X0_known {T : List pb_Rt} (hT : pb_ok T) (hR : pb_rX T cap Kf Cf Hf) : pb_Rd l yX0_known wsX0_known 5 108 (pb_X [.ref h0] D (pb_ty cI cJ) (pb_wX cI cJ h0 k1 c1 h1 cap Kf Cf Hf (nI T.length))) (.int (nI (pb_cn T 0 T.length))) := by
  refine pb_ofX RX0 (by decide) rfl rfl (Nat.le_of_ble_eq_true rfl) (fun p e s m args below meth c ls hx hb hml hr hlocks hown hts hP hK hl => ?_)
  have hinX0 : ∀ w ∈ wsX00, w ∈ wsX0_known := by decide +kernel
  have hl : lv_has ls 1 [(0, .ref h0)] := hl
  refine lv_aload_n hx hb dX0_known_0 rfl (lv_at hl 0 rfl) ?_
  refine lv_iconst (v := 0) hx hb dX0_known_1 (by decide) ?_
  refine lv_aload_n hx hb dX0_known_2 rfl (lv_at hl 0 rfl) ?_
  refine va_get (D := D) (ci := 0) (v := .int (nI T.length)) (C := RX0) (T := TX0) (N := 4) hx hb hts hinX0 hown hK hP 0 rfl rfl 3 (by decide) (hts (.fieldLink RX0 20 "PrefixBench" "count" "I") (by decide +kernel)) (fun _ h9 => h9) rfl dX0_known_3 ?_
  refine pb_callV (As := [.int 0, .int (nI T.length)]) (rest := []) ⟨hx, hb, hml, hown, hts⟩ (c_X0_prefixesBetween hT hR 0 T.length (Nat.zero_le _) (Nat.le_refl _)) (cwV 2 hts gX0_known_X0_prefixesBetween rfl rfl rfl (by decide +kernel) ⟨Nat.le_of_ble_eq_true rfl, Nat.le_of_ble_eq_true rfl⟩) hP hK (va_recv hK hP (ci := 0) (q0 := 0) rfl rfl) rfl rfl hl (Nat.le_of_ble_eq_true rfl) dX0_known_6 ⟨Nat.zero_le _, Nat.zero_le _⟩ ?_
  exact pb_iret hx hb hr hlocks dX0_known_9 (rfl)

theorem pb_nd_0 {T : List pb_Rt} {j : Nat} (h : pb_bg T j = false) : pb_nd T (j + 1) = pb_nd T j := by rw [pb_nd, h]; rfl
theorem pb_nd_1 {T : List pb_Rt} {j : Nat} (h : pb_bg T j = true) (h2 : ¬ (0 < j ∧ pb_pu T (pb_k T (j - 1) / 8) (pb_k T j / 8) = true)) : pb_nd T (j + 1) = pb_nd T j + 1 := by rw [pb_nd, if_pos h, if_neg h2]
theorem pb_nd_2 {T : List pb_Rt} {j : Nat} (h : pb_bg T j = true) (h2 : 0 < j ∧ pb_pu T (pb_k T (j - 1) / 8) (pb_k T j / 8) = true) : pb_nd T (j + 1) = pb_nd T j + 1 + 1 := by rw [pb_nd, if_pos h, if_pos h2]
set_option maxHeartbeats 4000000 in
set_option maxRecDepth 100000 in
theorem c_X0_nodes {T : List pb_Rt} (hT : pb_ok T) (hR : pb_rX T cap Kf Cf Hf) : pb_Rd l yX0_nodes wsX0_nodes 6 139 (pb_X [.ref h0] D (pb_ty cI cJ) (pb_wX cI cJ h0 k1 c1 h1 cap Kf Cf Hf (nI T.length))) (.int (nI (pb_nd T T.length))) := by
  refine pb_ofX RX0 (by decide) rfl rfl (Nat.le_of_ble_eq_true rfl) (fun p e s m args below meth c ls hx hb hml hr hlocks hown hts hP hK hl => ?_)
  have hinX0 : ∀ w ∈ wsX00, w ∈ wsX0_nodes := by decide +kernel
  have hl : lv_has ls 3 [(0, .ref h0)] := hl
  have hcap := hR.1
  refine lv_iconst (v := 0) hx hb dX0_nodes_0 (by decide) ?_
  refine lv_istore_n (lv' := [(1, .int 0), (0, .ref h0)]) hx hb dX0_nodes_1 rfl hl (by decide) rfl (fun ls hl => ?_)
  refine lv_iconst (v := 0) hx hb dX0_nodes_2 (by decide) ?_
  refine lv_istore_n (lv' := [(2, .int 0), (1, .int 0), (0, .ref h0)]) hx hb dX0_nodes_3 rfl hl (by decide) rfl (fun ls hl => ?_)
  refine pb_loop (fun kk ls => ∃ j : Nat, j ≤ T.length ∧ T.length - j = kk ∧ lv_has ls 3 [(2, .int (nI j)), (1, .int (nI (pb_nd T j))), (0, .ref h0)]) 4 [] (fun kk ls hI ih => ?_) (fun hL => ?_)
  · obtain ⟨j, hj, rfl, hl⟩ := hI
    refine lv_iload_n hx hb dX0_nodes_4 rfl (lv_at hl 0 rfl) ?_
    refine lv_aload_n hx hb dX0_nodes_5 rfl (lv_at hl 2 rfl) ?_
    refine va_get (D := D) (ci := 0) (v := .int (nI T.length)) (C := RX0) (T := TX0) (N := 4) hx hb hts hinX0 hown hK hP 0 rfl rfl 3 (by decide) (hts (.fieldLink RX0 20 "PrefixBench" "count" "I") (by decide +kernel)) (fun _ h9 => h9) rfl dX0_nodes_6 ?_
    refine lv_icmp_ge (tgt := 55) hx hb dX0_nodes_9 (by decide) (fun q9 => ?_) (fun q9 => ?_)
    · have hw := (nI_leI (a := T.length) (b := j) (by omega) (by omega)).mp q9
      refine lv_iload_n hx hb dX0_nodes_55 rfl (lv_at hl 1 rfl) ?_
      exact pb_iret hx hb hr hlocks dX0_nodes_56 (by rw [show T.length = j by omega])
    · have hw := mt (nI_leI (a := T.length) (b := j) (by omega) (by omega)).mpr q9
      refine lv_aload_n hx hb dX0_nodes_12 rfl (lv_at hl 2 rfl) ?_
      refine lv_iload_n hx hb dX0_nodes_13 rfl (lv_at hl 0 rfl) ?_
      refine pb_callV (As := [.int (nI j)]) (rest := []) ⟨hx, hb, hml, hown, hts⟩ (c_X0_begins hT hR j (by omega)) (cwV 1 hts gX0_nodes_X0_beginsPrefix rfl rfl rfl (by decide +kernel) ⟨Nat.le_of_ble_eq_true rfl, Nat.le_of_ble_eq_true rfl⟩) hP hK (va_recv hK hP (ci := 0) (q0 := 0) rfl rfl) rfl rfl hl (Nat.le_of_ble_eq_true rfl) dX0_nodes_14 ⟨Nat.zero_le _, Nat.zero_le _⟩ ?_
      refine lv_if_eq (tgt := 49) hx hb dX0_nodes_17 (by decide) (fun q17 => ?_) (fun q17 => ?_)
      · have hb9 : pb_bg T j = false := by
          rcases hz : pb_bg T j with _ | _
          · rfl
          · rw [hz] at q17; exact absurd q17 (by decide)
        refine lv_iinc (v := nI (j + 1)) (lv' := [(2, .int (nI (j + 1))), (1, .int (nI (pb_nd T j))), (0, .ref h0)]) hx hb dX0_nodes_49 hl (k := 0) rfl (nI_1 _) (by decide) rfl (fun ls hl => ?_)
        refine lv_goto (tgt := 4) hx hb dX0_nodes_52 (by decide) ?_
        exact ih _ _ (by omega) ⟨j + 1, by omega, rfl, by rw [pb_nd_0 hb9]; exact lv_sub hl [0, 1, 2] rfl⟩
      · have hb9 : pb_bg T j = true := by
          rcases hz : pb_bg T j with _ | _
          · rw [hz] at q17; exact absurd rfl q17
          · rfl
        refine lv_iinc (v := nI (pb_nd T j + 1)) (lv' := [(1, .int (nI (pb_nd T j + 1))), (2, .int (nI j)), (0, .ref h0)]) hx hb dX0_nodes_20 hl (k := 1) rfl (nI_1 _) (by decide) rfl (fun ls hl => ?_)
        refine lv_iload_n hx hb dX0_nodes_23 rfl (lv_at hl 1 rfl) ?_
        refine lv_if_le (tgt := 49) hx hb dX0_nodes_24 (by decide) (fun q24 => ?_) (fun q24 => ?_)
        · have hno : ¬ (0 < j ∧ pb_pu T (pb_k T (j - 1) / 8) (pb_k T j / 8) = true) := fun z => by
            have := (nI_leI (a := j) (b := 0) (by omega) (by decide)).mp q24
            omega
          refine lv_iinc (v := nI (j + 1)) (lv' := [(2, .int (nI (j + 1))), (1, .int (nI (pb_nd T j + 1))), (0, .ref h0)]) hx hb dX0_nodes_49 hl (k := 1) rfl (nI_1 _) (by decide) rfl (fun ls hl => ?_)
          refine lv_goto (tgt := 4) hx hb dX0_nodes_52 (by decide) ?_
          exact ih _ _ (by omega) ⟨j + 1, by omega, rfl, by rw [pb_nd_1 hb9 hno]; exact lv_sub hl [0, 1, 2] rfl⟩
        · have hj0 : 0 < j := by
            rcases Nat.eq_zero_or_pos j with z | z
            · subst z; exact absurd (by decide) q24
            · exact z
          obtain ⟨i, rfl⟩ : ∃ i, j = i + 1 := ⟨j - 1, by omega⟩
          obtain ⟨rz, hrz, mrz⟩ := pb_get (T := T) (j := i + 1) (by omega)
          have krz := pb_key_lt hT mrz
          obtain ⟨ry, hry, mry⟩ := pb_get (T := T) (j := i) (by omega)
          have kry := pb_key_lt hT mry
          have lrz := pb_lenR hT mrz
          have lry := pb_lenR hT mry
          have ez : pb_k T (i + 1) = rz.1 := pb_k_of hrz
          have ey : pb_k T (i + 1 - 1) = ry.1 := pb_k_of hry
          refine lv_aload_n hx hb dX0_nodes_27 rfl (lv_at hl 2 rfl) ?_
          refine lv_aload_n hx hb dX0_nodes_28 rfl (lv_at hl 2 rfl) ?_
          refine lv_iload_n hx hb dX0_nodes_29 rfl (lv_at hl 1 rfl) ?_
          refine lv_iconst (v := 1) hx hb dX0_nodes_30 (by decide) ?_
          refine lv_isub hx hb dX0_nodes_31 ?_
          refine pb_topi (z := nI i) (nI_pred i) ?_
          refine pb_callV (As := [.int (nI i)]) (rest := [.ref h0]) ⟨hx, hb, hml, hown, hts⟩ (c_X0_prefixAt_t i T.length (by omega) ⟨hR.1.1, hR.1.2.1⟩ ry.1 (by omega) (hR.2 _ _ hry).1) (cwV 1 hts gX0_nodes_X0_prefixAt rfl rfl rfl (by decide +kernel) ⟨Nat.le_of_ble_eq_true rfl, Nat.le_of_ble_eq_true rfl⟩) hP hK (va_recv hK hP (ci := 0) (q0 := 0) rfl rfl) rfl rfl hl (Nat.le_of_ble_eq_true rfl) dX0_nodes_32 ⟨Nat.zero_le _, Nat.zero_le _⟩ ?_
          refine lv_aload_n hx hb dX0_nodes_35 rfl (lv_at hl 2 rfl) ?_
          refine lv_iload_n hx hb dX0_nodes_36 rfl (lv_at hl 1 rfl) ?_
          refine pb_callV (As := [.int (nI (i + 1))]) (rest := [.long (lN (ry.1 / 8)), .ref h0]) ⟨hx, hb, hml, hown, hts⟩ (c_X0_prefixAt_t (i + 1) T.length (by omega) ⟨hR.1.1, hR.1.2.1⟩ rz.1 (by omega) (hR.2 _ _ hrz).1) (cwV 1 hts gX0_nodes_X0_prefixAt rfl rfl rfl (by decide +kernel) ⟨Nat.le_of_ble_eq_true rfl, Nat.le_of_ble_eq_true rfl⟩) hP hK (va_recv hK hP (ci := 0) (q0 := 0) rfl rfl) rfl rfl hl (Nat.le_of_ble_eq_true rfl) dX0_nodes_37 ⟨Nat.zero_le _, Nat.zero_le _⟩ ?_
          refine pb_callV (As := [.long (lN (ry.1 / 8)), .long (lN (rz.1 / 8))]) (rest := []) ⟨hx, hb, hml, hown, hts⟩ (c_X0_partAtUnknown hT hR (ry.1 / 8) (rz.1 / 8) (by have := (hT.2 ry mry).1; omega) (by have := (hT.2 rz mrz).1; omega) lry) (cwV 2 hts gX0_nodes_X0_partAtUnknown rfl rfl rfl (by decide +kernel) ⟨Nat.le_of_ble_eq_true rfl, Nat.le_of_ble_eq_true rfl⟩) hP hK (va_recv hK hP (ci := 0) (q0 := 0) rfl rfl) rfl rfl hl (Nat.le_of_ble_eq_true rfl) dX0_nodes_40 ⟨Nat.zero_le _, Nat.zero_le _⟩ ?_
          refine lv_if_eq (tgt := 49) hx hb dX0_nodes_43 (by decide) (fun q43 => ?_) (fun q43 => ?_)
          · have hno : ¬ (0 < i + 1 ∧ pb_pu T (pb_k T (i + 1 - 1) / 8) (pb_k T (i + 1) / 8) = true) := fun z => by
              have z2 := z.2
              rw [ez, ey] at z2
              rw [if_pos z2] at q43
              exact absurd q43 (by decide)
            refine lv_iinc (v := nI (i + 1 + 1)) (lv' := [(2, .int (nI (i + 1 + 1))), (1, .int (nI (pb_nd T (i + 1) + 1))), (0, .ref h0)]) hx hb dX0_nodes_49 hl (k := 1) rfl (nI_1 _) (by decide) rfl (fun ls hl => ?_)
            refine lv_goto (tgt := 4) hx hb dX0_nodes_52 (by decide) ?_
            exact ih _ _ (by omega) ⟨i + 1 + 1, by omega, rfl, by rw [pb_nd_1 hb9 hno]; exact lv_sub hl [0, 1, 2] rfl⟩
          · have hye : 0 < i + 1 ∧ pb_pu T (pb_k T (i + 1 - 1) / 8) (pb_k T (i + 1) / 8) = true := ⟨by omega, by
              rw [ez, ey]
              rcases hz : pb_pu T (ry.1 / 8) (rz.1 / 8) with _ | _
              · rw [hz] at q43; exact absurd rfl q43
              · rfl⟩
            refine lv_iinc (v := nI (pb_nd T (i + 1) + 1 + 1)) (lv' := [(1, .int (nI (pb_nd T (i + 1) + 1 + 1))), (2, .int (nI (i + 1))), (0, .ref h0)]) hx hb dX0_nodes_46 hl (k := 0) rfl (nI_1 _) (by decide) rfl (fun ls hl => ?_)
            refine lv_iinc (v := nI (i + 1 + 1)) (lv' := [(2, .int (nI (i + 1 + 1))), (1, .int (nI (pb_nd T (i + 1) + 1 + 1))), (0, .ref h0)]) hx hb dX0_nodes_49 hl (k := 1) rfl (nI_1 _) (by decide) rfl (fun ls hl => ?_)
            refine lv_goto (tgt := 4) hx hb dX0_nodes_52 (by decide) ?_
            exact ih _ _ (by omega) ⟨i + 1 + 1, by omega, rfl, by rw [pb_nd_2 hb9 hye]; exact lv_sub hl [0, 1, 2] rfl⟩
  · exact hL _ _ ⟨0, Nat.zero_le _, rfl, lv_sub hl [0, 1, 2] rfl⟩

set_option maxHeartbeats 4000000 in
set_option maxRecDepth 100000 in
theorem c_X0_route_os0 {T : List pb_Rt} (hT : pb_ok T) (hR : pb_rX T cap Kf Cf Hf) (a k : Nat) (ha : a < 2 ^ 32) (hk : k ≤ 32) (hg : a % 2 ^ (32 - k) = 0) (o : Nat) (ho : o < 8) {r : pb_Rt} (hr1 : T[pb_lb T (pb_pre a k * 8 + o)]? = some r) (hh : pb_hs T (pb_pre a k * 8 + o) = true) : pb_Rd l yX0_route wsX0_route 5 113 (pb_X [.ref h0, .int (nI a), .int (nI k), .int (nI o), .int 0] D (pb_ty cI cJ) (pb_wX cI cJ h0 k1 c1 h1 cap Kf Cf Hf (nI T.length))) (.int (pb_tl r 0)) := by
  refine pb_ofX RX0 (by decide) rfl rfl (Nat.le_of_ble_eq_true rfl) (fun p e s m args below meth c ls hx hb hml hr hlocks hown hts hP hK hl => ?_)
  have hl : lv_has ls 8 [(0, .ref h0), (1, .int (nI a)), (2, .int (nI k)), (3, .int (nI o)), (4, .int 0)] := hl
  have hcap := hR.1
  have hj := (List.getElem?_eq_some_iff.mp hr1).1
  refine lv_iload_n hx hb dX0_route_0 rfl (lv_at hl 1 rfl) ?_
  refine lv_iload_n hx hb dX0_route_1 rfl (lv_at hl 2 rfl) ?_
  refine pb_callSv (As := [.int (nI a), .int (nI k)]) (rest := []) ⟨hx, hb, hml, hown, hts⟩ (c_X0_checkPrefix a k ha hk hg) (va_cwS 2 hts gX0_route_X0_checkPrefix rfl rfl rfl (by decide +kernel) ⟨Nat.le_of_ble_eq_true rfl, Nat.le_of_ble_eq_true rfl⟩) rfl rfl hl (Nat.le_of_ble_eq_true rfl) dX0_route_2 ⟨Nat.zero_le _, Nat.zero_le _⟩ ?_
  refine lv_iload_n hx hb dX0_route_5 rfl (lv_at hl 3 rfl) ?_
  refine lv_iconst (v := (-1)) hx hb dX0_route_6 (by decide) ?_
  refine lv_icmp_eq (tgt := 14) hx hb dX0_route_7 (by decide) (fun q7 => absurd q7 (pb_m1_ne (by omega))) (fun q7 => ?_)
  refine lv_iload_n hx hb dX0_route_10 rfl (lv_at hl 3 rfl) ?_
  refine pb_callSv (As := [.int (nI o)]) (rest := []) ⟨hx, hb, hml, hown, hts⟩ (c_X0_checkOrigin o ho) (va_cwS 1 hts gX0_route_X0_checkOrigin rfl rfl rfl (by decide +kernel) ⟨Nat.le_of_ble_eq_true rfl, Nat.le_of_ble_eq_true rfl⟩) rfl rfl hl (Nat.le_of_ble_eq_true rfl) dX0_route_11 ⟨Nat.zero_le _, Nat.zero_le _⟩ ?_
  refine lv_iload hx hb dX0_route_14 (lv_at hl 4 rfl) ?_
  refine pb_callSv (As := [.int 0]) (rest := []) ⟨hx, hb, hml, hown, hts⟩ (c_X0_checkWhat 0 (by decide)) (va_cwS 1 hts gX0_route_X0_checkWhat rfl rfl rfl (by decide +kernel) ⟨Nat.le_of_ble_eq_true rfl, Nat.le_of_ble_eq_true rfl⟩) rfl rfl hl (Nat.le_of_ble_eq_true rfl) dX0_route_16 ⟨Nat.zero_le _, Nat.zero_le _⟩ ?_
  refine lv_iload_n hx hb dX0_route_19 rfl (lv_at hl 1 rfl) ?_
  refine lv_iload_n hx hb dX0_route_20 rfl (lv_at hl 2 rfl) ?_
  refine pb_callS (As := [.int (nI a), .int (nI k)]) (rest := []) ⟨hx, hb, hml, hown, hts⟩ (c_X0_prefixOf a k ha (by omega)) (va_cwS 2 hts gX0_route_X0_prefixOf rfl rfl rfl (by decide +kernel) ⟨Nat.le_of_ble_eq_true rfl, Nat.le_of_ble_eq_true rfl⟩) rfl rfl hl (Nat.le_of_ble_eq_true rfl) dX0_route_21 ⟨Nat.zero_le _, Nat.zero_le _⟩ ?_
  refine lv_lstore (lv' := [(5, .long (lN (pb_pre a k))), (0, .ref h0), (1, .int (nI a)), (2, .int (nI k)), (3, .int (nI o)), (4, .int 0)]) hx hb dX0_route_24 hl (by decide) rfl (fun ls hl => ?_)
  refine lv_iload_n hx hb dX0_route_26 rfl (lv_at hl 4 rfl) ?_
  refine lv_iconst (v := (-1)) hx hb dX0_route_27 (by decide) ?_
  refine lv_icmp_ne (tgt := 40) hx hb dX0_route_28 (by decide) (fun q28 => ?_) (fun q28 => absurd q28 (pb_m1_ne (by omega)))
  refine lv_aload_n hx hb dX0_route_40 rfl (lv_at hl 1 rfl) ?_
  refine lv_lload hx hb dX0_route_41 (lv_at hl 0 rfl) ?_
  refine lv_iload_n hx hb dX0_route_43 rfl (lv_at hl 4 rfl) ?_
  refine pb_callV (As := [.long (lN (pb_pre a k)), .int (nI o)]) (rest := []) ⟨hx, hb, hml, hown, hts⟩ (c_X0_placeOfRoute hT hR (pb_pre a k) o (by show 64 * a + k < _; omega) ho) (cwV 2 hts gX0_route_X0_placeOfRoute rfl rfl rfl (by decide +kernel) ⟨Nat.le_of_ble_eq_true rfl, Nat.le_of_ble_eq_true rfl⟩) hP hK (va_recv hK hP (ci := 0) (q0 := 0) rfl rfl) rfl rfl hl (Nat.le_of_ble_eq_true rfl) dX0_route_44 ⟨Nat.zero_le _, Nat.zero_le _⟩ ?_
  refine pb_topi (z := nI (pb_lb T (pb_pre a k * 8 + o))) (by rw [if_pos hh]) ?_
  refine lv_istore (lv' := [(7, .int (nI (pb_lb T (pb_pre a k * 8 + o)))), (5, .long (lN (pb_pre a k))), (0, .ref h0), (1, .int (nI a)), (2, .int (nI k)), (3, .int (nI o)), (4, .int 0)]) hx hb dX0_route_47 hl (by decide) rfl (fun ls hl => ?_)
  refine lv_iload hx hb dX0_route_49 (lv_at hl 0 rfl) ?_
  refine lv_iconst (v := (-1)) hx hb dX0_route_51 (by decide) ?_
  refine lv_icmp_ne (tgt := 59) hx hb dX0_route_52 (by decide) (fun q52 => ?_) (fun q52 => absurd q52 (pb_m1_ne (by omega)))
  refine lv_aload_n hx hb dX0_route_59 rfl (lv_at hl 2 rfl) ?_
  refine lv_iload hx hb dX0_route_60 (lv_at hl 0 rfl) ?_
  refine lv_iload hx hb dX0_route_62 (lv_at hl 6 rfl) ?_
  refine pb_callV (As := [.int (nI (pb_lb T (pb_pre a k * 8 + o))), .int 0]) (rest := []) ⟨hx, hb, hml, hown, hts⟩ (c_X0_tell_0 hT hR (pb_lb T (pb_pre a k * 8 + o)) hr1) (cwV 2 hts gX0_route_X0_tell rfl rfl rfl (by decide +kernel) ⟨Nat.le_of_ble_eq_true rfl, Nat.le_of_ble_eq_true rfl⟩) hP hK (va_recv hK hP (ci := 0) (q0 := 0) rfl rfl) rfl rfl hl (Nat.le_of_ble_eq_true rfl) dX0_route_64 ⟨Nat.zero_le _, Nat.zero_le _⟩ ?_
  exact pb_iret hx hb hr hlocks dX0_route_67 (rfl)

set_option maxHeartbeats 4000000 in
set_option maxRecDepth 100000 in
theorem c_X0_route_on0 {T : List pb_Rt} (hT : pb_ok T) (hR : pb_rX T cap Kf Cf Hf) (a k : Nat) (ha : a < 2 ^ 32) (hk : k ≤ 32) (hg : a % 2 ^ (32 - k) = 0) (o : Nat) (ho : o < 8) (hh : pb_hs T (pb_pre a k * 8 + o) = false) : pb_Rd l yX0_route wsX0_route 5 113 (pb_X [.ref h0, .int (nI a), .int (nI k), .int (nI o), .int 0] D (pb_ty cI cJ) (pb_wX cI cJ h0 k1 c1 h1 cap Kf Cf Hf (nI T.length))) (.int (-1)) := by
  refine pb_ofX RX0 (by decide) rfl rfl (Nat.le_of_ble_eq_true rfl) (fun p e s m args below meth c ls hx hb hml hr hlocks hown hts hP hK hl => ?_)
  have hl : lv_has ls 8 [(0, .ref h0), (1, .int (nI a)), (2, .int (nI k)), (3, .int (nI o)), (4, .int 0)] := hl
  have hcap := hR.1
  refine lv_iload_n hx hb dX0_route_0 rfl (lv_at hl 1 rfl) ?_
  refine lv_iload_n hx hb dX0_route_1 rfl (lv_at hl 2 rfl) ?_
  refine pb_callSv (As := [.int (nI a), .int (nI k)]) (rest := []) ⟨hx, hb, hml, hown, hts⟩ (c_X0_checkPrefix a k ha hk hg) (va_cwS 2 hts gX0_route_X0_checkPrefix rfl rfl rfl (by decide +kernel) ⟨Nat.le_of_ble_eq_true rfl, Nat.le_of_ble_eq_true rfl⟩) rfl rfl hl (Nat.le_of_ble_eq_true rfl) dX0_route_2 ⟨Nat.zero_le _, Nat.zero_le _⟩ ?_
  refine lv_iload_n hx hb dX0_route_5 rfl (lv_at hl 3 rfl) ?_
  refine lv_iconst (v := (-1)) hx hb dX0_route_6 (by decide) ?_
  refine lv_icmp_eq (tgt := 14) hx hb dX0_route_7 (by decide) (fun q7 => absurd q7 (pb_m1_ne (by omega))) (fun q7 => ?_)
  refine lv_iload_n hx hb dX0_route_10 rfl (lv_at hl 3 rfl) ?_
  refine pb_callSv (As := [.int (nI o)]) (rest := []) ⟨hx, hb, hml, hown, hts⟩ (c_X0_checkOrigin o ho) (va_cwS 1 hts gX0_route_X0_checkOrigin rfl rfl rfl (by decide +kernel) ⟨Nat.le_of_ble_eq_true rfl, Nat.le_of_ble_eq_true rfl⟩) rfl rfl hl (Nat.le_of_ble_eq_true rfl) dX0_route_11 ⟨Nat.zero_le _, Nat.zero_le _⟩ ?_
  refine lv_iload hx hb dX0_route_14 (lv_at hl 4 rfl) ?_
  refine pb_callSv (As := [.int 0]) (rest := []) ⟨hx, hb, hml, hown, hts⟩ (c_X0_checkWhat 0 (by decide)) (va_cwS 1 hts gX0_route_X0_checkWhat rfl rfl rfl (by decide +kernel) ⟨Nat.le_of_ble_eq_true rfl, Nat.le_of_ble_eq_true rfl⟩) rfl rfl hl (Nat.le_of_ble_eq_true rfl) dX0_route_16 ⟨Nat.zero_le _, Nat.zero_le _⟩ ?_
  refine lv_iload_n hx hb dX0_route_19 rfl (lv_at hl 1 rfl) ?_
  refine lv_iload_n hx hb dX0_route_20 rfl (lv_at hl 2 rfl) ?_
  refine pb_callS (As := [.int (nI a), .int (nI k)]) (rest := []) ⟨hx, hb, hml, hown, hts⟩ (c_X0_prefixOf a k ha (by omega)) (va_cwS 2 hts gX0_route_X0_prefixOf rfl rfl rfl (by decide +kernel) ⟨Nat.le_of_ble_eq_true rfl, Nat.le_of_ble_eq_true rfl⟩) rfl rfl hl (Nat.le_of_ble_eq_true rfl) dX0_route_21 ⟨Nat.zero_le _, Nat.zero_le _⟩ ?_
  refine lv_lstore (lv' := [(5, .long (lN (pb_pre a k))), (0, .ref h0), (1, .int (nI a)), (2, .int (nI k)), (3, .int (nI o)), (4, .int 0)]) hx hb dX0_route_24 hl (by decide) rfl (fun ls hl => ?_)
  refine lv_iload_n hx hb dX0_route_26 rfl (lv_at hl 4 rfl) ?_
  refine lv_iconst (v := (-1)) hx hb dX0_route_27 (by decide) ?_
  refine lv_icmp_ne (tgt := 40) hx hb dX0_route_28 (by decide) (fun q28 => ?_) (fun q28 => absurd q28 (pb_m1_ne (by omega)))
  refine lv_aload_n hx hb dX0_route_40 rfl (lv_at hl 1 rfl) ?_
  refine lv_lload hx hb dX0_route_41 (lv_at hl 0 rfl) ?_
  refine lv_iload_n hx hb dX0_route_43 rfl (lv_at hl 4 rfl) ?_
  refine pb_callV (As := [.long (lN (pb_pre a k)), .int (nI o)]) (rest := []) ⟨hx, hb, hml, hown, hts⟩ (c_X0_placeOfRoute hT hR (pb_pre a k) o (by show 64 * a + k < _; omega) ho) (cwV 2 hts gX0_route_X0_placeOfRoute rfl rfl rfl (by decide +kernel) ⟨Nat.le_of_ble_eq_true rfl, Nat.le_of_ble_eq_true rfl⟩) hP hK (va_recv hK hP (ci := 0) (q0 := 0) rfl rfl) rfl rfl hl (Nat.le_of_ble_eq_true rfl) dX0_route_44 ⟨Nat.zero_le _, Nat.zero_le _⟩ ?_
  refine pb_topi (z := (-1)) (by rw [hh]; rfl) ?_
  refine lv_istore (lv' := [(7, .int (-1)), (5, .long (lN (pb_pre a k))), (0, .ref h0), (1, .int (nI a)), (2, .int (nI k)), (3, .int (nI o)), (4, .int 0)]) hx hb dX0_route_47 hl (by decide) rfl (fun ls hl => ?_)
  refine lv_iload hx hb dX0_route_49 (lv_at hl 0 rfl) ?_
  refine lv_iconst (v := (-1)) hx hb dX0_route_51 (by decide) ?_
  refine lv_icmp_ne (tgt := 59) hx hb dX0_route_52 (by decide) (fun q52 => absurd q52 (fun z => z rfl)) (fun q52 => ?_)
  refine lv_iconst (v := (-1)) hx hb dX0_route_55 (by decide) ?_
  refine lv_goto (tgt := 67) hx hb dX0_route_56 (by decide) ?_
  exact pb_iret hx hb hr hlocks dX0_route_67 (rfl)

set_option maxHeartbeats 4000000 in
set_option maxRecDepth 100000 in
theorem c_X0_route_bs0 {T : List pb_Rt} (hT : pb_ok T) (hR : pb_rX T cap Kf Cf Hf) (a k : Nat) (ha : a < 2 ^ 32) (hk : k ≤ 32) (hg : a % 2 ^ (32 - k) = 0) {r : pb_Rt} (hr1 : T[pb_lb T (pb_pre a k * 8)]? = some r) (hh : pb_kn T (pb_pre a k) = true) : pb_Rd l yX0_route wsX0_route 5 113 (pb_X [.ref h0, .int (nI a), .int (nI k), .int (-1), .int 0] D (pb_ty cI cJ) (pb_wX cI cJ h0 k1 c1 h1 cap Kf Cf Hf (nI T.length))) (.int (pb_tl r 0)) := by
  refine pb_ofX RX0 (by decide) rfl rfl (Nat.le_of_ble_eq_true rfl) (fun p e s m args below meth c ls hx hb hml hr hlocks hown hts hP hK hl => ?_)
  have hl : lv_has ls 8 [(0, .ref h0), (1, .int (nI a)), (2, .int (nI k)), (3, .int (-1)), (4, .int 0)] := hl
  have hcap := hR.1
  have hj := (List.getElem?_eq_some_iff.mp hr1).1
  refine lv_iload_n hx hb dX0_route_0 rfl (lv_at hl 1 rfl) ?_
  refine lv_iload_n hx hb dX0_route_1 rfl (lv_at hl 2 rfl) ?_
  refine pb_callSv (As := [.int (nI a), .int (nI k)]) (rest := []) ⟨hx, hb, hml, hown, hts⟩ (c_X0_checkPrefix a k ha hk hg) (va_cwS 2 hts gX0_route_X0_checkPrefix rfl rfl rfl (by decide +kernel) ⟨Nat.le_of_ble_eq_true rfl, Nat.le_of_ble_eq_true rfl⟩) rfl rfl hl (Nat.le_of_ble_eq_true rfl) dX0_route_2 ⟨Nat.zero_le _, Nat.zero_le _⟩ ?_
  refine lv_iload_n hx hb dX0_route_5 rfl (lv_at hl 3 rfl) ?_
  refine lv_iconst (v := (-1)) hx hb dX0_route_6 (by decide) ?_
  refine lv_icmp_eq (tgt := 14) hx hb dX0_route_7 (by decide) (fun q7 => ?_) (fun q7 => absurd (rfl) q7)
  refine lv_iload hx hb dX0_route_14 (lv_at hl 4 rfl) ?_
  refine pb_callSv (As := [.int 0]) (rest := []) ⟨hx, hb, hml, hown, hts⟩ (c_X0_checkWhat 0 (by decide)) (va_cwS 1 hts gX0_route_X0_checkWhat rfl rfl rfl (by decide +kernel) ⟨Nat.le_of_ble_eq_true rfl, Nat.le_of_ble_eq_true rfl⟩) rfl rfl hl (Nat.le_of_ble_eq_true rfl) dX0_route_16 ⟨Nat.zero_le _, Nat.zero_le _⟩ ?_
  refine lv_iload_n hx hb dX0_route_19 rfl (lv_at hl 1 rfl) ?_
  refine lv_iload_n hx hb dX0_route_20 rfl (lv_at hl 2 rfl) ?_
  refine pb_callS (As := [.int (nI a), .int (nI k)]) (rest := []) ⟨hx, hb, hml, hown, hts⟩ (c_X0_prefixOf a k ha (by omega)) (va_cwS 2 hts gX0_route_X0_prefixOf rfl rfl rfl (by decide +kernel) ⟨Nat.le_of_ble_eq_true rfl, Nat.le_of_ble_eq_true rfl⟩) rfl rfl hl (Nat.le_of_ble_eq_true rfl) dX0_route_21 ⟨Nat.zero_le _, Nat.zero_le _⟩ ?_
  refine lv_lstore (lv' := [(5, .long (lN (pb_pre a k))), (0, .ref h0), (1, .int (nI a)), (2, .int (nI k)), (3, .int (-1)), (4, .int 0)]) hx hb dX0_route_24 hl (by decide) rfl (fun ls hl => ?_)
  refine lv_iload_n hx hb dX0_route_26 rfl (lv_at hl 4 rfl) ?_
  refine lv_iconst (v := (-1)) hx hb dX0_route_27 (by decide) ?_
  refine lv_icmp_ne (tgt := 40) hx hb dX0_route_28 (by decide) (fun q28 => absurd q28 (fun z => z rfl)) (fun q28 => ?_)
  refine lv_aload_n hx hb dX0_route_31 rfl (lv_at hl 1 rfl) ?_
  refine lv_lload hx hb dX0_route_32 (lv_at hl 0 rfl) ?_
  refine pb_callV (As := [.long (lN (pb_pre a k))]) (rest := []) ⟨hx, hb, hml, hown, hts⟩ (c_X0_placeOfBest hT hR (pb_pre a k) (by show 64 * a + k < _; omega)) (cwV 1 hts gX0_route_X0_placeOfBest rfl rfl rfl (by decide +kernel) ⟨Nat.le_of_ble_eq_true rfl, Nat.le_of_ble_eq_true rfl⟩) hP hK (va_recv hK hP (ci := 0) (q0 := 0) rfl rfl) rfl rfl hl (Nat.le_of_ble_eq_true rfl) dX0_route_34 ⟨Nat.zero_le _, Nat.zero_le _⟩ ?_
  refine lv_goto (tgt := 47) hx hb dX0_route_37 (by decide) ?_
  refine pb_topi (z := nI (pb_lb T (pb_pre a k * 8))) (by rw [if_pos hh]) ?_
  refine lv_istore (lv' := [(7, .int (nI (pb_lb T (pb_pre a k * 8)))), (5, .long (lN (pb_pre a k))), (0, .ref h0), (1, .int (nI a)), (2, .int (nI k)), (3, .int (-1)), (4, .int 0)]) hx hb dX0_route_47 hl (by decide) rfl (fun ls hl => ?_)
  refine lv_iload hx hb dX0_route_49 (lv_at hl 0 rfl) ?_
  refine lv_iconst (v := (-1)) hx hb dX0_route_51 (by decide) ?_
  refine lv_icmp_ne (tgt := 59) hx hb dX0_route_52 (by decide) (fun q52 => ?_) (fun q52 => absurd q52 (pb_m1_ne (by omega)))
  refine lv_aload_n hx hb dX0_route_59 rfl (lv_at hl 2 rfl) ?_
  refine lv_iload hx hb dX0_route_60 (lv_at hl 0 rfl) ?_
  refine lv_iload hx hb dX0_route_62 (lv_at hl 6 rfl) ?_
  refine pb_callV (As := [.int (nI (pb_lb T (pb_pre a k * 8))), .int 0]) (rest := []) ⟨hx, hb, hml, hown, hts⟩ (c_X0_tell_0 hT hR (pb_lb T (pb_pre a k * 8)) hr1) (cwV 2 hts gX0_route_X0_tell rfl rfl rfl (by decide +kernel) ⟨Nat.le_of_ble_eq_true rfl, Nat.le_of_ble_eq_true rfl⟩) hP hK (va_recv hK hP (ci := 0) (q0 := 0) rfl rfl) rfl rfl hl (Nat.le_of_ble_eq_true rfl) dX0_route_64 ⟨Nat.zero_le _, Nat.zero_le _⟩ ?_
  exact pb_iret hx hb hr hlocks dX0_route_67 (rfl)

set_option maxHeartbeats 4000000 in
set_option maxRecDepth 100000 in
theorem c_X0_route_bn0 {T : List pb_Rt} (hT : pb_ok T) (hR : pb_rX T cap Kf Cf Hf) (a k : Nat) (ha : a < 2 ^ 32) (hk : k ≤ 32) (hg : a % 2 ^ (32 - k) = 0) (hh : pb_kn T (pb_pre a k) = false) : pb_Rd l yX0_route wsX0_route 5 113 (pb_X [.ref h0, .int (nI a), .int (nI k), .int (-1), .int 0] D (pb_ty cI cJ) (pb_wX cI cJ h0 k1 c1 h1 cap Kf Cf Hf (nI T.length))) (.int (-1)) := by
  refine pb_ofX RX0 (by decide) rfl rfl (Nat.le_of_ble_eq_true rfl) (fun p e s m args below meth c ls hx hb hml hr hlocks hown hts hP hK hl => ?_)
  have hl : lv_has ls 8 [(0, .ref h0), (1, .int (nI a)), (2, .int (nI k)), (3, .int (-1)), (4, .int 0)] := hl
  have hcap := hR.1
  refine lv_iload_n hx hb dX0_route_0 rfl (lv_at hl 1 rfl) ?_
  refine lv_iload_n hx hb dX0_route_1 rfl (lv_at hl 2 rfl) ?_
  refine pb_callSv (As := [.int (nI a), .int (nI k)]) (rest := []) ⟨hx, hb, hml, hown, hts⟩ (c_X0_checkPrefix a k ha hk hg) (va_cwS 2 hts gX0_route_X0_checkPrefix rfl rfl rfl (by decide +kernel) ⟨Nat.le_of_ble_eq_true rfl, Nat.le_of_ble_eq_true rfl⟩) rfl rfl hl (Nat.le_of_ble_eq_true rfl) dX0_route_2 ⟨Nat.zero_le _, Nat.zero_le _⟩ ?_
  refine lv_iload_n hx hb dX0_route_5 rfl (lv_at hl 3 rfl) ?_
  refine lv_iconst (v := (-1)) hx hb dX0_route_6 (by decide) ?_
  refine lv_icmp_eq (tgt := 14) hx hb dX0_route_7 (by decide) (fun q7 => ?_) (fun q7 => absurd (rfl) q7)
  refine lv_iload hx hb dX0_route_14 (lv_at hl 4 rfl) ?_
  refine pb_callSv (As := [.int 0]) (rest := []) ⟨hx, hb, hml, hown, hts⟩ (c_X0_checkWhat 0 (by decide)) (va_cwS 1 hts gX0_route_X0_checkWhat rfl rfl rfl (by decide +kernel) ⟨Nat.le_of_ble_eq_true rfl, Nat.le_of_ble_eq_true rfl⟩) rfl rfl hl (Nat.le_of_ble_eq_true rfl) dX0_route_16 ⟨Nat.zero_le _, Nat.zero_le _⟩ ?_
  refine lv_iload_n hx hb dX0_route_19 rfl (lv_at hl 1 rfl) ?_
  refine lv_iload_n hx hb dX0_route_20 rfl (lv_at hl 2 rfl) ?_
  refine pb_callS (As := [.int (nI a), .int (nI k)]) (rest := []) ⟨hx, hb, hml, hown, hts⟩ (c_X0_prefixOf a k ha (by omega)) (va_cwS 2 hts gX0_route_X0_prefixOf rfl rfl rfl (by decide +kernel) ⟨Nat.le_of_ble_eq_true rfl, Nat.le_of_ble_eq_true rfl⟩) rfl rfl hl (Nat.le_of_ble_eq_true rfl) dX0_route_21 ⟨Nat.zero_le _, Nat.zero_le _⟩ ?_
  refine lv_lstore (lv' := [(5, .long (lN (pb_pre a k))), (0, .ref h0), (1, .int (nI a)), (2, .int (nI k)), (3, .int (-1)), (4, .int 0)]) hx hb dX0_route_24 hl (by decide) rfl (fun ls hl => ?_)
  refine lv_iload_n hx hb dX0_route_26 rfl (lv_at hl 4 rfl) ?_
  refine lv_iconst (v := (-1)) hx hb dX0_route_27 (by decide) ?_
  refine lv_icmp_ne (tgt := 40) hx hb dX0_route_28 (by decide) (fun q28 => absurd q28 (fun z => z rfl)) (fun q28 => ?_)
  refine lv_aload_n hx hb dX0_route_31 rfl (lv_at hl 1 rfl) ?_
  refine lv_lload hx hb dX0_route_32 (lv_at hl 0 rfl) ?_
  refine pb_callV (As := [.long (lN (pb_pre a k))]) (rest := []) ⟨hx, hb, hml, hown, hts⟩ (c_X0_placeOfBest hT hR (pb_pre a k) (by show 64 * a + k < _; omega)) (cwV 1 hts gX0_route_X0_placeOfBest rfl rfl rfl (by decide +kernel) ⟨Nat.le_of_ble_eq_true rfl, Nat.le_of_ble_eq_true rfl⟩) hP hK (va_recv hK hP (ci := 0) (q0 := 0) rfl rfl) rfl rfl hl (Nat.le_of_ble_eq_true rfl) dX0_route_34 ⟨Nat.zero_le _, Nat.zero_le _⟩ ?_
  refine lv_goto (tgt := 47) hx hb dX0_route_37 (by decide) ?_
  refine pb_topi (z := (-1)) (by rw [hh]; rfl) ?_
  refine lv_istore (lv' := [(7, .int (-1)), (5, .long (lN (pb_pre a k))), (0, .ref h0), (1, .int (nI a)), (2, .int (nI k)), (3, .int (-1)), (4, .int 0)]) hx hb dX0_route_47 hl (by decide) rfl (fun ls hl => ?_)
  refine lv_iload hx hb dX0_route_49 (lv_at hl 0 rfl) ?_
  refine lv_iconst (v := (-1)) hx hb dX0_route_51 (by decide) ?_
  refine lv_icmp_ne (tgt := 59) hx hb dX0_route_52 (by decide) (fun q52 => absurd q52 (fun z => z rfl)) (fun q52 => ?_)
  refine lv_iconst (v := (-1)) hx hb dX0_route_55 (by decide) ?_
  refine lv_goto (tgt := 67) hx hb dX0_route_56 (by decide) ?_
  exact pb_iret hx hb hr hlocks dX0_route_67 (rfl)

set_option maxHeartbeats 4000000 in
set_option maxRecDepth 100000 in
theorem c_X0_route_os1 {T : List pb_Rt} (hT : pb_ok T) (hR : pb_rX T cap Kf Cf Hf) (a k : Nat) (ha : a < 2 ^ 32) (hk : k ≤ 32) (hg : a % 2 ^ (32 - k) = 0) (o : Nat) (ho : o < 8) {r : pb_Rt} (hr1 : T[pb_lb T (pb_pre a k * 8 + o)]? = some r) (hh : pb_hs T (pb_pre a k * 8 + o) = true) : pb_Rd l yX0_route wsX0_route 5 113 (pb_X [.ref h0, .int (nI a), .int (nI k), .int (nI o), .int 1] D (pb_ty cI cJ) (pb_wX cI cJ h0 k1 c1 h1 cap Kf Cf Hf (nI T.length))) (.int (pb_tl r 1)) := by
  refine pb_ofX RX0 (by decide) rfl rfl (Nat.le_of_ble_eq_true rfl) (fun p e s m args below meth c ls hx hb hml hr hlocks hown hts hP hK hl => ?_)
  have hl : lv_has ls 8 [(0, .ref h0), (1, .int (nI a)), (2, .int (nI k)), (3, .int (nI o)), (4, .int 1)] := hl
  have hcap := hR.1
  have hj := (List.getElem?_eq_some_iff.mp hr1).1
  refine lv_iload_n hx hb dX0_route_0 rfl (lv_at hl 1 rfl) ?_
  refine lv_iload_n hx hb dX0_route_1 rfl (lv_at hl 2 rfl) ?_
  refine pb_callSv (As := [.int (nI a), .int (nI k)]) (rest := []) ⟨hx, hb, hml, hown, hts⟩ (c_X0_checkPrefix a k ha hk hg) (va_cwS 2 hts gX0_route_X0_checkPrefix rfl rfl rfl (by decide +kernel) ⟨Nat.le_of_ble_eq_true rfl, Nat.le_of_ble_eq_true rfl⟩) rfl rfl hl (Nat.le_of_ble_eq_true rfl) dX0_route_2 ⟨Nat.zero_le _, Nat.zero_le _⟩ ?_
  refine lv_iload_n hx hb dX0_route_5 rfl (lv_at hl 3 rfl) ?_
  refine lv_iconst (v := (-1)) hx hb dX0_route_6 (by decide) ?_
  refine lv_icmp_eq (tgt := 14) hx hb dX0_route_7 (by decide) (fun q7 => absurd q7 (pb_m1_ne (by omega))) (fun q7 => ?_)
  refine lv_iload_n hx hb dX0_route_10 rfl (lv_at hl 3 rfl) ?_
  refine pb_callSv (As := [.int (nI o)]) (rest := []) ⟨hx, hb, hml, hown, hts⟩ (c_X0_checkOrigin o ho) (va_cwS 1 hts gX0_route_X0_checkOrigin rfl rfl rfl (by decide +kernel) ⟨Nat.le_of_ble_eq_true rfl, Nat.le_of_ble_eq_true rfl⟩) rfl rfl hl (Nat.le_of_ble_eq_true rfl) dX0_route_11 ⟨Nat.zero_le _, Nat.zero_le _⟩ ?_
  refine lv_iload hx hb dX0_route_14 (lv_at hl 4 rfl) ?_
  refine pb_callSv (As := [.int 1]) (rest := []) ⟨hx, hb, hml, hown, hts⟩ (c_X0_checkWhat 1 (by decide)) (va_cwS 1 hts gX0_route_X0_checkWhat rfl rfl rfl (by decide +kernel) ⟨Nat.le_of_ble_eq_true rfl, Nat.le_of_ble_eq_true rfl⟩) rfl rfl hl (Nat.le_of_ble_eq_true rfl) dX0_route_16 ⟨Nat.zero_le _, Nat.zero_le _⟩ ?_
  refine lv_iload_n hx hb dX0_route_19 rfl (lv_at hl 1 rfl) ?_
  refine lv_iload_n hx hb dX0_route_20 rfl (lv_at hl 2 rfl) ?_
  refine pb_callS (As := [.int (nI a), .int (nI k)]) (rest := []) ⟨hx, hb, hml, hown, hts⟩ (c_X0_prefixOf a k ha (by omega)) (va_cwS 2 hts gX0_route_X0_prefixOf rfl rfl rfl (by decide +kernel) ⟨Nat.le_of_ble_eq_true rfl, Nat.le_of_ble_eq_true rfl⟩) rfl rfl hl (Nat.le_of_ble_eq_true rfl) dX0_route_21 ⟨Nat.zero_le _, Nat.zero_le _⟩ ?_
  refine lv_lstore (lv' := [(5, .long (lN (pb_pre a k))), (0, .ref h0), (1, .int (nI a)), (2, .int (nI k)), (3, .int (nI o)), (4, .int 1)]) hx hb dX0_route_24 hl (by decide) rfl (fun ls hl => ?_)
  refine lv_iload_n hx hb dX0_route_26 rfl (lv_at hl 4 rfl) ?_
  refine lv_iconst (v := (-1)) hx hb dX0_route_27 (by decide) ?_
  refine lv_icmp_ne (tgt := 40) hx hb dX0_route_28 (by decide) (fun q28 => ?_) (fun q28 => absurd q28 (pb_m1_ne (by omega)))
  refine lv_aload_n hx hb dX0_route_40 rfl (lv_at hl 1 rfl) ?_
  refine lv_lload hx hb dX0_route_41 (lv_at hl 0 rfl) ?_
  refine lv_iload_n hx hb dX0_route_43 rfl (lv_at hl 4 rfl) ?_
  refine pb_callV (As := [.long (lN (pb_pre a k)), .int (nI o)]) (rest := []) ⟨hx, hb, hml, hown, hts⟩ (c_X0_placeOfRoute hT hR (pb_pre a k) o (by show 64 * a + k < _; omega) ho) (cwV 2 hts gX0_route_X0_placeOfRoute rfl rfl rfl (by decide +kernel) ⟨Nat.le_of_ble_eq_true rfl, Nat.le_of_ble_eq_true rfl⟩) hP hK (va_recv hK hP (ci := 0) (q0 := 0) rfl rfl) rfl rfl hl (Nat.le_of_ble_eq_true rfl) dX0_route_44 ⟨Nat.zero_le _, Nat.zero_le _⟩ ?_
  refine pb_topi (z := nI (pb_lb T (pb_pre a k * 8 + o))) (by rw [if_pos hh]) ?_
  refine lv_istore (lv' := [(7, .int (nI (pb_lb T (pb_pre a k * 8 + o)))), (5, .long (lN (pb_pre a k))), (0, .ref h0), (1, .int (nI a)), (2, .int (nI k)), (3, .int (nI o)), (4, .int 1)]) hx hb dX0_route_47 hl (by decide) rfl (fun ls hl => ?_)
  refine lv_iload hx hb dX0_route_49 (lv_at hl 0 rfl) ?_
  refine lv_iconst (v := (-1)) hx hb dX0_route_51 (by decide) ?_
  refine lv_icmp_ne (tgt := 59) hx hb dX0_route_52 (by decide) (fun q52 => ?_) (fun q52 => absurd q52 (pb_m1_ne (by omega)))
  refine lv_aload_n hx hb dX0_route_59 rfl (lv_at hl 2 rfl) ?_
  refine lv_iload hx hb dX0_route_60 (lv_at hl 0 rfl) ?_
  refine lv_iload hx hb dX0_route_62 (lv_at hl 6 rfl) ?_
  refine pb_callV (As := [.int (nI (pb_lb T (pb_pre a k * 8 + o))), .int 1]) (rest := []) ⟨hx, hb, hml, hown, hts⟩ (c_X0_tell_1 hT hR (pb_lb T (pb_pre a k * 8 + o)) hr1) (cwV 2 hts gX0_route_X0_tell rfl rfl rfl (by decide +kernel) ⟨Nat.le_of_ble_eq_true rfl, Nat.le_of_ble_eq_true rfl⟩) hP hK (va_recv hK hP (ci := 0) (q0 := 0) rfl rfl) rfl rfl hl (Nat.le_of_ble_eq_true rfl) dX0_route_64 ⟨Nat.zero_le _, Nat.zero_le _⟩ ?_
  exact pb_iret hx hb hr hlocks dX0_route_67 (rfl)

set_option maxHeartbeats 4000000 in
set_option maxRecDepth 100000 in
theorem c_X0_route_on1 {T : List pb_Rt} (hT : pb_ok T) (hR : pb_rX T cap Kf Cf Hf) (a k : Nat) (ha : a < 2 ^ 32) (hk : k ≤ 32) (hg : a % 2 ^ (32 - k) = 0) (o : Nat) (ho : o < 8) (hh : pb_hs T (pb_pre a k * 8 + o) = false) : pb_Rd l yX0_route wsX0_route 5 113 (pb_X [.ref h0, .int (nI a), .int (nI k), .int (nI o), .int 1] D (pb_ty cI cJ) (pb_wX cI cJ h0 k1 c1 h1 cap Kf Cf Hf (nI T.length))) (.int (-1)) := by
  refine pb_ofX RX0 (by decide) rfl rfl (Nat.le_of_ble_eq_true rfl) (fun p e s m args below meth c ls hx hb hml hr hlocks hown hts hP hK hl => ?_)
  have hl : lv_has ls 8 [(0, .ref h0), (1, .int (nI a)), (2, .int (nI k)), (3, .int (nI o)), (4, .int 1)] := hl
  have hcap := hR.1
  refine lv_iload_n hx hb dX0_route_0 rfl (lv_at hl 1 rfl) ?_
  refine lv_iload_n hx hb dX0_route_1 rfl (lv_at hl 2 rfl) ?_
  refine pb_callSv (As := [.int (nI a), .int (nI k)]) (rest := []) ⟨hx, hb, hml, hown, hts⟩ (c_X0_checkPrefix a k ha hk hg) (va_cwS 2 hts gX0_route_X0_checkPrefix rfl rfl rfl (by decide +kernel) ⟨Nat.le_of_ble_eq_true rfl, Nat.le_of_ble_eq_true rfl⟩) rfl rfl hl (Nat.le_of_ble_eq_true rfl) dX0_route_2 ⟨Nat.zero_le _, Nat.zero_le _⟩ ?_
  refine lv_iload_n hx hb dX0_route_5 rfl (lv_at hl 3 rfl) ?_
  refine lv_iconst (v := (-1)) hx hb dX0_route_6 (by decide) ?_
  refine lv_icmp_eq (tgt := 14) hx hb dX0_route_7 (by decide) (fun q7 => absurd q7 (pb_m1_ne (by omega))) (fun q7 => ?_)
  refine lv_iload_n hx hb dX0_route_10 rfl (lv_at hl 3 rfl) ?_
  refine pb_callSv (As := [.int (nI o)]) (rest := []) ⟨hx, hb, hml, hown, hts⟩ (c_X0_checkOrigin o ho) (va_cwS 1 hts gX0_route_X0_checkOrigin rfl rfl rfl (by decide +kernel) ⟨Nat.le_of_ble_eq_true rfl, Nat.le_of_ble_eq_true rfl⟩) rfl rfl hl (Nat.le_of_ble_eq_true rfl) dX0_route_11 ⟨Nat.zero_le _, Nat.zero_le _⟩ ?_
  refine lv_iload hx hb dX0_route_14 (lv_at hl 4 rfl) ?_
  refine pb_callSv (As := [.int 1]) (rest := []) ⟨hx, hb, hml, hown, hts⟩ (c_X0_checkWhat 1 (by decide)) (va_cwS 1 hts gX0_route_X0_checkWhat rfl rfl rfl (by decide +kernel) ⟨Nat.le_of_ble_eq_true rfl, Nat.le_of_ble_eq_true rfl⟩) rfl rfl hl (Nat.le_of_ble_eq_true rfl) dX0_route_16 ⟨Nat.zero_le _, Nat.zero_le _⟩ ?_
  refine lv_iload_n hx hb dX0_route_19 rfl (lv_at hl 1 rfl) ?_
  refine lv_iload_n hx hb dX0_route_20 rfl (lv_at hl 2 rfl) ?_
  refine pb_callS (As := [.int (nI a), .int (nI k)]) (rest := []) ⟨hx, hb, hml, hown, hts⟩ (c_X0_prefixOf a k ha (by omega)) (va_cwS 2 hts gX0_route_X0_prefixOf rfl rfl rfl (by decide +kernel) ⟨Nat.le_of_ble_eq_true rfl, Nat.le_of_ble_eq_true rfl⟩) rfl rfl hl (Nat.le_of_ble_eq_true rfl) dX0_route_21 ⟨Nat.zero_le _, Nat.zero_le _⟩ ?_
  refine lv_lstore (lv' := [(5, .long (lN (pb_pre a k))), (0, .ref h0), (1, .int (nI a)), (2, .int (nI k)), (3, .int (nI o)), (4, .int 1)]) hx hb dX0_route_24 hl (by decide) rfl (fun ls hl => ?_)
  refine lv_iload_n hx hb dX0_route_26 rfl (lv_at hl 4 rfl) ?_
  refine lv_iconst (v := (-1)) hx hb dX0_route_27 (by decide) ?_
  refine lv_icmp_ne (tgt := 40) hx hb dX0_route_28 (by decide) (fun q28 => ?_) (fun q28 => absurd q28 (pb_m1_ne (by omega)))
  refine lv_aload_n hx hb dX0_route_40 rfl (lv_at hl 1 rfl) ?_
  refine lv_lload hx hb dX0_route_41 (lv_at hl 0 rfl) ?_
  refine lv_iload_n hx hb dX0_route_43 rfl (lv_at hl 4 rfl) ?_
  refine pb_callV (As := [.long (lN (pb_pre a k)), .int (nI o)]) (rest := []) ⟨hx, hb, hml, hown, hts⟩ (c_X0_placeOfRoute hT hR (pb_pre a k) o (by show 64 * a + k < _; omega) ho) (cwV 2 hts gX0_route_X0_placeOfRoute rfl rfl rfl (by decide +kernel) ⟨Nat.le_of_ble_eq_true rfl, Nat.le_of_ble_eq_true rfl⟩) hP hK (va_recv hK hP (ci := 0) (q0 := 0) rfl rfl) rfl rfl hl (Nat.le_of_ble_eq_true rfl) dX0_route_44 ⟨Nat.zero_le _, Nat.zero_le _⟩ ?_
  refine pb_topi (z := (-1)) (by rw [hh]; rfl) ?_
  refine lv_istore (lv' := [(7, .int (-1)), (5, .long (lN (pb_pre a k))), (0, .ref h0), (1, .int (nI a)), (2, .int (nI k)), (3, .int (nI o)), (4, .int 1)]) hx hb dX0_route_47 hl (by decide) rfl (fun ls hl => ?_)
  refine lv_iload hx hb dX0_route_49 (lv_at hl 0 rfl) ?_
  refine lv_iconst (v := (-1)) hx hb dX0_route_51 (by decide) ?_
  refine lv_icmp_ne (tgt := 59) hx hb dX0_route_52 (by decide) (fun q52 => absurd q52 (fun z => z rfl)) (fun q52 => ?_)
  refine lv_iconst (v := (-1)) hx hb dX0_route_55 (by decide) ?_
  refine lv_goto (tgt := 67) hx hb dX0_route_56 (by decide) ?_
  exact pb_iret hx hb hr hlocks dX0_route_67 (rfl)

set_option maxHeartbeats 4000000 in
set_option maxRecDepth 100000 in
theorem c_X0_route_bs1 {T : List pb_Rt} (hT : pb_ok T) (hR : pb_rX T cap Kf Cf Hf) (a k : Nat) (ha : a < 2 ^ 32) (hk : k ≤ 32) (hg : a % 2 ^ (32 - k) = 0) {r : pb_Rt} (hr1 : T[pb_lb T (pb_pre a k * 8)]? = some r) (hh : pb_kn T (pb_pre a k) = true) : pb_Rd l yX0_route wsX0_route 5 113 (pb_X [.ref h0, .int (nI a), .int (nI k), .int (-1), .int 1] D (pb_ty cI cJ) (pb_wX cI cJ h0 k1 c1 h1 cap Kf Cf Hf (nI T.length))) (.int (pb_tl r 1)) := by
  refine pb_ofX RX0 (by decide) rfl rfl (Nat.le_of_ble_eq_true rfl) (fun p e s m args below meth c ls hx hb hml hr hlocks hown hts hP hK hl => ?_)
  have hl : lv_has ls 8 [(0, .ref h0), (1, .int (nI a)), (2, .int (nI k)), (3, .int (-1)), (4, .int 1)] := hl
  have hcap := hR.1
  have hj := (List.getElem?_eq_some_iff.mp hr1).1
  refine lv_iload_n hx hb dX0_route_0 rfl (lv_at hl 1 rfl) ?_
  refine lv_iload_n hx hb dX0_route_1 rfl (lv_at hl 2 rfl) ?_
  refine pb_callSv (As := [.int (nI a), .int (nI k)]) (rest := []) ⟨hx, hb, hml, hown, hts⟩ (c_X0_checkPrefix a k ha hk hg) (va_cwS 2 hts gX0_route_X0_checkPrefix rfl rfl rfl (by decide +kernel) ⟨Nat.le_of_ble_eq_true rfl, Nat.le_of_ble_eq_true rfl⟩) rfl rfl hl (Nat.le_of_ble_eq_true rfl) dX0_route_2 ⟨Nat.zero_le _, Nat.zero_le _⟩ ?_
  refine lv_iload_n hx hb dX0_route_5 rfl (lv_at hl 3 rfl) ?_
  refine lv_iconst (v := (-1)) hx hb dX0_route_6 (by decide) ?_
  refine lv_icmp_eq (tgt := 14) hx hb dX0_route_7 (by decide) (fun q7 => ?_) (fun q7 => absurd (rfl) q7)
  refine lv_iload hx hb dX0_route_14 (lv_at hl 4 rfl) ?_
  refine pb_callSv (As := [.int 1]) (rest := []) ⟨hx, hb, hml, hown, hts⟩ (c_X0_checkWhat 1 (by decide)) (va_cwS 1 hts gX0_route_X0_checkWhat rfl rfl rfl (by decide +kernel) ⟨Nat.le_of_ble_eq_true rfl, Nat.le_of_ble_eq_true rfl⟩) rfl rfl hl (Nat.le_of_ble_eq_true rfl) dX0_route_16 ⟨Nat.zero_le _, Nat.zero_le _⟩ ?_
  refine lv_iload_n hx hb dX0_route_19 rfl (lv_at hl 1 rfl) ?_
  refine lv_iload_n hx hb dX0_route_20 rfl (lv_at hl 2 rfl) ?_
  refine pb_callS (As := [.int (nI a), .int (nI k)]) (rest := []) ⟨hx, hb, hml, hown, hts⟩ (c_X0_prefixOf a k ha (by omega)) (va_cwS 2 hts gX0_route_X0_prefixOf rfl rfl rfl (by decide +kernel) ⟨Nat.le_of_ble_eq_true rfl, Nat.le_of_ble_eq_true rfl⟩) rfl rfl hl (Nat.le_of_ble_eq_true rfl) dX0_route_21 ⟨Nat.zero_le _, Nat.zero_le _⟩ ?_
  refine lv_lstore (lv' := [(5, .long (lN (pb_pre a k))), (0, .ref h0), (1, .int (nI a)), (2, .int (nI k)), (3, .int (-1)), (4, .int 1)]) hx hb dX0_route_24 hl (by decide) rfl (fun ls hl => ?_)
  refine lv_iload_n hx hb dX0_route_26 rfl (lv_at hl 4 rfl) ?_
  refine lv_iconst (v := (-1)) hx hb dX0_route_27 (by decide) ?_
  refine lv_icmp_ne (tgt := 40) hx hb dX0_route_28 (by decide) (fun q28 => absurd q28 (fun z => z rfl)) (fun q28 => ?_)
  refine lv_aload_n hx hb dX0_route_31 rfl (lv_at hl 1 rfl) ?_
  refine lv_lload hx hb dX0_route_32 (lv_at hl 0 rfl) ?_
  refine pb_callV (As := [.long (lN (pb_pre a k))]) (rest := []) ⟨hx, hb, hml, hown, hts⟩ (c_X0_placeOfBest hT hR (pb_pre a k) (by show 64 * a + k < _; omega)) (cwV 1 hts gX0_route_X0_placeOfBest rfl rfl rfl (by decide +kernel) ⟨Nat.le_of_ble_eq_true rfl, Nat.le_of_ble_eq_true rfl⟩) hP hK (va_recv hK hP (ci := 0) (q0 := 0) rfl rfl) rfl rfl hl (Nat.le_of_ble_eq_true rfl) dX0_route_34 ⟨Nat.zero_le _, Nat.zero_le _⟩ ?_
  refine lv_goto (tgt := 47) hx hb dX0_route_37 (by decide) ?_
  refine pb_topi (z := nI (pb_lb T (pb_pre a k * 8))) (by rw [if_pos hh]) ?_
  refine lv_istore (lv' := [(7, .int (nI (pb_lb T (pb_pre a k * 8)))), (5, .long (lN (pb_pre a k))), (0, .ref h0), (1, .int (nI a)), (2, .int (nI k)), (3, .int (-1)), (4, .int 1)]) hx hb dX0_route_47 hl (by decide) rfl (fun ls hl => ?_)
  refine lv_iload hx hb dX0_route_49 (lv_at hl 0 rfl) ?_
  refine lv_iconst (v := (-1)) hx hb dX0_route_51 (by decide) ?_
  refine lv_icmp_ne (tgt := 59) hx hb dX0_route_52 (by decide) (fun q52 => ?_) (fun q52 => absurd q52 (pb_m1_ne (by omega)))
  refine lv_aload_n hx hb dX0_route_59 rfl (lv_at hl 2 rfl) ?_
  refine lv_iload hx hb dX0_route_60 (lv_at hl 0 rfl) ?_
  refine lv_iload hx hb dX0_route_62 (lv_at hl 6 rfl) ?_
  refine pb_callV (As := [.int (nI (pb_lb T (pb_pre a k * 8))), .int 1]) (rest := []) ⟨hx, hb, hml, hown, hts⟩ (c_X0_tell_1 hT hR (pb_lb T (pb_pre a k * 8)) hr1) (cwV 2 hts gX0_route_X0_tell rfl rfl rfl (by decide +kernel) ⟨Nat.le_of_ble_eq_true rfl, Nat.le_of_ble_eq_true rfl⟩) hP hK (va_recv hK hP (ci := 0) (q0 := 0) rfl rfl) rfl rfl hl (Nat.le_of_ble_eq_true rfl) dX0_route_64 ⟨Nat.zero_le _, Nat.zero_le _⟩ ?_
  exact pb_iret hx hb hr hlocks dX0_route_67 (rfl)

set_option maxHeartbeats 4000000 in
set_option maxRecDepth 100000 in
theorem c_X0_route_bn1 {T : List pb_Rt} (hT : pb_ok T) (hR : pb_rX T cap Kf Cf Hf) (a k : Nat) (ha : a < 2 ^ 32) (hk : k ≤ 32) (hg : a % 2 ^ (32 - k) = 0) (hh : pb_kn T (pb_pre a k) = false) : pb_Rd l yX0_route wsX0_route 5 113 (pb_X [.ref h0, .int (nI a), .int (nI k), .int (-1), .int 1] D (pb_ty cI cJ) (pb_wX cI cJ h0 k1 c1 h1 cap Kf Cf Hf (nI T.length))) (.int (-1)) := by
  refine pb_ofX RX0 (by decide) rfl rfl (Nat.le_of_ble_eq_true rfl) (fun p e s m args below meth c ls hx hb hml hr hlocks hown hts hP hK hl => ?_)
  have hl : lv_has ls 8 [(0, .ref h0), (1, .int (nI a)), (2, .int (nI k)), (3, .int (-1)), (4, .int 1)] := hl
  have hcap := hR.1
  refine lv_iload_n hx hb dX0_route_0 rfl (lv_at hl 1 rfl) ?_
  refine lv_iload_n hx hb dX0_route_1 rfl (lv_at hl 2 rfl) ?_
  refine pb_callSv (As := [.int (nI a), .int (nI k)]) (rest := []) ⟨hx, hb, hml, hown, hts⟩ (c_X0_checkPrefix a k ha hk hg) (va_cwS 2 hts gX0_route_X0_checkPrefix rfl rfl rfl (by decide +kernel) ⟨Nat.le_of_ble_eq_true rfl, Nat.le_of_ble_eq_true rfl⟩) rfl rfl hl (Nat.le_of_ble_eq_true rfl) dX0_route_2 ⟨Nat.zero_le _, Nat.zero_le _⟩ ?_
  refine lv_iload_n hx hb dX0_route_5 rfl (lv_at hl 3 rfl) ?_
  refine lv_iconst (v := (-1)) hx hb dX0_route_6 (by decide) ?_
  refine lv_icmp_eq (tgt := 14) hx hb dX0_route_7 (by decide) (fun q7 => ?_) (fun q7 => absurd (rfl) q7)
  refine lv_iload hx hb dX0_route_14 (lv_at hl 4 rfl) ?_
  refine pb_callSv (As := [.int 1]) (rest := []) ⟨hx, hb, hml, hown, hts⟩ (c_X0_checkWhat 1 (by decide)) (va_cwS 1 hts gX0_route_X0_checkWhat rfl rfl rfl (by decide +kernel) ⟨Nat.le_of_ble_eq_true rfl, Nat.le_of_ble_eq_true rfl⟩) rfl rfl hl (Nat.le_of_ble_eq_true rfl) dX0_route_16 ⟨Nat.zero_le _, Nat.zero_le _⟩ ?_
  refine lv_iload_n hx hb dX0_route_19 rfl (lv_at hl 1 rfl) ?_
  refine lv_iload_n hx hb dX0_route_20 rfl (lv_at hl 2 rfl) ?_
  refine pb_callS (As := [.int (nI a), .int (nI k)]) (rest := []) ⟨hx, hb, hml, hown, hts⟩ (c_X0_prefixOf a k ha (by omega)) (va_cwS 2 hts gX0_route_X0_prefixOf rfl rfl rfl (by decide +kernel) ⟨Nat.le_of_ble_eq_true rfl, Nat.le_of_ble_eq_true rfl⟩) rfl rfl hl (Nat.le_of_ble_eq_true rfl) dX0_route_21 ⟨Nat.zero_le _, Nat.zero_le _⟩ ?_
  refine lv_lstore (lv' := [(5, .long (lN (pb_pre a k))), (0, .ref h0), (1, .int (nI a)), (2, .int (nI k)), (3, .int (-1)), (4, .int 1)]) hx hb dX0_route_24 hl (by decide) rfl (fun ls hl => ?_)
  refine lv_iload_n hx hb dX0_route_26 rfl (lv_at hl 4 rfl) ?_
  refine lv_iconst (v := (-1)) hx hb dX0_route_27 (by decide) ?_
  refine lv_icmp_ne (tgt := 40) hx hb dX0_route_28 (by decide) (fun q28 => absurd q28 (fun z => z rfl)) (fun q28 => ?_)
  refine lv_aload_n hx hb dX0_route_31 rfl (lv_at hl 1 rfl) ?_
  refine lv_lload hx hb dX0_route_32 (lv_at hl 0 rfl) ?_
  refine pb_callV (As := [.long (lN (pb_pre a k))]) (rest := []) ⟨hx, hb, hml, hown, hts⟩ (c_X0_placeOfBest hT hR (pb_pre a k) (by show 64 * a + k < _; omega)) (cwV 1 hts gX0_route_X0_placeOfBest rfl rfl rfl (by decide +kernel) ⟨Nat.le_of_ble_eq_true rfl, Nat.le_of_ble_eq_true rfl⟩) hP hK (va_recv hK hP (ci := 0) (q0 := 0) rfl rfl) rfl rfl hl (Nat.le_of_ble_eq_true rfl) dX0_route_34 ⟨Nat.zero_le _, Nat.zero_le _⟩ ?_
  refine lv_goto (tgt := 47) hx hb dX0_route_37 (by decide) ?_
  refine pb_topi (z := (-1)) (by rw [hh]; rfl) ?_
  refine lv_istore (lv' := [(7, .int (-1)), (5, .long (lN (pb_pre a k))), (0, .ref h0), (1, .int (nI a)), (2, .int (nI k)), (3, .int (-1)), (4, .int 1)]) hx hb dX0_route_47 hl (by decide) rfl (fun ls hl => ?_)
  refine lv_iload hx hb dX0_route_49 (lv_at hl 0 rfl) ?_
  refine lv_iconst (v := (-1)) hx hb dX0_route_51 (by decide) ?_
  refine lv_icmp_ne (tgt := 59) hx hb dX0_route_52 (by decide) (fun q52 => absurd q52 (fun z => z rfl)) (fun q52 => ?_)
  refine lv_iconst (v := (-1)) hx hb dX0_route_55 (by decide) ?_
  refine lv_goto (tgt := 67) hx hb dX0_route_56 (by decide) ?_
  exact pb_iret hx hb hr hlocks dX0_route_67 (rfl)

set_option maxHeartbeats 4000000 in
set_option maxRecDepth 100000 in
theorem c_X0_route_os2 {T : List pb_Rt} (hT : pb_ok T) (hR : pb_rX T cap Kf Cf Hf) (a k : Nat) (ha : a < 2 ^ 32) (hk : k ≤ 32) (hg : a % 2 ^ (32 - k) = 0) (o : Nat) (ho : o < 8) {r : pb_Rt} (hr1 : T[pb_lb T (pb_pre a k * 8 + o)]? = some r) (hh : pb_hs T (pb_pre a k * 8 + o) = true) : pb_Rd l yX0_route wsX0_route 5 113 (pb_X [.ref h0, .int (nI a), .int (nI k), .int (nI o), .int 2] D (pb_ty cI cJ) (pb_wX cI cJ h0 k1 c1 h1 cap Kf Cf Hf (nI T.length))) (.int (pb_tl r 2)) := by
  refine pb_ofX RX0 (by decide) rfl rfl (Nat.le_of_ble_eq_true rfl) (fun p e s m args below meth c ls hx hb hml hr hlocks hown hts hP hK hl => ?_)
  have hl : lv_has ls 8 [(0, .ref h0), (1, .int (nI a)), (2, .int (nI k)), (3, .int (nI o)), (4, .int 2)] := hl
  have hcap := hR.1
  have hj := (List.getElem?_eq_some_iff.mp hr1).1
  refine lv_iload_n hx hb dX0_route_0 rfl (lv_at hl 1 rfl) ?_
  refine lv_iload_n hx hb dX0_route_1 rfl (lv_at hl 2 rfl) ?_
  refine pb_callSv (As := [.int (nI a), .int (nI k)]) (rest := []) ⟨hx, hb, hml, hown, hts⟩ (c_X0_checkPrefix a k ha hk hg) (va_cwS 2 hts gX0_route_X0_checkPrefix rfl rfl rfl (by decide +kernel) ⟨Nat.le_of_ble_eq_true rfl, Nat.le_of_ble_eq_true rfl⟩) rfl rfl hl (Nat.le_of_ble_eq_true rfl) dX0_route_2 ⟨Nat.zero_le _, Nat.zero_le _⟩ ?_
  refine lv_iload_n hx hb dX0_route_5 rfl (lv_at hl 3 rfl) ?_
  refine lv_iconst (v := (-1)) hx hb dX0_route_6 (by decide) ?_
  refine lv_icmp_eq (tgt := 14) hx hb dX0_route_7 (by decide) (fun q7 => absurd q7 (pb_m1_ne (by omega))) (fun q7 => ?_)
  refine lv_iload_n hx hb dX0_route_10 rfl (lv_at hl 3 rfl) ?_
  refine pb_callSv (As := [.int (nI o)]) (rest := []) ⟨hx, hb, hml, hown, hts⟩ (c_X0_checkOrigin o ho) (va_cwS 1 hts gX0_route_X0_checkOrigin rfl rfl rfl (by decide +kernel) ⟨Nat.le_of_ble_eq_true rfl, Nat.le_of_ble_eq_true rfl⟩) rfl rfl hl (Nat.le_of_ble_eq_true rfl) dX0_route_11 ⟨Nat.zero_le _, Nat.zero_le _⟩ ?_
  refine lv_iload hx hb dX0_route_14 (lv_at hl 4 rfl) ?_
  refine pb_callSv (As := [.int 2]) (rest := []) ⟨hx, hb, hml, hown, hts⟩ (c_X0_checkWhat 2 (by decide)) (va_cwS 1 hts gX0_route_X0_checkWhat rfl rfl rfl (by decide +kernel) ⟨Nat.le_of_ble_eq_true rfl, Nat.le_of_ble_eq_true rfl⟩) rfl rfl hl (Nat.le_of_ble_eq_true rfl) dX0_route_16 ⟨Nat.zero_le _, Nat.zero_le _⟩ ?_
  refine lv_iload_n hx hb dX0_route_19 rfl (lv_at hl 1 rfl) ?_
  refine lv_iload_n hx hb dX0_route_20 rfl (lv_at hl 2 rfl) ?_
  refine pb_callS (As := [.int (nI a), .int (nI k)]) (rest := []) ⟨hx, hb, hml, hown, hts⟩ (c_X0_prefixOf a k ha (by omega)) (va_cwS 2 hts gX0_route_X0_prefixOf rfl rfl rfl (by decide +kernel) ⟨Nat.le_of_ble_eq_true rfl, Nat.le_of_ble_eq_true rfl⟩) rfl rfl hl (Nat.le_of_ble_eq_true rfl) dX0_route_21 ⟨Nat.zero_le _, Nat.zero_le _⟩ ?_
  refine lv_lstore (lv' := [(5, .long (lN (pb_pre a k))), (0, .ref h0), (1, .int (nI a)), (2, .int (nI k)), (3, .int (nI o)), (4, .int 2)]) hx hb dX0_route_24 hl (by decide) rfl (fun ls hl => ?_)
  refine lv_iload_n hx hb dX0_route_26 rfl (lv_at hl 4 rfl) ?_
  refine lv_iconst (v := (-1)) hx hb dX0_route_27 (by decide) ?_
  refine lv_icmp_ne (tgt := 40) hx hb dX0_route_28 (by decide) (fun q28 => ?_) (fun q28 => absurd q28 (pb_m1_ne (by omega)))
  refine lv_aload_n hx hb dX0_route_40 rfl (lv_at hl 1 rfl) ?_
  refine lv_lload hx hb dX0_route_41 (lv_at hl 0 rfl) ?_
  refine lv_iload_n hx hb dX0_route_43 rfl (lv_at hl 4 rfl) ?_
  refine pb_callV (As := [.long (lN (pb_pre a k)), .int (nI o)]) (rest := []) ⟨hx, hb, hml, hown, hts⟩ (c_X0_placeOfRoute hT hR (pb_pre a k) o (by show 64 * a + k < _; omega) ho) (cwV 2 hts gX0_route_X0_placeOfRoute rfl rfl rfl (by decide +kernel) ⟨Nat.le_of_ble_eq_true rfl, Nat.le_of_ble_eq_true rfl⟩) hP hK (va_recv hK hP (ci := 0) (q0 := 0) rfl rfl) rfl rfl hl (Nat.le_of_ble_eq_true rfl) dX0_route_44 ⟨Nat.zero_le _, Nat.zero_le _⟩ ?_
  refine pb_topi (z := nI (pb_lb T (pb_pre a k * 8 + o))) (by rw [if_pos hh]) ?_
  refine lv_istore (lv' := [(7, .int (nI (pb_lb T (pb_pre a k * 8 + o)))), (5, .long (lN (pb_pre a k))), (0, .ref h0), (1, .int (nI a)), (2, .int (nI k)), (3, .int (nI o)), (4, .int 2)]) hx hb dX0_route_47 hl (by decide) rfl (fun ls hl => ?_)
  refine lv_iload hx hb dX0_route_49 (lv_at hl 0 rfl) ?_
  refine lv_iconst (v := (-1)) hx hb dX0_route_51 (by decide) ?_
  refine lv_icmp_ne (tgt := 59) hx hb dX0_route_52 (by decide) (fun q52 => ?_) (fun q52 => absurd q52 (pb_m1_ne (by omega)))
  refine lv_aload_n hx hb dX0_route_59 rfl (lv_at hl 2 rfl) ?_
  refine lv_iload hx hb dX0_route_60 (lv_at hl 0 rfl) ?_
  refine lv_iload hx hb dX0_route_62 (lv_at hl 6 rfl) ?_
  refine pb_callV (As := [.int (nI (pb_lb T (pb_pre a k * 8 + o))), .int 2]) (rest := []) ⟨hx, hb, hml, hown, hts⟩ (c_X0_tell_2 hT hR (pb_lb T (pb_pre a k * 8 + o)) hr1) (cwV 2 hts gX0_route_X0_tell rfl rfl rfl (by decide +kernel) ⟨Nat.le_of_ble_eq_true rfl, Nat.le_of_ble_eq_true rfl⟩) hP hK (va_recv hK hP (ci := 0) (q0 := 0) rfl rfl) rfl rfl hl (Nat.le_of_ble_eq_true rfl) dX0_route_64 ⟨Nat.zero_le _, Nat.zero_le _⟩ ?_
  exact pb_iret hx hb hr hlocks dX0_route_67 (rfl)

set_option maxHeartbeats 4000000 in
set_option maxRecDepth 100000 in
theorem c_X0_route_on2 {T : List pb_Rt} (hT : pb_ok T) (hR : pb_rX T cap Kf Cf Hf) (a k : Nat) (ha : a < 2 ^ 32) (hk : k ≤ 32) (hg : a % 2 ^ (32 - k) = 0) (o : Nat) (ho : o < 8) (hh : pb_hs T (pb_pre a k * 8 + o) = false) : pb_Rd l yX0_route wsX0_route 5 113 (pb_X [.ref h0, .int (nI a), .int (nI k), .int (nI o), .int 2] D (pb_ty cI cJ) (pb_wX cI cJ h0 k1 c1 h1 cap Kf Cf Hf (nI T.length))) (.int (-1)) := by
  refine pb_ofX RX0 (by decide) rfl rfl (Nat.le_of_ble_eq_true rfl) (fun p e s m args below meth c ls hx hb hml hr hlocks hown hts hP hK hl => ?_)
  have hl : lv_has ls 8 [(0, .ref h0), (1, .int (nI a)), (2, .int (nI k)), (3, .int (nI o)), (4, .int 2)] := hl
  have hcap := hR.1
  refine lv_iload_n hx hb dX0_route_0 rfl (lv_at hl 1 rfl) ?_
  refine lv_iload_n hx hb dX0_route_1 rfl (lv_at hl 2 rfl) ?_
  refine pb_callSv (As := [.int (nI a), .int (nI k)]) (rest := []) ⟨hx, hb, hml, hown, hts⟩ (c_X0_checkPrefix a k ha hk hg) (va_cwS 2 hts gX0_route_X0_checkPrefix rfl rfl rfl (by decide +kernel) ⟨Nat.le_of_ble_eq_true rfl, Nat.le_of_ble_eq_true rfl⟩) rfl rfl hl (Nat.le_of_ble_eq_true rfl) dX0_route_2 ⟨Nat.zero_le _, Nat.zero_le _⟩ ?_
  refine lv_iload_n hx hb dX0_route_5 rfl (lv_at hl 3 rfl) ?_
  refine lv_iconst (v := (-1)) hx hb dX0_route_6 (by decide) ?_
  refine lv_icmp_eq (tgt := 14) hx hb dX0_route_7 (by decide) (fun q7 => absurd q7 (pb_m1_ne (by omega))) (fun q7 => ?_)
  refine lv_iload_n hx hb dX0_route_10 rfl (lv_at hl 3 rfl) ?_
  refine pb_callSv (As := [.int (nI o)]) (rest := []) ⟨hx, hb, hml, hown, hts⟩ (c_X0_checkOrigin o ho) (va_cwS 1 hts gX0_route_X0_checkOrigin rfl rfl rfl (by decide +kernel) ⟨Nat.le_of_ble_eq_true rfl, Nat.le_of_ble_eq_true rfl⟩) rfl rfl hl (Nat.le_of_ble_eq_true rfl) dX0_route_11 ⟨Nat.zero_le _, Nat.zero_le _⟩ ?_
  refine lv_iload hx hb dX0_route_14 (lv_at hl 4 rfl) ?_
  refine pb_callSv (As := [.int 2]) (rest := []) ⟨hx, hb, hml, hown, hts⟩ (c_X0_checkWhat 2 (by decide)) (va_cwS 1 hts gX0_route_X0_checkWhat rfl rfl rfl (by decide +kernel) ⟨Nat.le_of_ble_eq_true rfl, Nat.le_of_ble_eq_true rfl⟩) rfl rfl hl (Nat.le_of_ble_eq_true rfl) dX0_route_16 ⟨Nat.zero_le _, Nat.zero_le _⟩ ?_
  refine lv_iload_n hx hb dX0_route_19 rfl (lv_at hl 1 rfl) ?_
  refine lv_iload_n hx hb dX0_route_20 rfl (lv_at hl 2 rfl) ?_
  refine pb_callS (As := [.int (nI a), .int (nI k)]) (rest := []) ⟨hx, hb, hml, hown, hts⟩ (c_X0_prefixOf a k ha (by omega)) (va_cwS 2 hts gX0_route_X0_prefixOf rfl rfl rfl (by decide +kernel) ⟨Nat.le_of_ble_eq_true rfl, Nat.le_of_ble_eq_true rfl⟩) rfl rfl hl (Nat.le_of_ble_eq_true rfl) dX0_route_21 ⟨Nat.zero_le _, Nat.zero_le _⟩ ?_
  refine lv_lstore (lv' := [(5, .long (lN (pb_pre a k))), (0, .ref h0), (1, .int (nI a)), (2, .int (nI k)), (3, .int (nI o)), (4, .int 2)]) hx hb dX0_route_24 hl (by decide) rfl (fun ls hl => ?_)
  refine lv_iload_n hx hb dX0_route_26 rfl (lv_at hl 4 rfl) ?_
  refine lv_iconst (v := (-1)) hx hb dX0_route_27 (by decide) ?_
  refine lv_icmp_ne (tgt := 40) hx hb dX0_route_28 (by decide) (fun q28 => ?_) (fun q28 => absurd q28 (pb_m1_ne (by omega)))
  refine lv_aload_n hx hb dX0_route_40 rfl (lv_at hl 1 rfl) ?_
  refine lv_lload hx hb dX0_route_41 (lv_at hl 0 rfl) ?_
  refine lv_iload_n hx hb dX0_route_43 rfl (lv_at hl 4 rfl) ?_
  refine pb_callV (As := [.long (lN (pb_pre a k)), .int (nI o)]) (rest := []) ⟨hx, hb, hml, hown, hts⟩ (c_X0_placeOfRoute hT hR (pb_pre a k) o (by show 64 * a + k < _; omega) ho) (cwV 2 hts gX0_route_X0_placeOfRoute rfl rfl rfl (by decide +kernel) ⟨Nat.le_of_ble_eq_true rfl, Nat.le_of_ble_eq_true rfl⟩) hP hK (va_recv hK hP (ci := 0) (q0 := 0) rfl rfl) rfl rfl hl (Nat.le_of_ble_eq_true rfl) dX0_route_44 ⟨Nat.zero_le _, Nat.zero_le _⟩ ?_
  refine pb_topi (z := (-1)) (by rw [hh]; rfl) ?_
  refine lv_istore (lv' := [(7, .int (-1)), (5, .long (lN (pb_pre a k))), (0, .ref h0), (1, .int (nI a)), (2, .int (nI k)), (3, .int (nI o)), (4, .int 2)]) hx hb dX0_route_47 hl (by decide) rfl (fun ls hl => ?_)
  refine lv_iload hx hb dX0_route_49 (lv_at hl 0 rfl) ?_
  refine lv_iconst (v := (-1)) hx hb dX0_route_51 (by decide) ?_
  refine lv_icmp_ne (tgt := 59) hx hb dX0_route_52 (by decide) (fun q52 => absurd q52 (fun z => z rfl)) (fun q52 => ?_)
  refine lv_iconst (v := (-1)) hx hb dX0_route_55 (by decide) ?_
  refine lv_goto (tgt := 67) hx hb dX0_route_56 (by decide) ?_
  exact pb_iret hx hb hr hlocks dX0_route_67 (rfl)

set_option maxHeartbeats 4000000 in
set_option maxRecDepth 100000 in
theorem c_X0_route_bs2 {T : List pb_Rt} (hT : pb_ok T) (hR : pb_rX T cap Kf Cf Hf) (a k : Nat) (ha : a < 2 ^ 32) (hk : k ≤ 32) (hg : a % 2 ^ (32 - k) = 0) {r : pb_Rt} (hr1 : T[pb_lb T (pb_pre a k * 8)]? = some r) (hh : pb_kn T (pb_pre a k) = true) : pb_Rd l yX0_route wsX0_route 5 113 (pb_X [.ref h0, .int (nI a), .int (nI k), .int (-1), .int 2] D (pb_ty cI cJ) (pb_wX cI cJ h0 k1 c1 h1 cap Kf Cf Hf (nI T.length))) (.int (pb_tl r 2)) := by
  refine pb_ofX RX0 (by decide) rfl rfl (Nat.le_of_ble_eq_true rfl) (fun p e s m args below meth c ls hx hb hml hr hlocks hown hts hP hK hl => ?_)
  have hl : lv_has ls 8 [(0, .ref h0), (1, .int (nI a)), (2, .int (nI k)), (3, .int (-1)), (4, .int 2)] := hl
  have hcap := hR.1
  have hj := (List.getElem?_eq_some_iff.mp hr1).1
  refine lv_iload_n hx hb dX0_route_0 rfl (lv_at hl 1 rfl) ?_
  refine lv_iload_n hx hb dX0_route_1 rfl (lv_at hl 2 rfl) ?_
  refine pb_callSv (As := [.int (nI a), .int (nI k)]) (rest := []) ⟨hx, hb, hml, hown, hts⟩ (c_X0_checkPrefix a k ha hk hg) (va_cwS 2 hts gX0_route_X0_checkPrefix rfl rfl rfl (by decide +kernel) ⟨Nat.le_of_ble_eq_true rfl, Nat.le_of_ble_eq_true rfl⟩) rfl rfl hl (Nat.le_of_ble_eq_true rfl) dX0_route_2 ⟨Nat.zero_le _, Nat.zero_le _⟩ ?_
  refine lv_iload_n hx hb dX0_route_5 rfl (lv_at hl 3 rfl) ?_
  refine lv_iconst (v := (-1)) hx hb dX0_route_6 (by decide) ?_
  refine lv_icmp_eq (tgt := 14) hx hb dX0_route_7 (by decide) (fun q7 => ?_) (fun q7 => absurd (rfl) q7)
  refine lv_iload hx hb dX0_route_14 (lv_at hl 4 rfl) ?_
  refine pb_callSv (As := [.int 2]) (rest := []) ⟨hx, hb, hml, hown, hts⟩ (c_X0_checkWhat 2 (by decide)) (va_cwS 1 hts gX0_route_X0_checkWhat rfl rfl rfl (by decide +kernel) ⟨Nat.le_of_ble_eq_true rfl, Nat.le_of_ble_eq_true rfl⟩) rfl rfl hl (Nat.le_of_ble_eq_true rfl) dX0_route_16 ⟨Nat.zero_le _, Nat.zero_le _⟩ ?_
  refine lv_iload_n hx hb dX0_route_19 rfl (lv_at hl 1 rfl) ?_
  refine lv_iload_n hx hb dX0_route_20 rfl (lv_at hl 2 rfl) ?_
  refine pb_callS (As := [.int (nI a), .int (nI k)]) (rest := []) ⟨hx, hb, hml, hown, hts⟩ (c_X0_prefixOf a k ha (by omega)) (va_cwS 2 hts gX0_route_X0_prefixOf rfl rfl rfl (by decide +kernel) ⟨Nat.le_of_ble_eq_true rfl, Nat.le_of_ble_eq_true rfl⟩) rfl rfl hl (Nat.le_of_ble_eq_true rfl) dX0_route_21 ⟨Nat.zero_le _, Nat.zero_le _⟩ ?_
  refine lv_lstore (lv' := [(5, .long (lN (pb_pre a k))), (0, .ref h0), (1, .int (nI a)), (2, .int (nI k)), (3, .int (-1)), (4, .int 2)]) hx hb dX0_route_24 hl (by decide) rfl (fun ls hl => ?_)
  refine lv_iload_n hx hb dX0_route_26 rfl (lv_at hl 4 rfl) ?_
  refine lv_iconst (v := (-1)) hx hb dX0_route_27 (by decide) ?_
  refine lv_icmp_ne (tgt := 40) hx hb dX0_route_28 (by decide) (fun q28 => absurd q28 (fun z => z rfl)) (fun q28 => ?_)
  refine lv_aload_n hx hb dX0_route_31 rfl (lv_at hl 1 rfl) ?_
  refine lv_lload hx hb dX0_route_32 (lv_at hl 0 rfl) ?_
  refine pb_callV (As := [.long (lN (pb_pre a k))]) (rest := []) ⟨hx, hb, hml, hown, hts⟩ (c_X0_placeOfBest hT hR (pb_pre a k) (by show 64 * a + k < _; omega)) (cwV 1 hts gX0_route_X0_placeOfBest rfl rfl rfl (by decide +kernel) ⟨Nat.le_of_ble_eq_true rfl, Nat.le_of_ble_eq_true rfl⟩) hP hK (va_recv hK hP (ci := 0) (q0 := 0) rfl rfl) rfl rfl hl (Nat.le_of_ble_eq_true rfl) dX0_route_34 ⟨Nat.zero_le _, Nat.zero_le _⟩ ?_
  refine lv_goto (tgt := 47) hx hb dX0_route_37 (by decide) ?_
  refine pb_topi (z := nI (pb_lb T (pb_pre a k * 8))) (by rw [if_pos hh]) ?_
  refine lv_istore (lv' := [(7, .int (nI (pb_lb T (pb_pre a k * 8)))), (5, .long (lN (pb_pre a k))), (0, .ref h0), (1, .int (nI a)), (2, .int (nI k)), (3, .int (-1)), (4, .int 2)]) hx hb dX0_route_47 hl (by decide) rfl (fun ls hl => ?_)
  refine lv_iload hx hb dX0_route_49 (lv_at hl 0 rfl) ?_
  refine lv_iconst (v := (-1)) hx hb dX0_route_51 (by decide) ?_
  refine lv_icmp_ne (tgt := 59) hx hb dX0_route_52 (by decide) (fun q52 => ?_) (fun q52 => absurd q52 (pb_m1_ne (by omega)))
  refine lv_aload_n hx hb dX0_route_59 rfl (lv_at hl 2 rfl) ?_
  refine lv_iload hx hb dX0_route_60 (lv_at hl 0 rfl) ?_
  refine lv_iload hx hb dX0_route_62 (lv_at hl 6 rfl) ?_
  refine pb_callV (As := [.int (nI (pb_lb T (pb_pre a k * 8))), .int 2]) (rest := []) ⟨hx, hb, hml, hown, hts⟩ (c_X0_tell_2 hT hR (pb_lb T (pb_pre a k * 8)) hr1) (cwV 2 hts gX0_route_X0_tell rfl rfl rfl (by decide +kernel) ⟨Nat.le_of_ble_eq_true rfl, Nat.le_of_ble_eq_true rfl⟩) hP hK (va_recv hK hP (ci := 0) (q0 := 0) rfl rfl) rfl rfl hl (Nat.le_of_ble_eq_true rfl) dX0_route_64 ⟨Nat.zero_le _, Nat.zero_le _⟩ ?_
  exact pb_iret hx hb hr hlocks dX0_route_67 (rfl)

set_option maxHeartbeats 4000000 in
set_option maxRecDepth 100000 in
theorem c_X0_route_bn2 {T : List pb_Rt} (hT : pb_ok T) (hR : pb_rX T cap Kf Cf Hf) (a k : Nat) (ha : a < 2 ^ 32) (hk : k ≤ 32) (hg : a % 2 ^ (32 - k) = 0) (hh : pb_kn T (pb_pre a k) = false) : pb_Rd l yX0_route wsX0_route 5 113 (pb_X [.ref h0, .int (nI a), .int (nI k), .int (-1), .int 2] D (pb_ty cI cJ) (pb_wX cI cJ h0 k1 c1 h1 cap Kf Cf Hf (nI T.length))) (.int (-1)) := by
  refine pb_ofX RX0 (by decide) rfl rfl (Nat.le_of_ble_eq_true rfl) (fun p e s m args below meth c ls hx hb hml hr hlocks hown hts hP hK hl => ?_)
  have hl : lv_has ls 8 [(0, .ref h0), (1, .int (nI a)), (2, .int (nI k)), (3, .int (-1)), (4, .int 2)] := hl
  have hcap := hR.1
  refine lv_iload_n hx hb dX0_route_0 rfl (lv_at hl 1 rfl) ?_
  refine lv_iload_n hx hb dX0_route_1 rfl (lv_at hl 2 rfl) ?_
  refine pb_callSv (As := [.int (nI a), .int (nI k)]) (rest := []) ⟨hx, hb, hml, hown, hts⟩ (c_X0_checkPrefix a k ha hk hg) (va_cwS 2 hts gX0_route_X0_checkPrefix rfl rfl rfl (by decide +kernel) ⟨Nat.le_of_ble_eq_true rfl, Nat.le_of_ble_eq_true rfl⟩) rfl rfl hl (Nat.le_of_ble_eq_true rfl) dX0_route_2 ⟨Nat.zero_le _, Nat.zero_le _⟩ ?_
  refine lv_iload_n hx hb dX0_route_5 rfl (lv_at hl 3 rfl) ?_
  refine lv_iconst (v := (-1)) hx hb dX0_route_6 (by decide) ?_
  refine lv_icmp_eq (tgt := 14) hx hb dX0_route_7 (by decide) (fun q7 => ?_) (fun q7 => absurd (rfl) q7)
  refine lv_iload hx hb dX0_route_14 (lv_at hl 4 rfl) ?_
  refine pb_callSv (As := [.int 2]) (rest := []) ⟨hx, hb, hml, hown, hts⟩ (c_X0_checkWhat 2 (by decide)) (va_cwS 1 hts gX0_route_X0_checkWhat rfl rfl rfl (by decide +kernel) ⟨Nat.le_of_ble_eq_true rfl, Nat.le_of_ble_eq_true rfl⟩) rfl rfl hl (Nat.le_of_ble_eq_true rfl) dX0_route_16 ⟨Nat.zero_le _, Nat.zero_le _⟩ ?_
  refine lv_iload_n hx hb dX0_route_19 rfl (lv_at hl 1 rfl) ?_
  refine lv_iload_n hx hb dX0_route_20 rfl (lv_at hl 2 rfl) ?_
  refine pb_callS (As := [.int (nI a), .int (nI k)]) (rest := []) ⟨hx, hb, hml, hown, hts⟩ (c_X0_prefixOf a k ha (by omega)) (va_cwS 2 hts gX0_route_X0_prefixOf rfl rfl rfl (by decide +kernel) ⟨Nat.le_of_ble_eq_true rfl, Nat.le_of_ble_eq_true rfl⟩) rfl rfl hl (Nat.le_of_ble_eq_true rfl) dX0_route_21 ⟨Nat.zero_le _, Nat.zero_le _⟩ ?_
  refine lv_lstore (lv' := [(5, .long (lN (pb_pre a k))), (0, .ref h0), (1, .int (nI a)), (2, .int (nI k)), (3, .int (-1)), (4, .int 2)]) hx hb dX0_route_24 hl (by decide) rfl (fun ls hl => ?_)
  refine lv_iload_n hx hb dX0_route_26 rfl (lv_at hl 4 rfl) ?_
  refine lv_iconst (v := (-1)) hx hb dX0_route_27 (by decide) ?_
  refine lv_icmp_ne (tgt := 40) hx hb dX0_route_28 (by decide) (fun q28 => absurd q28 (fun z => z rfl)) (fun q28 => ?_)
  refine lv_aload_n hx hb dX0_route_31 rfl (lv_at hl 1 rfl) ?_
  refine lv_lload hx hb dX0_route_32 (lv_at hl 0 rfl) ?_
  refine pb_callV (As := [.long (lN (pb_pre a k))]) (rest := []) ⟨hx, hb, hml, hown, hts⟩ (c_X0_placeOfBest hT hR (pb_pre a k) (by show 64 * a + k < _; omega)) (cwV 1 hts gX0_route_X0_placeOfBest rfl rfl rfl (by decide +kernel) ⟨Nat.le_of_ble_eq_true rfl, Nat.le_of_ble_eq_true rfl⟩) hP hK (va_recv hK hP (ci := 0) (q0 := 0) rfl rfl) rfl rfl hl (Nat.le_of_ble_eq_true rfl) dX0_route_34 ⟨Nat.zero_le _, Nat.zero_le _⟩ ?_
  refine lv_goto (tgt := 47) hx hb dX0_route_37 (by decide) ?_
  refine pb_topi (z := (-1)) (by rw [hh]; rfl) ?_
  refine lv_istore (lv' := [(7, .int (-1)), (5, .long (lN (pb_pre a k))), (0, .ref h0), (1, .int (nI a)), (2, .int (nI k)), (3, .int (-1)), (4, .int 2)]) hx hb dX0_route_47 hl (by decide) rfl (fun ls hl => ?_)
  refine lv_iload hx hb dX0_route_49 (lv_at hl 0 rfl) ?_
  refine lv_iconst (v := (-1)) hx hb dX0_route_51 (by decide) ?_
  refine lv_icmp_ne (tgt := 59) hx hb dX0_route_52 (by decide) (fun q52 => absurd q52 (fun z => z rfl)) (fun q52 => ?_)
  refine lv_iconst (v := (-1)) hx hb dX0_route_55 (by decide) ?_
  refine lv_goto (tgt := 67) hx hb dX0_route_56 (by decide) ?_
  exact pb_iret hx hb hr hlocks dX0_route_67 (rfl)

end PB4
