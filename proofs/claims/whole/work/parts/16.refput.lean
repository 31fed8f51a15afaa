/-! put, take, route of the reference; thrown (laid by wip/gen/p16.py) -/
section PB13
theorem pb_repM_h0 {T : List pb_Rt} {Af Lf Of Cf : Nat → Int32} {Hf : Nat → Int64} (h : pb_repM T Af Lf Of Cf Hf) {i : Nat} {r : pb_Rt} (hr : T[i]? = some r) : pb_repM (T.set i (r.1, r.2.1, 0)) Af Lf Of Cf (va_up Hf i 0) := by
  intro j x hj
  rw [List.getElem?_set] at hj
  unfold va_up
  by_cases hij : i = j
  · subst hij
    rw [if_pos rfl] at hj
    split at hj
    · cases hj
      rw [if_pos rfl]
      obtain ⟨e1, e2, e3, e4, -⟩ := h i r hr
      exact ⟨e1, e2, e3, e4, rfl⟩
    · cases hj
  · rw [if_neg hij] at hj
    rw [if_neg (Ne.symm hij)]
    exact h j x hj
theorem pb_fm_id {T : List pb_Rt} (h : ∀ r ∈ T, r.2.2 ≠ 0) : T.filterMap pb_gz = T := by
  induction T with
  | nil => rfl
  | cons t T ih =>
    have h1 : pb_gz t = some t := if_neg (h t List.mem_cons_self)
    rw [List.filterMap_cons, h1, ih (fun r hr => h r (List.mem_cons_of_mem _ hr))]
theorem pb_fm_er {T : List pb_Rt} (h : ∀ r ∈ T, r.2.2 ≠ 0) : ∀ {i : Nat} {r : pb_Rt}, T[i]? = some r → (T.set i (r.1, r.2.1, 0)).filterMap pb_gz = T.eraseIdx i := by
  induction T with
  | nil => intro i r hr; simp at hr
  | cons t T ih =>
    intro i r hr
    cases i with
    | zero =>
      rw [List.set_cons_zero, List.eraseIdx_cons_zero, List.filterMap_cons, show pb_gz (r.1, r.2.1, 0) = none from if_pos rfl]
      exact pb_fm_id (fun r hr => h r (List.mem_cons_of_mem _ hr))
    | succ i =>
      rw [List.getElem?_cons_succ] at hr
      rw [List.set_cons_succ, List.eraseIdx_cons_succ, List.filterMap_cons, show pb_gz t = some t from if_neg (h t List.mem_cons_self), ih (fun r hr => h r (List.mem_cons_of_mem _ hr)) hr]
theorem pb_nom (o : Nat) (ho : o < 2 ^ 31) : ¬ nI o < -1 := by
  rw [Int32.lt_iff_toInt_lt, nI_toInt ho, show (-1 : Int32).toInt = -1 from by decide]
  omega
variable {l : Launch} {D : va_G} {cI cJ : ClassId} {m0 a1 l1 o1 c1 h1 sz : Nat} {Af Lf Of Cf : Nat → Int32} {Hf : Nat → Int64} {co : Int32}
set_option maxHeartbeats 4000000 in
set_option maxRecDepth 100000 in
theorem c_X1_thrown (n9 : Int32) : pb_Rd l yX1_thrown wsX1_thrown 0 0 (pb_X [.ref m0] D (pb_ty cI cJ) (pb_wM cI cJ m0 a1 l1 o1 c1 h1 Af Lf Of Cf Hf co n9)) (.int co) := by
  refine pb_ofX RX1 (by decide) rfl rfl (Nat.le_of_ble_eq_true rfl) (fun p e s m args below meth c ls hx hb hml hr hlocks hown hts hP hK hl => ?_)
  have hinX1 : ∀ w ∈ wsX10, w ∈ wsX1_thrown := by decide +kernel
  have hl : lv_has ls 1 [(0, .ref m0)] := hl
  refine lv_aload_n hx hb dX1_thrown_0 rfl (lv_at hl 0 rfl) ?_
  refine va_get (D := D) (ci := 1) (v := .int co) (C := RX1) (T := TX1) (N := 7) hx hb hts hinX1 hown hK hP 0 rfl rfl 0 (by decide) (hts (.fieldLink RX1 26 "PrefixBenchModel" "code" "I") (by decide +kernel)) (fun _ h9 => h9) rfl dX1_thrown_1 ?_
  exact pb_iret hx hb hr hlocks dX1_thrown_4 (rfl)

set_option maxHeartbeats 4000000 in
set_option maxRecDepth 100000 in
theorem c_X1_take_n {T : List pb_Rt} (hT : pb_ok T) (hR : pb_rM T Af Lf Of Cf Hf) (a k o : Nat) (ha : a < 2 ^ 32) (hk : k ≤ 32) (hg : a % 2 ^ (32 - k) = 0) (ho : o < 8) (hh : pb_hs T (pb_pre a k * 8 + o) = false) : pb_Wq l yX1_take wsX1_take 4 0 0 88 [.ref m0, .int (nI a), .int (nI k), .int (nI o)] D (pb_ty cI cJ) (pb_wM cI cJ m0 a1 l1 o1 c1 h1 Af Lf Of Cf Hf co (nI T.length)) sz (some (.int 0)) (pb_B D (pb_ty cI cJ) (pb_wM cI cJ m0 a1 l1 o1 c1 h1 Af Lf Of Cf Hf 0 (nI T.length))) := by
  refine pb_ofW RX1 (by decide) rfl rfl (Nat.le_of_ble_eq_true rfl) (fun p e s m args below meth c ls A hx hb hml hr hlocks hown hts hP hK hD hS hA hl hin9 => ?_)
  have hinX1 : ∀ w ∈ wsX10, w ∈ wsX1_take := by decide +kernel
  have hl : lv_has ls 6 [(0, .ref m0), (1, .int (nI a)), (2, .int (nI k)), (3, .int (nI o))] := hl
  have hP : va_P D vwCl (pb_wM cI cJ m0 a1 l1 o1 c1 h1 Af Lf Of Cf Hf co (nI T.length)) s.heap := hP
  have hD : va_D A (pb_wM cI cJ m0 a1 l1 o1 c1 h1 Af Lf Of Cf Hf co (nI T.length)) := hD
  have hcap := hR.1
  refine lv_iload_n hx hb dX1_take_0 rfl (lv_at hl 1 rfl) ?_
  refine lv_iload_n hx hb dX1_take_1 rfl (lv_at hl 2 rfl) ?_
  refine pb_callS (As := [.int (nI a), .int (nI k)]) (rest := []) ⟨hx, hb, hml, hown, hts⟩ (c_X1_isPrefix_t a k ha hk hg) (va_cwS 2 hts gX1_take_X1_isPrefix rfl rfl rfl (by decide +kernel) ⟨Nat.le_of_ble_eq_true rfl, Nat.le_of_ble_eq_true rfl⟩) rfl rfl hl (Nat.le_of_ble_eq_true rfl) dX1_take_2 ⟨Nat.le_of_ble_eq_true rfl, Nat.le_of_ble_eq_true rfl⟩ ?_
  refine lv_if_eq (tgt := 22) hx hb dX1_take_5 (by decide) (fun q5 => absurd q5 (by decide)) (fun q5 => ?_)
  refine lv_iload_n hx hb dX1_take_8 rfl (lv_at hl 3 rfl) ?_
  refine lv_if_lt (tgt := 22) hx hb dX1_take_9 (by decide) (fun q9 => absurd q9 (nI_pos (by omega))) (fun q9 => ?_)
  refine lv_iload_n hx hb dX1_take_12 rfl (lv_at hl 3 rfl) ?_
  refine lv_bipush (v := 8) hx hb dX1_take_13 (by decide) ?_
  refine lv_icmp_ge (tgt := 22) hx hb dX1_take_15 (by decide) (fun q15 => absurd q15 (fun z => absurd ((nI_leI (a := 8) (b := o) (by decide) (by omega)).mp z) (by omega))) (fun q15 => ?_)
  refine lv_iconst (v := 1) hx hb dX1_take_18 (by decide) ?_
  refine lv_goto (tgt := 23) hx hb dX1_take_19 (by decide) ?_
  refine lv_istore (lv' := [(4, .int 1), (0, .ref m0), (1, .int (nI a)), (2, .int (nI k)), (3, .int (nI o))]) hx hb dX1_take_23 hl (by decide) rfl (fun ls hl => ?_)
  refine lv_aload_n hx hb dX1_take_25 rfl (lv_at hl 1 rfl) ?_
  refine lv_iload hx hb dX1_take_26 (lv_at hl 0 rfl) ?_
  refine lv_if_eq (tgt := 35) hx hb dX1_take_28 (by decide) (fun q28 => absurd q28 (by decide)) (fun q28 => ?_)
  refine lv_iconst (v := 0) hx hb dX1_take_31 (by decide) ?_
  refine lv_goto (tgt := 36) hx hb dX1_take_32 (by decide) ?_
  refine va_put (D := D) (ci := 1) (v := .int 0) (ty := .int) (C := RX1) (T := TX1) (N := 7) hx hb hts hinX1 tyX1 tyX1_ok nmX1 hown hK hP hD hS 0 rfl rfl 0 (by decide) (hts (.fieldLink RX1 26 "PrefixBenchModel" "code" "I") (by decide +kernel)) (fun _ h9 => h9) rfl (by decide +kernel) rfl rfl (Nat.le_of_ble_eq_true rfl) dX1_take_36 (fun H locs hP hD hS => ?_)
  have hP : va_P D vwCl (pb_wM cI cJ m0 a1 l1 o1 c1 h1 Af Lf Of Cf Hf 0 (nI T.length)) H := hP
  have hD : va_D A (pb_wM cI cJ m0 a1 l1 o1 c1 h1 Af Lf Of Cf Hf 0 (nI T.length)) := hD
  refine lv_iload hx hb dX1_take_39 (lv_at hl 0 rfl) ?_
  refine lv_if_eq (tgt := 57) hx hb dX1_take_41 (by decide) (fun q41 => absurd q41 (by decide)) (fun q41 => ?_)
  refine lv_aload_n hx hb dX1_take_44 rfl (lv_at hl 1 rfl) ?_
  refine lv_iload_n hx hb dX1_take_45 rfl (lv_at hl 2 rfl) ?_
  refine lv_iload_n hx hb dX1_take_46 rfl (lv_at hl 3 rfl) ?_
  refine lv_iload_n hx hb dX1_take_47 rfl (lv_at hl 4 rfl) ?_
  refine pb_callS (As := [.int (nI a), .int (nI k), .int (nI o)]) (rest := [.ref m0]) ⟨hx, hb, hml, hown, hts⟩ (c_X1_rank a k o ha (by omega) (by omega)) (va_cwS 3 hts gX1_take_X1_rank rfl rfl rfl (by decide +kernel) ⟨Nat.le_of_ble_eq_true rfl, Nat.le_of_ble_eq_true rfl⟩) rfl rfl hl (Nat.le_of_ble_eq_true rfl) dX1_take_48 ⟨Nat.le_of_ble_eq_true rfl, Nat.le_of_ble_eq_true rfl⟩ ?_
  refine pb_callV (As := [.long (lN (pb_pre a k * 8 + o))]) (rest := []) ⟨hx, hb, hml, hown, hts⟩ (c_X1_place hT hR (pb_pre a k * 8 + o) (by show (64 * a + k) * 8 + o < _; omega)) (cwV 1 hts gX1_take_X1_place rfl rfl rfl (by decide +kernel) ⟨Nat.le_of_ble_eq_true rfl, Nat.le_of_ble_eq_true rfl⟩) hP hK (va_recv hK hP (ci := 1) (q0 := 0) rfl rfl) rfl rfl hl (Nat.le_of_ble_eq_true rfl) dX1_take_51 ⟨Nat.le_of_ble_eq_true rfl, Nat.le_of_ble_eq_true rfl⟩ ?_
  refine lv_goto (tgt := 58) hx hb dX1_take_54 (by decide) ?_
  refine lv_istore (lv' := [(5, .int (nI (pb_lb T (pb_pre a k * 8 + o)))), (4, .int 1), (0, .ref m0), (1, .int (nI a)), (2, .int (nI k)), (3, .int (nI o))]) hx hb dX1_take_58 hl (by decide) rfl (fun ls hl => ?_)
  refine lv_iload hx hb dX1_take_60 (lv_at hl 1 rfl) ?_
  refine lv_if_eq (tgt := 77) hx hb dX1_take_62 (by decide) (fun q62 => absurd q62 (by decide)) (fun q62 => ?_)
  refine lv_aload_n hx hb dX1_take_65 rfl (lv_at hl 2 rfl) ?_
  refine lv_iload hx hb dX1_take_66 (lv_at hl 0 rfl) ?_
  refine lv_iload_n hx hb dX1_take_68 rfl (lv_at hl 3 rfl) ?_
  refine lv_iload_n hx hb dX1_take_69 rfl (lv_at hl 4 rfl) ?_
  refine lv_iload_n hx hb dX1_take_70 rfl (lv_at hl 5 rfl) ?_
  have hle := pb_lb_le T (pb_pre a k * 8 + o)
  rcases hd : T[(pb_lb T (pb_pre a k * 8 + o))]? with _ | r
  · have hle2 := List.getElem?_eq_none_iff.mp hd
    refine pb_callV (As := [.int (nI (pb_lb T (pb_pre a k * 8 + o))), .int (nI a), .int (nI k), .int (nI o)]) (rest := []) ⟨hx, hb, hml, hown, hts⟩ (c_X1_isThere_n (pb_lb T (pb_pre a k * 8 + o)) T.length ⟨hle2, by omega⟩ (nI a) (nI k) (nI o)) (cwV 4 hts gX1_take_X1_isThere rfl rfl rfl (by decide +kernel) ⟨Nat.le_of_ble_eq_true rfl, Nat.le_of_ble_eq_true rfl⟩) hP hK (va_recv hK hP (ci := 1) (q0 := 0) rfl rfl) rfl rfl hl (Nat.le_of_ble_eq_true rfl) dX1_take_71 ⟨Nat.le_of_ble_eq_true rfl, Nat.le_of_ble_eq_true rfl⟩ ?_
    refine lv_if_ne (tgt := 79) hx hb dX1_take_74 (by decide) (fun q74 => absurd q74 (fun z => z rfl)) (fun q74 => ?_)
    refine lv_iconst (v := 0) hx hb dX1_take_77 (by decide) ?_
    exact pb_wz hx hb hr hlocks hS dX1_take_78 (by decide) (rfl) (pb_B_of hP hK hD)
  · have hkb := pb_key_lt hT (List.mem_of_getElem? hd)
    have hlt := pb_lb_lt hd
    have hiff := pb_hs_iff hT.1 hd
    refine pb_callV (As := [.int (nI (pb_lb T (pb_pre a k * 8 + o))), .int (nI a), .int (nI k), .int (nI o)]) (rest := []) ⟨hx, hb, hml, hown, hts⟩ (c_X1_isThere_s hT hR (pb_lb T (pb_pre a k * 8 + o)) hd a k o ha (by omega) ho) (cwV 4 hts gX1_take_X1_isThere rfl rfl rfl (by decide +kernel) ⟨Nat.le_of_ble_eq_true rfl, Nat.le_of_ble_eq_true rfl⟩) hP hK (va_recv hK hP (ci := 1) (q0 := 0) rfl rfl) rfl rfl hl (Nat.le_of_ble_eq_true rfl) dX1_take_71 ⟨Nat.le_of_ble_eq_true rfl, Nat.le_of_ble_eq_true rfl⟩ ?_
    refine pb_topi (z := 0) (if_neg (fun z => by rw [hiff.mp z] at hh; exact absurd hh (by decide))) ?_
    refine lv_if_ne (tgt := 79) hx hb dX1_take_74 (by decide) (fun q74 => absurd q74 (fun z => z rfl)) (fun q74 => ?_)
    refine lv_iconst (v := 0) hx hb dX1_take_77 (by decide) ?_
    exact pb_wz hx hb hr hlocks hS dX1_take_78 (by decide) (rfl) (pb_B_of hP hK hD)

set_option maxHeartbeats 4000000 in
set_option maxRecDepth 100000 in
theorem c_X1_take_s {T : List pb_Rt} (hT : pb_ok T) (hR : pb_rM T Af Lf Of Cf Hf) (a k o : Nat) (ha : a < 2 ^ 32) (hk : k ≤ 32) (hg : a % 2 ^ (32 - k) = 0) (ho : o < 8) {r : pb_Rt} (hr1 : T[(pb_lb T (pb_pre a k * 8 + o))]? = some r) (hh : pb_hs T (pb_pre a k * 8 + o) = true) : pb_Wq l yX1_take wsX1_take 4 0 0 88 [.ref m0, .int (nI a), .int (nI k), .int (nI o)] D (pb_ty cI cJ) (pb_wM cI cJ m0 a1 l1 o1 c1 h1 Af Lf Of Cf Hf co (nI T.length)) sz (some (.int 1)) (pb_BM D cI cJ m0 a1 l1 o1 c1 h1 (T.eraseIdx (pb_lb T (pb_pre a k * 8 + o))) 0) := by
  refine pb_ofW RX1 (by decide) rfl rfl (Nat.le_of_ble_eq_true rfl) (fun p e s m args below meth c ls A hx hb hml hr hlocks hown hts hP hK hD hS hA hl hin9 => ?_)
  have hinX1 : ∀ w ∈ wsX10, w ∈ wsX1_take := by decide +kernel
  have hl : lv_has ls 6 [(0, .ref m0), (1, .int (nI a)), (2, .int (nI k)), (3, .int (nI o))] := hl
  have hP : va_P D vwCl (pb_wM cI cJ m0 a1 l1 o1 c1 h1 Af Lf Of Cf Hf co (nI T.length)) s.heap := hP
  have hD : va_D A (pb_wM cI cJ m0 a1 l1 o1 c1 h1 Af Lf Of Cf Hf co (nI T.length)) := hD
  have hcap := hR.1
  have hlt := pb_lb_lt hr1
  have hno0 : ∀ r ∈ T, r.2.2 ≠ 0 := fun r hr => (hT.2 r hr).2.2.2
  refine lv_iload_n hx hb dX1_take_0 rfl (lv_at hl 1 rfl) ?_
  refine lv_iload_n hx hb dX1_take_1 rfl (lv_at hl 2 rfl) ?_
  refine pb_callS (As := [.int (nI a), .int (nI k)]) (rest := []) ⟨hx, hb, hml, hown, hts⟩ (c_X1_isPrefix_t a k ha hk hg) (va_cwS 2 hts gX1_take_X1_isPrefix rfl rfl rfl (by decide +kernel) ⟨Nat.le_of_ble_eq_true rfl, Nat.le_of_ble_eq_true rfl⟩) rfl rfl hl (Nat.le_of_ble_eq_true rfl) dX1_take_2 ⟨Nat.le_of_ble_eq_true rfl, Nat.le_of_ble_eq_true rfl⟩ ?_
  refine lv_if_eq (tgt := 22) hx hb dX1_take_5 (by decide) (fun q5 => absurd q5 (by decide)) (fun q5 => ?_)
  refine lv_iload_n hx hb dX1_take_8 rfl (lv_at hl 3 rfl) ?_
  refine lv_if_lt (tgt := 22) hx hb dX1_take_9 (by decide) (fun q9 => absurd q9 (nI_pos (by omega))) (fun q9 => ?_)
  refine lv_iload_n hx hb dX1_take_12 rfl (lv_at hl 3 rfl) ?_
  refine lv_bipush (v := 8) hx hb dX1_take_13 (by decide) ?_
  refine lv_icmp_ge (tgt := 22) hx hb dX1_take_15 (by decide) (fun q15 => absurd q15 (fun z => absurd ((nI_leI (a := 8) (b := o) (by decide) (by omega)).mp z) (by omega))) (fun q15 => ?_)
  refine lv_iconst (v := 1) hx hb dX1_take_18 (by decide) ?_
  refine lv_goto (tgt := 23) hx hb dX1_take_19 (by decide) ?_
  refine lv_istore (lv' := [(4, .int 1), (0, .ref m0), (1, .int (nI a)), (2, .int (nI k)), (3, .int (nI o))]) hx hb dX1_take_23 hl (by decide) rfl (fun ls hl => ?_)
  refine lv_aload_n hx hb dX1_take_25 rfl (lv_at hl 1 rfl) ?_
  refine lv_iload hx hb dX1_take_26 (lv_at hl 0 rfl) ?_
  refine lv_if_eq (tgt := 35) hx hb dX1_take_28 (by decide) (fun q28 => absurd q28 (by decide)) (fun q28 => ?_)
  refine lv_iconst (v := 0) hx hb dX1_take_31 (by decide) ?_
  refine lv_goto (tgt := 36) hx hb dX1_take_32 (by decide) ?_
  refine va_put (D := D) (ci := 1) (v := .int 0) (ty := .int) (C := RX1) (T := TX1) (N := 7) hx hb hts hinX1 tyX1 tyX1_ok nmX1 hown hK hP hD hS 0 rfl rfl 0 (by decide) (hts (.fieldLink RX1 26 "PrefixBenchModel" "code" "I") (by decide +kernel)) (fun _ h9 => h9) rfl (by decide +kernel) rfl rfl (Nat.le_of_ble_eq_true rfl) dX1_take_36 (fun H locs hP hD hS => ?_)
  have hP : va_P D vwCl (pb_wM cI cJ m0 a1 l1 o1 c1 h1 Af Lf Of Cf Hf 0 (nI T.length)) H := hP
  have hD : va_D A (pb_wM cI cJ m0 a1 l1 o1 c1 h1 Af Lf Of Cf Hf 0 (nI T.length)) := hD
  refine lv_iload hx hb dX1_take_39 (lv_at hl 0 rfl) ?_
  refine lv_if_eq (tgt := 57) hx hb dX1_take_41 (by decide) (fun q41 => absurd q41 (by decide)) (fun q41 => ?_)
  refine lv_aload_n hx hb dX1_take_44 rfl (lv_at hl 1 rfl) ?_
  refine lv_iload_n hx hb dX1_take_45 rfl (lv_at hl 2 rfl) ?_
  refine lv_iload_n hx hb dX1_take_46 rfl (lv_at hl 3 rfl) ?_
  refine lv_iload_n hx hb dX1_take_47 rfl (lv_at hl 4 rfl) ?_
  refine pb_callS (As := [.int (nI a), .int (nI k), .int (nI o)]) (rest := [.ref m0]) ⟨hx, hb, hml, hown, hts⟩ (c_X1_rank a k o ha (by omega) (by omega)) (va_cwS 3 hts gX1_take_X1_rank rfl rfl rfl (by decide +kernel) ⟨Nat.le_of_ble_eq_true rfl, Nat.le_of_ble_eq_true rfl⟩) rfl rfl hl (Nat.le_of_ble_eq_true rfl) dX1_take_48 ⟨Nat.le_of_ble_eq_true rfl, Nat.le_of_ble_eq_true rfl⟩ ?_
  refine pb_callV (As := [.long (lN (pb_pre a k * 8 + o))]) (rest := []) ⟨hx, hb, hml, hown, hts⟩ (c_X1_place hT hR (pb_pre a k * 8 + o) (by show (64 * a + k) * 8 + o < _; omega)) (cwV 1 hts gX1_take_X1_place rfl rfl rfl (by decide +kernel) ⟨Nat.le_of_ble_eq_true rfl, Nat.le_of_ble_eq_true rfl⟩) hP hK (va_recv hK hP (ci := 1) (q0 := 0) rfl rfl) rfl rfl hl (Nat.le_of_ble_eq_true rfl) dX1_take_51 ⟨Nat.le_of_ble_eq_true rfl, Nat.le_of_ble_eq_true rfl⟩ ?_
  refine lv_goto (tgt := 58) hx hb dX1_take_54 (by decide) ?_
  refine lv_istore (lv' := [(5, .int (nI (pb_lb T (pb_pre a k * 8 + o)))), (4, .int 1), (0, .ref m0), (1, .int (nI a)), (2, .int (nI k)), (3, .int (nI o))]) hx hb dX1_take_58 hl (by decide) rfl (fun ls hl => ?_)
  refine lv_iload hx hb dX1_take_60 (lv_at hl 1 rfl) ?_
  refine lv_if_eq (tgt := 77) hx hb dX1_take_62 (by decide) (fun q62 => absurd q62 (by decide)) (fun q62 => ?_)
  refine lv_aload_n hx hb dX1_take_65 rfl (lv_at hl 2 rfl) ?_
  refine lv_iload hx hb dX1_take_66 (lv_at hl 0 rfl) ?_
  refine lv_iload_n hx hb dX1_take_68 rfl (lv_at hl 3 rfl) ?_
  refine lv_iload_n hx hb dX1_take_69 rfl (lv_at hl 4 rfl) ?_
  refine lv_iload_n hx hb dX1_take_70 rfl (lv_at hl 5 rfl) ?_
  refine pb_callV (As := [.int (nI (pb_lb T (pb_pre a k * 8 + o))), .int (nI a), .int (nI k), .int (nI o)]) (rest := []) ⟨hx, hb, hml, hown, hts⟩ (c_X1_isThere_s hT hR (pb_lb T (pb_pre a k * 8 + o)) hr1 a k o ha (by omega) ho) (cwV 4 hts gX1_take_X1_isThere rfl rfl rfl (by decide +kernel) ⟨Nat.le_of_ble_eq_true rfl, Nat.le_of_ble_eq_true rfl⟩) hP hK (va_recv hK hP (ci := 1) (q0 := 0) rfl rfl) rfl rfl hl (Nat.le_of_ble_eq_true rfl) dX1_take_71 ⟨Nat.le_of_ble_eq_true rfl, Nat.le_of_ble_eq_true rfl⟩ ?_
  refine pb_topi (z := 1) (if_pos ((pb_hs_iff hT.1 hr1).mpr hh)) ?_
  refine lv_if_ne (tgt := 79) hx hb dX1_take_74 (by decide) (fun q74 => ?_) (fun q74 => absurd q74 (by decide))
  refine lv_aload_n hx hb dX1_take_79 rfl (lv_at hl 2 rfl) ?_
  refine va_get (D := D) (ci := 1) (v := .ref h1) (C := RX1) (T := TX1) (N := 7) hx hb hts hinX1 hown hK hP 0 rfl rfl 6 (by decide) (hts (.fieldLink RX1 22 "PrefixBenchModel" "hops" "[J") (by decide +kernel)) (fun _ h9 => h9) rfl dX1_take_80 ?_
  refine lv_iload hx hb dX1_take_83 (lv_at hl 0 rfl) ?_
  refine lv_lconst (v := 0) hx hb dX1_take_85 (by decide) ?_
  refine pb_last hx hb hK hP hD hS 5 0 rfl rfl (pb_lb T (pb_pre a k * 8 + o)) (rfl) (⟨by omega, by decide⟩) dX1_take_86 (fun H locs hP hD hS => ?_)
  have hP : va_P D vwCl (pb_wM cI cJ m0 a1 l1 o1 c1 h1 Af Lf Of Cf (va_up Hf (pb_lb T (pb_pre a k * 8 + o)) 0) 0 (nI T.length)) H := hP
  have hD : va_D A (pb_wM cI cJ m0 a1 l1 o1 c1 h1 Af Lf Of Cf (va_up Hf (pb_lb T (pb_pre a k * 8 + o)) 0) 0 (nI T.length)) := hD
  have hTl : (T.set (pb_lb T (pb_pre a k * 8 + o)) (r.1, r.2.1, 0)).length = T.length := List.length_set
  rw [← hTl] at hP hD
  refine lv_aload_n hx hb dX1_take_87 rfl (lv_at hl 2 rfl) ?_
  refine pb_callW (As := []) (rest := []) ⟨hx, hb, hml, hown, hts⟩ (c_X1_sweep (T := (T.set (pb_lb T (pb_pre a k * 8 + o)) (r.1, r.2.1, 0))) (by rw [List.length_set]; omega) (pb_repM_h0 hR.2 hr1)) (cwV 0 hts gX1_take_X1_sweep rfl rfl rfl (by decide +kernel) ⟨Nat.le_of_ble_eq_true rfl, Nat.le_of_ble_eq_true rfl⟩) hP hK hD hS hA (va_recv hK hP (ci := 1) (q0 := 0) rfl rfl) rfl rfl hl (Nat.le_of_ble_eq_true rfl) dX1_take_88 ⟨Nat.le_of_ble_eq_true rfl, Nat.le_of_ble_eq_true rfl⟩ (fun t9 H locs ht hvm hB hsub hS => ?_)
  have hB9 : ∀ t : State, t.heap = H → s.WarmedH t.vm → pb_BM D cI cJ m0 a1 l1 o1 c1 h1 (T.eraseIdx (pb_lb T (pb_pre a k * 8 + o))) 0 A t := fun t ht2 hW2 => by
    obtain ⟨A9, L9, O9, C9, H9, e1, e2, e3, e4⟩ := hB
    rw [pb_fm_er hno0 hr1] at e1 e2 e4
    exact ⟨A9, L9, O9, C9, H9, e1, by rw [ht2, ← ht]; exact e2, va_K.moved hW2.alike hK, e4.weaken (fun _ q _ h => hsub q.1 h)⟩
  refine pb_topi (z := nI 1) (by rw [pb_fm_er hno0 hr1, List.length_set, List.length_eraseIdx, if_pos hlt, show T.length - (T.length - 1) = 1 by omega]) ?_
  refine lv_iconst (v := 1) hx hb dX1_take_91 (by decide) ?_
  refine lv_icmp_ne (tgt := 99) hx hb dX1_take_92 (by decide) (fun q92 => absurd q92 (fun z => z rfl)) (fun q92 => ?_)
  refine lv_iconst (v := 1) hx hb dX1_take_95 (by decide) ?_
  refine lv_goto (tgt := 100) hx hb dX1_take_96 (by decide) ?_
  exact pb_wz hx hb hr hlocks hS dX1_take_100 (by decide) (rfl) (hB9)

set_option maxHeartbeats 4000000 in
set_option maxRecDepth 100000 in
theorem c_X1_put {T : List pb_Rt} (hT : pb_ok T) (hR : pb_rM T Af Lf Of Cf Hf) (hn : T.length < 512) (a k o : Nat) (ha : a < 2 ^ 32) (hk : k ≤ 32) (hg : a % 2 ^ (32 - k) = 0) (ho : o < 8) (cn : Nat) (hcn : cn < 65536) (hz : Int64) (hz0 : hz ≠ 0) : pb_Wq l yX1_put wsX1_put 4 0 0 88 [.ref m0, .int (nI a), .int (nI k), .int (nI o), .int (nI cn), .long hz] D (pb_ty cI cJ) (pb_wM cI cJ m0 a1 l1 o1 c1 h1 Af Lf Of Cf Hf co (nI T.length)) sz (some (.int (nI (pb_put T ((pb_pre a k * 8 + o), nI cn, hz)).length))) (pb_BM D cI cJ m0 a1 l1 o1 c1 h1 (pb_put T ((pb_pre a k * 8 + o), nI cn, hz)) 0) := by
  refine pb_ofW RX1 (by decide) rfl rfl (Nat.le_of_ble_eq_true rfl) (fun p e s m args below meth c ls A hx hb hml hr hlocks hown hts hP hK hD hS hA hl hin9 => ?_)
  have hinX1 : ∀ w ∈ wsX10, w ∈ wsX1_put := by decide +kernel
  have hl : lv_has ls 10 [(0, .ref m0), (1, .int (nI a)), (2, .int (nI k)), (3, .int (nI o)), (4, .int (nI cn)), (5, .long hz)] := hl
  have hP : va_P D vwCl (pb_wM cI cJ m0 a1 l1 o1 c1 h1 Af Lf Of Cf Hf co (nI T.length)) s.heap := hP
  have hD : va_D A (pb_wM cI cJ m0 a1 l1 o1 c1 h1 Af Lf Of Cf Hf co (nI T.length)) := hD
  have hcap := hR.1
  have e1 : (pb_pre a k * 8 + o) / 512 = a := by show ((64 * a + k) * 8 + o) / 512 = a; omega
  have e2 : (pb_pre a k * 8 + o) / 8 % 64 = k := by show ((64 * a + k) * 8 + o) / 8 % 64 = k; omega
  have e3 : (pb_pre a k * 8 + o) % 8 = o := by show ((64 * a + k) * 8 + o) % 8 = o; omega
  refine lv_iload_n hx hb dX1_put_0 rfl (lv_at hl 1 rfl) ?_
  refine lv_iload_n hx hb dX1_put_1 rfl (lv_at hl 2 rfl) ?_
  refine pb_callS (As := [.int (nI a), .int (nI k)]) (rest := []) ⟨hx, hb, hml, hown, hts⟩ (c_X1_isPrefix_t a k ha hk hg) (va_cwS 2 hts gX1_put_X1_isPrefix rfl rfl rfl (by decide +kernel) ⟨Nat.le_of_ble_eq_true rfl, Nat.le_of_ble_eq_true rfl⟩) rfl rfl hl (Nat.le_of_ble_eq_true rfl) dX1_put_2 ⟨Nat.le_of_ble_eq_true rfl, Nat.le_of_ble_eq_true rfl⟩ ?_
  refine lv_if_eq (tgt := 41) hx hb dX1_put_5 (by decide) (fun q5 => absurd q5 (by decide)) (fun q5 => ?_)
  refine lv_iload_n hx hb dX1_put_8 rfl (lv_at hl 3 rfl) ?_
  refine lv_if_lt (tgt := 41) hx hb dX1_put_9 (by decide) (fun q9 => absurd q9 (nI_pos (by omega))) (fun q9 => ?_)
  refine lv_iload_n hx hb dX1_put_12 rfl (lv_at hl 3 rfl) ?_
  refine lv_bipush (v := 8) hx hb dX1_put_13 (by decide) ?_
  refine lv_icmp_ge (tgt := 41) hx hb dX1_put_15 (by decide) (fun q15 => absurd q15 (fun z => absurd ((nI_leI (a := 8) (b := o) (by decide) (by omega)).mp z) (by omega))) (fun q15 => ?_)
  refine lv_iload hx hb dX1_put_18 (lv_at hl 4 rfl) ?_
  refine lv_if_lt (tgt := 41) hx hb dX1_put_20 (by decide) (fun q20 => absurd q20 (nI_pos (by omega))) (fun q20 => ?_)
  refine lv_iload hx hb dX1_put_23 (lv_at hl 4 rfl) ?_
  refine lv_ldc (v := 65535) hx hb hown (hts (.constant RX1 58 65535) (by decide +kernel)) dX1_put_25 ?_
  refine lv_icmp_gt (tgt := 41) hx hb dX1_put_27 (by decide) (fun q27 => absurd q27 (fun z => absurd ((nI_ltI (a := 65535) (b := cn) (by decide) (by omega)).mp z) (by omega))) (fun q27 => ?_)
  refine lv_lload hx hb dX1_put_30 (lv_at hl 5 rfl) ?_
  refine lv_lconst (v := 0) hx hb dX1_put_32 (by decide) ?_
  refine W.lcmp hx hb dX1_put_33 ?_
  refine lv_if_eq (tgt := 41) hx hb dX1_put_34 (by decide) (fun q34 => absurd ((lg_cmp_eq _ _).mp q34) (hz0)) (fun q34 => ?_)
  have q34 := mt (lg_cmp_eq _ _).mpr q34
  refine lv_iconst (v := 1) hx hb dX1_put_37 (by decide) ?_
  refine lv_goto (tgt := 42) hx hb dX1_put_38 (by decide) ?_
  refine lv_istore (lv' := [(7, .int 1), (0, .ref m0), (1, .int (nI a)), (2, .int (nI k)), (3, .int (nI o)), (4, .int (nI cn)), (5, .long hz)]) hx hb dX1_put_42 hl (by decide) rfl (fun ls hl => ?_)
  refine lv_iload hx hb dX1_put_44 (lv_at hl 0 rfl) ?_
  refine lv_if_eq (tgt := 62) hx hb dX1_put_46 (by decide) (fun q46 => absurd q46 (by decide)) (fun q46 => ?_)
  refine lv_aload_n hx hb dX1_put_49 rfl (lv_at hl 1 rfl) ?_
  refine lv_iload_n hx hb dX1_put_50 rfl (lv_at hl 2 rfl) ?_
  refine lv_iload_n hx hb dX1_put_51 rfl (lv_at hl 3 rfl) ?_
  refine lv_iload_n hx hb dX1_put_52 rfl (lv_at hl 4 rfl) ?_
  refine pb_callS (As := [.int (nI a), .int (nI k), .int (nI o)]) (rest := [.ref m0]) ⟨hx, hb, hml, hown, hts⟩ (c_X1_rank a k o ha (by omega) (by omega)) (va_cwS 3 hts gX1_put_X1_rank rfl rfl rfl (by decide +kernel) ⟨Nat.le_of_ble_eq_true rfl, Nat.le_of_ble_eq_true rfl⟩) rfl rfl hl (Nat.le_of_ble_eq_true rfl) dX1_put_53 ⟨Nat.le_of_ble_eq_true rfl, Nat.le_of_ble_eq_true rfl⟩ ?_
  refine pb_callV (As := [.long (lN (pb_pre a k * 8 + o))]) (rest := []) ⟨hx, hb, hml, hown, hts⟩ (c_X1_place hT hR (pb_pre a k * 8 + o) (by show (64 * a + k) * 8 + o < _; omega)) (cwV 1 hts gX1_put_X1_place rfl rfl rfl (by decide +kernel) ⟨Nat.le_of_ble_eq_true rfl, Nat.le_of_ble_eq_true rfl⟩) hP hK (va_recv hK hP (ci := 1) (q0 := 0) rfl rfl) rfl rfl hl (Nat.le_of_ble_eq_true rfl) dX1_put_56 ⟨Nat.le_of_ble_eq_true rfl, Nat.le_of_ble_eq_true rfl⟩ ?_
  refine lv_goto (tgt := 63) hx hb dX1_put_59 (by decide) ?_
  refine lv_istore (lv' := [(8, .int (nI (pb_lb T (pb_pre a k * 8 + o)))), (7, .int 1), (0, .ref m0), (1, .int (nI a)), (2, .int (nI k)), (3, .int (nI o)), (4, .int (nI cn)), (5, .long hz)]) hx hb dX1_put_63 hl (by decide) rfl (fun ls hl => ?_)
  refine lv_aload_n hx hb dX1_put_65 rfl (lv_at hl 2 rfl) ?_
  refine lv_iload hx hb dX1_put_66 (lv_at hl 1 rfl) ?_
  refine lv_if_ne (tgt := 75) hx hb dX1_put_68 (by decide) (fun q68 => ?_) (fun q68 => absurd q68 (by decide))
  refine lv_aload_n hx hb dX1_put_75 rfl (lv_at hl 2 rfl) ?_
  refine va_get (D := D) (ci := 1) (v := .int (nI T.length)) (C := RX1) (T := TX1) (N := 7) hx hb hts hinX1 hown hK hP 0 rfl rfl 1 (by decide) (hts (.fieldLink RX1 48 "PrefixBenchModel" "count" "I") (by decide +kernel)) (fun _ h9 => h9) rfl dX1_put_76 ?_
  refine lv_sipush (v := 1000) hx hb dX1_put_79 (by decide) ?_
  refine lv_icmp_ne (tgt := 101) hx hb dX1_put_82 (by decide) (fun q82 => ?_) (fun q82 => absurd q82 (fun z => absurd ((nI_eq (a := T.length) (b := 1000) (by omega) (by decide)).mp z) (by omega)))
  refine lv_iconst (v := 0) hx hb dX1_put_101 (by decide) ?_
  refine va_put (D := D) (ci := 1) (v := .int 0) (ty := .int) (C := RX1) (T := TX1) (N := 7) hx hb hts hinX1 tyX1 tyX1_ok nmX1 hown hK hP hD hS 0 rfl rfl 0 (by decide) (hts (.fieldLink RX1 26 "PrefixBenchModel" "code" "I") (by decide +kernel)) (fun _ h9 => h9) rfl (by decide +kernel) rfl rfl (Nat.le_of_ble_eq_true rfl) dX1_put_102 (fun H locs hP hD hS => ?_)
  have hP : va_P D vwCl (pb_wM cI cJ m0 a1 l1 o1 c1 h1 Af Lf Of Cf Hf 0 (nI T.length)) H := hP
  have hD : va_D A (pb_wM cI cJ m0 a1 l1 o1 c1 h1 Af Lf Of Cf Hf 0 (nI T.length)) := hD
  refine lv_aload_n hx hb dX1_put_105 rfl (lv_at hl 2 rfl) ?_
  refine va_get (D := D) (ci := 1) (v := .int 0) (C := RX1) (T := TX1) (N := 7) hx hb hts hinX1 hown hK hP 0 rfl rfl 0 (by decide) (hts (.fieldLink RX1 26 "PrefixBenchModel" "code" "I") (by decide +kernel)) (fun _ h9 => h9) rfl dX1_put_106 ?_
  refine lv_if_le (tgt := 114) hx hb dX1_put_109 (by decide) (fun q109 => ?_) (fun q109 => absurd (by decide) q109)
  refine lv_aload_n hx hb dX1_put_114 rfl (lv_at hl 2 rfl) ?_
  refine lv_iload hx hb dX1_put_115 (lv_at hl 0 rfl) ?_
  refine lv_iload_n hx hb dX1_put_117 rfl (lv_at hl 3 rfl) ?_
  refine lv_iload_n hx hb dX1_put_118 rfl (lv_at hl 4 rfl) ?_
  refine lv_iload_n hx hb dX1_put_119 rfl (lv_at hl 5 rfl) ?_
  have hle := pb_lb_le T (pb_pre a k * 8 + o)
  rcases hd : T[(pb_lb T (pb_pre a k * 8 + o))]? with _ | r
  · have hle2 := List.getElem?_eq_none_iff.mp hd
    have hno := pb_hs_no hT.1 hd
    have hTe : pb_put T ((pb_pre a k * 8 + o), nI cn, hz) = pb_ins T (pb_lb T (pb_pre a k * 8 + o)) ((pb_pre a k * 8 + o), nI cn, hz) := by
      unfold pb_put
      exact if_neg (by rw [hno]; decide)
    have hTl := pb_ins_len (T := T) hle ((pb_pre a k * 8 + o), nI cn, hz)
    refine pb_callV (As := [.int (nI (pb_lb T (pb_pre a k * 8 + o))), .int (nI a), .int (nI k), .int (nI o)]) (rest := []) ⟨hx, hb, hml, hown, hts⟩ (c_X1_isThere_n (pb_lb T (pb_pre a k * 8 + o)) T.length ⟨hle2, by omega⟩ (nI a) (nI k) (nI o)) (cwV 4 hts gX1_put_X1_isThere rfl rfl rfl (by decide +kernel) ⟨Nat.le_of_ble_eq_true rfl, Nat.le_of_ble_eq_true rfl⟩) hP hK (va_recv hK hP (ci := 1) (q0 := 0) rfl rfl) rfl rfl hl (Nat.le_of_ble_eq_true rfl) dX1_put_120 ⟨Nat.le_of_ble_eq_true rfl, Nat.le_of_ble_eq_true rfl⟩ ?_
    refine lv_if_ne (tgt := 165) hx hb dX1_put_123 (by decide) (fun q123 => absurd q123 (fun z => z rfl)) (fun q123 => ?_)
    
    refine lv_aload_n hx hb dX1_put_126 rfl (lv_at hl 2 rfl) ?_
    refine va_get (D := D) (ci := 1) (v := .int (nI T.length)) (C := RX1) (T := TX1) (N := 7) hx hb hts hinX1 hown hK hP 0 rfl rfl 1 (by decide) (hts (.fieldLink RX1 48 "PrefixBenchModel" "count" "I") (by decide +kernel)) (fun _ h9 => h9) rfl dX1_put_127 ?_
    refine lv_istore (lv' := [(9, .int (nI T.length)), (8, .int (nI (pb_lb T (pb_pre a k * 8 + o)))), (7, .int 1), (0, .ref m0), (1, .int (nI a)), (2, .int (nI k)), (3, .int (nI o)), (4, .int (nI cn)), (5, .long hz)]) hx hb dX1_put_130 hl (by decide) rfl (fun ls hl => ?_)
    refine pb_loopH (fun kk H locs ls => ∃ tz : Nat, ((pb_lb T (pb_pre a k * 8 + o)) ≤ tz ∧ tz ≤ T.length ∧ tz - (pb_lb T (pb_pre a k * 8 + o)) = kk) ∧ va_P D vwCl (pb_wM cI cJ m0 a1 l1 o1 c1 h1 (pb_shR Af tz T.length) (pb_shR Lf tz T.length) (pb_shR Of tz T.length) (pb_shR Cf tz T.length) (pb_shR Hf tz T.length) 0 (nI T.length)) H ∧ va_D A (pb_wM cI cJ m0 a1 l1 o1 c1 h1 (pb_shR Af tz T.length) (pb_shR Lf tz T.length) (pb_shR Of tz T.length) (pb_shR Cf tz T.length) (pb_shR Hf tz T.length) 0 (nI T.length)) ∧ va_S A s.heap H locs ∧ lv_has ls 10 [(9, .int (nI tz)), (8, .int (nI (pb_lb T (pb_pre a k * 8 + o)))), (0, .ref m0), (1, .int (nI a)), (2, .int (nI k)), (3, .int (nI o)), (4, .int (nI cn)), (5, .long hz)]) 132 [] (fun kk H locs ls hI ih => ?_) (fun hL => ?_)
    · obtain ⟨tz, ⟨ht1, ht2, rfl⟩, hP, hD, hS, hl⟩ := hI
      refine lv_iload hx hb dX1_put_132 (lv_at hl 0 rfl) ?_
      refine lv_iload hx hb dX1_put_134 (lv_at hl 1 rfl) ?_
      refine lv_icmp_le (tgt := 155) hx hb dX1_put_136 (by decide) (fun q136 => ?_) (fun q136 => ?_)
      · have hw := (nI_leI (a := tz) (b := (pb_lb T (pb_pre a k * 8 + o))) (by omega) (by omega)).mp q136
        rw [show tz = (pb_lb T (pb_pre a k * 8 + o)) by omega] at hP hD
        refine lv_aload_n hx hb dX1_put_155 rfl (lv_at hl 2 rfl) ?_
        refine lv_dup hx hb dX1_put_156 rfl ?_
        refine va_get (D := D) (ci := 1) (v := .int (nI T.length)) (C := RX1) (T := TX1) (N := 7) hx hb hts hinX1 hown hK hP 0 rfl rfl 1 (by decide) (hts (.fieldLink RX1 48 "PrefixBenchModel" "count" "I") (by decide +kernel)) (fun _ h9 => h9) rfl dX1_put_157 ?_
        refine lv_iconst (v := 1) hx hb dX1_put_160 (by decide) ?_
        refine lv_iadd hx hb dX1_put_161 ?_
        refine pb_topi (z := nI (T.length + 1)) (nI_1 _) ?_
        refine va_put (D := D) (ci := 1) (v := .int (nI (T.length + 1))) (ty := .int) (C := RX1) (T := TX1) (N := 7) hx hb hts hinX1 tyX1 tyX1_ok nmX1 hown hK hP hD hS 0 rfl rfl 1 (by decide) (hts (.fieldLink RX1 48 "PrefixBenchModel" "count" "I") (by decide +kernel)) (fun _ h9 => h9) rfl (by decide +kernel) rfl rfl (Nat.le_of_ble_eq_true rfl) dX1_put_162 (fun H locs hP hD hS => ?_)
        have hP : va_P D vwCl (pb_wM cI cJ m0 a1 l1 o1 c1 h1 (pb_shR Af (pb_lb T (pb_pre a k * 8 + o)) T.length) (pb_shR Lf (pb_lb T (pb_pre a k * 8 + o)) T.length) (pb_shR Of (pb_lb T (pb_pre a k * 8 + o)) T.length) (pb_shR Cf (pb_lb T (pb_pre a k * 8 + o)) T.length) (pb_shR Hf (pb_lb T (pb_pre a k * 8 + o)) T.length) 0 (nI (T.length + 1))) H := hP
        have hD : va_D A (pb_wM cI cJ m0 a1 l1 o1 c1 h1 (pb_shR Af (pb_lb T (pb_pre a k * 8 + o)) T.length) (pb_shR Lf (pb_lb T (pb_pre a k * 8 + o)) T.length) (pb_shR Of (pb_lb T (pb_pre a k * 8 + o)) T.length) (pb_shR Cf (pb_lb T (pb_pre a k * 8 + o)) T.length) (pb_shR Hf (pb_lb T (pb_pre a k * 8 + o)) T.length) 0 (nI (T.length + 1))) := hD
        refine lv_aload_n hx hb dX1_put_165 rfl (lv_at hl 2 rfl) ?_
        refine va_get (D := D) (ci := 1) (v := .ref a1) (C := RX1) (T := TX1) (N := 7) hx hb hts hinX1 hown hK hP 0 rfl rfl 2 (by decide) (hts (.fieldLink RX1 7 "PrefixBenchModel" "address" "[I") (by decide +kernel)) (fun _ h9 => h9) rfl dX1_put_166 ?_
        refine lv_iload hx hb dX1_put_169 (lv_at hl 1 rfl) ?_
        refine lv_iload_n hx hb dX1_put_171 rfl (lv_at hl 3 rfl) ?_
        refine pb_iast hx hb hK hP hD hS 1 1 rfl rfl (pb_lb T (pb_pre a k * 8 + o)) (rfl) (⟨by omega, by decide⟩) dX1_put_172 (fun H locs hP hD hS => ?_)
        have hP : va_P D vwCl (pb_wM cI cJ m0 a1 l1 o1 c1 h1 (va_up (pb_shR Af (pb_lb T (pb_pre a k * 8 + o)) T.length) (pb_lb T (pb_pre a k * 8 + o)) (nI a)) (pb_shR Lf (pb_lb T (pb_pre a k * 8 + o)) T.length) (pb_shR Of (pb_lb T (pb_pre a k * 8 + o)) T.length) (pb_shR Cf (pb_lb T (pb_pre a k * 8 + o)) T.length) (pb_shR Hf (pb_lb T (pb_pre a k * 8 + o)) T.length) 0 (nI (T.length + 1))) H := hP
        have hD : va_D A (pb_wM cI cJ m0 a1 l1 o1 c1 h1 (va_up (pb_shR Af (pb_lb T (pb_pre a k * 8 + o)) T.length) (pb_lb T (pb_pre a k * 8 + o)) (nI a)) (pb_shR Lf (pb_lb T (pb_pre a k * 8 + o)) T.length) (pb_shR Of (pb_lb T (pb_pre a k * 8 + o)) T.length) (pb_shR Cf (pb_lb T (pb_pre a k * 8 + o)) T.length) (pb_shR Hf (pb_lb T (pb_pre a k * 8 + o)) T.length) 0 (nI (T.length + 1))) := hD
        refine lv_aload_n hx hb dX1_put_173 rfl (lv_at hl 2 rfl) ?_
        refine va_get (D := D) (ci := 1) (v := .ref l1) (C := RX1) (T := TX1) (N := 7) hx hb hts hinX1 hown hK hP 0 rfl rfl 3 (by decide) (hts (.fieldLink RX1 13 "PrefixBenchModel" "length" "[I") (by decide +kernel)) (fun _ h9 => h9) rfl dX1_put_174 ?_
        refine lv_iload hx hb dX1_put_177 (lv_at hl 1 rfl) ?_
        refine lv_iload_n hx hb dX1_put_179 rfl (lv_at hl 4 rfl) ?_
        refine pb_iast hx hb hK hP hD hS 2 1 rfl rfl (pb_lb T (pb_pre a k * 8 + o)) (rfl) (⟨by omega, by decide⟩) dX1_put_180 (fun H locs hP hD hS => ?_)
        have hP : va_P D vwCl (pb_wM cI cJ m0 a1 l1 o1 c1 h1 (va_up (pb_shR Af (pb_lb T (pb_pre a k * 8 + o)) T.length) (pb_lb T (pb_pre a k * 8 + o)) (nI a)) (va_up (pb_shR Lf (pb_lb T (pb_pre a k * 8 + o)) T.length) (pb_lb T (pb_pre a k * 8 + o)) (nI k)) (pb_shR Of (pb_lb T (pb_pre a k * 8 + o)) T.length) (pb_shR Cf (pb_lb T (pb_pre a k * 8 + o)) T.length) (pb_shR Hf (pb_lb T (pb_pre a k * 8 + o)) T.length) 0 (nI (T.length + 1))) H := hP
        have hD : va_D A (pb_wM cI cJ m0 a1 l1 o1 c1 h1 (va_up (pb_shR Af (pb_lb T (pb_pre a k * 8 + o)) T.length) (pb_lb T (pb_pre a k * 8 + o)) (nI a)) (va_up (pb_shR Lf (pb_lb T (pb_pre a k * 8 + o)) T.length) (pb_lb T (pb_pre a k * 8 + o)) (nI k)) (pb_shR Of (pb_lb T (pb_pre a k * 8 + o)) T.length) (pb_shR Cf (pb_lb T (pb_pre a k * 8 + o)) T.length) (pb_shR Hf (pb_lb T (pb_pre a k * 8 + o)) T.length) 0 (nI (T.length + 1))) := hD
        refine lv_aload_n hx hb dX1_put_181 rfl (lv_at hl 2 rfl) ?_
        refine va_get (D := D) (ci := 1) (v := .ref o1) (C := RX1) (T := TX1) (N := 7) hx hb hts hinX1 hown hK hP 0 rfl rfl 4 (by decide) (hts (.fieldLink RX1 16 "PrefixBenchModel" "origin" "[I") (by decide +kernel)) (fun _ h9 => h9) rfl dX1_put_182 ?_
        refine lv_iload hx hb dX1_put_185 (lv_at hl 1 rfl) ?_
        refine lv_iload_n hx hb dX1_put_187 rfl (lv_at hl 5 rfl) ?_
        refine pb_iast hx hb hK hP hD hS 3 1 rfl rfl (pb_lb T (pb_pre a k * 8 + o)) (rfl) (⟨by omega, by decide⟩) dX1_put_188 (fun H locs hP hD hS => ?_)
        have hP : va_P D vwCl (pb_wM cI cJ m0 a1 l1 o1 c1 h1 (va_up (pb_shR Af (pb_lb T (pb_pre a k * 8 + o)) T.length) (pb_lb T (pb_pre a k * 8 + o)) (nI a)) (va_up (pb_shR Lf (pb_lb T (pb_pre a k * 8 + o)) T.length) (pb_lb T (pb_pre a k * 8 + o)) (nI k)) (va_up (pb_shR Of (pb_lb T (pb_pre a k * 8 + o)) T.length) (pb_lb T (pb_pre a k * 8 + o)) (nI o)) (pb_shR Cf (pb_lb T (pb_pre a k * 8 + o)) T.length) (pb_shR Hf (pb_lb T (pb_pre a k * 8 + o)) T.length) 0 (nI (T.length + 1))) H := hP
        have hD : va_D A (pb_wM cI cJ m0 a1 l1 o1 c1 h1 (va_up (pb_shR Af (pb_lb T (pb_pre a k * 8 + o)) T.length) (pb_lb T (pb_pre a k * 8 + o)) (nI a)) (va_up (pb_shR Lf (pb_lb T (pb_pre a k * 8 + o)) T.length) (pb_lb T (pb_pre a k * 8 + o)) (nI k)) (va_up (pb_shR Of (pb_lb T (pb_pre a k * 8 + o)) T.length) (pb_lb T (pb_pre a k * 8 + o)) (nI o)) (pb_shR Cf (pb_lb T (pb_pre a k * 8 + o)) T.length) (pb_shR Hf (pb_lb T (pb_pre a k * 8 + o)) T.length) 0 (nI (T.length + 1))) := hD
        refine lv_aload_n hx hb dX1_put_189 rfl (lv_at hl 2 rfl) ?_
        refine va_get (D := D) (ci := 1) (v := .ref c1) (C := RX1) (T := TX1) (N := 7) hx hb hts hinX1 hown hK hP 0 rfl rfl 5 (by decide) (hts (.fieldLink RX1 19 "PrefixBenchModel" "cost" "[I") (by decide +kernel)) (fun _ h9 => h9) rfl dX1_put_190 ?_
        refine lv_iload hx hb dX1_put_193 (lv_at hl 1 rfl) ?_
        refine lv_iload hx hb dX1_put_195 (lv_at hl 6 rfl) ?_
        refine pb_iast hx hb hK hP hD hS 4 1 rfl rfl (pb_lb T (pb_pre a k * 8 + o)) (rfl) (⟨by omega, by decide⟩) dX1_put_197 (fun H locs hP hD hS => ?_)
        have hP : va_P D vwCl (pb_wM cI cJ m0 a1 l1 o1 c1 h1 (va_up (pb_shR Af (pb_lb T (pb_pre a k * 8 + o)) T.length) (pb_lb T (pb_pre a k * 8 + o)) (nI a)) (va_up (pb_shR Lf (pb_lb T (pb_pre a k * 8 + o)) T.length) (pb_lb T (pb_pre a k * 8 + o)) (nI k)) (va_up (pb_shR Of (pb_lb T (pb_pre a k * 8 + o)) T.length) (pb_lb T (pb_pre a k * 8 + o)) (nI o)) (va_up (pb_shR Cf (pb_lb T (pb_pre a k * 8 + o)) T.length) (pb_lb T (pb_pre a k * 8 + o)) (nI cn)) (pb_shR Hf (pb_lb T (pb_pre a k * 8 + o)) T.length) 0 (nI (T.length + 1))) H := hP
        have hD : va_D A (pb_wM cI cJ m0 a1 l1 o1 c1 h1 (va_up (pb_shR Af (pb_lb T (pb_pre a k * 8 + o)) T.length) (pb_lb T (pb_pre a k * 8 + o)) (nI a)) (va_up (pb_shR Lf (pb_lb T (pb_pre a k * 8 + o)) T.length) (pb_lb T (pb_pre a k * 8 + o)) (nI k)) (va_up (pb_shR Of (pb_lb T (pb_pre a k * 8 + o)) T.length) (pb_lb T (pb_pre a k * 8 + o)) (nI o)) (va_up (pb_shR Cf (pb_lb T (pb_pre a k * 8 + o)) T.length) (pb_lb T (pb_pre a k * 8 + o)) (nI cn)) (pb_shR Hf (pb_lb T (pb_pre a k * 8 + o)) T.length) 0 (nI (T.length + 1))) := hD
        refine lv_aload_n hx hb dX1_put_198 rfl (lv_at hl 2 rfl) ?_
        refine va_get (D := D) (ci := 1) (v := .ref h1) (C := RX1) (T := TX1) (N := 7) hx hb hts hinX1 hown hK hP 0 rfl rfl 6 (by decide) (hts (.fieldLink RX1 22 "PrefixBenchModel" "hops" "[J") (by decide +kernel)) (fun _ h9 => h9) rfl dX1_put_199 ?_
        refine lv_iload hx hb dX1_put_202 (lv_at hl 1 rfl) ?_
        refine lv_lload hx hb dX1_put_204 (lv_at hl 7 rfl) ?_
        refine pb_last hx hb hK hP hD hS 5 0 rfl rfl (pb_lb T (pb_pre a k * 8 + o)) (rfl) (⟨by omega, by decide⟩) dX1_put_206 (fun H locs hP hD hS => ?_)
        have hP : va_P D vwCl (pb_wM cI cJ m0 a1 l1 o1 c1 h1 (va_up (pb_shR Af (pb_lb T (pb_pre a k * 8 + o)) T.length) (pb_lb T (pb_pre a k * 8 + o)) (nI a)) (va_up (pb_shR Lf (pb_lb T (pb_pre a k * 8 + o)) T.length) (pb_lb T (pb_pre a k * 8 + o)) (nI k)) (va_up (pb_shR Of (pb_lb T (pb_pre a k * 8 + o)) T.length) (pb_lb T (pb_pre a k * 8 + o)) (nI o)) (va_up (pb_shR Cf (pb_lb T (pb_pre a k * 8 + o)) T.length) (pb_lb T (pb_pre a k * 8 + o)) (nI cn)) (va_up (pb_shR Hf (pb_lb T (pb_pre a k * 8 + o)) T.length) (pb_lb T (pb_pre a k * 8 + o)) hz) 0 (nI (T.length + 1))) H := hP
        have hD : va_D A (pb_wM cI cJ m0 a1 l1 o1 c1 h1 (va_up (pb_shR Af (pb_lb T (pb_pre a k * 8 + o)) T.length) (pb_lb T (pb_pre a k * 8 + o)) (nI a)) (va_up (pb_shR Lf (pb_lb T (pb_pre a k * 8 + o)) T.length) (pb_lb T (pb_pre a k * 8 + o)) (nI k)) (va_up (pb_shR Of (pb_lb T (pb_pre a k * 8 + o)) T.length) (pb_lb T (pb_pre a k * 8 + o)) (nI o)) (va_up (pb_shR Cf (pb_lb T (pb_pre a k * 8 + o)) T.length) (pb_lb T (pb_pre a k * 8 + o)) (nI cn)) (va_up (pb_shR Hf (pb_lb T (pb_pre a k * 8 + o)) T.length) (pb_lb T (pb_pre a k * 8 + o)) hz) 0 (nI (T.length + 1))) := hD
        refine lv_aload_n hx hb dX1_put_207 rfl (lv_at hl 2 rfl) ?_
        refine va_get (D := D) (ci := 1) (v := .int (nI (T.length + 1))) (C := RX1) (T := TX1) (N := 7) hx hb hts hinX1 hown hK hP 0 rfl rfl 1 (by decide) (hts (.fieldLink RX1 48 "PrefixBenchModel" "count" "I") (by decide +kernel)) (fun _ h9 => h9) rfl dX1_put_208 ?_
        exact pb_wi hx hb hr hlocks hS dX1_put_211 (by rw [hTe, hTl]) (fun t ht hW => by
          rw [hTe]
          have hrep := pb_repM_ins hR.2 hle ((pb_pre a k * 8 + o), nI cn, hz)
          rw [e1, e2, e3] at hrep
          exact ⟨_, _, _, _, _, hrep, by rw [hTl]; exact pb_B_of hP hK hD t ht hW⟩)
      · have hw := mt (nI_leI (a := tz) (b := (pb_lb T (pb_pre a k * 8 + o))) (by omega) (by omega)).mpr q136
        refine lv_aload_n hx hb dX1_put_139 rfl (lv_at hl 2 rfl) ?_
        refine lv_iload hx hb dX1_put_140 (lv_at hl 0 rfl) ?_
        refine lv_iconst (v := 1) hx hb dX1_put_142 (by decide) ?_
        refine lv_isub hx hb dX1_put_143 ?_
        refine pb_topi (z := nI (tz - 1)) (pk_sub (b := 1) (by omega)) ?_
        refine lv_iload hx hb dX1_put_144 (lv_at hl 0 rfl) ?_
        refine pb_callWv (As := [.int (nI (tz - 1)), .int (nI tz)]) (rest := []) ⟨hx, hb, hml, hown, hts⟩ (c_X1_copy (nI T.length) (tz - 1) tz (by omega) (by omega)) (cwV 2 hts gX1_put_X1_copy rfl rfl rfl (by decide +kernel) ⟨Nat.le_of_ble_eq_true rfl, Nat.le_of_ble_eq_true rfl⟩) hP hK hD hS hA (va_recv hK hP (ci := 1) (q0 := 0) rfl rfl) rfl rfl hl (Nat.le_of_ble_eq_true rfl) dX1_put_146 ⟨Nat.le_of_ble_eq_true rfl, Nat.le_of_ble_eq_true rfl⟩ (fun t9 H locs ht hvm hB hsub hS => ?_)
        obtain ⟨hP, hD⟩ := pb_back (wd' := (pb_wM cI cJ m0 a1 l1 o1 c1 h1 (va_up (pb_shR Af tz T.length) tz ((pb_shR Af tz T.length) (tz - 1))) (va_up (pb_shR Lf tz T.length) tz ((pb_shR Lf tz T.length) (tz - 1))) (va_up (pb_shR Of tz T.length) tz ((pb_shR Of tz T.length) (tz - 1))) (va_up (pb_shR Cf tz T.length) tz ((pb_shR Cf tz T.length) (tz - 1))) (va_up (pb_shR Hf tz T.length) tz ((pb_shR Hf tz T.length) (tz - 1))) 0 (nI T.length))) ht hB hsub
        refine lv_iinc (v := nI (tz - 1)) (lv' := [(9, .int (nI (tz - 1))), (8, .int (nI (pb_lb T (pb_pre a k * 8 + o)))), (0, .ref m0), (1, .int (nI a)), (2, .int (nI k)), (3, .int (nI o)), (4, .int (nI cn)), (5, .long hz)]) hx hb dX1_put_149 hl (k := 0) rfl ((pb_dec _).trans (pk_sub (b := 1) (by omega))) (by decide) rfl (fun ls hl => ?_)
        refine lv_goto (tgt := 132) hx hb dX1_put_152 (by decide) ?_
        exact ih _ _ _ _ (by omega) ⟨tz - 1, ⟨by omega, by omega, rfl⟩, by rw [← pb_shR_s Af (by omega) ht2, ← pb_shR_s Lf (by omega) ht2, ← pb_shR_s Of (by omega) ht2, ← pb_shR_s Cf (by omega) ht2, ← pb_shR_s Hf (by omega) ht2]; exact hP, by rw [← pb_shR_s Af (by omega) ht2, ← pb_shR_s Lf (by omega) ht2, ← pb_shR_s Of (by omega) ht2, ← pb_shR_s Cf (by omega) ht2, ← pb_shR_s Hf (by omega) ht2]; exact hD, hS, lv_sub hl [0, 1, 2, 3, 4, 5, 6, 7] rfl⟩
    · exact hL _ _ _ _ ⟨T.length, ⟨hle, Nat.le_refl _, rfl⟩, by rw [pb_shR_0, pb_shR_0, pb_shR_0, pb_shR_0, pb_shR_0]; exact hP, by rw [pb_shR_0, pb_shR_0, pb_shR_0, pb_shR_0, pb_shR_0]; exact hD, hS, lv_sub hl [0, 1, 3, 4, 5, 6, 7, 8] rfl⟩
  · have hkb := pb_key_lt hT (List.mem_of_getElem? hd)
    have hlt := pb_lb_lt hd
    have hiff := pb_hs_iff hT.1 hd
    refine pb_callV (As := [.int (nI (pb_lb T (pb_pre a k * 8 + o))), .int (nI a), .int (nI k), .int (nI o)]) (rest := []) ⟨hx, hb, hml, hown, hts⟩ (c_X1_isThere_s hT hR (pb_lb T (pb_pre a k * 8 + o)) hd a k o ha (by omega) ho) (cwV 4 hts gX1_put_X1_isThere rfl rfl rfl (by decide +kernel) ⟨Nat.le_of_ble_eq_true rfl, Nat.le_of_ble_eq_true rfl⟩) hP hK (va_recv hK hP (ci := 1) (q0 := 0) rfl rfl) rfl rfl hl (Nat.le_of_ble_eq_true rfl) dX1_put_120 ⟨Nat.le_of_ble_eq_true rfl, Nat.le_of_ble_eq_true rfl⟩ ?_
    refine lv_if_ne (tgt := 165) hx hb dX1_put_123 (by decide) (fun q123 => ?_) (fun q123 => ?_)
    · have hke : r.1 = (pb_pre a k * 8 + o) := by
        rcases Decidable.em (r.1 = (pb_pre a k * 8 + o)) with w | w
        · exact w
        · exact absurd (if_neg w) q123
      have hye := hiff.mp hke
      have hTe : pb_put T ((pb_pre a k * 8 + o), nI cn, hz) = T.set (pb_lb T (pb_pre a k * 8 + o)) ((pb_pre a k * 8 + o), nI cn, hz) := by
        unfold pb_put
        exact if_pos hye
      have hTl : (T.set (pb_lb T (pb_pre a k * 8 + o)) ((pb_pre a k * 8 + o), nI cn, hz)).length = T.length := List.length_set
      refine lv_aload_n hx hb dX1_put_165 rfl (lv_at hl 2 rfl) ?_
      refine va_get (D := D) (ci := 1) (v := .ref a1) (C := RX1) (T := TX1) (N := 7) hx hb hts hinX1 hown hK hP 0 rfl rfl 2 (by decide) (hts (.fieldLink RX1 7 "PrefixBenchModel" "address" "[I") (by decide +kernel)) (fun _ h9 => h9) rfl dX1_put_166 ?_
      refine lv_iload hx hb dX1_put_169 (lv_at hl 0 rfl) ?_
      refine lv_iload_n hx hb dX1_put_171 rfl (lv_at hl 3 rfl) ?_
      refine pb_iast hx hb hK hP hD hS 1 1 rfl rfl (pb_lb T (pb_pre a k * 8 + o)) (rfl) (⟨by omega, by decide⟩) dX1_put_172 (fun H locs hP hD hS => ?_)
      have hP : va_P D vwCl (pb_wM cI cJ m0 a1 l1 o1 c1 h1 (va_up Af (pb_lb T (pb_pre a k * 8 + o)) (nI a)) Lf Of Cf Hf 0 (nI T.length)) H := hP
      have hD : va_D A (pb_wM cI cJ m0 a1 l1 o1 c1 h1 (va_up Af (pb_lb T (pb_pre a k * 8 + o)) (nI a)) Lf Of Cf Hf 0 (nI T.length)) := hD
      refine lv_aload_n hx hb dX1_put_173 rfl (lv_at hl 2 rfl) ?_
      refine va_get (D := D) (ci := 1) (v := .ref l1) (C := RX1) (T := TX1) (N := 7) hx hb hts hinX1 hown hK hP 0 rfl rfl 3 (by decide) (hts (.fieldLink RX1 13 "PrefixBenchModel" "length" "[I") (by decide +kernel)) (fun _ h9 => h9) rfl dX1_put_174 ?_
      refine lv_iload hx hb dX1_put_177 (lv_at hl 0 rfl) ?_
      refine lv_iload_n hx hb dX1_put_179 rfl (lv_at hl 4 rfl) ?_
      refine pb_iast hx hb hK hP hD hS 2 1 rfl rfl (pb_lb T (pb_pre a k * 8 + o)) (rfl) (⟨by omega, by decide⟩) dX1_put_180 (fun H locs hP hD hS => ?_)
      have hP : va_P D vwCl (pb_wM cI cJ m0 a1 l1 o1 c1 h1 (va_up Af (pb_lb T (pb_pre a k * 8 + o)) (nI a)) (va_up Lf (pb_lb T (pb_pre a k * 8 + o)) (nI k)) Of Cf Hf 0 (nI T.length)) H := hP
      have hD : va_D A (pb_wM cI cJ m0 a1 l1 o1 c1 h1 (va_up Af (pb_lb T (pb_pre a k * 8 + o)) (nI a)) (va_up Lf (pb_lb T (pb_pre a k * 8 + o)) (nI k)) Of Cf Hf 0 (nI T.length)) := hD
      refine lv_aload_n hx hb dX1_put_181 rfl (lv_at hl 2 rfl) ?_
      refine va_get (D := D) (ci := 1) (v := .ref o1) (C := RX1) (T := TX1) (N := 7) hx hb hts hinX1 hown hK hP 0 rfl rfl 4 (by decide) (hts (.fieldLink RX1 16 "PrefixBenchModel" "origin" "[I") (by decide +kernel)) (fun _ h9 => h9) rfl dX1_put_182 ?_
      refine lv_iload hx hb dX1_put_185 (lv_at hl 0 rfl) ?_
      refine lv_iload_n hx hb dX1_put_187 rfl (lv_at hl 5 rfl) ?_
      refine pb_iast hx hb hK hP hD hS 3 1 rfl rfl (pb_lb T (pb_pre a k * 8 + o)) (rfl) (⟨by omega, by decide⟩) dX1_put_188 (fun H locs hP hD hS => ?_)
      have hP : va_P D vwCl (pb_wM cI cJ m0 a1 l1 o1 c1 h1 (va_up Af (pb_lb T (pb_pre a k * 8 + o)) (nI a)) (va_up Lf (pb_lb T (pb_pre a k * 8 + o)) (nI k)) (va_up Of (pb_lb T (pb_pre a k * 8 + o)) (nI o)) Cf Hf 0 (nI T.length)) H := hP
      have hD : va_D A (pb_wM cI cJ m0 a1 l1 o1 c1 h1 (va_up Af (pb_lb T (pb_pre a k * 8 + o)) (nI a)) (va_up Lf (pb_lb T (pb_pre a k * 8 + o)) (nI k)) (va_up Of (pb_lb T (pb_pre a k * 8 + o)) (nI o)) Cf Hf 0 (nI T.length)) := hD
      refine lv_aload_n hx hb dX1_put_189 rfl (lv_at hl 2 rfl) ?_
      refine va_get (D := D) (ci := 1) (v := .ref c1) (C := RX1) (T := TX1) (N := 7) hx hb hts hinX1 hown hK hP 0 rfl rfl 5 (by decide) (hts (.fieldLink RX1 19 "PrefixBenchModel" "cost" "[I") (by decide +kernel)) (fun _ h9 => h9) rfl dX1_put_190 ?_
      refine lv_iload hx hb dX1_put_193 (lv_at hl 0 rfl) ?_
      refine lv_iload hx hb dX1_put_195 (lv_at hl 6 rfl) ?_
      refine pb_iast hx hb hK hP hD hS 4 1 rfl rfl (pb_lb T (pb_pre a k * 8 + o)) (rfl) (⟨by omega, by decide⟩) dX1_put_197 (fun H locs hP hD hS => ?_)
      have hP : va_P D vwCl (pb_wM cI cJ m0 a1 l1 o1 c1 h1 (va_up Af (pb_lb T (pb_pre a k * 8 + o)) (nI a)) (va_up Lf (pb_lb T (pb_pre a k * 8 + o)) (nI k)) (va_up Of (pb_lb T (pb_pre a k * 8 + o)) (nI o)) (va_up Cf (pb_lb T (pb_pre a k * 8 + o)) (nI cn)) Hf 0 (nI T.length)) H := hP
      have hD : va_D A (pb_wM cI cJ m0 a1 l1 o1 c1 h1 (va_up Af (pb_lb T (pb_pre a k * 8 + o)) (nI a)) (va_up Lf (pb_lb T (pb_pre a k * 8 + o)) (nI k)) (va_up Of (pb_lb T (pb_pre a k * 8 + o)) (nI o)) (va_up Cf (pb_lb T (pb_pre a k * 8 + o)) (nI cn)) Hf 0 (nI T.length)) := hD
      refine lv_aload_n hx hb dX1_put_198 rfl (lv_at hl 2 rfl) ?_
      refine va_get (D := D) (ci := 1) (v := .ref h1) (C := RX1) (T := TX1) (N := 7) hx hb hts hinX1 hown hK hP 0 rfl rfl 6 (by decide) (hts (.fieldLink RX1 22 "PrefixBenchModel" "hops" "[J") (by decide +kernel)) (fun _ h9 => h9) rfl dX1_put_199 ?_
      refine lv_iload hx hb dX1_put_202 (lv_at hl 0 rfl) ?_
      refine lv_lload hx hb dX1_put_204 (lv_at hl 7 rfl) ?_
      refine pb_last hx hb hK hP hD hS 5 0 rfl rfl (pb_lb T (pb_pre a k * 8 + o)) (rfl) (⟨by omega, by decide⟩) dX1_put_206 (fun H locs hP hD hS => ?_)
      have hP : va_P D vwCl (pb_wM cI cJ m0 a1 l1 o1 c1 h1 (va_up Af (pb_lb T (pb_pre a k * 8 + o)) (nI a)) (va_up Lf (pb_lb T (pb_pre a k * 8 + o)) (nI k)) (va_up Of (pb_lb T (pb_pre a k * 8 + o)) (nI o)) (va_up Cf (pb_lb T (pb_pre a k * 8 + o)) (nI cn)) (va_up Hf (pb_lb T (pb_pre a k * 8 + o)) hz) 0 (nI T.length)) H := hP
      have hD : va_D A (pb_wM cI cJ m0 a1 l1 o1 c1 h1 (va_up Af (pb_lb T (pb_pre a k * 8 + o)) (nI a)) (va_up Lf (pb_lb T (pb_pre a k * 8 + o)) (nI k)) (va_up Of (pb_lb T (pb_pre a k * 8 + o)) (nI o)) (va_up Cf (pb_lb T (pb_pre a k * 8 + o)) (nI cn)) (va_up Hf (pb_lb T (pb_pre a k * 8 + o)) hz) 0 (nI T.length)) := hD
      refine lv_aload_n hx hb dX1_put_207 rfl (lv_at hl 2 rfl) ?_
      refine va_get (D := D) (ci := 1) (v := .int (nI T.length)) (C := RX1) (T := TX1) (N := 7) hx hb hts hinX1 hown hK hP 0 rfl rfl 1 (by decide) (hts (.fieldLink RX1 48 "PrefixBenchModel" "count" "I") (by decide +kernel)) (fun _ h9 => h9) rfl dX1_put_208 ?_
      exact pb_wi hx hb hr hlocks hS dX1_put_211 (by rw [hTe, hTl]) (fun t ht hW => by
        rw [hTe]
        have hrep := pb_repM_set hR.2 (pb_lb T (pb_pre a k * 8 + o)) ((pb_pre a k * 8 + o), nI cn, hz)
        rw [e1, e2, e3] at hrep
        exact ⟨_, _, _, _, _, hrep, by rw [hTl]; exact pb_B_of hP hK hD t ht hW⟩)
    · have hno : pb_hs T (pb_pre a k * 8 + o) = false := pb_bgT (fun z => by
        rw [if_pos (hiff.mpr z)] at q123
        exact absurd q123 (by decide))
      have hTe : pb_put T ((pb_pre a k * 8 + o), nI cn, hz) = pb_ins T (pb_lb T (pb_pre a k * 8 + o)) ((pb_pre a k * 8 + o), nI cn, hz) := by
        unfold pb_put
        exact if_neg (by rw [hno]; decide)
      have hTl := pb_ins_len (T := T) hle ((pb_pre a k * 8 + o), nI cn, hz)
      refine lv_aload_n hx hb dX1_put_126 rfl (lv_at hl 2 rfl) ?_
      refine va_get (D := D) (ci := 1) (v := .int (nI T.length)) (C := RX1) (T := TX1) (N := 7) hx hb hts hinX1 hown hK hP 0 rfl rfl 1 (by decide) (hts (.fieldLink RX1 48 "PrefixBenchModel" "count" "I") (by decide +kernel)) (fun _ h9 => h9) rfl dX1_put_127 ?_
      refine lv_istore (lv' := [(9, .int (nI T.length)), (8, .int (nI (pb_lb T (pb_pre a k * 8 + o)))), (7, .int 1), (0, .ref m0), (1, .int (nI a)), (2, .int (nI k)), (3, .int (nI o)), (4, .int (nI cn)), (5, .long hz)]) hx hb dX1_put_130 hl (by decide) rfl (fun ls hl => ?_)
      refine pb_loopH (fun kk H locs ls => ∃ tz : Nat, ((pb_lb T (pb_pre a k * 8 + o)) ≤ tz ∧ tz ≤ T.length ∧ tz - (pb_lb T (pb_pre a k * 8 + o)) = kk) ∧ va_P D vwCl (pb_wM cI cJ m0 a1 l1 o1 c1 h1 (pb_shR Af tz T.length) (pb_shR Lf tz T.length) (pb_shR Of tz T.length) (pb_shR Cf tz T.length) (pb_shR Hf tz T.length) 0 (nI T.length)) H ∧ va_D A (pb_wM cI cJ m0 a1 l1 o1 c1 h1 (pb_shR Af tz T.length) (pb_shR Lf tz T.length) (pb_shR Of tz T.length) (pb_shR Cf tz T.length) (pb_shR Hf tz T.length) 0 (nI T.length)) ∧ va_S A s.heap H locs ∧ lv_has ls 10 [(9, .int (nI tz)), (8, .int (nI (pb_lb T (pb_pre a k * 8 + o)))), (0, .ref m0), (1, .int (nI a)), (2, .int (nI k)), (3, .int (nI o)), (4, .int (nI cn)), (5, .long hz)]) 132 [] (fun kk H locs ls hI ih => ?_) (fun hL => ?_)
      · obtain ⟨tz, ⟨ht1, ht2, rfl⟩, hP, hD, hS, hl⟩ := hI
        refine lv_iload hx hb dX1_put_132 (lv_at hl 0 rfl) ?_
        refine lv_iload hx hb dX1_put_134 (lv_at hl 1 rfl) ?_
        refine lv_icmp_le (tgt := 155) hx hb dX1_put_136 (by decide) (fun q136 => ?_) (fun q136 => ?_)
        · have hw := (nI_leI (a := tz) (b := (pb_lb T (pb_pre a k * 8 + o))) (by omega) (by omega)).mp q136
          rw [show tz = (pb_lb T (pb_pre a k * 8 + o)) by omega] at hP hD
          refine lv_aload_n hx hb dX1_put_155 rfl (lv_at hl 2 rfl) ?_
          refine lv_dup hx hb dX1_put_156 rfl ?_
          refine va_get (D := D) (ci := 1) (v := .int (nI T.length)) (C := RX1) (T := TX1) (N := 7) hx hb hts hinX1 hown hK hP 0 rfl rfl 1 (by decide) (hts (.fieldLink RX1 48 "PrefixBenchModel" "count" "I") (by decide +kernel)) (fun _ h9 => h9) rfl dX1_put_157 ?_
          refine lv_iconst (v := 1) hx hb dX1_put_160 (by decide) ?_
          refine lv_iadd hx hb dX1_put_161 ?_
          refine pb_topi (z := nI (T.length + 1)) (nI_1 _) ?_
          refine va_put (D := D) (ci := 1) (v := .int (nI (T.length + 1))) (ty := .int) (C := RX1) (T := TX1) (N := 7) hx hb hts hinX1 tyX1 tyX1_ok nmX1 hown hK hP hD hS 0 rfl rfl 1 (by decide) (hts (.fieldLink RX1 48 "PrefixBenchModel" "count" "I") (by decide +kernel)) (fun _ h9 => h9) rfl (by decide +kernel) rfl rfl (Nat.le_of_ble_eq_true rfl) dX1_put_162 (fun H locs hP hD hS => ?_)
          have hP : va_P D vwCl (pb_wM cI cJ m0 a1 l1 o1 c1 h1 (pb_shR Af (pb_lb T (pb_pre a k * 8 + o)) T.length) (pb_shR Lf (pb_lb T (pb_pre a k * 8 + o)) T.length) (pb_shR Of (pb_lb T (pb_pre a k * 8 + o)) T.length) (pb_shR Cf (pb_lb T (pb_pre a k * 8 + o)) T.length) (pb_shR Hf (pb_lb T (pb_pre a k * 8 + o)) T.length) 0 (nI (T.length + 1))) H := hP
          have hD : va_D A (pb_wM cI cJ m0 a1 l1 o1 c1 h1 (pb_shR Af (pb_lb T (pb_pre a k * 8 + o)) T.length) (pb_shR Lf (pb_lb T (pb_pre a k * 8 + o)) T.length) (pb_shR Of (pb_lb T (pb_pre a k * 8 + o)) T.length) (pb_shR Cf (pb_lb T (pb_pre a k * 8 + o)) T.length) (pb_shR Hf (pb_lb T (pb_pre a k * 8 + o)) T.length) 0 (nI (T.length + 1))) := hD
          refine lv_aload_n hx hb dX1_put_165 rfl (lv_at hl 2 rfl) ?_
          refine va_get (D := D) (ci := 1) (v := .ref a1) (C := RX1) (T := TX1) (N := 7) hx hb hts hinX1 hown hK hP 0 rfl rfl 2 (by decide) (hts (.fieldLink RX1 7 "PrefixBenchModel" "address" "[I") (by decide +kernel)) (fun _ h9 => h9) rfl dX1_put_166 ?_
          refine lv_iload hx hb dX1_put_169 (lv_at hl 1 rfl) ?_
          refine lv_iload_n hx hb dX1_put_171 rfl (lv_at hl 3 rfl) ?_
          refine pb_iast hx hb hK hP hD hS 1 1 rfl rfl (pb_lb T (pb_pre a k * 8 + o)) (rfl) (⟨by omega, by decide⟩) dX1_put_172 (fun H locs hP hD hS => ?_)
          have hP : va_P D vwCl (pb_wM cI cJ m0 a1 l1 o1 c1 h1 (va_up (pb_shR Af (pb_lb T (pb_pre a k * 8 + o)) T.length) (pb_lb T (pb_pre a k * 8 + o)) (nI a)) (pb_shR Lf (pb_lb T (pb_pre a k * 8 + o)) T.length) (pb_shR Of (pb_lb T (pb_pre a k * 8 + o)) T.length) (pb_shR Cf (pb_lb T (pb_pre a k * 8 + o)) T.length) (pb_shR Hf (pb_lb T (pb_pre a k * 8 + o)) T.length) 0 (nI (T.length + 1))) H := hP
          have hD : va_D A (pb_wM cI cJ m0 a1 l1 o1 c1 h1 (va_up (pb_shR Af (pb_lb T (pb_pre a k * 8 + o)) T.length) (pb_lb T (pb_pre a k * 8 + o)) (nI a)) (pb_shR Lf (pb_lb T (pb_pre a k * 8 + o)) T.length) (pb_shR Of (pb_lb T (pb_pre a k * 8 + o)) T.length) (pb_shR Cf (pb_lb T (pb_pre a k * 8 + o)) T.length) (pb_shR Hf (pb_lb T (pb_pre a k * 8 + o)) T.length) 0 (nI (T.length + 1))) := hD
          refine lv_aload_n hx hb dX1_put_173 rfl (lv_at hl 2 rfl) ?_
          refine va_get (D := D) (ci := 1) (v := .ref l1) (C := RX1) (T := TX1) (N := 7) hx hb hts hinX1 hown hK hP 0 rfl rfl 3 (by decide) (hts (.fieldLink RX1 13 "PrefixBenchModel" "length" "[I") (by decide +kernel)) (fun _ h9 => h9) rfl dX1_put_174 ?_
          refine lv_iload hx hb dX1_put_177 (lv_at hl 1 rfl) ?_
          refine lv_iload_n hx hb dX1_put_179 rfl (lv_at hl 4 rfl) ?_
          refine pb_iast hx hb hK hP hD hS 2 1 rfl rfl (pb_lb T (pb_pre a k * 8 + o)) (rfl) (⟨by omega, by decide⟩) dX1_put_180 (fun H locs hP hD hS => ?_)
          have hP : va_P D vwCl (pb_wM cI cJ m0 a1 l1 o1 c1 h1 (va_up (pb_shR Af (pb_lb T (pb_pre a k * 8 + o)) T.length) (pb_lb T (pb_pre a k * 8 + o)) (nI a)) (va_up (pb_shR Lf (pb_lb T (pb_pre a k * 8 + o)) T.length) (pb_lb T (pb_pre a k * 8 + o)) (nI k)) (pb_shR Of (pb_lb T (pb_pre a k * 8 + o)) T.length) (pb_shR Cf (pb_lb T (pb_pre a k * 8 + o)) T.length) (pb_shR Hf (pb_lb T (pb_pre a k * 8 + o)) T.length) 0 (nI (T.length + 1))) H := hP
          have hD : va_D A (pb_wM cI cJ m0 a1 l1 o1 c1 h1 (va_up (pb_shR Af (pb_lb T (pb_pre a k * 8 + o)) T.length) (pb_lb T (pb_pre a k * 8 + o)) (nI a)) (va_up (pb_shR Lf (pb_lb T (pb_pre a k * 8 + o)) T.length) (pb_lb T (pb_pre a k * 8 + o)) (nI k)) (pb_shR Of (pb_lb T (pb_pre a k * 8 + o)) T.length) (pb_shR Cf (pb_lb T (pb_pre a k * 8 + o)) T.length) (pb_shR Hf (pb_lb T (pb_pre a k * 8 + o)) T.length) 0 (nI (T.length + 1))) := hD
          refine lv_aload_n hx hb dX1_put_181 rfl (lv_at hl 2 rfl) ?_
          refine va_get (D := D) (ci := 1) (v := .ref o1) (C := RX1) (T := TX1) (N := 7) hx hb hts hinX1 hown hK hP 0 rfl rfl 4 (by decide) (hts (.fieldLink RX1 16 "PrefixBenchModel" "origin" "[I") (by decide +kernel)) (fun _ h9 => h9) rfl dX1_put_182 ?_
          refine lv_iload hx hb dX1_put_185 (lv_at hl 1 rfl) ?_
          refine lv_iload_n hx hb dX1_put_187 rfl (lv_at hl 5 rfl) ?_
          refine pb_iast hx hb hK hP hD hS 3 1 rfl rfl (pb_lb T (pb_pre a k * 8 + o)) (rfl) (⟨by omega, by decide⟩) dX1_put_188 (fun H locs hP hD hS => ?_)
          have hP : va_P D vwCl (pb_wM cI cJ m0 a1 l1 o1 c1 h1 (va_up (pb_shR Af (pb_lb T (pb_pre a k * 8 + o)) T.length) (pb_lb T (pb_pre a k * 8 + o)) (nI a)) (va_up (pb_shR Lf (pb_lb T (pb_pre a k * 8 + o)) T.length) (pb_lb T (pb_pre a k * 8 + o)) (nI k)) (va_up (pb_shR Of (pb_lb T (pb_pre a k * 8 + o)) T.length) (pb_lb T (pb_pre a k * 8 + o)) (nI o)) (pb_shR Cf (pb_lb T (pb_pre a k * 8 + o)) T.length) (pb_shR Hf (pb_lb T (pb_pre a k * 8 + o)) T.length) 0 (nI (T.length + 1))) H := hP
          have hD : va_D A (pb_wM cI cJ m0 a1 l1 o1 c1 h1 (va_up (pb_shR Af (pb_lb T (pb_pre a k * 8 + o)) T.length) (pb_lb T (pb_pre a k * 8 + o)) (nI a)) (va_up (pb_shR Lf (pb_lb T (pb_pre a k * 8 + o)) T.length) (pb_lb T (pb_pre a k * 8 + o)) (nI k)) (va_up (pb_shR Of (pb_lb T (pb_pre a k * 8 + o)) T.length) (pb_lb T (pb_pre a k * 8 + o)) (nI o)) (pb_shR Cf (pb_lb T (pb_pre a k * 8 + o)) T.length) (pb_shR Hf (pb_lb T (pb_pre a k * 8 + o)) T.length) 0 (nI (T.length + 1))) := hD
          refine lv_aload_n hx hb dX1_put_189 rfl (lv_at hl 2 rfl) ?_
          refine va_get (D := D) (ci := 1) (v := .ref c1) (C := RX1) (T := TX1) (N := 7) hx hb hts hinX1 hown hK hP 0 rfl rfl 5 (by decide) (hts (.fieldLink RX1 19 "PrefixBenchModel" "cost" "[I") (by decide +kernel)) (fun _ h9 => h9) rfl dX1_put_190 ?_
          refine lv_iload hx hb dX1_put_193 (lv_at hl 1 rfl) ?_
          refine lv_iload hx hb dX1_put_195 (lv_at hl 6 rfl) ?_
          refine pb_iast hx hb hK hP hD hS 4 1 rfl rfl (pb_lb T (pb_pre a k * 8 + o)) (rfl) (⟨by omega, by decide⟩) dX1_put_197 (fun H locs hP hD hS => ?_)
          have hP : va_P D vwCl (pb_wM cI cJ m0 a1 l1 o1 c1 h1 (va_up (pb_shR Af (pb_lb T (pb_pre a k * 8 + o)) T.length) (pb_lb T (pb_pre a k * 8 + o)) (nI a)) (va_up (pb_shR Lf (pb_lb T (pb_pre a k * 8 + o)) T.length) (pb_lb T (pb_pre a k * 8 + o)) (nI k)) (va_up (pb_shR Of (pb_lb T (pb_pre a k * 8 + o)) T.length) (pb_lb T (pb_pre a k * 8 + o)) (nI o)) (va_up (pb_shR Cf (pb_lb T (pb_pre a k * 8 + o)) T.length) (pb_lb T (pb_pre a k * 8 + o)) (nI cn)) (pb_shR Hf (pb_lb T (pb_pre a k * 8 + o)) T.length) 0 (nI (T.length + 1))) H := hP
          have hD : va_D A (pb_wM cI cJ m0 a1 l1 o1 c1 h1 (va_up (pb_shR Af (pb_lb T (pb_pre a k * 8 + o)) T.length) (pb_lb T (pb_pre a k * 8 + o)) (nI a)) (va_up (pb_shR Lf (pb_lb T (pb_pre a k * 8 + o)) T.length) (pb_lb T (pb_pre a k * 8 + o)) (nI k)) (va_up (pb_shR Of (pb_lb T (pb_pre a k * 8 + o)) T.length) (pb_lb T (pb_pre a k * 8 + o)) (nI o)) (va_up (pb_shR Cf (pb_lb T (pb_pre a k * 8 + o)) T.length) (pb_lb T (pb_pre a k * 8 + o)) (nI cn)) (pb_shR Hf (pb_lb T (pb_pre a k * 8 + o)) T.length) 0 (nI (T.length + 1))) := hD
          refine lv_aload_n hx hb dX1_put_198 rfl (lv_at hl 2 rfl) ?_
          refine va_get (D := D) (ci := 1) (v := .ref h1) (C := RX1) (T := TX1) (N := 7) hx hb hts hinX1 hown hK hP 0 rfl rfl 6 (by decide) (hts (.fieldLink RX1 22 "PrefixBenchModel" "hops" "[J") (by decide +kernel)) (fun _ h9 => h9) rfl dX1_put_199 ?_
          refine lv_iload hx hb dX1_put_202 (lv_at hl 1 rfl) ?_
          refine lv_lload hx hb dX1_put_204 (lv_at hl 7 rfl) ?_
          refine pb_last hx hb hK hP hD hS 5 0 rfl rfl (pb_lb T (pb_pre a k * 8 + o)) (rfl) (⟨by omega, by decide⟩) dX1_put_206 (fun H locs hP hD hS => ?_)
          have hP : va_P D vwCl (pb_wM cI cJ m0 a1 l1 o1 c1 h1 (va_up (pb_shR Af (pb_lb T (pb_pre a k * 8 + o)) T.length) (pb_lb T (pb_pre a k * 8 + o)) (nI a)) (va_up (pb_shR Lf (pb_lb T (pb_pre a k * 8 + o)) T.length) (pb_lb T (pb_pre a k * 8 + o)) (nI k)) (va_up (pb_shR Of (pb_lb T (pb_pre a k * 8 + o)) T.length) (pb_lb T (pb_pre a k * 8 + o)) (nI o)) (va_up (pb_shR Cf (pb_lb T (pb_pre a k * 8 + o)) T.length) (pb_lb T (pb_pre a k * 8 + o)) (nI cn)) (va_up (pb_shR Hf (pb_lb T (pb_pre a k * 8 + o)) T.length) (pb_lb T (pb_pre a k * 8 + o)) hz) 0 (nI (T.length + 1))) H := hP
          have hD : va_D A (pb_wM cI cJ m0 a1 l1 o1 c1 h1 (va_up (pb_shR Af (pb_lb T (pb_pre a k * 8 + o)) T.length) (pb_lb T (pb_pre a k * 8 + o)) (nI a)) (va_up (pb_shR Lf (pb_lb T (pb_pre a k * 8 + o)) T.length) (pb_lb T (pb_pre a k * 8 + o)) (nI k)) (va_up (pb_shR Of (pb_lb T (pb_pre a k * 8 + o)) T.length) (pb_lb T (pb_pre a k * 8 + o)) (nI o)) (va_up (pb_shR Cf (pb_lb T (pb_pre a k * 8 + o)) T.length) (pb_lb T (pb_pre a k * 8 + o)) (nI cn)) (va_up (pb_shR Hf (pb_lb T (pb_pre a k * 8 + o)) T.length) (pb_lb T (pb_pre a k * 8 + o)) hz) 0 (nI (T.length + 1))) := hD
          refine lv_aload_n hx hb dX1_put_207 rfl (lv_at hl 2 rfl) ?_
          refine va_get (D := D) (ci := 1) (v := .int (nI (T.length + 1))) (C := RX1) (T := TX1) (N := 7) hx hb hts hinX1 hown hK hP 0 rfl rfl 1 (by decide) (hts (.fieldLink RX1 48 "PrefixBenchModel" "count" "I") (by decide +kernel)) (fun _ h9 => h9) rfl dX1_put_208 ?_
          exact pb_wi hx hb hr hlocks hS dX1_put_211 (by rw [hTe, hTl]) (fun t ht hW => by
            rw [hTe]
            have hrep := pb_repM_ins hR.2 hle ((pb_pre a k * 8 + o), nI cn, hz)
            rw [e1, e2, e3] at hrep
            exact ⟨_, _, _, _, _, hrep, by rw [hTl]; exact pb_B_of hP hK hD t ht hW⟩)
        · have hw := mt (nI_leI (a := tz) (b := (pb_lb T (pb_pre a k * 8 + o))) (by omega) (by omega)).mpr q136
          refine lv_aload_n hx hb dX1_put_139 rfl (lv_at hl 2 rfl) ?_
          refine lv_iload hx hb dX1_put_140 (lv_at hl 0 rfl) ?_
          refine lv_iconst (v := 1) hx hb dX1_put_142 (by decide) ?_
          refine lv_isub hx hb dX1_put_143 ?_
          refine pb_topi (z := nI (tz - 1)) (pk_sub (b := 1) (by omega)) ?_
          refine lv_iload hx hb dX1_put_144 (lv_at hl 0 rfl) ?_
          refine pb_callWv (As := [.int (nI (tz - 1)), .int (nI tz)]) (rest := []) ⟨hx, hb, hml, hown, hts⟩ (c_X1_copy (nI T.length) (tz - 1) tz (by omega) (by omega)) (cwV 2 hts gX1_put_X1_copy rfl rfl rfl (by decide +kernel) ⟨Nat.le_of_ble_eq_true rfl, Nat.le_of_ble_eq_true rfl⟩) hP hK hD hS hA (va_recv hK hP (ci := 1) (q0 := 0) rfl rfl) rfl rfl hl (Nat.le_of_ble_eq_true rfl) dX1_put_146 ⟨Nat.le_of_ble_eq_true rfl, Nat.le_of_ble_eq_true rfl⟩ (fun t9 H locs ht hvm hB hsub hS => ?_)
          obtain ⟨hP, hD⟩ := pb_back (wd' := (pb_wM cI cJ m0 a1 l1 o1 c1 h1 (va_up (pb_shR Af tz T.length) tz ((pb_shR Af tz T.length) (tz - 1))) (va_up (pb_shR Lf tz T.length) tz ((pb_shR Lf tz T.length) (tz - 1))) (va_up (pb_shR Of tz T.length) tz ((pb_shR Of tz T.length) (tz - 1))) (va_up (pb_shR Cf tz T.length) tz ((pb_shR Cf tz T.length) (tz - 1))) (va_up (pb_shR Hf tz T.length) tz ((pb_shR Hf tz T.length) (tz - 1))) 0 (nI T.length))) ht hB hsub
          refine lv_iinc (v := nI (tz - 1)) (lv' := [(9, .int (nI (tz - 1))), (8, .int (nI (pb_lb T (pb_pre a k * 8 + o)))), (0, .ref m0), (1, .int (nI a)), (2, .int (nI k)), (3, .int (nI o)), (4, .int (nI cn)), (5, .long hz)]) hx hb dX1_put_149 hl (k := 0) rfl ((pb_dec _).trans (pk_sub (b := 1) (by omega))) (by decide) rfl (fun ls hl => ?_)
          refine lv_goto (tgt := 132) hx hb dX1_put_152 (by decide) ?_
          exact ih _ _ _ _ (by omega) ⟨tz - 1, ⟨by omega, by omega, rfl⟩, by rw [← pb_shR_s Af (by omega) ht2, ← pb_shR_s Lf (by omega) ht2, ← pb_shR_s Of (by omega) ht2, ← pb_shR_s Cf (by omega) ht2, ← pb_shR_s Hf (by omega) ht2]; exact hP, by rw [← pb_shR_s Af (by omega) ht2, ← pb_shR_s Lf (by omega) ht2, ← pb_shR_s Of (by omega) ht2, ← pb_shR_s Cf (by omega) ht2, ← pb_shR_s Hf (by omega) ht2]; exact hD, hS, lv_sub hl [0, 1, 2, 3, 4, 5, 6, 7] rfl⟩
      · exact hL _ _ _ _ ⟨T.length, ⟨hle, Nat.le_refl _, rfl⟩, by rw [pb_shR_0, pb_shR_0, pb_shR_0, pb_shR_0, pb_shR_0]; exact hP, by rw [pb_shR_0, pb_shR_0, pb_shR_0, pb_shR_0, pb_shR_0]; exact hD, hS, lv_sub hl [0, 1, 3, 4, 5, 6, 7, 8] rfl⟩

set_option maxHeartbeats 4000000 in
set_option maxRecDepth 100000 in
theorem c_X1_put_bad (n9 xa xl xo xc : Int32) (hz : Int64) (hbad : ¬ (pb_vp xa xl ∧ pb_vi xo 8 ∧ pb_vi xc 65536 ∧ hz ≠ 0)) : pb_Wq l yX1_put wsX1_put 4 0 0 88 [.ref m0, .int xa, .int xl, .int xo, .int xc, .long hz] D (pb_ty cI cJ) (pb_wM cI cJ m0 a1 l1 o1 c1 h1 Af Lf Of Cf Hf co n9) sz (some (.int 0)) (pb_B D (pb_ty cI cJ) (pb_wM cI cJ m0 a1 l1 o1 c1 h1 Af Lf Of Cf Hf 1 n9)) := by
  refine pb_ofW RX1 (by decide) rfl rfl (Nat.le_of_ble_eq_true rfl) (fun p e s m args below meth c ls A hx hb hml hr hlocks hown hts hP hK hD hS hA hl hin9 => ?_)
  have hinX1 : ∀ w ∈ wsX10, w ∈ wsX1_put := by decide +kernel
  have hl : lv_has ls 10 [(0, .ref m0), (1, .int xa), (2, .int xl), (3, .int xo), (4, .int xc), (5, .long hz)] := hl
  have hP : va_P D vwCl (pb_wM cI cJ m0 a1 l1 o1 c1 h1 Af Lf Of Cf Hf co n9) s.heap := hP
  have hD : va_D A (pb_wM cI cJ m0 a1 l1 o1 c1 h1 Af Lf Of Cf Hf co n9) := hD
  refine pb_join (fun ls => lv_has ls 10 [(0, .ref m0), (1, .int xa), (2, .int xl), (3, .int xo), (4, .int xc), (5, .long hz)]) 41 [] (fun ls hl => ?_) (fun hJ => ?_)
  · skip
    refine lv_iconst (v := 0) hx hb dX1_put_41 (by decide) ?_
    refine lv_istore (lv' := [(7, .int 0), (0, .ref m0), (1, .int xa), (2, .int xl), (3, .int xo), (4, .int xc), (5, .long hz)]) hx hb dX1_put_42 hl (by decide) rfl (fun ls hl => ?_)
    refine lv_iload hx hb dX1_put_44 (lv_at hl 0 rfl) ?_
    refine lv_if_eq (tgt := 62) hx hb dX1_put_46 (by decide) (fun q46 => ?_) (fun q46 => absurd (rfl) q46)
    refine lv_iconst (v := 0) hx hb dX1_put_62 (by decide) ?_
    refine lv_istore (lv' := [(8, .int 0), (7, .int 0), (0, .ref m0), (1, .int xa), (2, .int xl), (3, .int xo), (4, .int xc), (5, .long hz)]) hx hb dX1_put_63 hl (by decide) rfl (fun ls hl => ?_)
    refine lv_aload_n hx hb dX1_put_65 rfl (lv_at hl 2 rfl) ?_
    refine lv_iload hx hb dX1_put_66 (lv_at hl 1 rfl) ?_
    refine lv_if_ne (tgt := 75) hx hb dX1_put_68 (by decide) (fun q68 => absurd q68 (fun z => z rfl)) (fun q68 => ?_)
    refine lv_iconst (v := 1) hx hb dX1_put_71 (by decide) ?_
    refine lv_goto (tgt := 102) hx hb dX1_put_72 (by decide) ?_
    refine va_put (D := D) (ci := 1) (v := .int 1) (ty := .int) (C := RX1) (T := TX1) (N := 7) hx hb hts hinX1 tyX1 tyX1_ok nmX1 hown hK hP hD hS 0 rfl rfl 0 (by decide) (hts (.fieldLink RX1 26 "PrefixBenchModel" "code" "I") (by decide +kernel)) (fun _ h9 => h9) rfl (by decide +kernel) rfl rfl (Nat.le_of_ble_eq_true rfl) dX1_put_102 (fun H locs hP hD hS => ?_)
    have hP : va_P D vwCl (pb_wM cI cJ m0 a1 l1 o1 c1 h1 Af Lf Of Cf Hf 1 n9) H := hP
    have hD : va_D A (pb_wM cI cJ m0 a1 l1 o1 c1 h1 Af Lf Of Cf Hf 1 n9) := hD
    refine lv_aload_n hx hb dX1_put_105 rfl (lv_at hl 2 rfl) ?_
    refine va_get (D := D) (ci := 1) (v := .int 1) (C := RX1) (T := TX1) (N := 7) hx hb hts hinX1 hown hK hP 0 rfl rfl 0 (by decide) (hts (.fieldLink RX1 26 "PrefixBenchModel" "code" "I") (by decide +kernel)) (fun _ h9 => h9) rfl dX1_put_106 ?_
    refine lv_if_le (tgt := 114) hx hb dX1_put_109 (by decide) (fun q109 => absurd q109 (by decide)) (fun q109 => ?_)
    refine lv_iconst (v := 0) hx hb dX1_put_112 (by decide) ?_
    exact pb_wi hx hb hr hlocks hS dX1_put_113 (rfl) (pb_B_of hP hK hD)
  · skip
    refine lv_iload_n hx hb dX1_put_0 rfl (lv_at hl 1 rfl) ?_
    refine lv_iload_n hx hb dX1_put_1 rfl (lv_at hl 2 rfl) ?_
    rcases Classical.em (pb_vp xa xl) with hvp | hvp
    · obtain ⟨a, k, rfl, rfl, ha, hk, hg⟩ := id hvp
      refine pb_callS (As := [.int (nI a), .int (nI k)]) (rest := []) ⟨hx, hb, hml, hown, hts⟩ (c_X1_isPrefix_t a k ha hk hg) (va_cwS 2 hts gX1_put_X1_isPrefix rfl rfl rfl (by decide +kernel) ⟨Nat.le_of_ble_eq_true rfl, Nat.le_of_ble_eq_true rfl⟩) rfl rfl hl (Nat.le_of_ble_eq_true rfl) dX1_put_2 ⟨Nat.le_of_ble_eq_true rfl, Nat.le_of_ble_eq_true rfl⟩ ?_
      refine lv_if_eq (tgt := 41) hx hb dX1_put_5 (by decide) (fun q5 => absurd q5 (by decide)) (fun q5 => ?_)
      refine lv_iload_n hx hb dX1_put_8 rfl (lv_at hl 3 rfl) ?_
      refine lv_if_lt (tgt := 41) hx hb dX1_put_9 (by decide) (fun q9 => ?_) (fun q9 => ?_)
      · exact hJ _ hl
      · refine lv_iload_n hx hb dX1_put_12 rfl (lv_at hl 3 rfl) ?_
        refine lv_bipush (v := 8) hx hb dX1_put_13 (by decide) ?_
        refine lv_icmp_ge (tgt := 41) hx hb dX1_put_15 (by decide) (fun q15 => ?_) (fun q15 => ?_)
        · exact hJ _ hl
        · refine lv_iload hx hb dX1_put_18 (lv_at hl 4 rfl) ?_
          refine lv_if_lt (tgt := 41) hx hb dX1_put_20 (by decide) (fun q20 => ?_) (fun q20 => ?_)
          · exact hJ _ hl
          · refine lv_iload hx hb dX1_put_23 (lv_at hl 4 rfl) ?_
            refine lv_ldc (v := 65535) hx hb hown (hts (.constant RX1 58 65535) (by decide +kernel)) dX1_put_25 ?_
            refine lv_icmp_gt (tgt := 41) hx hb dX1_put_27 (by decide) (fun q27 => ?_) (fun q27 => ?_)
            · exact hJ _ hl
            · refine lv_lload hx hb dX1_put_30 (lv_at hl 5 rfl) ?_
              refine lv_lconst (v := 0) hx hb dX1_put_32 (by decide) ?_
              refine W.lcmp hx hb dX1_put_33 ?_
              refine lv_if_eq (tgt := 41) hx hb dX1_put_34 (by decide) (fun q34 => ?_) (fun q34 => ?_)
              · have q34 := (lg_cmp_eq _ _).mp q34
                exact hJ _ hl
              · have q34 := mt (lg_cmp_eq _ _).mpr q34
                obtain ⟨oj, hoj, rfl⟩ := nI_of q9
                obtain ⟨cj, hcj, rfl⟩ := nI_of q20
                exact absurd ⟨hvp, ⟨oj, by have := mt (nI_leI (a := 8) (b := oj) (by decide) hoj).mpr q15; omega, rfl⟩, ⟨cj, by have := mt (nI_ltI (a := 65535) (b := cj) (by decide) hcj).mpr q27; omega, rfl⟩, q34⟩ hbad
    · refine pb_callS (As := [.int xa, .int xl]) (rest := []) ⟨hx, hb, hml, hown, hts⟩ (c_X1_isPrefix_f xa xl hvp) (va_cwS 2 hts gX1_put_X1_isPrefix rfl rfl rfl (by decide +kernel) ⟨Nat.le_of_ble_eq_true rfl, Nat.le_of_ble_eq_true rfl⟩) rfl rfl hl (Nat.le_of_ble_eq_true rfl) dX1_put_2 ⟨Nat.le_of_ble_eq_true rfl, Nat.le_of_ble_eq_true rfl⟩ ?_
      refine lv_if_eq (tgt := 41) hx hb dX1_put_5 (by decide) (fun q5 => ?_) (fun q5 => absurd (rfl) q5)
      exact hJ _ hl

set_option maxHeartbeats 4000000 in
set_option maxRecDepth 100000 in
theorem c_X1_take_bad (n9 xa xl xo : Int32) (hbad : ¬ (pb_vp xa xl ∧ pb_vi xo 8)) : pb_Wq l yX1_take wsX1_take 4 0 0 88 [.ref m0, .int xa, .int xl, .int xo] D (pb_ty cI cJ) (pb_wM cI cJ m0 a1 l1 o1 c1 h1 Af Lf Of Cf Hf co n9) sz (some (.int 0)) (pb_B D (pb_ty cI cJ) (pb_wM cI cJ m0 a1 l1 o1 c1 h1 Af Lf Of Cf Hf 1 n9)) := by
  refine pb_ofW RX1 (by decide) rfl rfl (Nat.le_of_ble_eq_true rfl) (fun p e s m args below meth c ls A hx hb hml hr hlocks hown hts hP hK hD hS hA hl hin9 => ?_)
  have hinX1 : ∀ w ∈ wsX10, w ∈ wsX1_take := by decide +kernel
  have hl : lv_has ls 6 [(0, .ref m0), (1, .int xa), (2, .int xl), (3, .int xo)] := hl
  have hP : va_P D vwCl (pb_wM cI cJ m0 a1 l1 o1 c1 h1 Af Lf Of Cf Hf co n9) s.heap := hP
  have hD : va_D A (pb_wM cI cJ m0 a1 l1 o1 c1 h1 Af Lf Of Cf Hf co n9) := hD
  refine pb_join (fun ls => lv_has ls 6 [(0, .ref m0), (1, .int xa), (2, .int xl), (3, .int xo)]) 22 [] (fun ls hl => ?_) (fun hJ => ?_)
  · skip
    refine lv_iconst (v := 0) hx hb dX1_take_22 (by decide) ?_
    refine lv_istore (lv' := [(4, .int 0), (0, .ref m0), (1, .int xa), (2, .int xl), (3, .int xo)]) hx hb dX1_take_23 hl (by decide) rfl (fun ls hl => ?_)
    refine lv_aload_n hx hb dX1_take_25 rfl (lv_at hl 1 rfl) ?_
    refine lv_iload hx hb dX1_take_26 (lv_at hl 0 rfl) ?_
    refine lv_if_eq (tgt := 35) hx hb dX1_take_28 (by decide) (fun q28 => ?_) (fun q28 => absurd (rfl) q28)
    refine lv_iconst (v := 1) hx hb dX1_take_35 (by decide) ?_
    refine va_put (D := D) (ci := 1) (v := .int 1) (ty := .int) (C := RX1) (T := TX1) (N := 7) hx hb hts hinX1 tyX1 tyX1_ok nmX1 hown hK hP hD hS 0 rfl rfl 0 (by decide) (hts (.fieldLink RX1 26 "PrefixBenchModel" "code" "I") (by decide +kernel)) (fun _ h9 => h9) rfl (by decide +kernel) rfl rfl (Nat.le_of_ble_eq_true rfl) dX1_take_36 (fun H locs hP hD hS => ?_)
    have hP : va_P D vwCl (pb_wM cI cJ m0 a1 l1 o1 c1 h1 Af Lf Of Cf Hf 1 n9) H := hP
    have hD : va_D A (pb_wM cI cJ m0 a1 l1 o1 c1 h1 Af Lf Of Cf Hf 1 n9) := hD
    refine lv_iload hx hb dX1_take_39 (lv_at hl 0 rfl) ?_
    refine lv_if_eq (tgt := 57) hx hb dX1_take_41 (by decide) (fun q41 => ?_) (fun q41 => absurd (rfl) q41)
    refine lv_iconst (v := 0) hx hb dX1_take_57 (by decide) ?_
    refine lv_istore (lv' := [(5, .int 0), (4, .int 0), (0, .ref m0), (1, .int xa), (2, .int xl), (3, .int xo)]) hx hb dX1_take_58 hl (by decide) rfl (fun ls hl => ?_)
    refine lv_iload hx hb dX1_take_60 (lv_at hl 1 rfl) ?_
    refine lv_if_eq (tgt := 77) hx hb dX1_take_62 (by decide) (fun q62 => ?_) (fun q62 => absurd (rfl) q62)
    refine lv_iconst (v := 0) hx hb dX1_take_77 (by decide) ?_
    exact pb_wz hx hb hr hlocks hS dX1_take_78 (by decide) (rfl) (pb_B_of hP hK hD)
  · skip
    refine lv_iload_n hx hb dX1_take_0 rfl (lv_at hl 1 rfl) ?_
    refine lv_iload_n hx hb dX1_take_1 rfl (lv_at hl 2 rfl) ?_
    rcases Classical.em (pb_vp xa xl) with hvp | hvp
    · obtain ⟨a, k, rfl, rfl, ha, hk, hg⟩ := id hvp
      refine pb_callS (As := [.int (nI a), .int (nI k)]) (rest := []) ⟨hx, hb, hml, hown, hts⟩ (c_X1_isPrefix_t a k ha hk hg) (va_cwS 2 hts gX1_take_X1_isPrefix rfl rfl rfl (by decide +kernel) ⟨Nat.le_of_ble_eq_true rfl, Nat.le_of_ble_eq_true rfl⟩) rfl rfl hl (Nat.le_of_ble_eq_true rfl) dX1_take_2 ⟨Nat.le_of_ble_eq_true rfl, Nat.le_of_ble_eq_true rfl⟩ ?_
      refine lv_if_eq (tgt := 22) hx hb dX1_take_5 (by decide) (fun q5 => absurd q5 (by decide)) (fun q5 => ?_)
      refine lv_iload_n hx hb dX1_take_8 rfl (lv_at hl 3 rfl) ?_
      refine lv_if_lt (tgt := 22) hx hb dX1_take_9 (by decide) (fun q9 => ?_) (fun q9 => ?_)
      · exact hJ _ hl
      · refine lv_iload_n hx hb dX1_take_12 rfl (lv_at hl 3 rfl) ?_
        refine lv_bipush (v := 8) hx hb dX1_take_13 (by decide) ?_
        refine lv_icmp_ge (tgt := 22) hx hb dX1_take_15 (by decide) (fun q15 => ?_) (fun q15 => ?_)
        · exact hJ _ hl
        · obtain ⟨oj, hoj, rfl⟩ := nI_of q9
          exact absurd ⟨hvp, ⟨oj, by have := mt (nI_leI (a := 8) (b := oj) (by decide) hoj).mpr q15; omega, rfl⟩⟩ hbad
    · refine pb_callS (As := [.int xa, .int xl]) (rest := []) ⟨hx, hb, hml, hown, hts⟩ (c_X1_isPrefix_f xa xl hvp) (va_cwS 2 hts gX1_take_X1_isPrefix rfl rfl rfl (by decide +kernel) ⟨Nat.le_of_ble_eq_true rfl, Nat.le_of_ble_eq_true rfl⟩) rfl rfl hl (Nat.le_of_ble_eq_true rfl) dX1_take_2 ⟨Nat.le_of_ble_eq_true rfl, Nat.le_of_ble_eq_true rfl⟩ ?_
      refine lv_if_eq (tgt := 22) hx hb dX1_take_5 (by decide) (fun q5 => ?_) (fun q5 => absurd (rfl) q5)
      exact hJ _ hl

theorem pb_o9 {x : Int32} (h1 : ¬ x < -1) (h2 : ¬ 8 ≤ x) : x = -1 ∨ pb_vi x 8 := by
  rw [Int32.lt_iff_toInt_lt, show (-1 : Int32).toInt = -1 from by decide] at h1
  rw [Int32.le_iff_toInt_le, show (8 : Int32).toInt = 8 from by decide] at h2
  by_cases z : x.toInt < 0
  · left
    apply Int32.toInt_inj.mp
    rw [show (-1 : Int32).toInt = -1 from by decide]
    omega
  · right
    obtain ⟨j, hj, rfl⟩ := nI_of (x := x) (by rw [Int32.lt_iff_toInt_lt, Int32.toInt_zero]; omega)
    rw [nI_toInt hj] at h2
    exact ⟨j, by omega, rfl⟩
set_option maxHeartbeats 4000000 in
set_option maxRecDepth 100000 in
theorem c_X1_route_bad (n9 xa xl xo xw : Int32) (hbad : ¬ (pb_vp xa xl ∧ (xo = -1 ∨ pb_vi xo 8) ∧ pb_vi xw 3)) : pb_Wq l yX1_route wsX1_route 4 0 0 88 [.ref m0, .int xa, .int xl, .int xo, .int xw] D (pb_ty cI cJ) (pb_wM cI cJ m0 a1 l1 o1 c1 h1 Af Lf Of Cf Hf co n9) sz (some (.int 0)) (pb_B D (pb_ty cI cJ) (pb_wM cI cJ m0 a1 l1 o1 c1 h1 Af Lf Of Cf Hf 1 n9)) := by
  refine pb_ofW RX1 (by decide) rfl rfl (Nat.le_of_ble_eq_true rfl) (fun p e s m args below meth c ls A hx hb hml hr hlocks hown hts hP hK hD hS hA hl hin9 => ?_)
  have hinX1 : ∀ w ∈ wsX10, w ∈ wsX1_route := by decide +kernel
  have hl : lv_has ls 8 [(0, .ref m0), (1, .int xa), (2, .int xl), (3, .int xo), (4, .int xw)] := hl
  have hP : va_P D vwCl (pb_wM cI cJ m0 a1 l1 o1 c1 h1 Af Lf Of Cf Hf co n9) s.heap := hP
  have hD : va_D A (pb_wM cI cJ m0 a1 l1 o1 c1 h1 Af Lf Of Cf Hf co n9) := hD
  refine pb_join (fun ls => lv_has ls 8 [(0, .ref m0), (1, .int xa), (2, .int xl), (3, .int xo), (4, .int xw)]) 34 [] (fun ls hl => ?_) (fun hJ => ?_)
  · skip
    refine lv_iconst (v := 0) hx hb dX1_route_34 (by decide) ?_
    refine lv_istore (lv' := [(5, .int 0), (0, .ref m0), (1, .int xa), (2, .int xl), (3, .int xo), (4, .int xw)]) hx hb dX1_route_35 hl (by decide) rfl (fun ls hl => ?_)
    refine lv_aload_n hx hb dX1_route_37 rfl (lv_at hl 1 rfl) ?_
    refine lv_iload hx hb dX1_route_38 (lv_at hl 0 rfl) ?_
    refine lv_if_eq (tgt := 47) hx hb dX1_route_40 (by decide) (fun q40 => ?_) (fun q40 => absurd (rfl) q40)
    refine lv_iconst (v := 1) hx hb dX1_route_47 (by decide) ?_
    refine va_put (D := D) (ci := 1) (v := .int 1) (ty := .int) (C := RX1) (T := TX1) (N := 7) hx hb hts hinX1 tyX1 tyX1_ok nmX1 hown hK hP hD hS 0 rfl rfl 0 (by decide) (hts (.fieldLink RX1 26 "PrefixBenchModel" "code" "I") (by decide +kernel)) (fun _ h9 => h9) rfl (by decide +kernel) rfl rfl (Nat.le_of_ble_eq_true rfl) dX1_route_48 (fun H locs hP hD hS => ?_)
    have hP : va_P D vwCl (pb_wM cI cJ m0 a1 l1 o1 c1 h1 Af Lf Of Cf Hf 1 n9) H := hP
    have hD : va_D A (pb_wM cI cJ m0 a1 l1 o1 c1 h1 Af Lf Of Cf Hf 1 n9) := hD
    refine lv_iload hx hb dX1_route_51 (lv_at hl 0 rfl) ?_
    refine lv_if_ne (tgt := 58) hx hb dX1_route_53 (by decide) (fun q53 => absurd q53 (fun z => z rfl)) (fun q53 => ?_)
    refine lv_iconst (v := 0) hx hb dX1_route_56 (by decide) ?_
    exact pb_wi hx hb hr hlocks hS dX1_route_57 (rfl) (pb_B_of hP hK hD)
  · skip
    refine lv_iload_n hx hb dX1_route_0 rfl (lv_at hl 1 rfl) ?_
    refine lv_iload_n hx hb dX1_route_1 rfl (lv_at hl 2 rfl) ?_
    rcases Classical.em (pb_vp xa xl) with hvp | hvp
    · obtain ⟨a, k, rfl, rfl, ha, hk, hg⟩ := id hvp
      refine pb_callS (As := [.int (nI a), .int (nI k)]) (rest := []) ⟨hx, hb, hml, hown, hts⟩ (c_X1_isPrefix_t a k ha hk hg) (va_cwS 2 hts gX1_route_X1_isPrefix rfl rfl rfl (by decide +kernel) ⟨Nat.le_of_ble_eq_true rfl, Nat.le_of_ble_eq_true rfl⟩) rfl rfl hl (Nat.le_of_ble_eq_true rfl) dX1_route_2 ⟨Nat.le_of_ble_eq_true rfl, Nat.le_of_ble_eq_true rfl⟩ ?_
      refine lv_if_eq (tgt := 34) hx hb dX1_route_5 (by decide) (fun q5 => absurd q5 (by decide)) (fun q5 => ?_)
      refine lv_iload_n hx hb dX1_route_8 rfl (lv_at hl 3 rfl) ?_
      refine lv_iconst (v := (-1)) hx hb dX1_route_9 (by decide) ?_
      refine lv_icmp_lt (tgt := 34) hx hb dX1_route_10 (by decide) (fun q10 => ?_) (fun q10 => ?_)
      · exact hJ _ hl
      · refine lv_iload_n hx hb dX1_route_13 rfl (lv_at hl 3 rfl) ?_
        refine lv_bipush (v := 8) hx hb dX1_route_14 (by decide) ?_
        refine lv_icmp_ge (tgt := 34) hx hb dX1_route_16 (by decide) (fun q16 => ?_) (fun q16 => ?_)
        · exact hJ _ hl
        · refine lv_iload hx hb dX1_route_19 (lv_at hl 4 rfl) ?_
          refine lv_if_lt (tgt := 34) hx hb dX1_route_21 (by decide) (fun q21 => ?_) (fun q21 => ?_)
          · exact hJ _ hl
          · refine lv_iload hx hb dX1_route_24 (lv_at hl 4 rfl) ?_
            refine lv_iconst (v := 2) hx hb dX1_route_26 (by decide) ?_
            refine lv_icmp_gt (tgt := 34) hx hb dX1_route_27 (by decide) (fun q27 => ?_) (fun q27 => ?_)
            · exact hJ _ hl
            · obtain ⟨wj, hwj, rfl⟩ := nI_of q21
              exact absurd ⟨hvp, pb_o9 q10 q16, ⟨wj, by have := mt (nI_ltI (a := 2) (b := wj) (by decide) hwj).mpr q27; omega, rfl⟩⟩ hbad
    · refine pb_callS (As := [.int xa, .int xl]) (rest := []) ⟨hx, hb, hml, hown, hts⟩ (c_X1_isPrefix_f xa xl hvp) (va_cwS 2 hts gX1_route_X1_isPrefix rfl rfl rfl (by decide +kernel) ⟨Nat.le_of_ble_eq_true rfl, Nat.le_of_ble_eq_true rfl⟩) rfl rfl hl (Nat.le_of_ble_eq_true rfl) dX1_route_2 ⟨Nat.le_of_ble_eq_true rfl, Nat.le_of_ble_eq_true rfl⟩ ?_
      refine lv_if_eq (tgt := 34) hx hb dX1_route_5 (by decide) (fun q5 => ?_) (fun q5 => absurd (rfl) q5)
      exact hJ _ hl

set_option maxHeartbeats 4000000 in
set_option maxRecDepth 100000 in
theorem c_X1_route_os0 {T : List pb_Rt} (hT : pb_ok T) (hR : pb_rM T Af Lf Of Cf Hf) (a k : Nat) (ha : a < 2 ^ 32) (hk : k ≤ 32) (hg : a % 2 ^ (32 - k) = 0) (o : Nat) (ho : o < 8) {r : pb_Rt} (hr1 : T[(pb_lb T (pb_pre a k * 8 + o))]? = some r) (hh : pb_hs T (pb_pre a k * 8 + o) = true) : pb_Wq l yX1_route wsX1_route 4 0 0 88 [.ref m0, .int (nI a), .int (nI k), .int (nI o), .int 0] D (pb_ty cI cJ) (pb_wM cI cJ m0 a1 l1 o1 c1 h1 Af Lf Of Cf Hf co (nI T.length)) sz (some (.int (pb_tl r 0))) (pb_B D (pb_ty cI cJ) (pb_wM cI cJ m0 a1 l1 o1 c1 h1 Af Lf Of Cf Hf 0 (nI T.length))) := by
  refine pb_ofW RX1 (by decide) rfl rfl (Nat.le_of_ble_eq_true rfl) (fun p e s m args below meth c ls A hx hb hml hr hlocks hown hts hP hK hD hS hA hl hin9 => ?_)
  have hinX1 : ∀ w ∈ wsX10, w ∈ wsX1_route := by decide +kernel
  have hl : lv_has ls 8 [(0, .ref m0), (1, .int (nI a)), (2, .int (nI k)), (3, .int (nI o)), (4, .int 0)] := hl
  have hP : va_P D vwCl (pb_wM cI cJ m0 a1 l1 o1 c1 h1 Af Lf Of Cf Hf co (nI T.length)) s.heap := hP
  have hD : va_D A (pb_wM cI cJ m0 a1 l1 o1 c1 h1 Af Lf Of Cf Hf co (nI T.length)) := hD
  have hcap := hR.1
  have hlt := pb_lb_lt hr1
  have hkb := pb_key_lt hT (List.mem_of_getElem? hr1)
  refine lv_iload_n hx hb dX1_route_0 rfl (lv_at hl 1 rfl) ?_
  refine lv_iload_n hx hb dX1_route_1 rfl (lv_at hl 2 rfl) ?_
  refine pb_callS (As := [.int (nI a), .int (nI k)]) (rest := []) ⟨hx, hb, hml, hown, hts⟩ (c_X1_isPrefix_t a k ha hk hg) (va_cwS 2 hts gX1_route_X1_isPrefix rfl rfl rfl (by decide +kernel) ⟨Nat.le_of_ble_eq_true rfl, Nat.le_of_ble_eq_true rfl⟩) rfl rfl hl (Nat.le_of_ble_eq_true rfl) dX1_route_2 ⟨Nat.le_of_ble_eq_true rfl, Nat.le_of_ble_eq_true rfl⟩ ?_
  refine lv_if_eq (tgt := 34) hx hb dX1_route_5 (by decide) (fun q5 => absurd q5 (by decide)) (fun q5 => ?_)
  refine lv_iload_n hx hb dX1_route_8 rfl (lv_at hl 3 rfl) ?_
  refine lv_iconst (v := (-1)) hx hb dX1_route_9 (by decide) ?_
  refine lv_icmp_lt (tgt := 34) hx hb dX1_route_10 (by decide) (fun q10 => absurd q10 (pb_nom o (by omega))) (fun q10 => ?_)
  refine lv_iload_n hx hb dX1_route_13 rfl (lv_at hl 3 rfl) ?_
  refine lv_bipush (v := 8) hx hb dX1_route_14 (by decide) ?_
  refine lv_icmp_ge (tgt := 34) hx hb dX1_route_16 (by decide) (fun q16 => absurd q16 (fun z => absurd ((nI_leI (a := 8) (b := o) (by decide) (by omega)).mp z) (by omega))) (fun q16 => ?_)
  refine lv_iload hx hb dX1_route_19 (lv_at hl 4 rfl) ?_
  refine lv_if_lt (tgt := 34) hx hb dX1_route_21 (by decide) (fun q21 => absurd q21 (by decide)) (fun q21 => ?_)
  refine lv_iload hx hb dX1_route_24 (lv_at hl 4 rfl) ?_
  refine lv_iconst (v := 2) hx hb dX1_route_26 (by decide) ?_
  refine lv_icmp_gt (tgt := 34) hx hb dX1_route_27 (by decide) (fun q27 => absurd q27 (by decide)) (fun q27 => ?_)
  refine lv_iconst (v := 1) hx hb dX1_route_30 (by decide) ?_
  refine lv_goto (tgt := 35) hx hb dX1_route_31 (by decide) ?_
  refine lv_istore (lv' := [(5, .int 1), (0, .ref m0), (1, .int (nI a)), (2, .int (nI k)), (3, .int (nI o)), (4, .int 0)]) hx hb dX1_route_35 hl (by decide) rfl (fun ls hl => ?_)
  refine lv_aload_n hx hb dX1_route_37 rfl (lv_at hl 1 rfl) ?_
  refine lv_iload hx hb dX1_route_38 (lv_at hl 0 rfl) ?_
  refine lv_if_eq (tgt := 47) hx hb dX1_route_40 (by decide) (fun q40 => absurd q40 (by decide)) (fun q40 => ?_)
  refine lv_iconst (v := 0) hx hb dX1_route_43 (by decide) ?_
  refine lv_goto (tgt := 48) hx hb dX1_route_44 (by decide) ?_
  refine va_put (D := D) (ci := 1) (v := .int 0) (ty := .int) (C := RX1) (T := TX1) (N := 7) hx hb hts hinX1 tyX1 tyX1_ok nmX1 hown hK hP hD hS 0 rfl rfl 0 (by decide) (hts (.fieldLink RX1 26 "PrefixBenchModel" "code" "I") (by decide +kernel)) (fun _ h9 => h9) rfl (by decide +kernel) rfl rfl (Nat.le_of_ble_eq_true rfl) dX1_route_48 (fun H locs hP hD hS => ?_)
  have hP : va_P D vwCl (pb_wM cI cJ m0 a1 l1 o1 c1 h1 Af Lf Of Cf Hf 0 (nI T.length)) H := hP
  have hD : va_D A (pb_wM cI cJ m0 a1 l1 o1 c1 h1 Af Lf Of Cf Hf 0 (nI T.length)) := hD
  refine lv_iload hx hb dX1_route_51 (lv_at hl 0 rfl) ?_
  refine lv_if_ne (tgt := 58) hx hb dX1_route_53 (by decide) (fun q53 => ?_) (fun q53 => absurd q53 (by decide))
  refine lv_aload_n hx hb dX1_route_58 rfl (lv_at hl 1 rfl) ?_
  refine lv_iload_n hx hb dX1_route_59 rfl (lv_at hl 2 rfl) ?_
  refine lv_iload_n hx hb dX1_route_60 rfl (lv_at hl 3 rfl) ?_
  refine lv_iload_n hx hb dX1_route_61 rfl (lv_at hl 4 rfl) ?_
  refine lv_if_ge (tgt := 69) hx hb dX1_route_62 (by decide) (fun q62 => ?_) (fun q62 => absurd (nI_pos' (by omega)) q62)
  refine lv_iload_n hx hb dX1_route_69 rfl (lv_at hl 4 rfl) ?_
  refine pb_callS (As := [.int (nI a), .int (nI k), .int (nI o)]) (rest := [.ref m0]) ⟨hx, hb, hml, hown, hts⟩ (c_X1_rank a k o ha (by omega) (by omega)) (va_cwS 3 hts gX1_route_X1_rank rfl rfl rfl (by decide +kernel) ⟨Nat.le_of_ble_eq_true rfl, Nat.le_of_ble_eq_true rfl⟩) rfl rfl hl (Nat.le_of_ble_eq_true rfl) dX1_route_70 ⟨Nat.le_of_ble_eq_true rfl, Nat.le_of_ble_eq_true rfl⟩ ?_
  refine pb_callV (As := [.long (lN (pb_pre a k * 8 + o))]) (rest := []) ⟨hx, hb, hml, hown, hts⟩ (c_X1_place hT hR (pb_pre a k * 8 + o) (by show (64 * a + k) * 8 + o < _; omega)) (cwV 1 hts gX1_route_X1_place rfl rfl rfl (by decide +kernel) ⟨Nat.le_of_ble_eq_true rfl, Nat.le_of_ble_eq_true rfl⟩) hP hK (va_recv hK hP (ci := 1) (q0 := 0) rfl rfl) rfl rfl hl (Nat.le_of_ble_eq_true rfl) dX1_route_73 ⟨Nat.le_of_ble_eq_true rfl, Nat.le_of_ble_eq_true rfl⟩ ?_
  refine lv_istore (lv' := [(6, .int (nI (pb_lb T (pb_pre a k * 8 + o)))), (5, .int 1), (0, .ref m0), (1, .int (nI a)), (2, .int (nI k)), (3, .int (nI o)), (4, .int 0)]) hx hb dX1_route_76 hl (by decide) rfl (fun ls hl => ?_)
  refine lv_iload_n hx hb dX1_route_78 rfl (lv_at hl 5 rfl) ?_
  refine lv_if_ge (tgt := 121) hx hb dX1_route_79 (by decide) (fun q79 => ?_) (fun q79 => absurd (nI_pos' (by omega)) q79)
  refine lv_aload_n hx hb dX1_route_121 rfl (lv_at hl 2 rfl) ?_
  refine lv_iload hx hb dX1_route_122 (lv_at hl 0 rfl) ?_
  refine lv_iload_n hx hb dX1_route_124 rfl (lv_at hl 3 rfl) ?_
  refine lv_iload_n hx hb dX1_route_125 rfl (lv_at hl 4 rfl) ?_
  refine lv_iload_n hx hb dX1_route_126 rfl (lv_at hl 5 rfl) ?_
  refine pb_callV (As := [.int (nI (pb_lb T (pb_pre a k * 8 + o))), .int (nI a), .int (nI k), .int (nI o)]) (rest := []) ⟨hx, hb, hml, hown, hts⟩ (c_X1_isThere_s hT hR (pb_lb T (pb_pre a k * 8 + o)) hr1 a k o ha (by omega) ho) (cwV 4 hts gX1_route_X1_isThere rfl rfl rfl (by decide +kernel) ⟨Nat.le_of_ble_eq_true rfl, Nat.le_of_ble_eq_true rfl⟩) hP hK (va_recv hK hP (ci := 1) (q0 := 0) rfl rfl) rfl rfl hl (Nat.le_of_ble_eq_true rfl) dX1_route_127 ⟨Nat.le_of_ble_eq_true rfl, Nat.le_of_ble_eq_true rfl⟩ ?_
  refine pb_topi (z := 1) (if_pos ((pb_hs_iff hT.1 hr1).mpr hh)) ?_
  refine lv_istore (lv' := [(7, .int 1), (6, .int (nI (pb_lb T (pb_pre a k * 8 + o)))), (5, .int 1), (0, .ref m0), (1, .int (nI a)), (2, .int (nI k)), (3, .int (nI o)), (4, .int 0)]) hx hb dX1_route_130 hl (by decide) rfl (fun ls hl => ?_)
  refine lv_iload hx hb dX1_route_132 (lv_at hl 0 rfl) ?_
  refine lv_if_ne (tgt := 141) hx hb dX1_route_134 (by decide) (fun q134 => ?_) (fun q134 => absurd q134 (by decide))
  refine lv_iload hx hb dX1_route_141 (lv_at hl 7 rfl) ?_
  refine lv_if_ne (tgt := 156) hx hb dX1_route_143 (by decide) (fun q143 => absurd q143 (fun z => z rfl)) (fun q143 => ?_)
  refine lv_aload_n hx hb dX1_route_146 rfl (lv_at hl 3 rfl) ?_
  refine va_get (D := D) (ci := 1) (v := .ref c1) (C := RX1) (T := TX1) (N := 7) hx hb hts hinX1 hown hK hP 0 rfl rfl 5 (by decide) (hts (.fieldLink RX1 19 "PrefixBenchModel" "cost" "[I") (by decide +kernel)) (fun _ h9 => h9) rfl dX1_route_147 ?_
  refine lv_iload hx hb dX1_route_150 (lv_at hl 1 rfl) ?_
  refine pb_iald hx hb hK hP 4 1 rfl rfl (pb_lb T (pb_pre a k * 8 + o)) (rfl) (⟨by omega, by decide⟩) dX1_route_152 ?_
  refine lv_goto (tgt := 182) hx hb dX1_route_153 (by decide) ?_
  exact pb_wi hx hb hr hlocks hS dX1_route_182 (by rw [(hR.2 _ _ hr1).2.2.2.1]; rfl) (pb_B_of hP hK hD)

set_option maxHeartbeats 4000000 in
set_option maxRecDepth 100000 in
theorem c_X1_route_on0 {T : List pb_Rt} (hT : pb_ok T) (hR : pb_rM T Af Lf Of Cf Hf) (a k : Nat) (ha : a < 2 ^ 32) (hk : k ≤ 32) (hg : a % 2 ^ (32 - k) = 0) (o : Nat) (ho : o < 8) (hh : pb_hs T (pb_pre a k * 8 + o) = false) : pb_Wq l yX1_route wsX1_route 4 0 0 88 [.ref m0, .int (nI a), .int (nI k), .int (nI o), .int 0] D (pb_ty cI cJ) (pb_wM cI cJ m0 a1 l1 o1 c1 h1 Af Lf Of Cf Hf co (nI T.length)) sz (some (.int (-1))) (pb_B D (pb_ty cI cJ) (pb_wM cI cJ m0 a1 l1 o1 c1 h1 Af Lf Of Cf Hf 0 (nI T.length))) := by
  refine pb_ofW RX1 (by decide) rfl rfl (Nat.le_of_ble_eq_true rfl) (fun p e s m args below meth c ls A hx hb hml hr hlocks hown hts hP hK hD hS hA hl hin9 => ?_)
  have hinX1 : ∀ w ∈ wsX10, w ∈ wsX1_route := by decide +kernel
  have hl : lv_has ls 8 [(0, .ref m0), (1, .int (nI a)), (2, .int (nI k)), (3, .int (nI o)), (4, .int 0)] := hl
  have hP : va_P D vwCl (pb_wM cI cJ m0 a1 l1 o1 c1 h1 Af Lf Of Cf Hf co (nI T.length)) s.heap := hP
  have hD : va_D A (pb_wM cI cJ m0 a1 l1 o1 c1 h1 Af Lf Of Cf Hf co (nI T.length)) := hD
  have hcap := hR.1
  refine lv_iload_n hx hb dX1_route_0 rfl (lv_at hl 1 rfl) ?_
  refine lv_iload_n hx hb dX1_route_1 rfl (lv_at hl 2 rfl) ?_
  refine pb_callS (As := [.int (nI a), .int (nI k)]) (rest := []) ⟨hx, hb, hml, hown, hts⟩ (c_X1_isPrefix_t a k ha hk hg) (va_cwS 2 hts gX1_route_X1_isPrefix rfl rfl rfl (by decide +kernel) ⟨Nat.le_of_ble_eq_true rfl, Nat.le_of_ble_eq_true rfl⟩) rfl rfl hl (Nat.le_of_ble_eq_true rfl) dX1_route_2 ⟨Nat.le_of_ble_eq_true rfl, Nat.le_of_ble_eq_true rfl⟩ ?_
  refine lv_if_eq (tgt := 34) hx hb dX1_route_5 (by decide) (fun q5 => absurd q5 (by decide)) (fun q5 => ?_)
  refine lv_iload_n hx hb dX1_route_8 rfl (lv_at hl 3 rfl) ?_
  refine lv_iconst (v := (-1)) hx hb dX1_route_9 (by decide) ?_
  refine lv_icmp_lt (tgt := 34) hx hb dX1_route_10 (by decide) (fun q10 => absurd q10 (pb_nom o (by omega))) (fun q10 => ?_)
  refine lv_iload_n hx hb dX1_route_13 rfl (lv_at hl 3 rfl) ?_
  refine lv_bipush (v := 8) hx hb dX1_route_14 (by decide) ?_
  refine lv_icmp_ge (tgt := 34) hx hb dX1_route_16 (by decide) (fun q16 => absurd q16 (fun z => absurd ((nI_leI (a := 8) (b := o) (by decide) (by omega)).mp z) (by omega))) (fun q16 => ?_)
  refine lv_iload hx hb dX1_route_19 (lv_at hl 4 rfl) ?_
  refine lv_if_lt (tgt := 34) hx hb dX1_route_21 (by decide) (fun q21 => absurd q21 (by decide)) (fun q21 => ?_)
  refine lv_iload hx hb dX1_route_24 (lv_at hl 4 rfl) ?_
  refine lv_iconst (v := 2) hx hb dX1_route_26 (by decide) ?_
  refine lv_icmp_gt (tgt := 34) hx hb dX1_route_27 (by decide) (fun q27 => absurd q27 (by decide)) (fun q27 => ?_)
  refine lv_iconst (v := 1) hx hb dX1_route_30 (by decide) ?_
  refine lv_goto (tgt := 35) hx hb dX1_route_31 (by decide) ?_
  refine lv_istore (lv' := [(5, .int 1), (0, .ref m0), (1, .int (nI a)), (2, .int (nI k)), (3, .int (nI o)), (4, .int 0)]) hx hb dX1_route_35 hl (by decide) rfl (fun ls hl => ?_)
  refine lv_aload_n hx hb dX1_route_37 rfl (lv_at hl 1 rfl) ?_
  refine lv_iload hx hb dX1_route_38 (lv_at hl 0 rfl) ?_
  refine lv_if_eq (tgt := 47) hx hb dX1_route_40 (by decide) (fun q40 => absurd q40 (by decide)) (fun q40 => ?_)
  refine lv_iconst (v := 0) hx hb dX1_route_43 (by decide) ?_
  refine lv_goto (tgt := 48) hx hb dX1_route_44 (by decide) ?_
  refine va_put (D := D) (ci := 1) (v := .int 0) (ty := .int) (C := RX1) (T := TX1) (N := 7) hx hb hts hinX1 tyX1 tyX1_ok nmX1 hown hK hP hD hS 0 rfl rfl 0 (by decide) (hts (.fieldLink RX1 26 "PrefixBenchModel" "code" "I") (by decide +kernel)) (fun _ h9 => h9) rfl (by decide +kernel) rfl rfl (Nat.le_of_ble_eq_true rfl) dX1_route_48 (fun H locs hP hD hS => ?_)
  have hP : va_P D vwCl (pb_wM cI cJ m0 a1 l1 o1 c1 h1 Af Lf Of Cf Hf 0 (nI T.length)) H := hP
  have hD : va_D A (pb_wM cI cJ m0 a1 l1 o1 c1 h1 Af Lf Of Cf Hf 0 (nI T.length)) := hD
  refine lv_iload hx hb dX1_route_51 (lv_at hl 0 rfl) ?_
  refine lv_if_ne (tgt := 58) hx hb dX1_route_53 (by decide) (fun q53 => ?_) (fun q53 => absurd q53 (by decide))
  refine lv_aload_n hx hb dX1_route_58 rfl (lv_at hl 1 rfl) ?_
  refine lv_iload_n hx hb dX1_route_59 rfl (lv_at hl 2 rfl) ?_
  refine lv_iload_n hx hb dX1_route_60 rfl (lv_at hl 3 rfl) ?_
  refine lv_iload_n hx hb dX1_route_61 rfl (lv_at hl 4 rfl) ?_
  refine lv_if_ge (tgt := 69) hx hb dX1_route_62 (by decide) (fun q62 => ?_) (fun q62 => absurd (nI_pos' (by omega)) q62)
  refine lv_iload_n hx hb dX1_route_69 rfl (lv_at hl 4 rfl) ?_
  refine pb_callS (As := [.int (nI a), .int (nI k), .int (nI o)]) (rest := [.ref m0]) ⟨hx, hb, hml, hown, hts⟩ (c_X1_rank a k o ha (by omega) (by omega)) (va_cwS 3 hts gX1_route_X1_rank rfl rfl rfl (by decide +kernel) ⟨Nat.le_of_ble_eq_true rfl, Nat.le_of_ble_eq_true rfl⟩) rfl rfl hl (Nat.le_of_ble_eq_true rfl) dX1_route_70 ⟨Nat.le_of_ble_eq_true rfl, Nat.le_of_ble_eq_true rfl⟩ ?_
  refine pb_callV (As := [.long (lN (pb_pre a k * 8 + o))]) (rest := []) ⟨hx, hb, hml, hown, hts⟩ (c_X1_place hT hR (pb_pre a k * 8 + o) (by show (64 * a + k) * 8 + o < _; omega)) (cwV 1 hts gX1_route_X1_place rfl rfl rfl (by decide +kernel) ⟨Nat.le_of_ble_eq_true rfl, Nat.le_of_ble_eq_true rfl⟩) hP hK (va_recv hK hP (ci := 1) (q0 := 0) rfl rfl) rfl rfl hl (Nat.le_of_ble_eq_true rfl) dX1_route_73 ⟨Nat.le_of_ble_eq_true rfl, Nat.le_of_ble_eq_true rfl⟩ ?_
  refine lv_istore (lv' := [(6, .int (nI (pb_lb T (pb_pre a k * 8 + o)))), (5, .int 1), (0, .ref m0), (1, .int (nI a)), (2, .int (nI k)), (3, .int (nI o)), (4, .int 0)]) hx hb dX1_route_76 hl (by decide) rfl (fun ls hl => ?_)
  refine lv_iload_n hx hb dX1_route_78 rfl (lv_at hl 5 rfl) ?_
  refine lv_if_ge (tgt := 121) hx hb dX1_route_79 (by decide) (fun q79 => ?_) (fun q79 => absurd (nI_pos' (by omega)) q79)
  refine lv_aload_n hx hb dX1_route_121 rfl (lv_at hl 2 rfl) ?_
  refine lv_iload hx hb dX1_route_122 (lv_at hl 0 rfl) ?_
  refine lv_iload_n hx hb dX1_route_124 rfl (lv_at hl 3 rfl) ?_
  refine lv_iload_n hx hb dX1_route_125 rfl (lv_at hl 4 rfl) ?_
  refine lv_iload_n hx hb dX1_route_126 rfl (lv_at hl 5 rfl) ?_
  have hle := pb_lb_le T (pb_pre a k * 8 + o)
  rcases hd : T[(pb_lb T (pb_pre a k * 8 + o))]? with _ | r
  · have hle2 := List.getElem?_eq_none_iff.mp hd
    refine pb_callV (As := [.int (nI (pb_lb T (pb_pre a k * 8 + o))), .int (nI a), .int (nI k), .int (nI o)]) (rest := []) ⟨hx, hb, hml, hown, hts⟩ (c_X1_isThere_n (pb_lb T (pb_pre a k * 8 + o)) T.length ⟨hle2, by omega⟩ (nI a) (nI k) (nI o)) (cwV 4 hts gX1_route_X1_isThere rfl rfl rfl (by decide +kernel) ⟨Nat.le_of_ble_eq_true rfl, Nat.le_of_ble_eq_true rfl⟩) hP hK (va_recv hK hP (ci := 1) (q0 := 0) rfl rfl) rfl rfl hl (Nat.le_of_ble_eq_true rfl) dX1_route_127 ⟨Nat.le_of_ble_eq_true rfl, Nat.le_of_ble_eq_true rfl⟩ ?_
    refine lv_istore (lv' := [(7, .int 0), (6, .int (nI (pb_lb T (pb_pre a k * 8 + o)))), (5, .int 1), (0, .ref m0), (1, .int (nI a)), (2, .int (nI k)), (3, .int (nI o)), (4, .int 0)]) hx hb dX1_route_130 hl (by decide) rfl (fun ls hl => ?_)
    refine lv_iload hx hb dX1_route_132 (lv_at hl 0 rfl) ?_
    refine lv_if_ne (tgt := 141) hx hb dX1_route_134 (by decide) (fun q134 => absurd q134 (fun z => z rfl)) (fun q134 => ?_)
    refine lv_iconst (v := (-1)) hx hb dX1_route_137 (by decide) ?_
    refine lv_goto (tgt := 182) hx hb dX1_route_138 (by decide) ?_
    exact pb_wi hx hb hr hlocks hS dX1_route_182 (rfl) (pb_B_of hP hK hD)
  · have hkb := pb_key_lt hT (List.mem_of_getElem? hd)
    have hlt := pb_lb_lt hd
    have hiff := pb_hs_iff hT.1 hd
    refine pb_callV (As := [.int (nI (pb_lb T (pb_pre a k * 8 + o))), .int (nI a), .int (nI k), .int (nI o)]) (rest := []) ⟨hx, hb, hml, hown, hts⟩ (c_X1_isThere_s hT hR (pb_lb T (pb_pre a k * 8 + o)) hd a k o ha (by omega) ho) (cwV 4 hts gX1_route_X1_isThere rfl rfl rfl (by decide +kernel) ⟨Nat.le_of_ble_eq_true rfl, Nat.le_of_ble_eq_true rfl⟩) hP hK (va_recv hK hP (ci := 1) (q0 := 0) rfl rfl) rfl rfl hl (Nat.le_of_ble_eq_true rfl) dX1_route_127 ⟨Nat.le_of_ble_eq_true rfl, Nat.le_of_ble_eq_true rfl⟩ ?_
    refine pb_topi (z := 0) (if_neg (fun z => by rw [hiff.mp z] at hh; exact absurd hh (by decide))) ?_
    refine lv_istore (lv' := [(7, .int 0), (6, .int (nI (pb_lb T (pb_pre a k * 8 + o)))), (5, .int 1), (0, .ref m0), (1, .int (nI a)), (2, .int (nI k)), (3, .int (nI o)), (4, .int 0)]) hx hb dX1_route_130 hl (by decide) rfl (fun ls hl => ?_)
    refine lv_iload hx hb dX1_route_132 (lv_at hl 0 rfl) ?_
    refine lv_if_ne (tgt := 141) hx hb dX1_route_134 (by decide) (fun q134 => absurd q134 (fun z => z rfl)) (fun q134 => ?_)
    refine lv_iconst (v := (-1)) hx hb dX1_route_137 (by decide) ?_
    refine lv_goto (tgt := 182) hx hb dX1_route_138 (by decide) ?_
    exact pb_wi hx hb hr hlocks hS dX1_route_182 (rfl) (pb_B_of hP hK hD)

set_option maxHeartbeats 4000000 in
set_option maxRecDepth 100000 in
theorem c_X1_route_bs0 {T : List pb_Rt} (hT : pb_ok T) (hR : pb_rM T Af Lf Of Cf Hf) (a k : Nat) (ha : a < 2 ^ 32) (hk : k ≤ 32) (hg : a % 2 ^ (32 - k) = 0) {r : pb_Rt} (hr1 : T[(pb_lb T (pb_pre a k * 8))]? = some r) (hh : pb_kn T (pb_pre a k) = true) : pb_Wq l yX1_route wsX1_route 4 0 0 88 [.ref m0, .int (nI a), .int (nI k), .int (-1), .int 0] D (pb_ty cI cJ) (pb_wM cI cJ m0 a1 l1 o1 c1 h1 Af Lf Of Cf Hf co (nI T.length)) sz (some (.int (pb_tl r 0))) (pb_B D (pb_ty cI cJ) (pb_wM cI cJ m0 a1 l1 o1 c1 h1 Af Lf Of Cf Hf 0 (nI T.length))) := by
  refine pb_ofW RX1 (by decide) rfl rfl (Nat.le_of_ble_eq_true rfl) (fun p e s m args below meth c ls A hx hb hml hr hlocks hown hts hP hK hD hS hA hl hin9 => ?_)
  have hinX1 : ∀ w ∈ wsX10, w ∈ wsX1_route := by decide +kernel
  have hl : lv_has ls 8 [(0, .ref m0), (1, .int (nI a)), (2, .int (nI k)), (3, .int (-1)), (4, .int 0)] := hl
  have hP : va_P D vwCl (pb_wM cI cJ m0 a1 l1 o1 c1 h1 Af Lf Of Cf Hf co (nI T.length)) s.heap := hP
  have hD : va_D A (pb_wM cI cJ m0 a1 l1 o1 c1 h1 Af Lf Of Cf Hf co (nI T.length)) := hD
  have hcap := hR.1
  have hlt := pb_lb_lt hr1
  have hkb := pb_key_lt hT (List.mem_of_getElem? hr1)
  have hq : r.1 / 8 = 64 * a + k := (pb_kn_iff hT.1 hr1).mpr hh
  refine lv_iload_n hx hb dX1_route_0 rfl (lv_at hl 1 rfl) ?_
  refine lv_iload_n hx hb dX1_route_1 rfl (lv_at hl 2 rfl) ?_
  refine pb_callS (As := [.int (nI a), .int (nI k)]) (rest := []) ⟨hx, hb, hml, hown, hts⟩ (c_X1_isPrefix_t a k ha hk hg) (va_cwS 2 hts gX1_route_X1_isPrefix rfl rfl rfl (by decide +kernel) ⟨Nat.le_of_ble_eq_true rfl, Nat.le_of_ble_eq_true rfl⟩) rfl rfl hl (Nat.le_of_ble_eq_true rfl) dX1_route_2 ⟨Nat.le_of_ble_eq_true rfl, Nat.le_of_ble_eq_true rfl⟩ ?_
  refine lv_if_eq (tgt := 34) hx hb dX1_route_5 (by decide) (fun q5 => absurd q5 (by decide)) (fun q5 => ?_)
  refine lv_iload_n hx hb dX1_route_8 rfl (lv_at hl 3 rfl) ?_
  refine lv_iconst (v := (-1)) hx hb dX1_route_9 (by decide) ?_
  refine lv_icmp_lt (tgt := 34) hx hb dX1_route_10 (by decide) (fun q10 => absurd q10 (by decide)) (fun q10 => ?_)
  refine lv_iload_n hx hb dX1_route_13 rfl (lv_at hl 3 rfl) ?_
  refine lv_bipush (v := 8) hx hb dX1_route_14 (by decide) ?_
  refine lv_icmp_ge (tgt := 34) hx hb dX1_route_16 (by decide) (fun q16 => absurd q16 (by decide)) (fun q16 => ?_)
  refine lv_iload hx hb dX1_route_19 (lv_at hl 4 rfl) ?_
  refine lv_if_lt (tgt := 34) hx hb dX1_route_21 (by decide) (fun q21 => absurd q21 (by decide)) (fun q21 => ?_)
  refine lv_iload hx hb dX1_route_24 (lv_at hl 4 rfl) ?_
  refine lv_iconst (v := 2) hx hb dX1_route_26 (by decide) ?_
  refine lv_icmp_gt (tgt := 34) hx hb dX1_route_27 (by decide) (fun q27 => absurd q27 (by decide)) (fun q27 => ?_)
  refine lv_iconst (v := 1) hx hb dX1_route_30 (by decide) ?_
  refine lv_goto (tgt := 35) hx hb dX1_route_31 (by decide) ?_
  refine lv_istore (lv' := [(5, .int 1), (0, .ref m0), (1, .int (nI a)), (2, .int (nI k)), (3, .int (-1)), (4, .int 0)]) hx hb dX1_route_35 hl (by decide) rfl (fun ls hl => ?_)
  refine lv_aload_n hx hb dX1_route_37 rfl (lv_at hl 1 rfl) ?_
  refine lv_iload hx hb dX1_route_38 (lv_at hl 0 rfl) ?_
  refine lv_if_eq (tgt := 47) hx hb dX1_route_40 (by decide) (fun q40 => absurd q40 (by decide)) (fun q40 => ?_)
  refine lv_iconst (v := 0) hx hb dX1_route_43 (by decide) ?_
  refine lv_goto (tgt := 48) hx hb dX1_route_44 (by decide) ?_
  refine va_put (D := D) (ci := 1) (v := .int 0) (ty := .int) (C := RX1) (T := TX1) (N := 7) hx hb hts hinX1 tyX1 tyX1_ok nmX1 hown hK hP hD hS 0 rfl rfl 0 (by decide) (hts (.fieldLink RX1 26 "PrefixBenchModel" "code" "I") (by decide +kernel)) (fun _ h9 => h9) rfl (by decide +kernel) rfl rfl (Nat.le_of_ble_eq_true rfl) dX1_route_48 (fun H locs hP hD hS => ?_)
  have hP : va_P D vwCl (pb_wM cI cJ m0 a1 l1 o1 c1 h1 Af Lf Of Cf Hf 0 (nI T.length)) H := hP
  have hD : va_D A (pb_wM cI cJ m0 a1 l1 o1 c1 h1 Af Lf Of Cf Hf 0 (nI T.length)) := hD
  refine lv_iload hx hb dX1_route_51 (lv_at hl 0 rfl) ?_
  refine lv_if_ne (tgt := 58) hx hb dX1_route_53 (by decide) (fun q53 => ?_) (fun q53 => absurd q53 (by decide))
  refine lv_aload_n hx hb dX1_route_58 rfl (lv_at hl 1 rfl) ?_
  refine lv_iload_n hx hb dX1_route_59 rfl (lv_at hl 2 rfl) ?_
  refine lv_iload_n hx hb dX1_route_60 rfl (lv_at hl 3 rfl) ?_
  refine lv_iload_n hx hb dX1_route_61 rfl (lv_at hl 4 rfl) ?_
  refine lv_if_ge (tgt := 69) hx hb dX1_route_62 (by decide) (fun q62 => absurd q62 (by decide)) (fun q62 => ?_)
  refine lv_iconst (v := 0) hx hb dX1_route_65 (by decide) ?_
  refine lv_goto (tgt := 70) hx hb dX1_route_66 (by decide) ?_
  refine pb_callS (As := [.int (nI a), .int (nI k), .int 0]) (rest := [.ref m0]) ⟨hx, hb, hml, hown, hts⟩ (c_X1_rank a k 0 ha (by omega) (by decide)) (va_cwS 3 hts gX1_route_X1_rank rfl rfl rfl (by decide +kernel) ⟨Nat.le_of_ble_eq_true rfl, Nat.le_of_ble_eq_true rfl⟩) rfl rfl hl (Nat.le_of_ble_eq_true rfl) dX1_route_70 ⟨Nat.le_of_ble_eq_true rfl, Nat.le_of_ble_eq_true rfl⟩ ?_
  refine pb_callV (As := [.long (lN (pb_pre a k * 8 + 0))]) (rest := []) ⟨hx, hb, hml, hown, hts⟩ (c_X1_place hT hR (pb_pre a k * 8 + 0) (by show (64 * a + k) * 8 + 0 < _; omega)) (cwV 1 hts gX1_route_X1_place rfl rfl rfl (by decide +kernel) ⟨Nat.le_of_ble_eq_true rfl, Nat.le_of_ble_eq_true rfl⟩) hP hK (va_recv hK hP (ci := 1) (q0 := 0) rfl rfl) rfl rfl hl (Nat.le_of_ble_eq_true rfl) dX1_route_73 ⟨Nat.le_of_ble_eq_true rfl, Nat.le_of_ble_eq_true rfl⟩ ?_
  refine lv_istore (lv' := [(6, .int (nI (pb_lb T (pb_pre a k * 8)))), (5, .int 1), (0, .ref m0), (1, .int (nI a)), (2, .int (nI k)), (3, .int (-1)), (4, .int 0)]) hx hb dX1_route_76 hl (by decide) rfl (fun ls hl => ?_)
  refine lv_iload_n hx hb dX1_route_78 rfl (lv_at hl 5 rfl) ?_
  refine lv_if_ge (tgt := 121) hx hb dX1_route_79 (by decide) (fun q79 => absurd q79 (by decide)) (fun q79 => ?_)
  refine lv_iload hx hb dX1_route_82 (lv_at hl 0 rfl) ?_
  refine lv_aload_n hx hb dX1_route_84 rfl (lv_at hl 2 rfl) ?_
  refine va_get (D := D) (ci := 1) (v := .int (nI T.length)) (C := RX1) (T := TX1) (N := 7) hx hb hts hinX1 hown hK hP 0 rfl rfl 1 (by decide) (hts (.fieldLink RX1 48 "PrefixBenchModel" "count" "I") (by decide +kernel)) (fun _ h9 => h9) rfl dX1_route_85 ?_
  refine lv_icmp_ge (tgt := 117) hx hb dX1_route_88 (by decide) (fun q88 => absurd q88 (pb_no_lt hlt (by omega))) (fun q88 => ?_)
  refine lv_aload_n hx hb dX1_route_91 rfl (lv_at hl 2 rfl) ?_
  refine va_get (D := D) (ci := 1) (v := .ref a1) (C := RX1) (T := TX1) (N := 7) hx hb hts hinX1 hown hK hP 0 rfl rfl 2 (by decide) (hts (.fieldLink RX1 7 "PrefixBenchModel" "address" "[I") (by decide +kernel)) (fun _ h9 => h9) rfl dX1_route_92 ?_
  refine lv_iload hx hb dX1_route_95 (lv_at hl 0 rfl) ?_
  refine pb_iald hx hb hK hP 1 1 rfl rfl (pb_lb T (pb_pre a k * 8)) (rfl) (⟨by omega, by decide⟩) dX1_route_97 ?_
  refine pb_topi (z := nI (r.1 / 512)) ((hR.2 _ _ hr1).1) ?_
  refine lv_iload_n hx hb dX1_route_98 rfl (lv_at hl 3 rfl) ?_
  refine lv_icmp_ne (tgt := 117) hx hb dX1_route_99 (by decide) (fun q99 => absurd q99 (fun z => z (by rw [show r.1 / 512 = a by omega]))) (fun q99 => ?_)
  refine lv_aload_n hx hb dX1_route_102 rfl (lv_at hl 2 rfl) ?_
  refine va_get (D := D) (ci := 1) (v := .ref l1) (C := RX1) (T := TX1) (N := 7) hx hb hts hinX1 hown hK hP 0 rfl rfl 3 (by decide) (hts (.fieldLink RX1 13 "PrefixBenchModel" "length" "[I") (by decide +kernel)) (fun _ h9 => h9) rfl dX1_route_103 ?_
  refine lv_iload hx hb dX1_route_106 (lv_at hl 0 rfl) ?_
  refine pb_iald hx hb hK hP 2 1 rfl rfl (pb_lb T (pb_pre a k * 8)) (rfl) (⟨by omega, by decide⟩) dX1_route_108 ?_
  refine pb_topi (z := nI (r.1 / 8 % 64)) ((hR.2 _ _ hr1).2.1) ?_
  refine lv_iload_n hx hb dX1_route_109 rfl (lv_at hl 4 rfl) ?_
  refine lv_icmp_ne (tgt := 117) hx hb dX1_route_110 (by decide) (fun q110 => absurd q110 (fun z => z (by rw [show r.1 / 8 % 64 = k by omega]))) (fun q110 => ?_)
  refine lv_iconst (v := 1) hx hb dX1_route_113 (by decide) ?_
  refine lv_goto (tgt := 130) hx hb dX1_route_114 (by decide) ?_
  refine lv_istore (lv' := [(7, .int 1), (6, .int (nI (pb_lb T (pb_pre a k * 8)))), (5, .int 1), (0, .ref m0), (1, .int (nI a)), (2, .int (nI k)), (3, .int (-1)), (4, .int 0)]) hx hb dX1_route_130 hl (by decide) rfl (fun ls hl => ?_)
  refine lv_iload hx hb dX1_route_132 (lv_at hl 0 rfl) ?_
  refine lv_if_ne (tgt := 141) hx hb dX1_route_134 (by decide) (fun q134 => ?_) (fun q134 => absurd q134 (by decide))
  refine lv_iload hx hb dX1_route_141 (lv_at hl 7 rfl) ?_
  refine lv_if_ne (tgt := 156) hx hb dX1_route_143 (by decide) (fun q143 => absurd q143 (fun z => z rfl)) (fun q143 => ?_)
  refine lv_aload_n hx hb dX1_route_146 rfl (lv_at hl 3 rfl) ?_
  refine va_get (D := D) (ci := 1) (v := .ref c1) (C := RX1) (T := TX1) (N := 7) hx hb hts hinX1 hown hK hP 0 rfl rfl 5 (by decide) (hts (.fieldLink RX1 19 "PrefixBenchModel" "cost" "[I") (by decide +kernel)) (fun _ h9 => h9) rfl dX1_route_147 ?_
  refine lv_iload hx hb dX1_route_150 (lv_at hl 1 rfl) ?_
  refine pb_iald hx hb hK hP 4 1 rfl rfl (pb_lb T (pb_pre a k * 8)) (rfl) (⟨by omega, by decide⟩) dX1_route_152 ?_
  refine lv_goto (tgt := 182) hx hb dX1_route_153 (by decide) ?_
  exact pb_wi hx hb hr hlocks hS dX1_route_182 (by rw [(hR.2 _ _ hr1).2.2.2.1]; rfl) (pb_B_of hP hK hD)

set_option maxHeartbeats 4000000 in
set_option maxRecDepth 100000 in
theorem c_X1_route_bn0 {T : List pb_Rt} (hT : pb_ok T) (hR : pb_rM T Af Lf Of Cf Hf) (a k : Nat) (ha : a < 2 ^ 32) (hk : k ≤ 32) (hg : a % 2 ^ (32 - k) = 0) (hh : pb_kn T (pb_pre a k) = false) : pb_Wq l yX1_route wsX1_route 4 0 0 88 [.ref m0, .int (nI a), .int (nI k), .int (-1), .int 0] D (pb_ty cI cJ) (pb_wM cI cJ m0 a1 l1 o1 c1 h1 Af Lf Of Cf Hf co (nI T.length)) sz (some (.int (-1))) (pb_B D (pb_ty cI cJ) (pb_wM cI cJ m0 a1 l1 o1 c1 h1 Af Lf Of Cf Hf 0 (nI T.length))) := by
  refine pb_ofW RX1 (by decide) rfl rfl (Nat.le_of_ble_eq_true rfl) (fun p e s m args below meth c ls A hx hb hml hr hlocks hown hts hP hK hD hS hA hl hin9 => ?_)
  have hinX1 : ∀ w ∈ wsX10, w ∈ wsX1_route := by decide +kernel
  have hl : lv_has ls 8 [(0, .ref m0), (1, .int (nI a)), (2, .int (nI k)), (3, .int (-1)), (4, .int 0)] := hl
  have hP : va_P D vwCl (pb_wM cI cJ m0 a1 l1 o1 c1 h1 Af Lf Of Cf Hf co (nI T.length)) s.heap := hP
  have hD : va_D A (pb_wM cI cJ m0 a1 l1 o1 c1 h1 Af Lf Of Cf Hf co (nI T.length)) := hD
  have hcap := hR.1
  refine lv_iload_n hx hb dX1_route_0 rfl (lv_at hl 1 rfl) ?_
  refine lv_iload_n hx hb dX1_route_1 rfl (lv_at hl 2 rfl) ?_
  refine pb_callS (As := [.int (nI a), .int (nI k)]) (rest := []) ⟨hx, hb, hml, hown, hts⟩ (c_X1_isPrefix_t a k ha hk hg) (va_cwS 2 hts gX1_route_X1_isPrefix rfl rfl rfl (by decide +kernel) ⟨Nat.le_of_ble_eq_true rfl, Nat.le_of_ble_eq_true rfl⟩) rfl rfl hl (Nat.le_of_ble_eq_true rfl) dX1_route_2 ⟨Nat.le_of_ble_eq_true rfl, Nat.le_of_ble_eq_true rfl⟩ ?_
  refine lv_if_eq (tgt := 34) hx hb dX1_route_5 (by decide) (fun q5 => absurd q5 (by decide)) (fun q5 => ?_)
  refine lv_iload_n hx hb dX1_route_8 rfl (lv_at hl 3 rfl) ?_
  refine lv_iconst (v := (-1)) hx hb dX1_route_9 (by decide) ?_
  refine lv_icmp_lt (tgt := 34) hx hb dX1_route_10 (by decide) (fun q10 => absurd q10 (by decide)) (fun q10 => ?_)
  refine lv_iload_n hx hb dX1_route_13 rfl (lv_at hl 3 rfl) ?_
  refine lv_bipush (v := 8) hx hb dX1_route_14 (by decide) ?_
  refine lv_icmp_ge (tgt := 34) hx hb dX1_route_16 (by decide) (fun q16 => absurd q16 (by decide)) (fun q16 => ?_)
  refine lv_iload hx hb dX1_route_19 (lv_at hl 4 rfl) ?_
  refine lv_if_lt (tgt := 34) hx hb dX1_route_21 (by decide) (fun q21 => absurd q21 (by decide)) (fun q21 => ?_)
  refine lv_iload hx hb dX1_route_24 (lv_at hl 4 rfl) ?_
  refine lv_iconst (v := 2) hx hb dX1_route_26 (by decide) ?_
  refine lv_icmp_gt (tgt := 34) hx hb dX1_route_27 (by decide) (fun q27 => absurd q27 (by decide)) (fun q27 => ?_)
  refine lv_iconst (v := 1) hx hb dX1_route_30 (by decide) ?_
  refine lv_goto (tgt := 35) hx hb dX1_route_31 (by decide) ?_
  refine lv_istore (lv' := [(5, .int 1), (0, .ref m0), (1, .int (nI a)), (2, .int (nI k)), (3, .int (-1)), (4, .int 0)]) hx hb dX1_route_35 hl (by decide) rfl (fun ls hl => ?_)
  refine lv_aload_n hx hb dX1_route_37 rfl (lv_at hl 1 rfl) ?_
  refine lv_iload hx hb dX1_route_38 (lv_at hl 0 rfl) ?_
  refine lv_if_eq (tgt := 47) hx hb dX1_route_40 (by decide) (fun q40 => absurd q40 (by decide)) (fun q40 => ?_)
  refine lv_iconst (v := 0) hx hb dX1_route_43 (by decide) ?_
  refine lv_goto (tgt := 48) hx hb dX1_route_44 (by decide) ?_
  refine va_put (D := D) (ci := 1) (v := .int 0) (ty := .int) (C := RX1) (T := TX1) (N := 7) hx hb hts hinX1 tyX1 tyX1_ok nmX1 hown hK hP hD hS 0 rfl rfl 0 (by decide) (hts (.fieldLink RX1 26 "PrefixBenchModel" "code" "I") (by decide +kernel)) (fun _ h9 => h9) rfl (by decide +kernel) rfl rfl (Nat.le_of_ble_eq_true rfl) dX1_route_48 (fun H locs hP hD hS => ?_)
  have hP : va_P D vwCl (pb_wM cI cJ m0 a1 l1 o1 c1 h1 Af Lf Of Cf Hf 0 (nI T.length)) H := hP
  have hD : va_D A (pb_wM cI cJ m0 a1 l1 o1 c1 h1 Af Lf Of Cf Hf 0 (nI T.length)) := hD
  refine lv_iload hx hb dX1_route_51 (lv_at hl 0 rfl) ?_
  refine lv_if_ne (tgt := 58) hx hb dX1_route_53 (by decide) (fun q53 => ?_) (fun q53 => absurd q53 (by decide))
  refine lv_aload_n hx hb dX1_route_58 rfl (lv_at hl 1 rfl) ?_
  refine lv_iload_n hx hb dX1_route_59 rfl (lv_at hl 2 rfl) ?_
  refine lv_iload_n hx hb dX1_route_60 rfl (lv_at hl 3 rfl) ?_
  refine lv_iload_n hx hb dX1_route_61 rfl (lv_at hl 4 rfl) ?_
  refine lv_if_ge (tgt := 69) hx hb dX1_route_62 (by decide) (fun q62 => absurd q62 (by decide)) (fun q62 => ?_)
  refine lv_iconst (v := 0) hx hb dX1_route_65 (by decide) ?_
  refine lv_goto (tgt := 70) hx hb dX1_route_66 (by decide) ?_
  refine pb_callS (As := [.int (nI a), .int (nI k), .int 0]) (rest := [.ref m0]) ⟨hx, hb, hml, hown, hts⟩ (c_X1_rank a k 0 ha (by omega) (by decide)) (va_cwS 3 hts gX1_route_X1_rank rfl rfl rfl (by decide +kernel) ⟨Nat.le_of_ble_eq_true rfl, Nat.le_of_ble_eq_true rfl⟩) rfl rfl hl (Nat.le_of_ble_eq_true rfl) dX1_route_70 ⟨Nat.le_of_ble_eq_true rfl, Nat.le_of_ble_eq_true rfl⟩ ?_
  refine pb_callV (As := [.long (lN (pb_pre a k * 8 + 0))]) (rest := []) ⟨hx, hb, hml, hown, hts⟩ (c_X1_place hT hR (pb_pre a k * 8 + 0) (by show (64 * a + k) * 8 + 0 < _; omega)) (cwV 1 hts gX1_route_X1_place rfl rfl rfl (by decide +kernel) ⟨Nat.le_of_ble_eq_true rfl, Nat.le_of_ble_eq_true rfl⟩) hP hK (va_recv hK hP (ci := 1) (q0 := 0) rfl rfl) rfl rfl hl (Nat.le_of_ble_eq_true rfl) dX1_route_73 ⟨Nat.le_of_ble_eq_true rfl, Nat.le_of_ble_eq_true rfl⟩ ?_
  refine lv_istore (lv' := [(6, .int (nI (pb_lb T (pb_pre a k * 8)))), (5, .int 1), (0, .ref m0), (1, .int (nI a)), (2, .int (nI k)), (3, .int (-1)), (4, .int 0)]) hx hb dX1_route_76 hl (by decide) rfl (fun ls hl => ?_)
  refine lv_iload_n hx hb dX1_route_78 rfl (lv_at hl 5 rfl) ?_
  refine lv_if_ge (tgt := 121) hx hb dX1_route_79 (by decide) (fun q79 => absurd q79 (by decide)) (fun q79 => ?_)
  have hle := pb_lb_le T (pb_pre a k * 8)
  rcases hd : T[(pb_lb T (pb_pre a k * 8))]? with _ | r
  · have hle2 := List.getElem?_eq_none_iff.mp hd
    refine lv_iload hx hb dX1_route_82 (lv_at hl 0 rfl) ?_
    refine lv_aload_n hx hb dX1_route_84 rfl (lv_at hl 2 rfl) ?_
    refine va_get (D := D) (ci := 1) (v := .int (nI T.length)) (C := RX1) (T := TX1) (N := 7) hx hb hts hinX1 hown hK hP 0 rfl rfl 1 (by decide) (hts (.fieldLink RX1 48 "PrefixBenchModel" "count" "I") (by decide +kernel)) (fun _ h9 => h9) rfl dX1_route_85 ?_
    refine lv_icmp_ge (tgt := 117) hx hb dX1_route_88 (by decide) (fun q88 => ?_) (fun q88 => absurd (nI_le hle2 (by omega)) q88)
    refine lv_iconst (v := 0) hx hb dX1_route_117 (by decide) ?_
    refine lv_goto (tgt := 130) hx hb dX1_route_118 (by decide) ?_
    refine lv_istore (lv' := [(7, .int 0), (6, .int (nI (pb_lb T (pb_pre a k * 8)))), (5, .int 1), (0, .ref m0), (1, .int (nI a)), (2, .int (nI k)), (3, .int (-1)), (4, .int 0)]) hx hb dX1_route_130 hl (by decide) rfl (fun ls hl => ?_)
    refine lv_iload hx hb dX1_route_132 (lv_at hl 0 rfl) ?_
    refine lv_if_ne (tgt := 141) hx hb dX1_route_134 (by decide) (fun q134 => absurd q134 (fun z => z rfl)) (fun q134 => ?_)
    refine lv_iconst (v := (-1)) hx hb dX1_route_137 (by decide) ?_
    refine lv_goto (tgt := 182) hx hb dX1_route_138 (by decide) ?_
    exact pb_wi hx hb hr hlocks hS dX1_route_182 (rfl) (pb_B_of hP hK hD)
  · have hkb := pb_key_lt hT (List.mem_of_getElem? hd)
    have hlt := pb_lb_lt hd
    have hiff := pb_kn_iff hT.1 hd
    refine lv_iload hx hb dX1_route_82 (lv_at hl 0 rfl) ?_
    refine lv_aload_n hx hb dX1_route_84 rfl (lv_at hl 2 rfl) ?_
    refine va_get (D := D) (ci := 1) (v := .int (nI T.length)) (C := RX1) (T := TX1) (N := 7) hx hb hts hinX1 hown hK hP 0 rfl rfl 1 (by decide) (hts (.fieldLink RX1 48 "PrefixBenchModel" "count" "I") (by decide +kernel)) (fun _ h9 => h9) rfl dX1_route_85 ?_
    refine lv_icmp_ge (tgt := 117) hx hb dX1_route_88 (by decide) (fun q88 => absurd q88 (pb_no_lt hlt (by omega))) (fun q88 => ?_)
    refine lv_aload_n hx hb dX1_route_91 rfl (lv_at hl 2 rfl) ?_
    refine va_get (D := D) (ci := 1) (v := .ref a1) (C := RX1) (T := TX1) (N := 7) hx hb hts hinX1 hown hK hP 0 rfl rfl 2 (by decide) (hts (.fieldLink RX1 7 "PrefixBenchModel" "address" "[I") (by decide +kernel)) (fun _ h9 => h9) rfl dX1_route_92 ?_
    refine lv_iload hx hb dX1_route_95 (lv_at hl 0 rfl) ?_
    refine pb_iald hx hb hK hP 1 1 rfl rfl (pb_lb T (pb_pre a k * 8)) (rfl) (⟨by omega, by decide⟩) dX1_route_97 ?_
    refine pb_topi (z := nI (r.1 / 512)) ((hR.2 _ _ hd).1) ?_
    refine lv_iload_n hx hb dX1_route_98 rfl (lv_at hl 3 rfl) ?_
    refine lv_icmp_ne (tgt := 117) hx hb dX1_route_99 (by decide) (fun q99 => ?_) (fun q99 => ?_)
    · refine lv_iconst (v := 0) hx hb dX1_route_117 (by decide) ?_
      refine lv_goto (tgt := 130) hx hb dX1_route_118 (by decide) ?_
      refine lv_istore (lv' := [(7, .int 0), (6, .int (nI (pb_lb T (pb_pre a k * 8)))), (5, .int 1), (0, .ref m0), (1, .int (nI a)), (2, .int (nI k)), (3, .int (-1)), (4, .int 0)]) hx hb dX1_route_130 hl (by decide) rfl (fun ls hl => ?_)
      refine lv_iload hx hb dX1_route_132 (lv_at hl 0 rfl) ?_
      refine lv_if_ne (tgt := 141) hx hb dX1_route_134 (by decide) (fun q134 => absurd q134 (fun z => z rfl)) (fun q134 => ?_)
      refine lv_iconst (v := (-1)) hx hb dX1_route_137 (by decide) ?_
      refine lv_goto (tgt := 182) hx hb dX1_route_138 (by decide) ?_
      exact pb_wi hx hb hr hlocks hS dX1_route_182 (rfl) (pb_B_of hP hK hD)
    · have w1 := (pb_nI_inj (by omega) ha).mp q99
      refine lv_aload_n hx hb dX1_route_102 rfl (lv_at hl 2 rfl) ?_
      refine va_get (D := D) (ci := 1) (v := .ref l1) (C := RX1) (T := TX1) (N := 7) hx hb hts hinX1 hown hK hP 0 rfl rfl 3 (by decide) (hts (.fieldLink RX1 13 "PrefixBenchModel" "length" "[I") (by decide +kernel)) (fun _ h9 => h9) rfl dX1_route_103 ?_
      refine lv_iload hx hb dX1_route_106 (lv_at hl 0 rfl) ?_
      refine pb_iald hx hb hK hP 2 1 rfl rfl (pb_lb T (pb_pre a k * 8)) (rfl) (⟨by omega, by decide⟩) dX1_route_108 ?_
      refine pb_topi (z := nI (r.1 / 8 % 64)) ((hR.2 _ _ hd).2.1) ?_
      refine lv_iload_n hx hb dX1_route_109 rfl (lv_at hl 4 rfl) ?_
      refine lv_icmp_ne (tgt := 117) hx hb dX1_route_110 (by decide) (fun q110 => ?_) (fun q110 => ?_)
      · refine lv_iconst (v := 0) hx hb dX1_route_117 (by decide) ?_
        refine lv_goto (tgt := 130) hx hb dX1_route_118 (by decide) ?_
        refine lv_istore (lv' := [(7, .int 0), (6, .int (nI (pb_lb T (pb_pre a k * 8)))), (5, .int 1), (0, .ref m0), (1, .int (nI a)), (2, .int (nI k)), (3, .int (-1)), (4, .int 0)]) hx hb dX1_route_130 hl (by decide) rfl (fun ls hl => ?_)
        refine lv_iload hx hb dX1_route_132 (lv_at hl 0 rfl) ?_
        refine lv_if_ne (tgt := 141) hx hb dX1_route_134 (by decide) (fun q134 => absurd q134 (fun z => z rfl)) (fun q134 => ?_)
        refine lv_iconst (v := (-1)) hx hb dX1_route_137 (by decide) ?_
        refine lv_goto (tgt := 182) hx hb dX1_route_138 (by decide) ?_
        exact pb_wi hx hb hr hlocks hS dX1_route_182 (rfl) (pb_B_of hP hK hD)
      · have w2 := (pb_nI_inj (by omega) (by omega)).mp q110
        exact absurd (hiff.mp (show r.1 / 8 = 64 * a + k by omega)) (by rw [hh]; decide)

set_option maxHeartbeats 4000000 in
set_option maxRecDepth 100000 in
theorem c_X1_route_os1 {T : List pb_Rt} (hT : pb_ok T) (hR : pb_rM T Af Lf Of Cf Hf) (a k : Nat) (ha : a < 2 ^ 32) (hk : k ≤ 32) (hg : a % 2 ^ (32 - k) = 0) (o : Nat) (ho : o < 8) {r : pb_Rt} (hr1 : T[(pb_lb T (pb_pre a k * 8 + o))]? = some r) (hh : pb_hs T (pb_pre a k * 8 + o) = true) : pb_Wq l yX1_route wsX1_route 4 0 0 88 [.ref m0, .int (nI a), .int (nI k), .int (nI o), .int 1] D (pb_ty cI cJ) (pb_wM cI cJ m0 a1 l1 o1 c1 h1 Af Lf Of Cf Hf co (nI T.length)) sz (some (.int (pb_tl r 1))) (pb_B D (pb_ty cI cJ) (pb_wM cI cJ m0 a1 l1 o1 c1 h1 Af Lf Of Cf Hf 0 (nI T.length))) := by
  refine pb_ofW RX1 (by decide) rfl rfl (Nat.le_of_ble_eq_true rfl) (fun p e s m args below meth c ls A hx hb hml hr hlocks hown hts hP hK hD hS hA hl hin9 => ?_)
  have hinX1 : ∀ w ∈ wsX10, w ∈ wsX1_route := by decide +kernel
  have hl : lv_has ls 8 [(0, .ref m0), (1, .int (nI a)), (2, .int (nI k)), (3, .int (nI o)), (4, .int 1)] := hl
  have hP : va_P D vwCl (pb_wM cI cJ m0 a1 l1 o1 c1 h1 Af Lf Of Cf Hf co (nI T.length)) s.heap := hP
  have hD : va_D A (pb_wM cI cJ m0 a1 l1 o1 c1 h1 Af Lf Of Cf Hf co (nI T.length)) := hD
  have hcap := hR.1
  have hlt := pb_lb_lt hr1
  have hkb := pb_key_lt hT (List.mem_of_getElem? hr1)
  refine lv_iload_n hx hb dX1_route_0 rfl (lv_at hl 1 rfl) ?_
  refine lv_iload_n hx hb dX1_route_1 rfl (lv_at hl 2 rfl) ?_
  refine pb_callS (As := [.int (nI a), .int (nI k)]) (rest := []) ⟨hx, hb, hml, hown, hts⟩ (c_X1_isPrefix_t a k ha hk hg) (va_cwS 2 hts gX1_route_X1_isPrefix rfl rfl rfl (by decide +kernel) ⟨Nat.le_of_ble_eq_true rfl, Nat.le_of_ble_eq_true rfl⟩) rfl rfl hl (Nat.le_of_ble_eq_true rfl) dX1_route_2 ⟨Nat.le_of_ble_eq_true rfl, Nat.le_of_ble_eq_true rfl⟩ ?_
  refine lv_if_eq (tgt := 34) hx hb dX1_route_5 (by decide) (fun q5 => absurd q5 (by decide)) (fun q5 => ?_)
  refine lv_iload_n hx hb dX1_route_8 rfl (lv_at hl 3 rfl) ?_
  refine lv_iconst (v := (-1)) hx hb dX1_route_9 (by decide) ?_
  refine lv_icmp_lt (tgt := 34) hx hb dX1_route_10 (by decide) (fun q10 => absurd q10 (pb_nom o (by omega))) (fun q10 => ?_)
  refine lv_iload_n hx hb dX1_route_13 rfl (lv_at hl 3 rfl) ?_
  refine lv_bipush (v := 8) hx hb dX1_route_14 (by decide) ?_
  refine lv_icmp_ge (tgt := 34) hx hb dX1_route_16 (by decide) (fun q16 => absurd q16 (fun z => absurd ((nI_leI (a := 8) (b := o) (by decide) (by omega)).mp z) (by omega))) (fun q16 => ?_)
  refine lv_iload hx hb dX1_route_19 (lv_at hl 4 rfl) ?_
  refine lv_if_lt (tgt := 34) hx hb dX1_route_21 (by decide) (fun q21 => absurd q21 (by decide)) (fun q21 => ?_)
  refine lv_iload hx hb dX1_route_24 (lv_at hl 4 rfl) ?_
  refine lv_iconst (v := 2) hx hb dX1_route_26 (by decide) ?_
  refine lv_icmp_gt (tgt := 34) hx hb dX1_route_27 (by decide) (fun q27 => absurd q27 (by decide)) (fun q27 => ?_)
  refine lv_iconst (v := 1) hx hb dX1_route_30 (by decide) ?_
  refine lv_goto (tgt := 35) hx hb dX1_route_31 (by decide) ?_
  refine lv_istore (lv' := [(5, .int 1), (0, .ref m0), (1, .int (nI a)), (2, .int (nI k)), (3, .int (nI o)), (4, .int 1)]) hx hb dX1_route_35 hl (by decide) rfl (fun ls hl => ?_)
  refine lv_aload_n hx hb dX1_route_37 rfl (lv_at hl 1 rfl) ?_
  refine lv_iload hx hb dX1_route_38 (lv_at hl 0 rfl) ?_
  refine lv_if_eq (tgt := 47) hx hb dX1_route_40 (by decide) (fun q40 => absurd q40 (by decide)) (fun q40 => ?_)
  refine lv_iconst (v := 0) hx hb dX1_route_43 (by decide) ?_
  refine lv_goto (tgt := 48) hx hb dX1_route_44 (by decide) ?_
  refine va_put (D := D) (ci := 1) (v := .int 0) (ty := .int) (C := RX1) (T := TX1) (N := 7) hx hb hts hinX1 tyX1 tyX1_ok nmX1 hown hK hP hD hS 0 rfl rfl 0 (by decide) (hts (.fieldLink RX1 26 "PrefixBenchModel" "code" "I") (by decide +kernel)) (fun _ h9 => h9) rfl (by decide +kernel) rfl rfl (Nat.le_of_ble_eq_true rfl) dX1_route_48 (fun H locs hP hD hS => ?_)
  have hP : va_P D vwCl (pb_wM cI cJ m0 a1 l1 o1 c1 h1 Af Lf Of Cf Hf 0 (nI T.length)) H := hP
  have hD : va_D A (pb_wM cI cJ m0 a1 l1 o1 c1 h1 Af Lf Of Cf Hf 0 (nI T.length)) := hD
  refine lv_iload hx hb dX1_route_51 (lv_at hl 0 rfl) ?_
  refine lv_if_ne (tgt := 58) hx hb dX1_route_53 (by decide) (fun q53 => ?_) (fun q53 => absurd q53 (by decide))
  refine lv_aload_n hx hb dX1_route_58 rfl (lv_at hl 1 rfl) ?_
  refine lv_iload_n hx hb dX1_route_59 rfl (lv_at hl 2 rfl) ?_
  refine lv_iload_n hx hb dX1_route_60 rfl (lv_at hl 3 rfl) ?_
  refine lv_iload_n hx hb dX1_route_61 rfl (lv_at hl 4 rfl) ?_
  refine lv_if_ge (tgt := 69) hx hb dX1_route_62 (by decide) (fun q62 => ?_) (fun q62 => absurd (nI_pos' (by omega)) q62)
  refine lv_iload_n hx hb dX1_route_69 rfl (lv_at hl 4 rfl) ?_
  refine pb_callS (As := [.int (nI a), .int (nI k), .int (nI o)]) (rest := [.ref m0]) ⟨hx, hb, hml, hown, hts⟩ (c_X1_rank a k o ha (by omega) (by omega)) (va_cwS 3 hts gX1_route_X1_rank rfl rfl rfl (by decide +kernel) ⟨Nat.le_of_ble_eq_true rfl, Nat.le_of_ble_eq_true rfl⟩) rfl rfl hl (Nat.le_of_ble_eq_true rfl) dX1_route_70 ⟨Nat.le_of_ble_eq_true rfl, Nat.le_of_ble_eq_true rfl⟩ ?_
  refine pb_callV (As := [.long (lN (pb_pre a k * 8 + o))]) (rest := []) ⟨hx, hb, hml, hown, hts⟩ (c_X1_place hT hR (pb_pre a k * 8 + o) (by show (64 * a + k) * 8 + o < _; omega)) (cwV 1 hts gX1_route_X1_place rfl rfl rfl (by decide +kernel) ⟨Nat.le_of_ble_eq_true rfl, Nat.le_of_ble_eq_true rfl⟩) hP hK (va_recv hK hP (ci := 1) (q0 := 0) rfl rfl) rfl rfl hl (Nat.le_of_ble_eq_true rfl) dX1_route_73 ⟨Nat.le_of_ble_eq_true rfl, Nat.le_of_ble_eq_true rfl⟩ ?_
  refine lv_istore (lv' := [(6, .int (nI (pb_lb T (pb_pre a k * 8 + o)))), (5, .int 1), (0, .ref m0), (1, .int (nI a)), (2, .int (nI k)), (3, .int (nI o)), (4, .int 1)]) hx hb dX1_route_76 hl (by decide) rfl (fun ls hl => ?_)
  refine lv_iload_n hx hb dX1_route_78 rfl (lv_at hl 5 rfl) ?_
  refine lv_if_ge (tgt := 121) hx hb dX1_route_79 (by decide) (fun q79 => ?_) (fun q79 => absurd (nI_pos' (by omega)) q79)
  refine lv_aload_n hx hb dX1_route_121 rfl (lv_at hl 2 rfl) ?_
  refine lv_iload hx hb dX1_route_122 (lv_at hl 0 rfl) ?_
  refine lv_iload_n hx hb dX1_route_124 rfl (lv_at hl 3 rfl) ?_
  refine lv_iload_n hx hb dX1_route_125 rfl (lv_at hl 4 rfl) ?_
  refine lv_iload_n hx hb dX1_route_126 rfl (lv_at hl 5 rfl) ?_
  refine pb_callV (As := [.int (nI (pb_lb T (pb_pre a k * 8 + o))), .int (nI a), .int (nI k), .int (nI o)]) (rest := []) ⟨hx, hb, hml, hown, hts⟩ (c_X1_isThere_s hT hR (pb_lb T (pb_pre a k * 8 + o)) hr1 a k o ha (by omega) ho) (cwV 4 hts gX1_route_X1_isThere rfl rfl rfl (by decide +kernel) ⟨Nat.le_of_ble_eq_true rfl, Nat.le_of_ble_eq_true rfl⟩) hP hK (va_recv hK hP (ci := 1) (q0 := 0) rfl rfl) rfl rfl hl (Nat.le_of_ble_eq_true rfl) dX1_route_127 ⟨Nat.le_of_ble_eq_true rfl, Nat.le_of_ble_eq_true rfl⟩ ?_
  refine pb_topi (z := 1) (if_pos ((pb_hs_iff hT.1 hr1).mpr hh)) ?_
  refine lv_istore (lv' := [(7, .int 1), (6, .int (nI (pb_lb T (pb_pre a k * 8 + o)))), (5, .int 1), (0, .ref m0), (1, .int (nI a)), (2, .int (nI k)), (3, .int (nI o)), (4, .int 1)]) hx hb dX1_route_130 hl (by decide) rfl (fun ls hl => ?_)
  refine lv_iload hx hb dX1_route_132 (lv_at hl 0 rfl) ?_
  refine lv_if_ne (tgt := 141) hx hb dX1_route_134 (by decide) (fun q134 => ?_) (fun q134 => absurd q134 (by decide))
  refine lv_iload hx hb dX1_route_141 (lv_at hl 7 rfl) ?_
  refine lv_if_ne (tgt := 156) hx hb dX1_route_143 (by decide) (fun q143 => ?_) (fun q143 => absurd q143 (by decide))
  refine lv_iload hx hb dX1_route_156 (lv_at hl 7 rfl) ?_
  refine lv_iconst (v := 1) hx hb dX1_route_158 (by decide) ?_
  refine lv_icmp_ne (tgt := 172) hx hb dX1_route_159 (by decide) (fun q159 => absurd q159 (fun z => z rfl)) (fun q159 => ?_)
  refine lv_aload_n hx hb dX1_route_162 rfl (lv_at hl 3 rfl) ?_
  refine va_get (D := D) (ci := 1) (v := .ref o1) (C := RX1) (T := TX1) (N := 7) hx hb hts hinX1 hown hK hP 0 rfl rfl 4 (by decide) (hts (.fieldLink RX1 16 "PrefixBenchModel" "origin" "[I") (by decide +kernel)) (fun _ h9 => h9) rfl dX1_route_163 ?_
  refine lv_iload hx hb dX1_route_166 (lv_at hl 1 rfl) ?_
  refine pb_iald hx hb hK hP 3 1 rfl rfl (pb_lb T (pb_pre a k * 8 + o)) (rfl) (⟨by omega, by decide⟩) dX1_route_168 ?_
  refine lv_goto (tgt := 182) hx hb dX1_route_169 (by decide) ?_
  exact pb_wi hx hb hr hlocks hS dX1_route_182 (by rw [(hR.2 _ _ hr1).2.2.1]; rfl) (pb_B_of hP hK hD)

set_option maxHeartbeats 4000000 in
set_option maxRecDepth 100000 in
theorem c_X1_route_on1 {T : List pb_Rt} (hT : pb_ok T) (hR : pb_rM T Af Lf Of Cf Hf) (a k : Nat) (ha : a < 2 ^ 32) (hk : k ≤ 32) (hg : a % 2 ^ (32 - k) = 0) (o : Nat) (ho : o < 8) (hh : pb_hs T (pb_pre a k * 8 + o) = false) : pb_Wq l yX1_route wsX1_route 4 0 0 88 [.ref m0, .int (nI a), .int (nI k), .int (nI o), .int 1] D (pb_ty cI cJ) (pb_wM cI cJ m0 a1 l1 o1 c1 h1 Af Lf Of Cf Hf co (nI T.length)) sz (some (.int (-1))) (pb_B D (pb_ty cI cJ) (pb_wM cI cJ m0 a1 l1 o1 c1 h1 Af Lf Of Cf Hf 0 (nI T.length))) := by
  refine pb_ofW RX1 (by decide) rfl rfl (Nat.le_of_ble_eq_true rfl) (fun p e s m args below meth c ls A hx hb hml hr hlocks hown hts hP hK hD hS hA hl hin9 => ?_)
  have hinX1 : ∀ w ∈ wsX10, w ∈ wsX1_route := by decide +kernel
  have hl : lv_has ls 8 [(0, .ref m0), (1, .int (nI a)), (2, .int (nI k)), (3, .int (nI o)), (4, .int 1)] := hl
  have hP : va_P D vwCl (pb_wM cI cJ m0 a1 l1 o1 c1 h1 Af Lf Of Cf Hf co (nI T.length)) s.heap := hP
  have hD : va_D A (pb_wM cI cJ m0 a1 l1 o1 c1 h1 Af Lf Of Cf Hf co (nI T.length)) := hD
  have hcap := hR.1
  refine lv_iload_n hx hb dX1_route_0 rfl (lv_at hl 1 rfl) ?_
  refine lv_iload_n hx hb dX1_route_1 rfl (lv_at hl 2 rfl) ?_
  refine pb_callS (As := [.int (nI a), .int (nI k)]) (rest := []) ⟨hx, hb, hml, hown, hts⟩ (c_X1_isPrefix_t a k ha hk hg) (va_cwS 2 hts gX1_route_X1_isPrefix rfl rfl rfl (by decide +kernel) ⟨Nat.le_of_ble_eq_true rfl, Nat.le_of_ble_eq_true rfl⟩) rfl rfl hl (Nat.le_of_ble_eq_true rfl) dX1_route_2 ⟨Nat.le_of_ble_eq_true rfl, Nat.le_of_ble_eq_true rfl⟩ ?_
  refine lv_if_eq (tgt := 34) hx hb dX1_route_5 (by decide) (fun q5 => absurd q5 (by decide)) (fun q5 => ?_)
  refine lv_iload_n hx hb dX1_route_8 rfl (lv_at hl 3 rfl) ?_
  refine lv_iconst (v := (-1)) hx hb dX1_route_9 (by decide) ?_
  refine lv_icmp_lt (tgt := 34) hx hb dX1_route_10 (by decide) (fun q10 => absurd q10 (pb_nom o (by omega))) (fun q10 => ?_)
  refine lv_iload_n hx hb dX1_route_13 rfl (lv_at hl 3 rfl) ?_
  refine lv_bipush (v := 8) hx hb dX1_route_14 (by decide) ?_
  refine lv_icmp_ge (tgt := 34) hx hb dX1_route_16 (by decide) (fun q16 => absurd q16 (fun z => absurd ((nI_leI (a := 8) (b := o) (by decide) (by omega)).mp z) (by omega))) (fun q16 => ?_)
  refine lv_iload hx hb dX1_route_19 (lv_at hl 4 rfl) ?_
  refine lv_if_lt (tgt := 34) hx hb dX1_route_21 (by decide) (fun q21 => absurd q21 (by decide)) (fun q21 => ?_)
  refine lv_iload hx hb dX1_route_24 (lv_at hl 4 rfl) ?_
  refine lv_iconst (v := 2) hx hb dX1_route_26 (by decide) ?_
  refine lv_icmp_gt (tgt := 34) hx hb dX1_route_27 (by decide) (fun q27 => absurd q27 (by decide)) (fun q27 => ?_)
  refine lv_iconst (v := 1) hx hb dX1_route_30 (by decide) ?_
  refine lv_goto (tgt := 35) hx hb dX1_route_31 (by decide) ?_
  refine lv_istore (lv' := [(5, .int 1), (0, .ref m0), (1, .int (nI a)), (2, .int (nI k)), (3, .int (nI o)), (4, .int 1)]) hx hb dX1_route_35 hl (by decide) rfl (fun ls hl => ?_)
  refine lv_aload_n hx hb dX1_route_37 rfl (lv_at hl 1 rfl) ?_
  refine lv_iload hx hb dX1_route_38 (lv_at hl 0 rfl) ?_
  refine lv_if_eq (tgt := 47) hx hb dX1_route_40 (by decide) (fun q40 => absurd q40 (by decide)) (fun q40 => ?_)
  refine lv_iconst (v := 0) hx hb dX1_route_43 (by decide) ?_
  refine lv_goto (tgt := 48) hx hb dX1_route_44 (by decide) ?_
  refine va_put (D := D) (ci := 1) (v := .int 0) (ty := .int) (C := RX1) (T := TX1) (N := 7) hx hb hts hinX1 tyX1 tyX1_ok nmX1 hown hK hP hD hS 0 rfl rfl 0 (by decide) (hts (.fieldLink RX1 26 "PrefixBenchModel" "code" "I") (by decide +kernel)) (fun _ h9 => h9) rfl (by decide +kernel) rfl rfl (Nat.le_of_ble_eq_true rfl) dX1_route_48 (fun H locs hP hD hS => ?_)
  have hP : va_P D vwCl (pb_wM cI cJ m0 a1 l1 o1 c1 h1 Af Lf Of Cf Hf 0 (nI T.length)) H := hP
  have hD : va_D A (pb_wM cI cJ m0 a1 l1 o1 c1 h1 Af Lf Of Cf Hf 0 (nI T.length)) := hD
  refine lv_iload hx hb dX1_route_51 (lv_at hl 0 rfl) ?_
  refine lv_if_ne (tgt := 58) hx hb dX1_route_53 (by decide) (fun q53 => ?_) (fun q53 => absurd q53 (by decide))
  refine lv_aload_n hx hb dX1_route_58 rfl (lv_at hl 1 rfl) ?_
  refine lv_iload_n hx hb dX1_route_59 rfl (lv_at hl 2 rfl) ?_
  refine lv_iload_n hx hb dX1_route_60 rfl (lv_at hl 3 rfl) ?_
  refine lv_iload_n hx hb dX1_route_61 rfl (lv_at hl 4 rfl) ?_
  refine lv_if_ge (tgt := 69) hx hb dX1_route_62 (by decide) (fun q62 => ?_) (fun q62 => absurd (nI_pos' (by omega)) q62)
  refine lv_iload_n hx hb dX1_route_69 rfl (lv_at hl 4 rfl) ?_
  refine pb_callS (As := [.int (nI a), .int (nI k), .int (nI o)]) (rest := [.ref m0]) ⟨hx, hb, hml, hown, hts⟩ (c_X1_rank a k o ha (by omega) (by omega)) (va_cwS 3 hts gX1_route_X1_rank rfl rfl rfl (by decide +kernel) ⟨Nat.le_of_ble_eq_true rfl, Nat.le_of_ble_eq_true rfl⟩) rfl rfl hl (Nat.le_of_ble_eq_true rfl) dX1_route_70 ⟨Nat.le_of_ble_eq_true rfl, Nat.le_of_ble_eq_true rfl⟩ ?_
  refine pb_callV (As := [.long (lN (pb_pre a k * 8 + o))]) (rest := []) ⟨hx, hb, hml, hown, hts⟩ (c_X1_place hT hR (pb_pre a k * 8 + o) (by show (64 * a + k) * 8 + o < _; omega)) (cwV 1 hts gX1_route_X1_place rfl rfl rfl (by decide +kernel) ⟨Nat.le_of_ble_eq_true rfl, Nat.le_of_ble_eq_true rfl⟩) hP hK (va_recv hK hP (ci := 1) (q0 := 0) rfl rfl) rfl rfl hl (Nat.le_of_ble_eq_true rfl) dX1_route_73 ⟨Nat.le_of_ble_eq_true rfl, Nat.le_of_ble_eq_true rfl⟩ ?_
  refine lv_istore (lv' := [(6, .int (nI (pb_lb T (pb_pre a k * 8 + o)))), (5, .int 1), (0, .ref m0), (1, .int (nI a)), (2, .int (nI k)), (3, .int (nI o)), (4, .int 1)]) hx hb dX1_route_76 hl (by decide) rfl (fun ls hl => ?_)
  refine lv_iload_n hx hb dX1_route_78 rfl (lv_at hl 5 rfl) ?_
  refine lv_if_ge (tgt := 121) hx hb dX1_route_79 (by decide) (fun q79 => ?_) (fun q79 => absurd (nI_pos' (by omega)) q79)
  refine lv_aload_n hx hb dX1_route_121 rfl (lv_at hl 2 rfl) ?_
  refine lv_iload hx hb dX1_route_122 (lv_at hl 0 rfl) ?_
  refine lv_iload_n hx hb dX1_route_124 rfl (lv_at hl 3 rfl) ?_
  refine lv_iload_n hx hb dX1_route_125 rfl (lv_at hl 4 rfl) ?_
  refine lv_iload_n hx hb dX1_route_126 rfl (lv_at hl 5 rfl) ?_
  have hle := pb_lb_le T (pb_pre a k * 8 + o)
  rcases hd : T[(pb_lb T (pb_pre a k * 8 + o))]? with _ | r
  · have hle2 := List.getElem?_eq_none_iff.mp hd
    refine pb_callV (As := [.int (nI (pb_lb T (pb_pre a k * 8 + o))), .int (nI a), .int (nI k), .int (nI o)]) (rest := []) ⟨hx, hb, hml, hown, hts⟩ (c_X1_isThere_n (pb_lb T (pb_pre a k * 8 + o)) T.length ⟨hle2, by omega⟩ (nI a) (nI k) (nI o)) (cwV 4 hts gX1_route_X1_isThere rfl rfl rfl (by decide +kernel) ⟨Nat.le_of_ble_eq_true rfl, Nat.le_of_ble_eq_true rfl⟩) hP hK (va_recv hK hP (ci := 1) (q0 := 0) rfl rfl) rfl rfl hl (Nat.le_of_ble_eq_true rfl) dX1_route_127 ⟨Nat.le_of_ble_eq_true rfl, Nat.le_of_ble_eq_true rfl⟩ ?_
    refine lv_istore (lv' := [(7, .int 0), (6, .int (nI (pb_lb T (pb_pre a k * 8 + o)))), (5, .int 1), (0, .ref m0), (1, .int (nI a)), (2, .int (nI k)), (3, .int (nI o)), (4, .int 1)]) hx hb dX1_route_130 hl (by decide) rfl (fun ls hl => ?_)
    refine lv_iload hx hb dX1_route_132 (lv_at hl 0 rfl) ?_
    refine lv_if_ne (tgt := 141) hx hb dX1_route_134 (by decide) (fun q134 => absurd q134 (fun z => z rfl)) (fun q134 => ?_)
    refine lv_iconst (v := (-1)) hx hb dX1_route_137 (by decide) ?_
    refine lv_goto (tgt := 182) hx hb dX1_route_138 (by decide) ?_
    exact pb_wi hx hb hr hlocks hS dX1_route_182 (rfl) (pb_B_of hP hK hD)
  · have hkb := pb_key_lt hT (List.mem_of_getElem? hd)
    have hlt := pb_lb_lt hd
    have hiff := pb_hs_iff hT.1 hd
    refine pb_callV (As := [.int (nI (pb_lb T (pb_pre a k * 8 + o))), .int (nI a), .int (nI k), .int (nI o)]) (rest := []) ⟨hx, hb, hml, hown, hts⟩ (c_X1_isThere_s hT hR (pb_lb T (pb_pre a k * 8 + o)) hd a k o ha (by omega) ho) (cwV 4 hts gX1_route_X1_isThere rfl rfl rfl (by decide +kernel) ⟨Nat.le_of_ble_eq_true rfl, Nat.le_of_ble_eq_true rfl⟩) hP hK (va_recv hK hP (ci := 1) (q0 := 0) rfl rfl) rfl rfl hl (Nat.le_of_ble_eq_true rfl) dX1_route_127 ⟨Nat.le_of_ble_eq_true rfl, Nat.le_of_ble_eq_true rfl⟩ ?_
    refine pb_topi (z := 0) (if_neg (fun z => by rw [hiff.mp z] at hh; exact absurd hh (by decide))) ?_
    refine lv_istore (lv' := [(7, .int 0), (6, .int (nI (pb_lb T (pb_pre a k * 8 + o)))), (5, .int 1), (0, .ref m0), (1, .int (nI a)), (2, .int (nI k)), (3, .int (nI o)), (4, .int 1)]) hx hb dX1_route_130 hl (by decide) rfl (fun ls hl => ?_)
    refine lv_iload hx hb dX1_route_132 (lv_at hl 0 rfl) ?_
    refine lv_if_ne (tgt := 141) hx hb dX1_route_134 (by decide) (fun q134 => absurd q134 (fun z => z rfl)) (fun q134 => ?_)
    refine lv_iconst (v := (-1)) hx hb dX1_route_137 (by decide) ?_
    refine lv_goto (tgt := 182) hx hb dX1_route_138 (by decide) ?_
    exact pb_wi hx hb hr hlocks hS dX1_route_182 (rfl) (pb_B_of hP hK hD)

set_option maxHeartbeats 4000000 in
set_option maxRecDepth 100000 in
theorem c_X1_route_bs1 {T : List pb_Rt} (hT : pb_ok T) (hR : pb_rM T Af Lf Of Cf Hf) (a k : Nat) (ha : a < 2 ^ 32) (hk : k ≤ 32) (hg : a % 2 ^ (32 - k) = 0) {r : pb_Rt} (hr1 : T[(pb_lb T (pb_pre a k * 8))]? = some r) (hh : pb_kn T (pb_pre a k) = true) : pb_Wq l yX1_route wsX1_route 4 0 0 88 [.ref m0, .int (nI a), .int (nI k), .int (-1), .int 1] D (pb_ty cI cJ) (pb_wM cI cJ m0 a1 l1 o1 c1 h1 Af Lf Of Cf Hf co (nI T.length)) sz (some (.int (pb_tl r 1))) (pb_B D (pb_ty cI cJ) (pb_wM cI cJ m0 a1 l1 o1 c1 h1 Af Lf Of Cf Hf 0 (nI T.length))) := by
  refine pb_ofW RX1 (by decide) rfl rfl (Nat.le_of_ble_eq_true rfl) (fun p e s m args below meth c ls A hx hb hml hr hlocks hown hts hP hK hD hS hA hl hin9 => ?_)
  have hinX1 : ∀ w ∈ wsX10, w ∈ wsX1_route := by decide +kernel
  have hl : lv_has ls 8 [(0, .ref m0), (1, .int (nI a)), (2, .int (nI k)), (3, .int (-1)), (4, .int 1)] := hl
  have hP : va_P D vwCl (pb_wM cI cJ m0 a1 l1 o1 c1 h1 Af Lf Of Cf Hf co (nI T.length)) s.heap := hP
  have hD : va_D A (pb_wM cI cJ m0 a1 l1 o1 c1 h1 Af Lf Of Cf Hf co (nI T.length)) := hD
  have hcap := hR.1
  have hlt := pb_lb_lt hr1
  have hkb := pb_key_lt hT (List.mem_of_getElem? hr1)
  have hq : r.1 / 8 = 64 * a + k := (pb_kn_iff hT.1 hr1).mpr hh
  refine lv_iload_n hx hb dX1_route_0 rfl (lv_at hl 1 rfl) ?_
  refine lv_iload_n hx hb dX1_route_1 rfl (lv_at hl 2 rfl) ?_
  refine pb_callS (As := [.int (nI a), .int (nI k)]) (rest := []) ⟨hx, hb, hml, hown, hts⟩ (c_X1_isPrefix_t a k ha hk hg) (va_cwS 2 hts gX1_route_X1_isPrefix rfl rfl rfl (by decide +kernel) ⟨Nat.le_of_ble_eq_true rfl, Nat.le_of_ble_eq_true rfl⟩) rfl rfl hl (Nat.le_of_ble_eq_true rfl) dX1_route_2 ⟨Nat.le_of_ble_eq_true rfl, Nat.le_of_ble_eq_true rfl⟩ ?_
  refine lv_if_eq (tgt := 34) hx hb dX1_route_5 (by decide) (fun q5 => absurd q5 (by decide)) (fun q5 => ?_)
  refine lv_iload_n hx hb dX1_route_8 rfl (lv_at hl 3 rfl) ?_
  refine lv_iconst (v := (-1)) hx hb dX1_route_9 (by decide) ?_
  refine lv_icmp_lt (tgt := 34) hx hb dX1_route_10 (by decide) (fun q10 => absurd q10 (by decide)) (fun q10 => ?_)
  refine lv_iload_n hx hb dX1_route_13 rfl (lv_at hl 3 rfl) ?_
  refine lv_bipush (v := 8) hx hb dX1_route_14 (by decide) ?_
  refine lv_icmp_ge (tgt := 34) hx hb dX1_route_16 (by decide) (fun q16 => absurd q16 (by decide)) (fun q16 => ?_)
  refine lv_iload hx hb dX1_route_19 (lv_at hl 4 rfl) ?_
  refine lv_if_lt (tgt := 34) hx hb dX1_route_21 (by decide) (fun q21 => absurd q21 (by decide)) (fun q21 => ?_)
  refine lv_iload hx hb dX1_route_24 (lv_at hl 4 rfl) ?_
  refine lv_iconst (v := 2) hx hb dX1_route_26 (by decide) ?_
  refine lv_icmp_gt (tgt := 34) hx hb dX1_route_27 (by decide) (fun q27 => absurd q27 (by decide)) (fun q27 => ?_)
  refine lv_iconst (v := 1) hx hb dX1_route_30 (by decide) ?_
  refine lv_goto (tgt := 35) hx hb dX1_route_31 (by decide) ?_
  refine lv_istore (lv' := [(5, .int 1), (0, .ref m0), (1, .int (nI a)), (2, .int (nI k)), (3, .int (-1)), (4, .int 1)]) hx hb dX1_route_35 hl (by decide) rfl (fun ls hl => ?_)
  refine lv_aload_n hx hb dX1_route_37 rfl (lv_at hl 1 rfl) ?_
  refine lv_iload hx hb dX1_route_38 (lv_at hl 0 rfl) ?_
  refine lv_if_eq (tgt := 47) hx hb dX1_route_40 (by decide) (fun q40 => absurd q40 (by decide)) (fun q40 => ?_)
  refine lv_iconst (v := 0) hx hb dX1_route_43 (by decide) ?_
  refine lv_goto (tgt := 48) hx hb dX1_route_44 (by decide) ?_
  refine va_put (D := D) (ci := 1) (v := .int 0) (ty := .int) (C := RX1) (T := TX1) (N := 7) hx hb hts hinX1 tyX1 tyX1_ok nmX1 hown hK hP hD hS 0 rfl rfl 0 (by decide) (hts (.fieldLink RX1 26 "PrefixBenchModel" "code" "I") (by decide +kernel)) (fun _ h9 => h9) rfl (by decide +kernel) rfl rfl (Nat.le_of_ble_eq_true rfl) dX1_route_48 (fun H locs hP hD hS => ?_)
  have hP : va_P D vwCl (pb_wM cI cJ m0 a1 l1 o1 c1 h1 Af Lf Of Cf Hf 0 (nI T.length)) H := hP
  have hD : va_D A (pb_wM cI cJ m0 a1 l1 o1 c1 h1 Af Lf Of Cf Hf 0 (nI T.length)) := hD
  refine lv_iload hx hb dX1_route_51 (lv_at hl 0 rfl) ?_
  refine lv_if_ne (tgt := 58) hx hb dX1_route_53 (by decide) (fun q53 => ?_) (fun q53 => absurd q53 (by decide))
  refine lv_aload_n hx hb dX1_route_58 rfl (lv_at hl 1 rfl) ?_
  refine lv_iload_n hx hb dX1_route_59 rfl (lv_at hl 2 rfl) ?_
  refine lv_iload_n hx hb dX1_route_60 rfl (lv_at hl 3 rfl) ?_
  refine lv_iload_n hx hb dX1_route_61 rfl (lv_at hl 4 rfl) ?_
  refine lv_if_ge (tgt := 69) hx hb dX1_route_62 (by decide) (fun q62 => absurd q62 (by decide)) (fun q62 => ?_)
  refine lv_iconst (v := 0) hx hb dX1_route_65 (by decide) ?_
  refine lv_goto (tgt := 70) hx hb dX1_route_66 (by decide) ?_
  refine pb_callS (As := [.int (nI a), .int (nI k), .int 0]) (rest := [.ref m0]) ⟨hx, hb, hml, hown, hts⟩ (c_X1_rank a k 0 ha (by omega) (by decide)) (va_cwS 3 hts gX1_route_X1_rank rfl rfl rfl (by decide +kernel) ⟨Nat.le_of_ble_eq_true rfl, Nat.le_of_ble_eq_true rfl⟩) rfl rfl hl (Nat.le_of_ble_eq_true rfl) dX1_route_70 ⟨Nat.le_of_ble_eq_true rfl, Nat.le_of_ble_eq_true rfl⟩ ?_
  refine pb_callV (As := [.long (lN (pb_pre a k * 8 + 0))]) (rest := []) ⟨hx, hb, hml, hown, hts⟩ (c_X1_place hT hR (pb_pre a k * 8 + 0) (by show (64 * a + k) * 8 + 0 < _; omega)) (cwV 1 hts gX1_route_X1_place rfl rfl rfl (by decide +kernel) ⟨Nat.le_of_ble_eq_true rfl, Nat.le_of_ble_eq_true rfl⟩) hP hK (va_recv hK hP (ci := 1) (q0 := 0) rfl rfl) rfl rfl hl (Nat.le_of_ble_eq_true rfl) dX1_route_73 ⟨Nat.le_of_ble_eq_true rfl, Nat.le_of_ble_eq_true rfl⟩ ?_
  refine lv_istore (lv' := [(6, .int (nI (pb_lb T (pb_pre a k * 8)))), (5, .int 1), (0, .ref m0), (1, .int (nI a)), (2, .int (nI k)), (3, .int (-1)), (4, .int 1)]) hx hb dX1_route_76 hl (by decide) rfl (fun ls hl => ?_)
  refine lv_iload_n hx hb dX1_route_78 rfl (lv_at hl 5 rfl) ?_
  refine lv_if_ge (tgt := 121) hx hb dX1_route_79 (by decide) (fun q79 => absurd q79 (by decide)) (fun q79 => ?_)
  refine lv_iload hx hb dX1_route_82 (lv_at hl 0 rfl) ?_
  refine lv_aload_n hx hb dX1_route_84 rfl (lv_at hl 2 rfl) ?_
  refine va_get (D := D) (ci := 1) (v := .int (nI T.length)) (C := RX1) (T := TX1) (N := 7) hx hb hts hinX1 hown hK hP 0 rfl rfl 1 (by decide) (hts (.fieldLink RX1 48 "PrefixBenchModel" "count" "I") (by decide +kernel)) (fun _ h9 => h9) rfl dX1_route_85 ?_
  refine lv_icmp_ge (tgt := 117) hx hb dX1_route_88 (by decide) (fun q88 => absurd q88 (pb_no_lt hlt (by omega))) (fun q88 => ?_)
  refine lv_aload_n hx hb dX1_route_91 rfl (lv_at hl 2 rfl) ?_
  refine va_get (D := D) (ci := 1) (v := .ref a1) (C := RX1) (T := TX1) (N := 7) hx hb hts hinX1 hown hK hP 0 rfl rfl 2 (by decide) (hts (.fieldLink RX1 7 "PrefixBenchModel" "address" "[I") (by decide +kernel)) (fun _ h9 => h9) rfl dX1_route_92 ?_
  refine lv_iload hx hb dX1_route_95 (lv_at hl 0 rfl) ?_
  refine pb_iald hx hb hK hP 1 1 rfl rfl (pb_lb T (pb_pre a k * 8)) (rfl) (⟨by omega, by decide⟩) dX1_route_97 ?_
  refine pb_topi (z := nI (r.1 / 512)) ((hR.2 _ _ hr1).1) ?_
  refine lv_iload_n hx hb dX1_route_98 rfl (lv_at hl 3 rfl) ?_
  refine lv_icmp_ne (tgt := 117) hx hb dX1_route_99 (by decide) (fun q99 => absurd q99 (fun z => z (by rw [show r.1 / 512 = a by omega]))) (fun q99 => ?_)
  refine lv_aload_n hx hb dX1_route_102 rfl (lv_at hl 2 rfl) ?_
  refine va_get (D := D) (ci := 1) (v := .ref l1) (C := RX1) (T := TX1) (N := 7) hx hb hts hinX1 hown hK hP 0 rfl rfl 3 (by decide) (hts (.fieldLink RX1 13 "PrefixBenchModel" "length" "[I") (by decide +kernel)) (fun _ h9 => h9) rfl dX1_route_103 ?_
  refine lv_iload hx hb dX1_route_106 (lv_at hl 0 rfl) ?_
  refine pb_iald hx hb hK hP 2 1 rfl rfl (pb_lb T (pb_pre a k * 8)) (rfl) (⟨by omega, by decide⟩) dX1_route_108 ?_
  refine pb_topi (z := nI (r.1 / 8 % 64)) ((hR.2 _ _ hr1).2.1) ?_
  refine lv_iload_n hx hb dX1_route_109 rfl (lv_at hl 4 rfl) ?_
  refine lv_icmp_ne (tgt := 117) hx hb dX1_route_110 (by decide) (fun q110 => absurd q110 (fun z => z (by rw [show r.1 / 8 % 64 = k by omega]))) (fun q110 => ?_)
  refine lv_iconst (v := 1) hx hb dX1_route_113 (by decide) ?_
  refine lv_goto (tgt := 130) hx hb dX1_route_114 (by decide) ?_
  refine lv_istore (lv' := [(7, .int 1), (6, .int (nI (pb_lb T (pb_pre a k * 8)))), (5, .int 1), (0, .ref m0), (1, .int (nI a)), (2, .int (nI k)), (3, .int (-1)), (4, .int 1)]) hx hb dX1_route_130 hl (by decide) rfl (fun ls hl => ?_)
  refine lv_iload hx hb dX1_route_132 (lv_at hl 0 rfl) ?_
  refine lv_if_ne (tgt := 141) hx hb dX1_route_134 (by decide) (fun q134 => ?_) (fun q134 => absurd q134 (by decide))
  refine lv_iload hx hb dX1_route_141 (lv_at hl 7 rfl) ?_
  refine lv_if_ne (tgt := 156) hx hb dX1_route_143 (by decide) (fun q143 => ?_) (fun q143 => absurd q143 (by decide))
  refine lv_iload hx hb dX1_route_156 (lv_at hl 7 rfl) ?_
  refine lv_iconst (v := 1) hx hb dX1_route_158 (by decide) ?_
  refine lv_icmp_ne (tgt := 172) hx hb dX1_route_159 (by decide) (fun q159 => absurd q159 (fun z => z rfl)) (fun q159 => ?_)
  refine lv_aload_n hx hb dX1_route_162 rfl (lv_at hl 3 rfl) ?_
  refine va_get (D := D) (ci := 1) (v := .ref o1) (C := RX1) (T := TX1) (N := 7) hx hb hts hinX1 hown hK hP 0 rfl rfl 4 (by decide) (hts (.fieldLink RX1 16 "PrefixBenchModel" "origin" "[I") (by decide +kernel)) (fun _ h9 => h9) rfl dX1_route_163 ?_
  refine lv_iload hx hb dX1_route_166 (lv_at hl 1 rfl) ?_
  refine pb_iald hx hb hK hP 3 1 rfl rfl (pb_lb T (pb_pre a k * 8)) (rfl) (⟨by omega, by decide⟩) dX1_route_168 ?_
  refine lv_goto (tgt := 182) hx hb dX1_route_169 (by decide) ?_
  exact pb_wi hx hb hr hlocks hS dX1_route_182 (by rw [(hR.2 _ _ hr1).2.2.1]; rfl) (pb_B_of hP hK hD)

set_option maxHeartbeats 4000000 in
set_option maxRecDepth 100000 in
theorem c_X1_route_bn1 {T : List pb_Rt} (hT : pb_ok T) (hR : pb_rM T Af Lf Of Cf Hf) (a k : Nat) (ha : a < 2 ^ 32) (hk : k ≤ 32) (hg : a % 2 ^ (32 - k) = 0) (hh : pb_kn T (pb_pre a k) = false) : pb_Wq l yX1_route wsX1_route 4 0 0 88 [.ref m0, .int (nI a), .int (nI k), .int (-1), .int 1] D (pb_ty cI cJ) (pb_wM cI cJ m0 a1 l1 o1 c1 h1 Af Lf Of Cf Hf co (nI T.length)) sz (some (.int (-1))) (pb_B D (pb_ty cI cJ) (pb_wM cI cJ m0 a1 l1 o1 c1 h1 Af Lf Of Cf Hf 0 (nI T.length))) := by
  refine pb_ofW RX1 (by decide) rfl rfl (Nat.le_of_ble_eq_true rfl) (fun p e s m args below meth c ls A hx hb hml hr hlocks hown hts hP hK hD hS hA hl hin9 => ?_)
  have hinX1 : ∀ w ∈ wsX10, w ∈ wsX1_route := by decide +kernel
  have hl : lv_has ls 8 [(0, .ref m0), (1, .int (nI a)), (2, .int (nI k)), (3, .int (-1)), (4, .int 1)] := hl
  have hP : va_P D vwCl (pb_wM cI cJ m0 a1 l1 o1 c1 h1 Af Lf Of Cf Hf co (nI T.length)) s.heap := hP
  have hD : va_D A (pb_wM cI cJ m0 a1 l1 o1 c1 h1 Af Lf Of Cf Hf co (nI T.length)) := hD
  have hcap := hR.1
  refine lv_iload_n hx hb dX1_route_0 rfl (lv_at hl 1 rfl) ?_
  refine lv_iload_n hx hb dX1_route_1 rfl (lv_at hl 2 rfl) ?_
  refine pb_callS (As := [.int (nI a), .int (nI k)]) (rest := []) ⟨hx, hb, hml, hown, hts⟩ (c_X1_isPrefix_t a k ha hk hg) (va_cwS 2 hts gX1_route_X1_isPrefix rfl rfl rfl (by decide +kernel) ⟨Nat.le_of_ble_eq_true rfl, Nat.le_of_ble_eq_true rfl⟩) rfl rfl hl (Nat.le_of_ble_eq_true rfl) dX1_route_2 ⟨Nat.le_of_ble_eq_true rfl, Nat.le_of_ble_eq_true rfl⟩ ?_
  refine lv_if_eq (tgt := 34) hx hb dX1_route_5 (by decide) (fun q5 => absurd q5 (by decide)) (fun q5 => ?_)
  refine lv_iload_n hx hb dX1_route_8 rfl (lv_at hl 3 rfl) ?_
  refine lv_iconst (v := (-1)) hx hb dX1_route_9 (by decide) ?_
  refine lv_icmp_lt (tgt := 34) hx hb dX1_route_10 (by decide) (fun q10 => absurd q10 (by decide)) (fun q10 => ?_)
  refine lv_iload_n hx hb dX1_route_13 rfl (lv_at hl 3 rfl) ?_
  refine lv_bipush (v := 8) hx hb dX1_route_14 (by decide) ?_
  refine lv_icmp_ge (tgt := 34) hx hb dX1_route_16 (by decide) (fun q16 => absurd q16 (by decide)) (fun q16 => ?_)
  refine lv_iload hx hb dX1_route_19 (lv_at hl 4 rfl) ?_
  refine lv_if_lt (tgt := 34) hx hb dX1_route_21 (by decide) (fun q21 => absurd q21 (by decide)) (fun q21 => ?_)
  refine lv_iload hx hb dX1_route_24 (lv_at hl 4 rfl) ?_
  refine lv_iconst (v := 2) hx hb dX1_route_26 (by decide) ?_
  refine lv_icmp_gt (tgt := 34) hx hb dX1_route_27 (by decide) (fun q27 => absurd q27 (by decide)) (fun q27 => ?_)
  refine lv_iconst (v := 1) hx hb dX1_route_30 (by decide) ?_
  refine lv_goto (tgt := 35) hx hb dX1_route_31 (by decide) ?_
  refine lv_istore (lv' := [(5, .int 1), (0, .ref m0), (1, .int (nI a)), (2, .int (nI k)), (3, .int (-1)), (4, .int 1)]) hx hb dX1_route_35 hl (by decide) rfl (fun ls hl => ?_)
  refine lv_aload_n hx hb dX1_route_37 rfl (lv_at hl 1 rfl) ?_
  refine lv_iload hx hb dX1_route_38 (lv_at hl 0 rfl) ?_
  refine lv_if_eq (tgt := 47) hx hb dX1_route_40 (by decide) (fun q40 => absurd q40 (by decide)) (fun q40 => ?_)
  refine lv_iconst (v := 0) hx hb dX1_route_43 (by decide) ?_
  refine lv_goto (tgt := 48) hx hb dX1_route_44 (by decide) ?_
  refine va_put (D := D) (ci := 1) (v := .int 0) (ty := .int) (C := RX1) (T := TX1) (N := 7) hx hb hts hinX1 tyX1 tyX1_ok nmX1 hown hK hP hD hS 0 rfl rfl 0 (by decide) (hts (.fieldLink RX1 26 "PrefixBenchModel" "code" "I") (by decide +kernel)) (fun _ h9 => h9) rfl (by decide +kernel) rfl rfl (Nat.le_of_ble_eq_true rfl) dX1_route_48 (fun H locs hP hD hS => ?_)
  have hP : va_P D vwCl (pb_wM cI cJ m0 a1 l1 o1 c1 h1 Af Lf Of Cf Hf 0 (nI T.length)) H := hP
  have hD : va_D A (pb_wM cI cJ m0 a1 l1 o1 c1 h1 Af Lf Of Cf Hf 0 (nI T.length)) := hD
  refine lv_iload hx hb dX1_route_51 (lv_at hl 0 rfl) ?_
  refine lv_if_ne (tgt := 58) hx hb dX1_route_53 (by decide) (fun q53 => ?_) (fun q53 => absurd q53 (by decide))
  refine lv_aload_n hx hb dX1_route_58 rfl (lv_at hl 1 rfl) ?_
  refine lv_iload_n hx hb dX1_route_59 rfl (lv_at hl 2 rfl) ?_
  refine lv_iload_n hx hb dX1_route_60 rfl (lv_at hl 3 rfl) ?_
  refine lv_iload_n hx hb dX1_route_61 rfl (lv_at hl 4 rfl) ?_
  refine lv_if_ge (tgt := 69) hx hb dX1_route_62 (by decide) (fun q62 => absurd q62 (by decide)) (fun q62 => ?_)
  refine lv_iconst (v := 0) hx hb dX1_route_65 (by decide) ?_
  refine lv_goto (tgt := 70) hx hb dX1_route_66 (by decide) ?_
  refine pb_callS (As := [.int (nI a), .int (nI k), .int 0]) (rest := [.ref m0]) ⟨hx, hb, hml, hown, hts⟩ (c_X1_rank a k 0 ha (by omega) (by decide)) (va_cwS 3 hts gX1_route_X1_rank rfl rfl rfl (by decide +kernel) ⟨Nat.le_of_ble_eq_true rfl, Nat.le_of_ble_eq_true rfl⟩) rfl rfl hl (Nat.le_of_ble_eq_true rfl) dX1_route_70 ⟨Nat.le_of_ble_eq_true rfl, Nat.le_of_ble_eq_true rfl⟩ ?_
  refine pb_callV (As := [.long (lN (pb_pre a k * 8 + 0))]) (rest := []) ⟨hx, hb, hml, hown, hts⟩ (c_X1_place hT hR (pb_pre a k * 8 + 0) (by show (64 * a + k) * 8 + 0 < _; omega)) (cwV 1 hts gX1_route_X1_place rfl rfl rfl (by decide +kernel) ⟨Nat.le_of_ble_eq_true rfl, Nat.le_of_ble_eq_true rfl⟩) hP hK (va_recv hK hP (ci := 1) (q0 := 0) rfl rfl) rfl rfl hl (Nat.le_of_ble_eq_true rfl) dX1_route_73 ⟨Nat.le_of_ble_eq_true rfl, Nat.le_of_ble_eq_true rfl⟩ ?_
  refine lv_istore (lv' := [(6, .int (nI (pb_lb T (pb_pre a k * 8)))), (5, .int 1), (0, .ref m0), (1, .int (nI a)), (2, .int (nI k)), (3, .int (-1)), (4, .int 1)]) hx hb dX1_route_76 hl (by decide) rfl (fun ls hl => ?_)
  refine lv_iload_n hx hb dX1_route_78 rfl (lv_at hl 5 rfl) ?_
  refine lv_if_ge (tgt := 121) hx hb dX1_route_79 (by decide) (fun q79 => absurd q79 (by decide)) (fun q79 => ?_)
  have hle := pb_lb_le T (pb_pre a k * 8)
  rcases hd : T[(pb_lb T (pb_pre a k * 8))]? with _ | r
  · have hle2 := List.getElem?_eq_none_iff.mp hd
    refine lv_iload hx hb dX1_route_82 (lv_at hl 0 rfl) ?_
    refine lv_aload_n hx hb dX1_route_84 rfl (lv_at hl 2 rfl) ?_
    refine va_get (D := D) (ci := 1) (v := .int (nI T.length)) (C := RX1) (T := TX1) (N := 7) hx hb hts hinX1 hown hK hP 0 rfl rfl 1 (by decide) (hts (.fieldLink RX1 48 "PrefixBenchModel" "count" "I") (by decide +kernel)) (fun _ h9 => h9) rfl dX1_route_85 ?_
    refine lv_icmp_ge (tgt := 117) hx hb dX1_route_88 (by decide) (fun q88 => ?_) (fun q88 => absurd (nI_le hle2 (by omega)) q88)
    refine lv_iconst (v := 0) hx hb dX1_route_117 (by decide) ?_
    refine lv_goto (tgt := 130) hx hb dX1_route_118 (by decide) ?_
    refine lv_istore (lv' := [(7, .int 0), (6, .int (nI (pb_lb T (pb_pre a k * 8)))), (5, .int 1), (0, .ref m0), (1, .int (nI a)), (2, .int (nI k)), (3, .int (-1)), (4, .int 1)]) hx hb dX1_route_130 hl (by decide) rfl (fun ls hl => ?_)
    refine lv_iload hx hb dX1_route_132 (lv_at hl 0 rfl) ?_
    refine lv_if_ne (tgt := 141) hx hb dX1_route_134 (by decide) (fun q134 => absurd q134 (fun z => z rfl)) (fun q134 => ?_)
    refine lv_iconst (v := (-1)) hx hb dX1_route_137 (by decide) ?_
    refine lv_goto (tgt := 182) hx hb dX1_route_138 (by decide) ?_
    exact pb_wi hx hb hr hlocks hS dX1_route_182 (rfl) (pb_B_of hP hK hD)
  · have hkb := pb_key_lt hT (List.mem_of_getElem? hd)
    have hlt := pb_lb_lt hd
    have hiff := pb_kn_iff hT.1 hd
    refine lv_iload hx hb dX1_route_82 (lv_at hl 0 rfl) ?_
    refine lv_aload_n hx hb dX1_route_84 rfl (lv_at hl 2 rfl) ?_
    refine va_get (D := D) (ci := 1) (v := .int (nI T.length)) (C := RX1) (T := TX1) (N := 7) hx hb hts hinX1 hown hK hP 0 rfl rfl 1 (by decide) (hts (.fieldLink RX1 48 "PrefixBenchModel" "count" "I") (by decide +kernel)) (fun _ h9 => h9) rfl dX1_route_85 ?_
    refine lv_icmp_ge (tgt := 117) hx hb dX1_route_88 (by decide) (fun q88 => absurd q88 (pb_no_lt hlt (by omega))) (fun q88 => ?_)
    refine lv_aload_n hx hb dX1_route_91 rfl (lv_at hl 2 rfl) ?_
    refine va_get (D := D) (ci := 1) (v := .ref a1) (C := RX1) (T := TX1) (N := 7) hx hb hts hinX1 hown hK hP 0 rfl rfl 2 (by decide) (hts (.fieldLink RX1 7 "PrefixBenchModel" "address" "[I") (by decide +kernel)) (fun _ h9 => h9) rfl dX1_route_92 ?_
    refine lv_iload hx hb dX1_route_95 (lv_at hl 0 rfl) ?_
    refine pb_iald hx hb hK hP 1 1 rfl rfl (pb_lb T (pb_pre a k * 8)) (rfl) (⟨by omega, by decide⟩) dX1_route_97 ?_
    refine pb_topi (z := nI (r.1 / 512)) ((hR.2 _ _ hd).1) ?_
    refine lv_iload_n hx hb dX1_route_98 rfl (lv_at hl 3 rfl) ?_
    refine lv_icmp_ne (tgt := 117) hx hb dX1_route_99 (by decide) (fun q99 => ?_) (fun q99 => ?_)
    · refine lv_iconst (v := 0) hx hb dX1_route_117 (by decide) ?_
      refine lv_goto (tgt := 130) hx hb dX1_route_118 (by decide) ?_
      refine lv_istore (lv' := [(7, .int 0), (6, .int (nI (pb_lb T (pb_pre a k * 8)))), (5, .int 1), (0, .ref m0), (1, .int (nI a)), (2, .int (nI k)), (3, .int (-1)), (4, .int 1)]) hx hb dX1_route_130 hl (by decide) rfl (fun ls hl => ?_)
      refine lv_iload hx hb dX1_route_132 (lv_at hl 0 rfl) ?_
      refine lv_if_ne (tgt := 141) hx hb dX1_route_134 (by decide) (fun q134 => absurd q134 (fun z => z rfl)) (fun q134 => ?_)
      refine lv_iconst (v := (-1)) hx hb dX1_route_137 (by decide) ?_
      refine lv_goto (tgt := 182) hx hb dX1_route_138 (by decide) ?_
      exact pb_wi hx hb hr hlocks hS dX1_route_182 (rfl) (pb_B_of hP hK hD)
    · have w1 := (pb_nI_inj (by omega) ha).mp q99
      refine lv_aload_n hx hb dX1_route_102 rfl (lv_at hl 2 rfl) ?_
      refine va_get (D := D) (ci := 1) (v := .ref l1) (C := RX1) (T := TX1) (N := 7) hx hb hts hinX1 hown hK hP 0 rfl rfl 3 (by decide) (hts (.fieldLink RX1 13 "PrefixBenchModel" "length" "[I") (by decide +kernel)) (fun _ h9 => h9) rfl dX1_route_103 ?_
      refine lv_iload hx hb dX1_route_106 (lv_at hl 0 rfl) ?_
      refine pb_iald hx hb hK hP 2 1 rfl rfl (pb_lb T (pb_pre a k * 8)) (rfl) (⟨by omega, by decide⟩) dX1_route_108 ?_
      refine pb_topi (z := nI (r.1 / 8 % 64)) ((hR.2 _ _ hd).2.1) ?_
      refine lv_iload_n hx hb dX1_route_109 rfl (lv_at hl 4 rfl) ?_
      refine lv_icmp_ne (tgt := 117) hx hb dX1_route_110 (by decide) (fun q110 => ?_) (fun q110 => ?_)
      · refine lv_iconst (v := 0) hx hb dX1_route_117 (by decide) ?_
        refine lv_goto (tgt := 130) hx hb dX1_route_118 (by decide) ?_
        refine lv_istore (lv' := [(7, .int 0), (6, .int (nI (pb_lb T (pb_pre a k * 8)))), (5, .int 1), (0, .ref m0), (1, .int (nI a)), (2, .int (nI k)), (3, .int (-1)), (4, .int 1)]) hx hb dX1_route_130 hl (by decide) rfl (fun ls hl => ?_)
        refine lv_iload hx hb dX1_route_132 (lv_at hl 0 rfl) ?_
        refine lv_if_ne (tgt := 141) hx hb dX1_route_134 (by decide) (fun q134 => absurd q134 (fun z => z rfl)) (fun q134 => ?_)
        refine lv_iconst (v := (-1)) hx hb dX1_route_137 (by decide) ?_
        refine lv_goto (tgt := 182) hx hb dX1_route_138 (by decide) ?_
        exact pb_wi hx hb hr hlocks hS dX1_route_182 (rfl) (pb_B_of hP hK hD)
      · have w2 := (pb_nI_inj (by omega) (by omega)).mp q110
        exact absurd (hiff.mp (show r.1 / 8 = 64 * a + k by omega)) (by rw [hh]; decide)

set_option maxHeartbeats 4000000 in
set_option maxRecDepth 100000 in
theorem c_X1_route_os2 {T : List pb_Rt} (hT : pb_ok T) (hR : pb_rM T Af Lf Of Cf Hf) (a k : Nat) (ha : a < 2 ^ 32) (hk : k ≤ 32) (hg : a % 2 ^ (32 - k) = 0) (o : Nat) (ho : o < 8) {r : pb_Rt} (hr1 : T[(pb_lb T (pb_pre a k * 8 + o))]? = some r) (hh : pb_hs T (pb_pre a k * 8 + o) = true) : pb_Wq l yX1_route wsX1_route 4 0 0 88 [.ref m0, .int (nI a), .int (nI k), .int (nI o), .int 2] D (pb_ty cI cJ) (pb_wM cI cJ m0 a1 l1 o1 c1 h1 Af Lf Of Cf Hf co (nI T.length)) sz (some (.int (pb_tl r 2))) (pb_B D (pb_ty cI cJ) (pb_wM cI cJ m0 a1 l1 o1 c1 h1 Af Lf Of Cf Hf 0 (nI T.length))) := by
  refine pb_ofW RX1 (by decide) rfl rfl (Nat.le_of_ble_eq_true rfl) (fun p e s m args below meth c ls A hx hb hml hr hlocks hown hts hP hK hD hS hA hl hin9 => ?_)
  have hinX1 : ∀ w ∈ wsX10, w ∈ wsX1_route := by decide +kernel
  have hl : lv_has ls 8 [(0, .ref m0), (1, .int (nI a)), (2, .int (nI k)), (3, .int (nI o)), (4, .int 2)] := hl
  have hP : va_P D vwCl (pb_wM cI cJ m0 a1 l1 o1 c1 h1 Af Lf Of Cf Hf co (nI T.length)) s.heap := hP
  have hD : va_D A (pb_wM cI cJ m0 a1 l1 o1 c1 h1 Af Lf Of Cf Hf co (nI T.length)) := hD
  have hcap := hR.1
  have hlt := pb_lb_lt hr1
  have hkb := pb_key_lt hT (List.mem_of_getElem? hr1)
  refine lv_iload_n hx hb dX1_route_0 rfl (lv_at hl 1 rfl) ?_
  refine lv_iload_n hx hb dX1_route_1 rfl (lv_at hl 2 rfl) ?_
  refine pb_callS (As := [.int (nI a), .int (nI k)]) (rest := []) ⟨hx, hb, hml, hown, hts⟩ (c_X1_isPrefix_t a k ha hk hg) (va_cwS 2 hts gX1_route_X1_isPrefix rfl rfl rfl (by decide +kernel) ⟨Nat.le_of_ble_eq_true rfl, Nat.le_of_ble_eq_true rfl⟩) rfl rfl hl (Nat.le_of_ble_eq_true rfl) dX1_route_2 ⟨Nat.le_of_ble_eq_true rfl, Nat.le_of_ble_eq_true rfl⟩ ?_
  refine lv_if_eq (tgt := 34) hx hb dX1_route_5 (by decide) (fun q5 => absurd q5 (by decide)) (fun q5 => ?_)
  refine lv_iload_n hx hb dX1_route_8 rfl (lv_at hl 3 rfl) ?_
  refine lv_iconst (v := (-1)) hx hb dX1_route_9 (by decide) ?_
  refine lv_icmp_lt (tgt := 34) hx hb dX1_route_10 (by decide) (fun q10 => absurd q10 (pb_nom o (by omega))) (fun q10 => ?_)
  refine lv_iload_n hx hb dX1_route_13 rfl (lv_at hl 3 rfl) ?_
  refine lv_bipush (v := 8) hx hb dX1_route_14 (by decide) ?_
  refine lv_icmp_ge (tgt := 34) hx hb dX1_route_16 (by decide) (fun q16 => absurd q16 (fun z => absurd ((nI_leI (a := 8) (b := o) (by decide) (by omega)).mp z) (by omega))) (fun q16 => ?_)
  refine lv_iload hx hb dX1_route_19 (lv_at hl 4 rfl) ?_
  refine lv_if_lt (tgt := 34) hx hb dX1_route_21 (by decide) (fun q21 => absurd q21 (by decide)) (fun q21 => ?_)
  refine lv_iload hx hb dX1_route_24 (lv_at hl 4 rfl) ?_
  refine lv_iconst (v := 2) hx hb dX1_route_26 (by decide) ?_
  refine lv_icmp_gt (tgt := 34) hx hb dX1_route_27 (by decide) (fun q27 => absurd q27 (by decide)) (fun q27 => ?_)
  refine lv_iconst (v := 1) hx hb dX1_route_30 (by decide) ?_
  refine lv_goto (tgt := 35) hx hb dX1_route_31 (by decide) ?_
  refine lv_istore (lv' := [(5, .int 1), (0, .ref m0), (1, .int (nI a)), (2, .int (nI k)), (3, .int (nI o)), (4, .int 2)]) hx hb dX1_route_35 hl (by decide) rfl (fun ls hl => ?_)
  refine lv_aload_n hx hb dX1_route_37 rfl (lv_at hl 1 rfl) ?_
  refine lv_iload hx hb dX1_route_38 (lv_at hl 0 rfl) ?_
  refine lv_if_eq (tgt := 47) hx hb dX1_route_40 (by decide) (fun q40 => absurd q40 (by decide)) (fun q40 => ?_)
  refine lv_iconst (v := 0) hx hb dX1_route_43 (by decide) ?_
  refine lv_goto (tgt := 48) hx hb dX1_route_44 (by decide) ?_
  refine va_put (D := D) (ci := 1) (v := .int 0) (ty := .int) (C := RX1) (T := TX1) (N := 7) hx hb hts hinX1 tyX1 tyX1_ok nmX1 hown hK hP hD hS 0 rfl rfl 0 (by decide) (hts (.fieldLink RX1 26 "PrefixBenchModel" "code" "I") (by decide +kernel)) (fun _ h9 => h9) rfl (by decide +kernel) rfl rfl (Nat.le_of_ble_eq_true rfl) dX1_route_48 (fun H locs hP hD hS => ?_)
  have hP : va_P D vwCl (pb_wM cI cJ m0 a1 l1 o1 c1 h1 Af Lf Of Cf Hf 0 (nI T.length)) H := hP
  have hD : va_D A (pb_wM cI cJ m0 a1 l1 o1 c1 h1 Af Lf Of Cf Hf 0 (nI T.length)) := hD
  refine lv_iload hx hb dX1_route_51 (lv_at hl 0 rfl) ?_
  refine lv_if_ne (tgt := 58) hx hb dX1_route_53 (by decide) (fun q53 => ?_) (fun q53 => absurd q53 (by decide))
  refine lv_aload_n hx hb dX1_route_58 rfl (lv_at hl 1 rfl) ?_
  refine lv_iload_n hx hb dX1_route_59 rfl (lv_at hl 2 rfl) ?_
  refine lv_iload_n hx hb dX1_route_60 rfl (lv_at hl 3 rfl) ?_
  refine lv_iload_n hx hb dX1_route_61 rfl (lv_at hl 4 rfl) ?_
  refine lv_if_ge (tgt := 69) hx hb dX1_route_62 (by decide) (fun q62 => ?_) (fun q62 => absurd (nI_pos' (by omega)) q62)
  refine lv_iload_n hx hb dX1_route_69 rfl (lv_at hl 4 rfl) ?_
  refine pb_callS (As := [.int (nI a), .int (nI k), .int (nI o)]) (rest := [.ref m0]) ⟨hx, hb, hml, hown, hts⟩ (c_X1_rank a k o ha (by omega) (by omega)) (va_cwS 3 hts gX1_route_X1_rank rfl rfl rfl (by decide +kernel) ⟨Nat.le_of_ble_eq_true rfl, Nat.le_of_ble_eq_true rfl⟩) rfl rfl hl (Nat.le_of_ble_eq_true rfl) dX1_route_70 ⟨Nat.le_of_ble_eq_true rfl, Nat.le_of_ble_eq_true rfl⟩ ?_
  refine pb_callV (As := [.long (lN (pb_pre a k * 8 + o))]) (rest := []) ⟨hx, hb, hml, hown, hts⟩ (c_X1_place hT hR (pb_pre a k * 8 + o) (by show (64 * a + k) * 8 + o < _; omega)) (cwV 1 hts gX1_route_X1_place rfl rfl rfl (by decide +kernel) ⟨Nat.le_of_ble_eq_true rfl, Nat.le_of_ble_eq_true rfl⟩) hP hK (va_recv hK hP (ci := 1) (q0 := 0) rfl rfl) rfl rfl hl (Nat.le_of_ble_eq_true rfl) dX1_route_73 ⟨Nat.le_of_ble_eq_true rfl, Nat.le_of_ble_eq_true rfl⟩ ?_
  refine lv_istore (lv' := [(6, .int (nI (pb_lb T (pb_pre a k * 8 + o)))), (5, .int 1), (0, .ref m0), (1, .int (nI a)), (2, .int (nI k)), (3, .int (nI o)), (4, .int 2)]) hx hb dX1_route_76 hl (by decide) rfl (fun ls hl => ?_)
  refine lv_iload_n hx hb dX1_route_78 rfl (lv_at hl 5 rfl) ?_
  refine lv_if_ge (tgt := 121) hx hb dX1_route_79 (by decide) (fun q79 => ?_) (fun q79 => absurd (nI_pos' (by omega)) q79)
  refine lv_aload_n hx hb dX1_route_121 rfl (lv_at hl 2 rfl) ?_
  refine lv_iload hx hb dX1_route_122 (lv_at hl 0 rfl) ?_
  refine lv_iload_n hx hb dX1_route_124 rfl (lv_at hl 3 rfl) ?_
  refine lv_iload_n hx hb dX1_route_125 rfl (lv_at hl 4 rfl) ?_
  refine lv_iload_n hx hb dX1_route_126 rfl (lv_at hl 5 rfl) ?_
  refine pb_callV (As := [.int (nI (pb_lb T (pb_pre a k * 8 + o))), .int (nI a), .int (nI k), .int (nI o)]) (rest := []) ⟨hx, hb, hml, hown, hts⟩ (c_X1_isThere_s hT hR (pb_lb T (pb_pre a k * 8 + o)) hr1 a k o ha (by omega) ho) (cwV 4 hts gX1_route_X1_isThere rfl rfl rfl (by decide +kernel) ⟨Nat.le_of_ble_eq_true rfl, Nat.le_of_ble_eq_true rfl⟩) hP hK (va_recv hK hP (ci := 1) (q0 := 0) rfl rfl) rfl rfl hl (Nat.le_of_ble_eq_true rfl) dX1_route_127 ⟨Nat.le_of_ble_eq_true rfl, Nat.le_of_ble_eq_true rfl⟩ ?_
  refine pb_topi (z := 1) (if_pos ((pb_hs_iff hT.1 hr1).mpr hh)) ?_
  refine lv_istore (lv' := [(7, .int 1), (6, .int (nI (pb_lb T (pb_pre a k * 8 + o)))), (5, .int 1), (0, .ref m0), (1, .int (nI a)), (2, .int (nI k)), (3, .int (nI o)), (4, .int 2)]) hx hb dX1_route_130 hl (by decide) rfl (fun ls hl => ?_)
  refine lv_iload hx hb dX1_route_132 (lv_at hl 0 rfl) ?_
  refine lv_if_ne (tgt := 141) hx hb dX1_route_134 (by decide) (fun q134 => ?_) (fun q134 => absurd q134 (by decide))
  refine lv_iload hx hb dX1_route_141 (lv_at hl 7 rfl) ?_
  refine lv_if_ne (tgt := 156) hx hb dX1_route_143 (by decide) (fun q143 => ?_) (fun q143 => absurd q143 (by decide))
  refine lv_iload hx hb dX1_route_156 (lv_at hl 7 rfl) ?_
  refine lv_iconst (v := 1) hx hb dX1_route_158 (by decide) ?_
  refine lv_icmp_ne (tgt := 172) hx hb dX1_route_159 (by decide) (fun q159 => ?_) (fun q159 => absurd q159 (by decide))
  refine lv_aload_n hx hb dX1_route_172 rfl (lv_at hl 3 rfl) ?_
  refine va_get (D := D) (ci := 1) (v := .ref h1) (C := RX1) (T := TX1) (N := 7) hx hb hts hinX1 hown hK hP 0 rfl rfl 6 (by decide) (hts (.fieldLink RX1 22 "PrefixBenchModel" "hops" "[J") (by decide +kernel)) (fun _ h9 => h9) rfl dX1_route_173 ?_
  refine lv_iload hx hb dX1_route_176 (lv_at hl 1 rfl) ?_
  refine pb_lald hx hb hK hP 5 0 rfl rfl (pb_lb T (pb_pre a k * 8 + o)) (rfl) (⟨by omega, by decide⟩) dX1_route_178 ?_
  refine pb_topl (z := lN (uN r.2.2)) (by rw [pb_uN]; exact (hR.2 _ _ hr1).2.2.2.2) ?_
  refine pb_callS (As := [.long (lN (uN r.2.2))]) (rest := []) ⟨hx, hb, hml, hown, hts⟩ (c_X1_size (uN r.2.2) (uN_lt _)) (va_cwS 1 hts gX1_route_X1_size rfl rfl rfl (by decide +kernel) ⟨Nat.le_of_ble_eq_true rfl, Nat.le_of_ble_eq_true rfl⟩) rfl rfl hl (Nat.le_of_ble_eq_true rfl) dX1_route_179 ⟨Nat.le_of_ble_eq_true rfl, Nat.le_of_ble_eq_true rfl⟩ ?_
  exact pb_wi hx hb hr hlocks hS dX1_route_182 (rfl) (pb_B_of hP hK hD)

set_option maxHeartbeats 4000000 in
set_option maxRecDepth 100000 in
theorem c_X1_route_on2 {T : List pb_Rt} (hT : pb_ok T) (hR : pb_rM T Af Lf Of Cf Hf) (a k : Nat) (ha : a < 2 ^ 32) (hk : k ≤ 32) (hg : a % 2 ^ (32 - k) = 0) (o : Nat) (ho : o < 8) (hh : pb_hs T (pb_pre a k * 8 + o) = false) : pb_Wq l yX1_route wsX1_route 4 0 0 88 [.ref m0, .int (nI a), .int (nI k), .int (nI o), .int 2] D (pb_ty cI cJ) (pb_wM cI cJ m0 a1 l1 o1 c1 h1 Af Lf Of Cf Hf co (nI T.length)) sz (some (.int (-1))) (pb_B D (pb_ty cI cJ) (pb_wM cI cJ m0 a1 l1 o1 c1 h1 Af Lf Of Cf Hf 0 (nI T.length))) := by
  refine pb_ofW RX1 (by decide) rfl rfl (Nat.le_of_ble_eq_true rfl) (fun p e s m args below meth c ls A hx hb hml hr hlocks hown hts hP hK hD hS hA hl hin9 => ?_)
  have hinX1 : ∀ w ∈ wsX10, w ∈ wsX1_route := by decide +kernel
  have hl : lv_has ls 8 [(0, .ref m0), (1, .int (nI a)), (2, .int (nI k)), (3, .int (nI o)), (4, .int 2)] := hl
  have hP : va_P D vwCl (pb_wM cI cJ m0 a1 l1 o1 c1 h1 Af Lf Of Cf Hf co (nI T.length)) s.heap := hP
  have hD : va_D A (pb_wM cI cJ m0 a1 l1 o1 c1 h1 Af Lf Of Cf Hf co (nI T.length)) := hD
  have hcap := hR.1
  refine lv_iload_n hx hb dX1_route_0 rfl (lv_at hl 1 rfl) ?_
  refine lv_iload_n hx hb dX1_route_1 rfl (lv_at hl 2 rfl) ?_
  refine pb_callS (As := [.int (nI a), .int (nI k)]) (rest := []) ⟨hx, hb, hml, hown, hts⟩ (c_X1_isPrefix_t a k ha hk hg) (va_cwS 2 hts gX1_route_X1_isPrefix rfl rfl rfl (by decide +kernel) ⟨Nat.le_of_ble_eq_true rfl, Nat.le_of_ble_eq_true rfl⟩) rfl rfl hl (Nat.le_of_ble_eq_true rfl) dX1_route_2 ⟨Nat.le_of_ble_eq_true rfl, Nat.le_of_ble_eq_true rfl⟩ ?_
  refine lv_if_eq (tgt := 34) hx hb dX1_route_5 (by decide) (fun q5 => absurd q5 (by decide)) (fun q5 => ?_)
  refine lv_iload_n hx hb dX1_route_8 rfl (lv_at hl 3 rfl) ?_
  refine lv_iconst (v := (-1)) hx hb dX1_route_9 (by decide) ?_
  refine lv_icmp_lt (tgt := 34) hx hb dX1_route_10 (by decide) (fun q10 => absurd q10 (pb_nom o (by omega))) (fun q10 => ?_)
  refine lv_iload_n hx hb dX1_route_13 rfl (lv_at hl 3 rfl) ?_
  refine lv_bipush (v := 8) hx hb dX1_route_14 (by decide) ?_
  refine lv_icmp_ge (tgt := 34) hx hb dX1_route_16 (by decide) (fun q16 => absurd q16 (fun z => absurd ((nI_leI (a := 8) (b := o) (by decide) (by omega)).mp z) (by omega))) (fun q16 => ?_)
  refine lv_iload hx hb dX1_route_19 (lv_at hl 4 rfl) ?_
  refine lv_if_lt (tgt := 34) hx hb dX1_route_21 (by decide) (fun q21 => absurd q21 (by decide)) (fun q21 => ?_)
  refine lv_iload hx hb dX1_route_24 (lv_at hl 4 rfl) ?_
  refine lv_iconst (v := 2) hx hb dX1_route_26 (by decide) ?_
  refine lv_icmp_gt (tgt := 34) hx hb dX1_route_27 (by decide) (fun q27 => absurd q27 (by decide)) (fun q27 => ?_)
  refine lv_iconst (v := 1) hx hb dX1_route_30 (by decide) ?_
  refine lv_goto (tgt := 35) hx hb dX1_route_31 (by decide) ?_
  refine lv_istore (lv' := [(5, .int 1), (0, .ref m0), (1, .int (nI a)), (2, .int (nI k)), (3, .int (nI o)), (4, .int 2)]) hx hb dX1_route_35 hl (by decide) rfl (fun ls hl => ?_)
  refine lv_aload_n hx hb dX1_route_37 rfl (lv_at hl 1 rfl) ?_
  refine lv_iload hx hb dX1_route_38 (lv_at hl 0 rfl) ?_
  refine lv_if_eq (tgt := 47) hx hb dX1_route_40 (by decide) (fun q40 => absurd q40 (by decide)) (fun q40 => ?_)
  refine lv_iconst (v := 0) hx hb dX1_route_43 (by decide) ?_
  refine lv_goto (tgt := 48) hx hb dX1_route_44 (by decide) ?_
  refine va_put (D := D) (ci := 1) (v := .int 0) (ty := .int) (C := RX1) (T := TX1) (N := 7) hx hb hts hinX1 tyX1 tyX1_ok nmX1 hown hK hP hD hS 0 rfl rfl 0 (by decide) (hts (.fieldLink RX1 26 "PrefixBenchModel" "code" "I") (by decide +kernel)) (fun _ h9 => h9) rfl (by decide +kernel) rfl rfl (Nat.le_of_ble_eq_true rfl) dX1_route_48 (fun H locs hP hD hS => ?_)
  have hP : va_P D vwCl (pb_wM cI cJ m0 a1 l1 o1 c1 h1 Af Lf Of Cf Hf 0 (nI T.length)) H := hP
  have hD : va_D A (pb_wM cI cJ m0 a1 l1 o1 c1 h1 Af Lf Of Cf Hf 0 (nI T.length)) := hD
  refine lv_iload hx hb dX1_route_51 (lv_at hl 0 rfl) ?_
  refine lv_if_ne (tgt := 58) hx hb dX1_route_53 (by decide) (fun q53 => ?_) (fun q53 => absurd q53 (by decide))
  refine lv_aload_n hx hb dX1_route_58 rfl (lv_at hl 1 rfl) ?_
  refine lv_iload_n hx hb dX1_route_59 rfl (lv_at hl 2 rfl) ?_
  refine lv_iload_n hx hb dX1_route_60 rfl (lv_at hl 3 rfl) ?_
  refine lv_iload_n hx hb dX1_route_61 rfl (lv_at hl 4 rfl) ?_
  refine lv_if_ge (tgt := 69) hx hb dX1_route_62 (by decide) (fun q62 => ?_) (fun q62 => absurd (nI_pos' (by omega)) q62)
  refine lv_iload_n hx hb dX1_route_69 rfl (lv_at hl 4 rfl) ?_
  refine pb_callS (As := [.int (nI a), .int (nI k), .int (nI o)]) (rest := [.ref m0]) ⟨hx, hb, hml, hown, hts⟩ (c_X1_rank a k o ha (by omega) (by omega)) (va_cwS 3 hts gX1_route_X1_rank rfl rfl rfl (by decide +kernel) ⟨Nat.le_of_ble_eq_true rfl, Nat.le_of_ble_eq_true rfl⟩) rfl rfl hl (Nat.le_of_ble_eq_true rfl) dX1_route_70 ⟨Nat.le_of_ble_eq_true rfl, Nat.le_of_ble_eq_true rfl⟩ ?_
  refine pb_callV (As := [.long (lN (pb_pre a k * 8 + o))]) (rest := []) ⟨hx, hb, hml, hown, hts⟩ (c_X1_place hT hR (pb_pre a k * 8 + o) (by show (64 * a + k) * 8 + o < _; omega)) (cwV 1 hts gX1_route_X1_place rfl rfl rfl (by decide +kernel) ⟨Nat.le_of_ble_eq_true rfl, Nat.le_of_ble_eq_true rfl⟩) hP hK (va_recv hK hP (ci := 1) (q0 := 0) rfl rfl) rfl rfl hl (Nat.le_of_ble_eq_true rfl) dX1_route_73 ⟨Nat.le_of_ble_eq_true rfl, Nat.le_of_ble_eq_true rfl⟩ ?_
  refine lv_istore (lv' := [(6, .int (nI (pb_lb T (pb_pre a k * 8 + o)))), (5, .int 1), (0, .ref m0), (1, .int (nI a)), (2, .int (nI k)), (3, .int (nI o)), (4, .int 2)]) hx hb dX1_route_76 hl (by decide) rfl (fun ls hl => ?_)
  refine lv_iload_n hx hb dX1_route_78 rfl (lv_at hl 5 rfl) ?_
  refine lv_if_ge (tgt := 121) hx hb dX1_route_79 (by decide) (fun q79 => ?_) (fun q79 => absurd (nI_pos' (by omega)) q79)
  refine lv_aload_n hx hb dX1_route_121 rfl (lv_at hl 2 rfl) ?_
  refine lv_iload hx hb dX1_route_122 (lv_at hl 0 rfl) ?_
  refine lv_iload_n hx hb dX1_route_124 rfl (lv_at hl 3 rfl) ?_
  refine lv_iload_n hx hb dX1_route_125 rfl (lv_at hl 4 rfl) ?_
  refine lv_iload_n hx hb dX1_route_126 rfl (lv_at hl 5 rfl) ?_
  have hle := pb_lb_le T (pb_pre a k * 8 + o)
  rcases hd : T[(pb_lb T (pb_pre a k * 8 + o))]? with _ | r
  · have hle2 := List.getElem?_eq_none_iff.mp hd
    refine pb_callV (As := [.int (nI (pb_lb T (pb_pre a k * 8 + o))), .int (nI a), .int (nI k), .int (nI o)]) (rest := []) ⟨hx, hb, hml, hown, hts⟩ (c_X1_isThere_n (pb_lb T (pb_pre a k * 8 + o)) T.length ⟨hle2, by omega⟩ (nI a) (nI k) (nI o)) (cwV 4 hts gX1_route_X1_isThere rfl rfl rfl (by decide +kernel) ⟨Nat.le_of_ble_eq_true rfl, Nat.le_of_ble_eq_true rfl⟩) hP hK (va_recv hK hP (ci := 1) (q0 := 0) rfl rfl) rfl rfl hl (Nat.le_of_ble_eq_true rfl) dX1_route_127 ⟨Nat.le_of_ble_eq_true rfl, Nat.le_of_ble_eq_true rfl⟩ ?_
    refine lv_istore (lv' := [(7, .int 0), (6, .int (nI (pb_lb T (pb_pre a k * 8 + o)))), (5, .int 1), (0, .ref m0), (1, .int (nI a)), (2, .int (nI k)), (3, .int (nI o)), (4, .int 2)]) hx hb dX1_route_130 hl (by decide) rfl (fun ls hl => ?_)
    refine lv_iload hx hb dX1_route_132 (lv_at hl 0 rfl) ?_
    refine lv_if_ne (tgt := 141) hx hb dX1_route_134 (by decide) (fun q134 => absurd q134 (fun z => z rfl)) (fun q134 => ?_)
    refine lv_iconst (v := (-1)) hx hb dX1_route_137 (by decide) ?_
    refine lv_goto (tgt := 182) hx hb dX1_route_138 (by decide) ?_
    exact pb_wi hx hb hr hlocks hS dX1_route_182 (rfl) (pb_B_of hP hK hD)
  · have hkb := pb_key_lt hT (List.mem_of_getElem? hd)
    have hlt := pb_lb_lt hd
    have hiff := pb_hs_iff hT.1 hd
    refine pb_callV (As := [.int (nI (pb_lb T (pb_pre a k * 8 + o))), .int (nI a), .int (nI k), .int (nI o)]) (rest := []) ⟨hx, hb, hml, hown, hts⟩ (c_X1_isThere_s hT hR (pb_lb T (pb_pre a k * 8 + o)) hd a k o ha (by omega) ho) (cwV 4 hts gX1_route_X1_isThere rfl rfl rfl (by decide +kernel) ⟨Nat.le_of_ble_eq_true rfl, Nat.le_of_ble_eq_true rfl⟩) hP hK (va_recv hK hP (ci := 1) (q0 := 0) rfl rfl) rfl rfl hl (Nat.le_of_ble_eq_true rfl) dX1_route_127 ⟨Nat.le_of_ble_eq_true rfl, Nat.le_of_ble_eq_true rfl⟩ ?_
    refine pb_topi (z := 0) (if_neg (fun z => by rw [hiff.mp z] at hh; exact absurd hh (by decide))) ?_
    refine lv_istore (lv' := [(7, .int 0), (6, .int (nI (pb_lb T (pb_pre a k * 8 + o)))), (5, .int 1), (0, .ref m0), (1, .int (nI a)), (2, .int (nI k)), (3, .int (nI o)), (4, .int 2)]) hx hb dX1_route_130 hl (by decide) rfl (fun ls hl => ?_)
    refine lv_iload hx hb dX1_route_132 (lv_at hl 0 rfl) ?_
    refine lv_if_ne (tgt := 141) hx hb dX1_route_134 (by decide) (fun q134 => absurd q134 (fun z => z rfl)) (fun q134 => ?_)
    refine lv_iconst (v := (-1)) hx hb dX1_route_137 (by decide) ?_
    refine lv_goto (tgt := 182) hx hb dX1_route_138 (by decide) ?_
    exact pb_wi hx hb hr hlocks hS dX1_route_182 (rfl) (pb_B_of hP hK hD)

set_option maxHeartbeats 4000000 in
set_option maxRecDepth 100000 in
theorem c_X1_route_bs2 {T : List pb_Rt} (hT : pb_ok T) (hR : pb_rM T Af Lf Of Cf Hf) (a k : Nat) (ha : a < 2 ^ 32) (hk : k ≤ 32) (hg : a % 2 ^ (32 - k) = 0) {r : pb_Rt} (hr1 : T[(pb_lb T (pb_pre a k * 8))]? = some r) (hh : pb_kn T (pb_pre a k) = true) : pb_Wq l yX1_route wsX1_route 4 0 0 88 [.ref m0, .int (nI a), .int (nI k), .int (-1), .int 2] D (pb_ty cI cJ) (pb_wM cI cJ m0 a1 l1 o1 c1 h1 Af Lf Of Cf Hf co (nI T.length)) sz (some (.int (pb_tl r 2))) (pb_B D (pb_ty cI cJ) (pb_wM cI cJ m0 a1 l1 o1 c1 h1 Af Lf Of Cf Hf 0 (nI T.length))) := by
  refine pb_ofW RX1 (by decide) rfl rfl (Nat.le_of_ble_eq_true rfl) (fun p e s m args below meth c ls A hx hb hml hr hlocks hown hts hP hK hD hS hA hl hin9 => ?_)
  have hinX1 : ∀ w ∈ wsX10, w ∈ wsX1_route := by decide +kernel
  have hl : lv_has ls 8 [(0, .ref m0), (1, .int (nI a)), (2, .int (nI k)), (3, .int (-1)), (4, .int 2)] := hl
  have hP : va_P D vwCl (pb_wM cI cJ m0 a1 l1 o1 c1 h1 Af Lf Of Cf Hf co (nI T.length)) s.heap := hP
  have hD : va_D A (pb_wM cI cJ m0 a1 l1 o1 c1 h1 Af Lf Of Cf Hf co (nI T.length)) := hD
  have hcap := hR.1
  have hlt := pb_lb_lt hr1
  have hkb := pb_key_lt hT (List.mem_of_getElem? hr1)
  have hq : r.1 / 8 = 64 * a + k := (pb_kn_iff hT.1 hr1).mpr hh
  refine lv_iload_n hx hb dX1_route_0 rfl (lv_at hl 1 rfl) ?_
  refine lv_iload_n hx hb dX1_route_1 rfl (lv_at hl 2 rfl) ?_
  refine pb_callS (As := [.int (nI a), .int (nI k)]) (rest := []) ⟨hx, hb, hml, hown, hts⟩ (c_X1_isPrefix_t a k ha hk hg) (va_cwS 2 hts gX1_route_X1_isPrefix rfl rfl rfl (by decide +kernel) ⟨Nat.le_of_ble_eq_true rfl, Nat.le_of_ble_eq_true rfl⟩) rfl rfl hl (Nat.le_of_ble_eq_true rfl) dX1_route_2 ⟨Nat.le_of_ble_eq_true rfl, Nat.le_of_ble_eq_true rfl⟩ ?_
  refine lv_if_eq (tgt := 34) hx hb dX1_route_5 (by decide) (fun q5 => absurd q5 (by decide)) (fun q5 => ?_)
  refine lv_iload_n hx hb dX1_route_8 rfl (lv_at hl 3 rfl) ?_
  refine lv_iconst (v := (-1)) hx hb dX1_route_9 (by decide) ?_
  refine lv_icmp_lt (tgt := 34) hx hb dX1_route_10 (by decide) (fun q10 => absurd q10 (by decide)) (fun q10 => ?_)
  refine lv_iload_n hx hb dX1_route_13 rfl (lv_at hl 3 rfl) ?_
  refine lv_bipush (v := 8) hx hb dX1_route_14 (by decide) ?_
  refine lv_icmp_ge (tgt := 34) hx hb dX1_route_16 (by decide) (fun q16 => absurd q16 (by decide)) (fun q16 => ?_)
  refine lv_iload hx hb dX1_route_19 (lv_at hl 4 rfl) ?_
  refine lv_if_lt (tgt := 34) hx hb dX1_route_21 (by decide) (fun q21 => absurd q21 (by decide)) (fun q21 => ?_)
  refine lv_iload hx hb dX1_route_24 (lv_at hl 4 rfl) ?_
  refine lv_iconst (v := 2) hx hb dX1_route_26 (by decide) ?_
  refine lv_icmp_gt (tgt := 34) hx hb dX1_route_27 (by decide) (fun q27 => absurd q27 (by decide)) (fun q27 => ?_)
  refine lv_iconst (v := 1) hx hb dX1_route_30 (by decide) ?_
  refine lv_goto (tgt := 35) hx hb dX1_route_31 (by decide) ?_
  refine lv_istore (lv' := [(5, .int 1), (0, .ref m0), (1, .int (nI a)), (2, .int (nI k)), (3, .int (-1)), (4, .int 2)]) hx hb dX1_route_35 hl (by decide) rfl (fun ls hl => ?_)
  refine lv_aload_n hx hb dX1_route_37 rfl (lv_at hl 1 rfl) ?_
  refine lv_iload hx hb dX1_route_38 (lv_at hl 0 rfl) ?_
  refine lv_if_eq (tgt := 47) hx hb dX1_route_40 (by decide) (fun q40 => absurd q40 (by decide)) (fun q40 => ?_)
  refine lv_iconst (v := 0) hx hb dX1_route_43 (by decide) ?_
  refine lv_goto (tgt := 48) hx hb dX1_route_44 (by decide) ?_
  refine va_put (D := D) (ci := 1) (v := .int 0) (ty := .int) (C := RX1) (T := TX1) (N := 7) hx hb hts hinX1 tyX1 tyX1_ok nmX1 hown hK hP hD hS 0 rfl rfl 0 (by decide) (hts (.fieldLink RX1 26 "PrefixBenchModel" "code" "I") (by decide +kernel)) (fun _ h9 => h9) rfl (by decide +kernel) rfl rfl (Nat.le_of_ble_eq_true rfl) dX1_route_48 (fun H locs hP hD hS => ?_)
  have hP : va_P D vwCl (pb_wM cI cJ m0 a1 l1 o1 c1 h1 Af Lf Of Cf Hf 0 (nI T.length)) H := hP
  have hD : va_D A (pb_wM cI cJ m0 a1 l1 o1 c1 h1 Af Lf Of Cf Hf 0 (nI T.length)) := hD
  refine lv_iload hx hb dX1_route_51 (lv_at hl 0 rfl) ?_
  refine lv_if_ne (tgt := 58) hx hb dX1_route_53 (by decide) (fun q53 => ?_) (fun q53 => absurd q53 (by decide))
  refine lv_aload_n hx hb dX1_route_58 rfl (lv_at hl 1 rfl) ?_
  refine lv_iload_n hx hb dX1_route_59 rfl (lv_at hl 2 rfl) ?_
  refine lv_iload_n hx hb dX1_route_60 rfl (lv_at hl 3 rfl) ?_
  refine lv_iload_n hx hb dX1_route_61 rfl (lv_at hl 4 rfl) ?_
  refine lv_if_ge (tgt := 69) hx hb dX1_route_62 (by decide) (fun q62 => absurd q62 (by decide)) (fun q62 => ?_)
  refine lv_iconst (v := 0) hx hb dX1_route_65 (by decide) ?_
  refine lv_goto (tgt := 70) hx hb dX1_route_66 (by decide) ?_
  refine pb_callS (As := [.int (nI a), .int (nI k), .int 0]) (rest := [.ref m0]) ⟨hx, hb, hml, hown, hts⟩ (c_X1_rank a k 0 ha (by omega) (by decide)) (va_cwS 3 hts gX1_route_X1_rank rfl rfl rfl (by decide +kernel) ⟨Nat.le_of_ble_eq_true rfl, Nat.le_of_ble_eq_true rfl⟩) rfl rfl hl (Nat.le_of_ble_eq_true rfl) dX1_route_70 ⟨Nat.le_of_ble_eq_true rfl, Nat.le_of_ble_eq_true rfl⟩ ?_
  refine pb_callV (As := [.long (lN (pb_pre a k * 8 + 0))]) (rest := []) ⟨hx, hb, hml, hown, hts⟩ (c_X1_place hT hR (pb_pre a k * 8 + 0) (by show (64 * a + k) * 8 + 0 < _; omega)) (cwV 1 hts gX1_route_X1_place rfl rfl rfl (by decide +kernel) ⟨Nat.le_of_ble_eq_true rfl, Nat.le_of_ble_eq_true rfl⟩) hP hK (va_recv hK hP (ci := 1) (q0 := 0) rfl rfl) rfl rfl hl (Nat.le_of_ble_eq_true rfl) dX1_route_73 ⟨Nat.le_of_ble_eq_true rfl, Nat.le_of_ble_eq_true rfl⟩ ?_
  refine lv_istore (lv' := [(6, .int (nI (pb_lb T (pb_pre a k * 8)))), (5, .int 1), (0, .ref m0), (1, .int (nI a)), (2, .int (nI k)), (3, .int (-1)), (4, .int 2)]) hx hb dX1_route_76 hl (by decide) rfl (fun ls hl => ?_)
  refine lv_iload_n hx hb dX1_route_78 rfl (lv_at hl 5 rfl) ?_
  refine lv_if_ge (tgt := 121) hx hb dX1_route_79 (by decide) (fun q79 => absurd q79 (by decide)) (fun q79 => ?_)
  refine lv_iload hx hb dX1_route_82 (lv_at hl 0 rfl) ?_
  refine lv_aload_n hx hb dX1_route_84 rfl (lv_at hl 2 rfl) ?_
  refine va_get (D := D) (ci := 1) (v := .int (nI T.length)) (C := RX1) (T := TX1) (N := 7) hx hb hts hinX1 hown hK hP 0 rfl rfl 1 (by decide) (hts (.fieldLink RX1 48 "PrefixBenchModel" "count" "I") (by decide +kernel)) (fun _ h9 => h9) rfl dX1_route_85 ?_
  refine lv_icmp_ge (tgt := 117) hx hb dX1_route_88 (by decide) (fun q88 => absurd q88 (pb_no_lt hlt (by omega))) (fun q88 => ?_)
  refine lv_aload_n hx hb dX1_route_91 rfl (lv_at hl 2 rfl) ?_
  refine va_get (D := D) (ci := 1) (v := .ref a1) (C := RX1) (T := TX1) (N := 7) hx hb hts hinX1 hown hK hP 0 rfl rfl 2 (by decide) (hts (.fieldLink RX1 7 "PrefixBenchModel" "address" "[I") (by decide +kernel)) (fun _ h9 => h9) rfl dX1_route_92 ?_
  refine lv_iload hx hb dX1_route_95 (lv_at hl 0 rfl) ?_
  refine pb_iald hx hb hK hP 1 1 rfl rfl (pb_lb T (pb_pre a k * 8)) (rfl) (⟨by omega, by decide⟩) dX1_route_97 ?_
  refine pb_topi (z := nI (r.1 / 512)) ((hR.2 _ _ hr1).1) ?_
  refine lv_iload_n hx hb dX1_route_98 rfl (lv_at hl 3 rfl) ?_
  refine lv_icmp_ne (tgt := 117) hx hb dX1_route_99 (by decide) (fun q99 => absurd q99 (fun z => z (by rw [show r.1 / 512 = a by omega]))) (fun q99 => ?_)
  refine lv_aload_n hx hb dX1_route_102 rfl (lv_at hl 2 rfl) ?_
  refine va_get (D := D) (ci := 1) (v := .ref l1) (C := RX1) (T := TX1) (N := 7) hx hb hts hinX1 hown hK hP 0 rfl rfl 3 (by decide) (hts (.fieldLink RX1 13 "PrefixBenchModel" "length" "[I") (by decide +kernel)) (fun _ h9 => h9) rfl dX1_route_103 ?_
  refine lv_iload hx hb dX1_route_106 (lv_at hl 0 rfl) ?_
  refine pb_iald hx hb hK hP 2 1 rfl rfl (pb_lb T (pb_pre a k * 8)) (rfl) (⟨by omega, by decide⟩) dX1_route_108 ?_
  refine pb_topi (z := nI (r.1 / 8 % 64)) ((hR.2 _ _ hr1).2.1) ?_
  refine lv_iload_n hx hb dX1_route_109 rfl (lv_at hl 4 rfl) ?_
  refine lv_icmp_ne (tgt := 117) hx hb dX1_route_110 (by decide) (fun q110 => absurd q110 (fun z => z (by rw [show r.1 / 8 % 64 = k by omega]))) (fun q110 => ?_)
  refine lv_iconst (v := 1) hx hb dX1_route_113 (by decide) ?_
  refine lv_goto (tgt := 130) hx hb dX1_route_114 (by decide) ?_
  refine lv_istore (lv' := [(7, .int 1), (6, .int (nI (pb_lb T (pb_pre a k * 8)))), (5, .int 1), (0, .ref m0), (1, .int (nI a)), (2, .int (nI k)), (3, .int (-1)), (4, .int 2)]) hx hb dX1_route_130 hl (by decide) rfl (fun ls hl => ?_)
  refine lv_iload hx hb dX1_route_132 (lv_at hl 0 rfl) ?_
  refine lv_if_ne (tgt := 141) hx hb dX1_route_134 (by decide) (fun q134 => ?_) (fun q134 => absurd q134 (by decide))
  refine lv_iload hx hb dX1_route_141 (lv_at hl 7 rfl) ?_
  refine lv_if_ne (tgt := 156) hx hb dX1_route_143 (by decide) (fun q143 => ?_) (fun q143 => absurd q143 (by decide))
  refine lv_iload hx hb dX1_route_156 (lv_at hl 7 rfl) ?_
  refine lv_iconst (v := 1) hx hb dX1_route_158 (by decide) ?_
  refine lv_icmp_ne (tgt := 172) hx hb dX1_route_159 (by decide) (fun q159 => ?_) (fun q159 => absurd q159 (by decide))
  refine lv_aload_n hx hb dX1_route_172 rfl (lv_at hl 3 rfl) ?_
  refine va_get (D := D) (ci := 1) (v := .ref h1) (C := RX1) (T := TX1) (N := 7) hx hb hts hinX1 hown hK hP 0 rfl rfl 6 (by decide) (hts (.fieldLink RX1 22 "PrefixBenchModel" "hops" "[J") (by decide +kernel)) (fun _ h9 => h9) rfl dX1_route_173 ?_
  refine lv_iload hx hb dX1_route_176 (lv_at hl 1 rfl) ?_
  refine pb_lald hx hb hK hP 5 0 rfl rfl (pb_lb T (pb_pre a k * 8)) (rfl) (⟨by omega, by decide⟩) dX1_route_178 ?_
  refine pb_topl (z := lN (uN r.2.2)) (by rw [pb_uN]; exact (hR.2 _ _ hr1).2.2.2.2) ?_
  refine pb_callS (As := [.long (lN (uN r.2.2))]) (rest := []) ⟨hx, hb, hml, hown, hts⟩ (c_X1_size (uN r.2.2) (uN_lt _)) (va_cwS 1 hts gX1_route_X1_size rfl rfl rfl (by decide +kernel) ⟨Nat.le_of_ble_eq_true rfl, Nat.le_of_ble_eq_true rfl⟩) rfl rfl hl (Nat.le_of_ble_eq_true rfl) dX1_route_179 ⟨Nat.le_of_ble_eq_true rfl, Nat.le_of_ble_eq_true rfl⟩ ?_
  exact pb_wi hx hb hr hlocks hS dX1_route_182 (rfl) (pb_B_of hP hK hD)

set_option maxHeartbeats 4000000 in
set_option maxRecDepth 100000 in
theorem c_X1_route_bn2 {T : List pb_Rt} (hT : pb_ok T) (hR : pb_rM T Af Lf Of Cf Hf) (a k : Nat) (ha : a < 2 ^ 32) (hk : k ≤ 32) (hg : a % 2 ^ (32 - k) = 0) (hh : pb_kn T (pb_pre a k) = false) : pb_Wq l yX1_route wsX1_route 4 0 0 88 [.ref m0, .int (nI a), .int (nI k), .int (-1), .int 2] D (pb_ty cI cJ) (pb_wM cI cJ m0 a1 l1 o1 c1 h1 Af Lf Of Cf Hf co (nI T.length)) sz (some (.int (-1))) (pb_B D (pb_ty cI cJ) (pb_wM cI cJ m0 a1 l1 o1 c1 h1 Af Lf Of Cf Hf 0 (nI T.length))) := by
  refine pb_ofW RX1 (by decide) rfl rfl (Nat.le_of_ble_eq_true rfl) (fun p e s m args below meth c ls A hx hb hml hr hlocks hown hts hP hK hD hS hA hl hin9 => ?_)
  have hinX1 : ∀ w ∈ wsX10, w ∈ wsX1_route := by decide +kernel
  have hl : lv_has ls 8 [(0, .ref m0), (1, .int (nI a)), (2, .int (nI k)), (3, .int (-1)), (4, .int 2)] := hl
  have hP : va_P D vwCl (pb_wM cI cJ m0 a1 l1 o1 c1 h1 Af Lf Of Cf Hf co (nI T.length)) s.heap := hP
  have hD : va_D A (pb_wM cI cJ m0 a1 l1 o1 c1 h1 Af Lf Of Cf Hf co (nI T.length)) := hD
  have hcap := hR.1
  refine lv_iload_n hx hb dX1_route_0 rfl (lv_at hl 1 rfl) ?_
  refine lv_iload_n hx hb dX1_route_1 rfl (lv_at hl 2 rfl) ?_
  refine pb_callS (As := [.int (nI a), .int (nI k)]) (rest := []) ⟨hx, hb, hml, hown, hts⟩ (c_X1_isPrefix_t a k ha hk hg) (va_cwS 2 hts gX1_route_X1_isPrefix rfl rfl rfl (by decide +kernel) ⟨Nat.le_of_ble_eq_true rfl, Nat.le_of_ble_eq_true rfl⟩) rfl rfl hl (Nat.le_of_ble_eq_true rfl) dX1_route_2 ⟨Nat.le_of_ble_eq_true rfl, Nat.le_of_ble_eq_true rfl⟩ ?_
  refine lv_if_eq (tgt := 34) hx hb dX1_route_5 (by decide) (fun q5 => absurd q5 (by decide)) (fun q5 => ?_)
  refine lv_iload_n hx hb dX1_route_8 rfl (lv_at hl 3 rfl) ?_
  refine lv_iconst (v := (-1)) hx hb dX1_route_9 (by decide) ?_
  refine lv_icmp_lt (tgt := 34) hx hb dX1_route_10 (by decide) (fun q10 => absurd q10 (by decide)) (fun q10 => ?_)
  refine lv_iload_n hx hb dX1_route_13 rfl (lv_at hl 3 rfl) ?_
  refine lv_bipush (v := 8) hx hb dX1_route_14 (by decide) ?_
  refine lv_icmp_ge (tgt := 34) hx hb dX1_route_16 (by decide) (fun q16 => absurd q16 (by decide)) (fun q16 => ?_)
  refine lv_iload hx hb dX1_route_19 (lv_at hl 4 rfl) ?_
  refine lv_if_lt (tgt := 34) hx hb dX1_route_21 (by decide) (fun q21 => absurd q21 (by decide)) (fun q21 => ?_)
  refine lv_iload hx hb dX1_route_24 (lv_at hl 4 rfl) ?_
  refine lv_iconst (v := 2) hx hb dX1_route_26 (by decide) ?_
  refine lv_icmp_gt (tgt := 34) hx hb dX1_route_27 (by decide) (fun q27 => absurd q27 (by decide)) (fun q27 => ?_)
  refine lv_iconst (v := 1) hx hb dX1_route_30 (by decide) ?_
  refine lv_goto (tgt := 35) hx hb dX1_route_31 (by decide) ?_
  refine lv_istore (lv' := [(5, .int 1), (0, .ref m0), (1, .int (nI a)), (2, .int (nI k)), (3, .int (-1)), (4, .int 2)]) hx hb dX1_route_35 hl (by decide) rfl (fun ls hl => ?_)
  refine lv_aload_n hx hb dX1_route_37 rfl (lv_at hl 1 rfl) ?_
  refine lv_iload hx hb dX1_route_38 (lv_at hl 0 rfl) ?_
  refine lv_if_eq (tgt := 47) hx hb dX1_route_40 (by decide) (fun q40 => absurd q40 (by decide)) (fun q40 => ?_)
  refine lv_iconst (v := 0) hx hb dX1_route_43 (by decide) ?_
  refine lv_goto (tgt := 48) hx hb dX1_route_44 (by decide) ?_
  refine va_put (D := D) (ci := 1) (v := .int 0) (ty := .int) (C := RX1) (T := TX1) (N := 7) hx hb hts hinX1 tyX1 tyX1_ok nmX1 hown hK hP hD hS 0 rfl rfl 0 (by decide) (hts (.fieldLink RX1 26 "PrefixBenchModel" "code" "I") (by decide +kernel)) (fun _ h9 => h9) rfl (by decide +kernel) rfl rfl (Nat.le_of_ble_eq_true rfl) dX1_route_48 (fun H locs hP hD hS => ?_)
  have hP : va_P D vwCl (pb_wM cI cJ m0 a1 l1 o1 c1 h1 Af Lf Of Cf Hf 0 (nI T.length)) H := hP
  have hD : va_D A (pb_wM cI cJ m0 a1 l1 o1 c1 h1 Af Lf Of Cf Hf 0 (nI T.length)) := hD
  refine lv_iload hx hb dX1_route_51 (lv_at hl 0 rfl) ?_
  refine lv_if_ne (tgt := 58) hx hb dX1_route_53 (by decide) (fun q53 => ?_) (fun q53 => absurd q53 (by decide))
  refine lv_aload_n hx hb dX1_route_58 rfl (lv_at hl 1 rfl) ?_
  refine lv_iload_n hx hb dX1_route_59 rfl (lv_at hl 2 rfl) ?_
  refine lv_iload_n hx hb dX1_route_60 rfl (lv_at hl 3 rfl) ?_
  refine lv_iload_n hx hb dX1_route_61 rfl (lv_at hl 4 rfl) ?_
  refine lv_if_ge (tgt := 69) hx hb dX1_route_62 (by decide) (fun q62 => absurd q62 (by decide)) (fun q62 => ?_)
  refine lv_iconst (v := 0) hx hb dX1_route_65 (by decide) ?_
  refine lv_goto (tgt := 70) hx hb dX1_route_66 (by decide) ?_
  refine pb_callS (As := [.int (nI a), .int (nI k), .int 0]) (rest := [.ref m0]) ⟨hx, hb, hml, hown, hts⟩ (c_X1_rank a k 0 ha (by omega) (by decide)) (va_cwS 3 hts gX1_route_X1_rank rfl rfl rfl (by decide +kernel) ⟨Nat.le_of_ble_eq_true rfl, Nat.le_of_ble_eq_true rfl⟩) rfl rfl hl (Nat.le_of_ble_eq_true rfl) dX1_route_70 ⟨Nat.le_of_ble_eq_true rfl, Nat.le_of_ble_eq_true rfl⟩ ?_
  refine pb_callV (As := [.long (lN (pb_pre a k * 8 + 0))]) (rest := []) ⟨hx, hb, hml, hown, hts⟩ (c_X1_place hT hR (pb_pre a k * 8 + 0) (by show (64 * a + k) * 8 + 0 < _; omega)) (cwV 1 hts gX1_route_X1_place rfl rfl rfl (by decide +kernel) ⟨Nat.le_of_ble_eq_true rfl, Nat.le_of_ble_eq_true rfl⟩) hP hK (va_recv hK hP (ci := 1) (q0 := 0) rfl rfl) rfl rfl hl (Nat.le_of_ble_eq_true rfl) dX1_route_73 ⟨Nat.le_of_ble_eq_true rfl, Nat.le_of_ble_eq_true rfl⟩ ?_
  refine lv_istore (lv' := [(6, .int (nI (pb_lb T (pb_pre a k * 8)))), (5, .int 1), (0, .ref m0), (1, .int (nI a)), (2, .int (nI k)), (3, .int (-1)), (4, .int 2)]) hx hb dX1_route_76 hl (by decide) rfl (fun ls hl => ?_)
  refine lv_iload_n hx hb dX1_route_78 rfl (lv_at hl 5 rfl) ?_
  refine lv_if_ge (tgt := 121) hx hb dX1_route_79 (by decide) (fun q79 => absurd q79 (by decide)) (fun q79 => ?_)
  have hle := pb_lb_le T (pb_pre a k * 8)
  rcases hd : T[(pb_lb T (pb_pre a k * 8))]? with _ | r
  · have hle2 := List.getElem?_eq_none_iff.mp hd
    refine lv_iload hx hb dX1_route_82 (lv_at hl 0 rfl) ?_
    refine lv_aload_n hx hb dX1_route_84 rfl (lv_at hl 2 rfl) ?_
    refine va_get (D := D) (ci := 1) (v := .int (nI T.length)) (C := RX1) (T := TX1) (N := 7) hx hb hts hinX1 hown hK hP 0 rfl rfl 1 (by decide) (hts (.fieldLink RX1 48 "PrefixBenchModel" "count" "I") (by decide +kernel)) (fun _ h9 => h9) rfl dX1_route_85 ?_
    refine lv_icmp_ge (tgt := 117) hx hb dX1_route_88 (by decide) (fun q88 => ?_) (fun q88 => absurd (nI_le hle2 (by omega)) q88)
    refine lv_iconst (v := 0) hx hb dX1_route_117 (by decide) ?_
    refine lv_goto (tgt := 130) hx hb dX1_route_118 (by decide) ?_
    refine lv_istore (lv' := [(7, .int 0), (6, .int (nI (pb_lb T (pb_pre a k * 8)))), (5, .int 1), (0, .ref m0), (1, .int (nI a)), (2, .int (nI k)), (3, .int (-1)), (4, .int 2)]) hx hb dX1_route_130 hl (by decide) rfl (fun ls hl => ?_)
    refine lv_iload hx hb dX1_route_132 (lv_at hl 0 rfl) ?_
    refine lv_if_ne (tgt := 141) hx hb dX1_route_134 (by decide) (fun q134 => absurd q134 (fun z => z rfl)) (fun q134 => ?_)
    refine lv_iconst (v := (-1)) hx hb dX1_route_137 (by decide) ?_
    refine lv_goto (tgt := 182) hx hb dX1_route_138 (by decide) ?_
    exact pb_wi hx hb hr hlocks hS dX1_route_182 (rfl) (pb_B_of hP hK hD)
  · have hkb := pb_key_lt hT (List.mem_of_getElem? hd)
    have hlt := pb_lb_lt hd
    have hiff := pb_kn_iff hT.1 hd
    refine lv_iload hx hb dX1_route_82 (lv_at hl 0 rfl) ?_
    refine lv_aload_n hx hb dX1_route_84 rfl (lv_at hl 2 rfl) ?_
    refine va_get (D := D) (ci := 1) (v := .int (nI T.length)) (C := RX1) (T := TX1) (N := 7) hx hb hts hinX1 hown hK hP 0 rfl rfl 1 (by decide) (hts (.fieldLink RX1 48 "PrefixBenchModel" "count" "I") (by decide +kernel)) (fun _ h9 => h9) rfl dX1_route_85 ?_
    refine lv_icmp_ge (tgt := 117) hx hb dX1_route_88 (by decide) (fun q88 => absurd q88 (pb_no_lt hlt (by omega))) (fun q88 => ?_)
    refine lv_aload_n hx hb dX1_route_91 rfl (lv_at hl 2 rfl) ?_
    refine va_get (D := D) (ci := 1) (v := .ref a1) (C := RX1) (T := TX1) (N := 7) hx hb hts hinX1 hown hK hP 0 rfl rfl 2 (by decide) (hts (.fieldLink RX1 7 "PrefixBenchModel" "address" "[I") (by decide +kernel)) (fun _ h9 => h9) rfl dX1_route_92 ?_
    refine lv_iload hx hb dX1_route_95 (lv_at hl 0 rfl) ?_
    refine pb_iald hx hb hK hP 1 1 rfl rfl (pb_lb T (pb_pre a k * 8)) (rfl) (⟨by omega, by decide⟩) dX1_route_97 ?_
    refine pb_topi (z := nI (r.1 / 512)) ((hR.2 _ _ hd).1) ?_
    refine lv_iload_n hx hb dX1_route_98 rfl (lv_at hl 3 rfl) ?_
    refine lv_icmp_ne (tgt := 117) hx hb dX1_route_99 (by decide) (fun q99 => ?_) (fun q99 => ?_)
    · refine lv_iconst (v := 0) hx hb dX1_route_117 (by decide) ?_
      refine lv_goto (tgt := 130) hx hb dX1_route_118 (by decide) ?_
      refine lv_istore (lv' := [(7, .int 0), (6, .int (nI (pb_lb T (pb_pre a k * 8)))), (5, .int 1), (0, .ref m0), (1, .int (nI a)), (2, .int (nI k)), (3, .int (-1)), (4, .int 2)]) hx hb dX1_route_130 hl (by decide) rfl (fun ls hl => ?_)
      refine lv_iload hx hb dX1_route_132 (lv_at hl 0 rfl) ?_
      refine lv_if_ne (tgt := 141) hx hb dX1_route_134 (by decide) (fun q134 => absurd q134 (fun z => z rfl)) (fun q134 => ?_)
      refine lv_iconst (v := (-1)) hx hb dX1_route_137 (by decide) ?_
      refine lv_goto (tgt := 182) hx hb dX1_route_138 (by decide) ?_
      exact pb_wi hx hb hr hlocks hS dX1_route_182 (rfl) (pb_B_of hP hK hD)
    · have w1 := (pb_nI_inj (by omega) ha).mp q99
      refine lv_aload_n hx hb dX1_route_102 rfl (lv_at hl 2 rfl) ?_
      refine va_get (D := D) (ci := 1) (v := .ref l1) (C := RX1) (T := TX1) (N := 7) hx hb hts hinX1 hown hK hP 0 rfl rfl 3 (by decide) (hts (.fieldLink RX1 13 "PrefixBenchModel" "length" "[I") (by decide +kernel)) (fun _ h9 => h9) rfl dX1_route_103 ?_
      refine lv_iload hx hb dX1_route_106 (lv_at hl 0 rfl) ?_
      refine pb_iald hx hb hK hP 2 1 rfl rfl (pb_lb T (pb_pre a k * 8)) (rfl) (⟨by omega, by decide⟩) dX1_route_108 ?_
      refine pb_topi (z := nI (r.1 / 8 % 64)) ((hR.2 _ _ hd).2.1) ?_
      refine lv_iload_n hx hb dX1_route_109 rfl (lv_at hl 4 rfl) ?_
      refine lv_icmp_ne (tgt := 117) hx hb dX1_route_110 (by decide) (fun q110 => ?_) (fun q110 => ?_)
      · refine lv_iconst (v := 0) hx hb dX1_route_117 (by decide) ?_
        refine lv_goto (tgt := 130) hx hb dX1_route_118 (by decide) ?_
        refine lv_istore (lv' := [(7, .int 0), (6, .int (nI (pb_lb T (pb_pre a k * 8)))), (5, .int 1), (0, .ref m0), (1, .int (nI a)), (2, .int (nI k)), (3, .int (-1)), (4, .int 2)]) hx hb dX1_route_130 hl (by decide) rfl (fun ls hl => ?_)
        refine lv_iload hx hb dX1_route_132 (lv_at hl 0 rfl) ?_
        refine lv_if_ne (tgt := 141) hx hb dX1_route_134 (by decide) (fun q134 => absurd q134 (fun z => z rfl)) (fun q134 => ?_)
        refine lv_iconst (v := (-1)) hx hb dX1_route_137 (by decide) ?_
        refine lv_goto (tgt := 182) hx hb dX1_route_138 (by decide) ?_
        exact pb_wi hx hb hr hlocks hS dX1_route_182 (rfl) (pb_B_of hP hK hD)
      · have w2 := (pb_nI_inj (by omega) (by omega)).mp q110
        exact absurd (hiff.mp (show r.1 / 8 = 64 * a + k by omega)) (by rw [hh]; decide)

end PB13
