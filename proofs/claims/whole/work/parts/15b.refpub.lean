/-! PUBLIC METHODS of the reference (laid by wip/gen/p15.py) -/
section PB12
theorem pb_bits_v {a i v : Nat} (h : a / 2 ^ i % 2 = v) : pb_bits a (i + 1) = pb_bits a i + v := by rw [pb_bits, h]
variable {l : Launch} {D : va_G} {cI cJ : ClassId} {m0 a1 l1 o1 c1 h1 sz : Nat} {Af Lf Of Cf : Nat → Int32} {Hf : Nat → Int64} {co : Int32}
set_option maxHeartbeats 4000000 in
set_option maxRecDepth 100000 in
theorem c_X1_look_n {T : List pb_Rt} (hT : pb_ok T) (hR : pb_rM T Af Lf Of Cf Hf) (a : Nat) (ha : a < 2 ^ 32) (hv : pb_bs T a 33 T.length = none) : pb_Wq l yX1_look wsX1_look 3 0 0 67 [.ref m0, .int (nI a)] D (pb_ty cI cJ) (pb_wM cI cJ m0 a1 l1 o1 c1 h1 Af Lf Of Cf Hf co (nI T.length)) sz (some (.int (-1))) (pb_B D (pb_ty cI cJ) (pb_wM cI cJ m0 a1 l1 o1 c1 h1 Af Lf Of Cf Hf 0 (nI T.length))) := by
  refine pb_ofW RX1 (by decide) rfl rfl (Nat.le_of_ble_eq_true rfl) (fun p e s m args below meth c ls A hx hb hml hr hlocks hown hts hP hK hD hS hA hl hin9 => ?_)
  have hinX1 : ∀ w ∈ wsX10, w ∈ wsX1_look := by decide +kernel
  have hl : lv_has ls 3 [(0, .ref m0), (1, .int (nI a))] := hl
  have hP : va_P D vwCl (pb_wM cI cJ m0 a1 l1 o1 c1 h1 Af Lf Of Cf Hf co (nI T.length)) s.heap := hP
  have hD : va_D A (pb_wM cI cJ m0 a1 l1 o1 c1 h1 Af Lf Of Cf Hf co (nI T.length)) := hD
  have hcap := hR.1
  refine lv_aload_n hx hb dX1_look_0 rfl (lv_at hl 0 rfl) ?_
  refine lv_iconst (v := 0) hx hb dX1_look_1 (by decide) ?_
  refine va_put (D := D) (ci := 1) (v := .int 0) (ty := .int) (C := RX1) (T := TX1) (N := 7) hx hb hts hinX1 tyX1 tyX1_ok nmX1 hown hK hP hD hS 0 rfl rfl 0 (by decide) (hts (.fieldLink RX1 26 "PrefixBenchModel" "code" "I") (by decide +kernel)) (fun _ h9 => h9) rfl (by decide +kernel) rfl rfl (Nat.le_of_ble_eq_true rfl) dX1_look_2 (fun H locs hP hD hS => ?_)
  have hP : va_P D vwCl (pb_wM cI cJ m0 a1 l1 o1 c1 h1 Af Lf Of Cf Hf 0 (nI T.length)) H := hP
  have hD : va_D A (pb_wM cI cJ m0 a1 l1 o1 c1 h1 Af Lf Of Cf Hf 0 (nI T.length)) := hD
  refine lv_aload_n hx hb dX1_look_5 rfl (lv_at hl 0 rfl) ?_
  refine lv_iload_n hx hb dX1_look_6 rfl (lv_at hl 1 rfl) ?_
  refine lv_bipush (v := 33) hx hb dX1_look_7 (by decide) ?_
  refine pb_callV (As := [.int (nI a), .int 33]) (rest := []) ⟨hx, hb, hml, hown, hts⟩ (c_X1_best hT hR a 33 ha (by decide)) (cwV 2 hts gX1_look_X1_best rfl rfl rfl (by decide +kernel) ⟨Nat.le_of_ble_eq_true rfl, Nat.le_of_ble_eq_true rfl⟩) hP hK (va_recv hK hP (ci := 1) (q0 := 0) rfl rfl) rfl rfl hl (Nat.le_of_ble_eq_true rfl) dX1_look_9 ⟨Nat.le_of_ble_eq_true rfl, Nat.le_of_ble_eq_true rfl⟩ ?_
  refine pb_topi (z := (-1)) (by rw [hv]; rfl) ?_
  refine lv_istore_n (lv' := [(2, .int (-1)), (0, .ref m0), (1, .int (nI a))]) hx hb dX1_look_12 rfl hl (by decide) rfl (fun ls hl => ?_)
  refine lv_iload_n hx hb dX1_look_13 rfl (lv_at hl 0 rfl) ?_
  refine lv_if_ge (tgt := 21) hx hb dX1_look_14 (by decide) (fun q14 => absurd q14 (by decide)) (fun q14 => ?_)
  refine lv_iconst (v := (-1)) hx hb dX1_look_17 (by decide) ?_
  refine lv_goto (tgt := 27) hx hb dX1_look_18 (by decide) ?_
  exact pb_wi hx hb hr hlocks hS dX1_look_27 (rfl) (pb_B_of hP hK hD)

set_option maxHeartbeats 4000000 in
set_option maxRecDepth 100000 in
theorem c_X1_look_s {T : List pb_Rt} (hT : pb_ok T) (hR : pb_rM T Af Lf Of Cf Hf) (a : Nat) (ha : a < 2 ^ 32) (j : Nat) {r : pb_Rt} (hr1 : T[j]? = some r) (hv : pb_bs T a 33 T.length = some j) : pb_Wq l yX1_look wsX1_look 3 0 0 67 [.ref m0, .int (nI a)] D (pb_ty cI cJ) (pb_wM cI cJ m0 a1 l1 o1 c1 h1 Af Lf Of Cf Hf co (nI T.length)) sz (some (.int (nI (r.1 / 8 % 64)))) (pb_B D (pb_ty cI cJ) (pb_wM cI cJ m0 a1 l1 o1 c1 h1 Af Lf Of Cf Hf 0 (nI T.length))) := by
  refine pb_ofW RX1 (by decide) rfl rfl (Nat.le_of_ble_eq_true rfl) (fun p e s m args below meth c ls A hx hb hml hr hlocks hown hts hP hK hD hS hA hl hin9 => ?_)
  have hinX1 : ∀ w ∈ wsX10, w ∈ wsX1_look := by decide +kernel
  have hl : lv_has ls 3 [(0, .ref m0), (1, .int (nI a))] := hl
  have hP : va_P D vwCl (pb_wM cI cJ m0 a1 l1 o1 c1 h1 Af Lf Of Cf Hf co (nI T.length)) s.heap := hP
  have hD : va_D A (pb_wM cI cJ m0 a1 l1 o1 c1 h1 Af Lf Of Cf Hf co (nI T.length)) := hD
  have hcap := hR.1
  have hj := (List.getElem?_eq_some_iff.mp hr1).1
  have hkb := pb_key_lt hT (List.mem_of_getElem? hr1)
  have hgd := hT.2 r (List.mem_of_getElem? hr1)
  refine lv_aload_n hx hb dX1_look_0 rfl (lv_at hl 0 rfl) ?_
  refine lv_iconst (v := 0) hx hb dX1_look_1 (by decide) ?_
  refine va_put (D := D) (ci := 1) (v := .int 0) (ty := .int) (C := RX1) (T := TX1) (N := 7) hx hb hts hinX1 tyX1 tyX1_ok nmX1 hown hK hP hD hS 0 rfl rfl 0 (by decide) (hts (.fieldLink RX1 26 "PrefixBenchModel" "code" "I") (by decide +kernel)) (fun _ h9 => h9) rfl (by decide +kernel) rfl rfl (Nat.le_of_ble_eq_true rfl) dX1_look_2 (fun H locs hP hD hS => ?_)
  have hP : va_P D vwCl (pb_wM cI cJ m0 a1 l1 o1 c1 h1 Af Lf Of Cf Hf 0 (nI T.length)) H := hP
  have hD : va_D A (pb_wM cI cJ m0 a1 l1 o1 c1 h1 Af Lf Of Cf Hf 0 (nI T.length)) := hD
  refine lv_aload_n hx hb dX1_look_5 rfl (lv_at hl 0 rfl) ?_
  refine lv_iload_n hx hb dX1_look_6 rfl (lv_at hl 1 rfl) ?_
  refine lv_bipush (v := 33) hx hb dX1_look_7 (by decide) ?_
  refine pb_callV (As := [.int (nI a), .int 33]) (rest := []) ⟨hx, hb, hml, hown, hts⟩ (c_X1_best hT hR a 33 ha (by decide)) (cwV 2 hts gX1_look_X1_best rfl rfl rfl (by decide +kernel) ⟨Nat.le_of_ble_eq_true rfl, Nat.le_of_ble_eq_true rfl⟩) hP hK (va_recv hK hP (ci := 1) (q0 := 0) rfl rfl) rfl rfl hl (Nat.le_of_ble_eq_true rfl) dX1_look_9 ⟨Nat.le_of_ble_eq_true rfl, Nat.le_of_ble_eq_true rfl⟩ ?_
  refine pb_topi (z := nI j) (by rw [hv]; rfl) ?_
  refine lv_istore_n (lv' := [(2, .int (nI j)), (0, .ref m0), (1, .int (nI a))]) hx hb dX1_look_12 rfl hl (by decide) rfl (fun ls hl => ?_)
  refine lv_iload_n hx hb dX1_look_13 rfl (lv_at hl 0 rfl) ?_
  refine lv_if_ge (tgt := 21) hx hb dX1_look_14 (by decide) (fun q14 => ?_) (fun q14 => absurd (nI_pos' (by omega)) q14)
  refine lv_aload_n hx hb dX1_look_21 rfl (lv_at hl 1 rfl) ?_
  refine va_get (D := D) (ci := 1) (v := .ref l1) (C := RX1) (T := TX1) (N := 7) hx hb hts hinX1 hown hK hP 0 rfl rfl 3 (by decide) (hts (.fieldLink RX1 13 "PrefixBenchModel" "length" "[I") (by decide +kernel)) (fun _ h9 => h9) rfl dX1_look_22 ?_
  refine lv_iload_n hx hb dX1_look_25 rfl (lv_at hl 0 rfl) ?_
  refine pb_iald hx hb hK hP 2 1 rfl rfl j (rfl) (⟨by omega, by decide⟩) dX1_look_26 ?_
  refine pb_topi (z := nI (r.1 / 8 % 64)) ((hR.2 _ _ hr1).2.1) ?_
  exact pb_wi hx hb hr hlocks hS dX1_look_27 (rfl) (pb_B_of hP hK hD)

set_option maxHeartbeats 4000000 in
set_option maxRecDepth 100000 in
theorem c_X1_hops_n {T : List pb_Rt} (hT : pb_ok T) (hR : pb_rM T Af Lf Of Cf Hf) (a : Nat) (ha : a < 2 ^ 32) (hv : pb_bs T a 33 T.length = none) : pb_Wq l yX1_hops wsX1_hops 3 0 0 67 [.ref m0, .int (nI a)] D (pb_ty cI cJ) (pb_wM cI cJ m0 a1 l1 o1 c1 h1 Af Lf Of Cf Hf co (nI T.length)) sz (some (.long 0)) (pb_B D (pb_ty cI cJ) (pb_wM cI cJ m0 a1 l1 o1 c1 h1 Af Lf Of Cf Hf 0 (nI T.length))) := by
  refine pb_ofW RX1 (by decide) rfl rfl (Nat.le_of_ble_eq_true rfl) (fun p e s m args below meth c ls A hx hb hml hr hlocks hown hts hP hK hD hS hA hl hin9 => ?_)
  have hinX1 : ∀ w ∈ wsX10, w ∈ wsX1_hops := by decide +kernel
  have hl : lv_has ls 3 [(0, .ref m0), (1, .int (nI a))] := hl
  have hP : va_P D vwCl (pb_wM cI cJ m0 a1 l1 o1 c1 h1 Af Lf Of Cf Hf co (nI T.length)) s.heap := hP
  have hD : va_D A (pb_wM cI cJ m0 a1 l1 o1 c1 h1 Af Lf Of Cf Hf co (nI T.length)) := hD
  have hcap := hR.1
  refine lv_aload_n hx hb dX1_hops_0 rfl (lv_at hl 0 rfl) ?_
  refine lv_iconst (v := 0) hx hb dX1_hops_1 (by decide) ?_
  refine va_put (D := D) (ci := 1) (v := .int 0) (ty := .int) (C := RX1) (T := TX1) (N := 7) hx hb hts hinX1 tyX1 tyX1_ok nmX1 hown hK hP hD hS 0 rfl rfl 0 (by decide) (hts (.fieldLink RX1 26 "PrefixBenchModel" "code" "I") (by decide +kernel)) (fun _ h9 => h9) rfl (by decide +kernel) rfl rfl (Nat.le_of_ble_eq_true rfl) dX1_hops_2 (fun H locs hP hD hS => ?_)
  have hP : va_P D vwCl (pb_wM cI cJ m0 a1 l1 o1 c1 h1 Af Lf Of Cf Hf 0 (nI T.length)) H := hP
  have hD : va_D A (pb_wM cI cJ m0 a1 l1 o1 c1 h1 Af Lf Of Cf Hf 0 (nI T.length)) := hD
  refine lv_aload_n hx hb dX1_hops_5 rfl (lv_at hl 0 rfl) ?_
  refine lv_iload_n hx hb dX1_hops_6 rfl (lv_at hl 1 rfl) ?_
  refine lv_bipush (v := 33) hx hb dX1_hops_7 (by decide) ?_
  refine pb_callV (As := [.int (nI a), .int 33]) (rest := []) ⟨hx, hb, hml, hown, hts⟩ (c_X1_best hT hR a 33 ha (by decide)) (cwV 2 hts gX1_hops_X1_best rfl rfl rfl (by decide +kernel) ⟨Nat.le_of_ble_eq_true rfl, Nat.le_of_ble_eq_true rfl⟩) hP hK (va_recv hK hP (ci := 1) (q0 := 0) rfl rfl) rfl rfl hl (Nat.le_of_ble_eq_true rfl) dX1_hops_9 ⟨Nat.le_of_ble_eq_true rfl, Nat.le_of_ble_eq_true rfl⟩ ?_
  refine pb_topi (z := (-1)) (by rw [hv]; rfl) ?_
  refine lv_istore_n (lv' := [(2, .int (-1)), (0, .ref m0), (1, .int (nI a))]) hx hb dX1_hops_12 rfl hl (by decide) rfl (fun ls hl => ?_)
  refine lv_iload_n hx hb dX1_hops_13 rfl (lv_at hl 0 rfl) ?_
  refine lv_if_ge (tgt := 21) hx hb dX1_hops_14 (by decide) (fun q14 => absurd q14 (by decide)) (fun q14 => ?_)
  refine lv_lconst (v := 0) hx hb dX1_hops_17 (by decide) ?_
  refine lv_goto (tgt := 27) hx hb dX1_hops_18 (by decide) ?_
  exact pb_wl hx hb hr hlocks hS dX1_hops_27 (rfl) (pb_B_of hP hK hD)

set_option maxHeartbeats 4000000 in
set_option maxRecDepth 100000 in
theorem c_X1_hops_s {T : List pb_Rt} (hT : pb_ok T) (hR : pb_rM T Af Lf Of Cf Hf) (a : Nat) (ha : a < 2 ^ 32) (j : Nat) {r : pb_Rt} (hr1 : T[j]? = some r) (hv : pb_bs T a 33 T.length = some j) : pb_Wq l yX1_hops wsX1_hops 3 0 0 67 [.ref m0, .int (nI a)] D (pb_ty cI cJ) (pb_wM cI cJ m0 a1 l1 o1 c1 h1 Af Lf Of Cf Hf co (nI T.length)) sz (some (.long r.2.2)) (pb_B D (pb_ty cI cJ) (pb_wM cI cJ m0 a1 l1 o1 c1 h1 Af Lf Of Cf Hf 0 (nI T.length))) := by
  refine pb_ofW RX1 (by decide) rfl rfl (Nat.le_of_ble_eq_true rfl) (fun p e s m args below meth c ls A hx hb hml hr hlocks hown hts hP hK hD hS hA hl hin9 => ?_)
  have hinX1 : ∀ w ∈ wsX10, w ∈ wsX1_hops := by decide +kernel
  have hl : lv_has ls 3 [(0, .ref m0), (1, .int (nI a))] := hl
  have hP : va_P D vwCl (pb_wM cI cJ m0 a1 l1 o1 c1 h1 Af Lf Of Cf Hf co (nI T.length)) s.heap := hP
  have hD : va_D A (pb_wM cI cJ m0 a1 l1 o1 c1 h1 Af Lf Of Cf Hf co (nI T.length)) := hD
  have hcap := hR.1
  have hj := (List.getElem?_eq_some_iff.mp hr1).1
  have hkb := pb_key_lt hT (List.mem_of_getElem? hr1)
  have hgd := hT.2 r (List.mem_of_getElem? hr1)
  refine lv_aload_n hx hb dX1_hops_0 rfl (lv_at hl 0 rfl) ?_
  refine lv_iconst (v := 0) hx hb dX1_hops_1 (by decide) ?_
  refine va_put (D := D) (ci := 1) (v := .int 0) (ty := .int) (C := RX1) (T := TX1) (N := 7) hx hb hts hinX1 tyX1 tyX1_ok nmX1 hown hK hP hD hS 0 rfl rfl 0 (by decide) (hts (.fieldLink RX1 26 "PrefixBenchModel" "code" "I") (by decide +kernel)) (fun _ h9 => h9) rfl (by decide +kernel) rfl rfl (Nat.le_of_ble_eq_true rfl) dX1_hops_2 (fun H locs hP hD hS => ?_)
  have hP : va_P D vwCl (pb_wM cI cJ m0 a1 l1 o1 c1 h1 Af Lf Of Cf Hf 0 (nI T.length)) H := hP
  have hD : va_D A (pb_wM cI cJ m0 a1 l1 o1 c1 h1 Af Lf Of Cf Hf 0 (nI T.length)) := hD
  refine lv_aload_n hx hb dX1_hops_5 rfl (lv_at hl 0 rfl) ?_
  refine lv_iload_n hx hb dX1_hops_6 rfl (lv_at hl 1 rfl) ?_
  refine lv_bipush (v := 33) hx hb dX1_hops_7 (by decide) ?_
  refine pb_callV (As := [.int (nI a), .int 33]) (rest := []) ⟨hx, hb, hml, hown, hts⟩ (c_X1_best hT hR a 33 ha (by decide)) (cwV 2 hts gX1_hops_X1_best rfl rfl rfl (by decide +kernel) ⟨Nat.le_of_ble_eq_true rfl, Nat.le_of_ble_eq_true rfl⟩) hP hK (va_recv hK hP (ci := 1) (q0 := 0) rfl rfl) rfl rfl hl (Nat.le_of_ble_eq_true rfl) dX1_hops_9 ⟨Nat.le_of_ble_eq_true rfl, Nat.le_of_ble_eq_true rfl⟩ ?_
  refine pb_topi (z := nI j) (by rw [hv]; rfl) ?_
  refine lv_istore_n (lv' := [(2, .int (nI j)), (0, .ref m0), (1, .int (nI a))]) hx hb dX1_hops_12 rfl hl (by decide) rfl (fun ls hl => ?_)
  refine lv_iload_n hx hb dX1_hops_13 rfl (lv_at hl 0 rfl) ?_
  refine lv_if_ge (tgt := 21) hx hb dX1_hops_14 (by decide) (fun q14 => ?_) (fun q14 => absurd (nI_pos' (by omega)) q14)
  refine lv_aload_n hx hb dX1_hops_21 rfl (lv_at hl 1 rfl) ?_
  refine va_get (D := D) (ci := 1) (v := .ref h1) (C := RX1) (T := TX1) (N := 7) hx hb hts hinX1 hown hK hP 0 rfl rfl 6 (by decide) (hts (.fieldLink RX1 22 "PrefixBenchModel" "hops" "[J") (by decide +kernel)) (fun _ h9 => h9) rfl dX1_hops_22 ?_
  refine lv_iload_n hx hb dX1_hops_25 rfl (lv_at hl 0 rfl) ?_
  refine pb_lald hx hb hK hP 5 0 rfl rfl j (rfl) (⟨by omega, by decide⟩) dX1_hops_26 ?_
  refine pb_topl (z := r.2.2) ((hR.2 _ _ hr1).2.2.2.2) ?_
  exact pb_wl hx hb hr hlocks hS dX1_hops_27 (rfl) (pb_B_of hP hK hD)

set_option maxHeartbeats 4000000 in
set_option maxRecDepth 100000 in
theorem c_X1_hop_n {T : List pb_Rt} (hT : pb_ok T) (hR : pb_rM T Af Lf Of Cf Hf) (fl : Nat) (a : Nat) (ha : a < 2 ^ 32) (hv : pb_bs T a 33 T.length = none) : pb_Wq l yX1_hop wsX1_hop 3 0 0 67 [.ref m0, .int (nI a), .int (nI fl)] D (pb_ty cI cJ) (pb_wM cI cJ m0 a1 l1 o1 c1 h1 Af Lf Of Cf Hf co (nI T.length)) sz (some (.int (-1))) (pb_B D (pb_ty cI cJ) (pb_wM cI cJ m0 a1 l1 o1 c1 h1 Af Lf Of Cf Hf 0 (nI T.length))) := by
  refine pb_ofW RX1 (by decide) rfl rfl (Nat.le_of_ble_eq_true rfl) (fun p e s m args below meth c ls A hx hb hml hr hlocks hown hts hP hK hD hS hA hl hin9 => ?_)
  have hinX1 : ∀ w ∈ wsX10, w ∈ wsX1_hop := by decide +kernel
  have hl : lv_has ls 6 [(0, .ref m0), (1, .int (nI a)), (2, .int (nI fl))] := hl
  have hP : va_P D vwCl (pb_wM cI cJ m0 a1 l1 o1 c1 h1 Af Lf Of Cf Hf co (nI T.length)) s.heap := hP
  have hD : va_D A (pb_wM cI cJ m0 a1 l1 o1 c1 h1 Af Lf Of Cf Hf co (nI T.length)) := hD
  have hcap := hR.1
  refine lv_aload_n hx hb dX1_hop_0 rfl (lv_at hl 0 rfl) ?_
  refine lv_iconst (v := 0) hx hb dX1_hop_1 (by decide) ?_
  refine va_put (D := D) (ci := 1) (v := .int 0) (ty := .int) (C := RX1) (T := TX1) (N := 7) hx hb hts hinX1 tyX1 tyX1_ok nmX1 hown hK hP hD hS 0 rfl rfl 0 (by decide) (hts (.fieldLink RX1 26 "PrefixBenchModel" "code" "I") (by decide +kernel)) (fun _ h9 => h9) rfl (by decide +kernel) rfl rfl (Nat.le_of_ble_eq_true rfl) dX1_hop_2 (fun H locs hP hD hS => ?_)
  have hP : va_P D vwCl (pb_wM cI cJ m0 a1 l1 o1 c1 h1 Af Lf Of Cf Hf 0 (nI T.length)) H := hP
  have hD : va_D A (pb_wM cI cJ m0 a1 l1 o1 c1 h1 Af Lf Of Cf Hf 0 (nI T.length)) := hD
  refine lv_aload_n hx hb dX1_hop_5 rfl (lv_at hl 0 rfl) ?_
  refine lv_iload_n hx hb dX1_hop_6 rfl (lv_at hl 1 rfl) ?_
  refine lv_bipush (v := 33) hx hb dX1_hop_7 (by decide) ?_
  refine pb_callV (As := [.int (nI a), .int 33]) (rest := []) ⟨hx, hb, hml, hown, hts⟩ (c_X1_best hT hR a 33 ha (by decide)) (cwV 2 hts gX1_hop_X1_best rfl rfl rfl (by decide +kernel) ⟨Nat.le_of_ble_eq_true rfl, Nat.le_of_ble_eq_true rfl⟩) hP hK (va_recv hK hP (ci := 1) (q0 := 0) rfl rfl) rfl rfl hl (Nat.le_of_ble_eq_true rfl) dX1_hop_9 ⟨Nat.le_of_ble_eq_true rfl, Nat.le_of_ble_eq_true rfl⟩ ?_
  refine pb_topi (z := (-1)) (by rw [hv]; rfl) ?_
  refine lv_istore_n (lv' := [(3, .int (-1)), (0, .ref m0), (1, .int (nI a)), (2, .int (nI fl))]) hx hb dX1_hop_12 rfl hl (by decide) rfl (fun ls hl => ?_)
  refine lv_iload_n hx hb dX1_hop_13 rfl (lv_at hl 0 rfl) ?_
  refine lv_if_ge (tgt := 19) hx hb dX1_hop_14 (by decide) (fun q14 => absurd q14 (by decide)) (fun q14 => ?_)
  refine lv_iconst (v := (-1)) hx hb dX1_hop_17 (by decide) ?_
  exact pb_wi hx hb hr hlocks hS dX1_hop_18 (rfl) (pb_B_of hP hK hD)

set_option maxHeartbeats 4000000 in
set_option maxRecDepth 100000 in
theorem c_X1_hop_s {T : List pb_Rt} (hT : pb_ok T) (hR : pb_rM T Af Lf Of Cf Hf) (fl : Nat) (hfl : fl < 2 ^ 32) (a : Nat) (ha : a < 2 ^ 32) (j : Nat) {r : pb_Rt} (hr1 : T[j]? = some r) (hv : pb_bs T a 33 T.length = some j) (hz : Nat) (hz64 : hz < 64) (hb1 : (uN r.2.2) / 2 ^ hz % 2 = 1) (hb2 : pb_bits (uN r.2.2) hz = fl % (pb_bits (uN r.2.2) 64)) (hpos : 0 < (pb_bits (uN r.2.2) 64)) : pb_Wq l yX1_hop wsX1_hop 3 0 0 67 [.ref m0, .int (nI a), .int (nI fl)] D (pb_ty cI cJ) (pb_wM cI cJ m0 a1 l1 o1 c1 h1 Af Lf Of Cf Hf co (nI T.length)) sz (some (.int (nI hz))) (pb_B D (pb_ty cI cJ) (pb_wM cI cJ m0 a1 l1 o1 c1 h1 Af Lf Of Cf Hf 0 (nI T.length))) := by
  refine pb_ofW RX1 (by decide) rfl rfl (Nat.le_of_ble_eq_true rfl) (fun p e s m args below meth c ls A hx hb hml hr hlocks hown hts hP hK hD hS hA hl hin9 => ?_)
  have hinX1 : ∀ w ∈ wsX10, w ∈ wsX1_hop := by decide +kernel
  have hl : lv_has ls 6 [(0, .ref m0), (1, .int (nI a)), (2, .int (nI fl))] := hl
  have hP : va_P D vwCl (pb_wM cI cJ m0 a1 l1 o1 c1 h1 Af Lf Of Cf Hf co (nI T.length)) s.heap := hP
  have hD : va_D A (pb_wM cI cJ m0 a1 l1 o1 c1 h1 Af Lf Of Cf Hf co (nI T.length)) := hD
  have hcap := hR.1
  have hj := (List.getElem?_eq_some_iff.mp hr1).1
  have hkb := pb_key_lt hT (List.mem_of_getElem? hr1)
  have hgd := hT.2 r (List.mem_of_getElem? hr1)
  have hle64 := pb_bits_le (uN r.2.2) 64
  have hfm := Nat.mod_lt fl hpos
  refine lv_aload_n hx hb dX1_hop_0 rfl (lv_at hl 0 rfl) ?_
  refine lv_iconst (v := 0) hx hb dX1_hop_1 (by decide) ?_
  refine va_put (D := D) (ci := 1) (v := .int 0) (ty := .int) (C := RX1) (T := TX1) (N := 7) hx hb hts hinX1 tyX1 tyX1_ok nmX1 hown hK hP hD hS 0 rfl rfl 0 (by decide) (hts (.fieldLink RX1 26 "PrefixBenchModel" "code" "I") (by decide +kernel)) (fun _ h9 => h9) rfl (by decide +kernel) rfl rfl (Nat.le_of_ble_eq_true rfl) dX1_hop_2 (fun H locs hP hD hS => ?_)
  have hP : va_P D vwCl (pb_wM cI cJ m0 a1 l1 o1 c1 h1 Af Lf Of Cf Hf 0 (nI T.length)) H := hP
  have hD : va_D A (pb_wM cI cJ m0 a1 l1 o1 c1 h1 Af Lf Of Cf Hf 0 (nI T.length)) := hD
  refine lv_aload_n hx hb dX1_hop_5 rfl (lv_at hl 0 rfl) ?_
  refine lv_iload_n hx hb dX1_hop_6 rfl (lv_at hl 1 rfl) ?_
  refine lv_bipush (v := 33) hx hb dX1_hop_7 (by decide) ?_
  refine pb_callV (As := [.int (nI a), .int 33]) (rest := []) ⟨hx, hb, hml, hown, hts⟩ (c_X1_best hT hR a 33 ha (by decide)) (cwV 2 hts gX1_hop_X1_best rfl rfl rfl (by decide +kernel) ⟨Nat.le_of_ble_eq_true rfl, Nat.le_of_ble_eq_true rfl⟩) hP hK (va_recv hK hP (ci := 1) (q0 := 0) rfl rfl) rfl rfl hl (Nat.le_of_ble_eq_true rfl) dX1_hop_9 ⟨Nat.le_of_ble_eq_true rfl, Nat.le_of_ble_eq_true rfl⟩ ?_
  refine pb_topi (z := nI j) (by rw [hv]; rfl) ?_
  refine lv_istore_n (lv' := [(3, .int (nI j)), (0, .ref m0), (1, .int (nI a)), (2, .int (nI fl))]) hx hb dX1_hop_12 rfl hl (by decide) rfl (fun ls hl => ?_)
  refine lv_iload_n hx hb dX1_hop_13 rfl (lv_at hl 0 rfl) ?_
  refine lv_if_ge (tgt := 19) hx hb dX1_hop_14 (by decide) (fun q14 => ?_) (fun q14 => absurd (nI_pos' (by omega)) q14)
  refine lv_iload_n hx hb dX1_hop_19 rfl (lv_at hl 3 rfl) ?_
  refine pb_callS (As := [.int (nI fl)]) (rest := []) ⟨hx, hb, hml, hown, hts⟩ (c_X1_unsigned fl hfl) (va_cwS 1 hts gX1_hop_X1_unsigned rfl rfl rfl (by decide +kernel) ⟨Nat.le_of_ble_eq_true rfl, Nat.le_of_ble_eq_true rfl⟩) rfl rfl hl (Nat.le_of_ble_eq_true rfl) dX1_hop_20 ⟨Nat.le_of_ble_eq_true rfl, Nat.le_of_ble_eq_true rfl⟩ ?_
  refine lv_aload_n hx hb dX1_hop_23 rfl (lv_at hl 1 rfl) ?_
  refine va_get (D := D) (ci := 1) (v := .ref h1) (C := RX1) (T := TX1) (N := 7) hx hb hts hinX1 hown hK hP 0 rfl rfl 6 (by decide) (hts (.fieldLink RX1 22 "PrefixBenchModel" "hops" "[J") (by decide +kernel)) (fun _ h9 => h9) rfl dX1_hop_24 ?_
  refine lv_iload_n hx hb dX1_hop_27 rfl (lv_at hl 0 rfl) ?_
  refine pb_lald hx hb hK hP 5 0 rfl rfl j (rfl) (⟨by omega, by decide⟩) dX1_hop_28 ?_
  refine pb_topl (z := lN (uN r.2.2)) (by rw [pb_uN]; exact (hR.2 _ _ hr1).2.2.2.2) ?_
  refine pb_callS (As := [.long (lN (uN r.2.2))]) (rest := [.long (lN fl)]) ⟨hx, hb, hml, hown, hts⟩ (c_X1_size (uN r.2.2) (uN_lt _)) (va_cwS 1 hts gX1_hop_X1_size rfl rfl rfl (by decide +kernel) ⟨Nat.le_of_ble_eq_true rfl, Nat.le_of_ble_eq_true rfl⟩) rfl rfl hl (Nat.le_of_ble_eq_true rfl) dX1_hop_29 ⟨Nat.le_of_ble_eq_true rfl, Nat.le_of_ble_eq_true rfl⟩ ?_
  refine lv_i2l hx hb dX1_hop_32 rfl ?_
  refine pb_topl (z := lN (pb_bits (uN r.2.2) 64)) (nI_l (by omega)) ?_
  refine lv_lrem hx hb dX1_hop_33 (fun z => absurd ((pk_lEQ (a := (pb_bits (uN r.2.2) 64)) (b := 0) (by omega) (by decide)).mp z) (by omega)) ?_
  refine pb_topl (z := lN (fl % (pb_bits (uN r.2.2) 64))) (pk_lRem (by omega) hpos (by omega)) ?_
  refine lv_l2i hx hb dX1_hop_34 rfl ?_
  refine pb_topi (z := nI (fl % (pb_bits (uN r.2.2) 64))) (lN_i _) ?_
  refine lv_istore (lv' := [(4, .int (nI (fl % (pb_bits (uN r.2.2) 64)))), (3, .int (nI j)), (0, .ref m0), (1, .int (nI a)), (2, .int (nI fl))]) hx hb dX1_hop_35 hl (by decide) rfl (fun ls hl => ?_)
  refine lv_iconst (v := 0) hx hb dX1_hop_37 (by decide) ?_
  refine lv_istore (lv' := [(5, .int 0), (4, .int (nI (fl % (pb_bits (uN r.2.2) 64)))), (3, .int (nI j)), (0, .ref m0), (1, .int (nI a)), (2, .int (nI fl))]) hx hb dX1_hop_38 hl (by decide) rfl (fun ls hl => ?_)
  refine pb_loop (fun kk ls => ∃ i : Nat, i ≤ hz ∧ hz - i = kk ∧ lv_has ls 6 [(5, .int (nI i)), (4, .int (nI (fl % (pb_bits (uN r.2.2) 64) - pb_bits (uN r.2.2) i))), (3, .int (nI j)), (0, .ref m0)]) 40 [] (fun kk ls hI ih => ?_) (fun hL => ?_)
  · obtain ⟨i, hi, rfl, hl⟩ := hI
    refine lv_aload_n hx hb dX1_hop_40 rfl (lv_at hl 3 rfl) ?_
    have hiff := pb_bit_lt2 hb1 hb2 hi
    have hm2 := Nat.mod_lt ((uN r.2.2) / 2 ^ i) (y := 2) (by decide)
    have hmo := pb_bits_mono (uN r.2.2) hi
    have hle := pb_bits_le (uN r.2.2) i
    refine va_get (D := D) (ci := 1) (v := .ref h1) (C := RX1) (T := TX1) (N := 7) hx hb hts hinX1 hown hK hP 0 rfl rfl 6 (by decide) (hts (.fieldLink RX1 22 "PrefixBenchModel" "hops" "[J") (by decide +kernel)) (fun _ h9 => h9) rfl dX1_hop_41 ?_
    refine lv_iload_n hx hb dX1_hop_44 rfl (lv_at hl 2 rfl) ?_
    refine pb_lald hx hb hK hP 5 0 rfl rfl j (rfl) (⟨by omega, by decide⟩) dX1_hop_45 ?_
    refine pb_topl (z := lN (uN r.2.2)) (by rw [pb_uN]; exact (hR.2 _ _ hr1).2.2.2.2) ?_
    refine lv_iload hx hb dX1_hop_46 (lv_at hl 0 rfl) ?_
    refine lv_lshr hx hb dX1_hop_48 rfl ?_
    refine lv_lconst (v := 1) hx hb dX1_hop_49 (by decide) ?_
    refine lv_land hx hb dX1_hop_50 ?_
    refine pb_topl (z := lN ((uN r.2.2) / 2 ^ i % 2)) (pb_sbit (uN_lt _) (by omega)) ?_
    refine lv_lconst (v := 0) hx hb dX1_hop_51 (by decide) ?_
    refine W.lcmp hx hb dX1_hop_52 ?_
    refine lv_if_eq (tgt := 61) hx hb dX1_hop_53 (by decide) (fun q53 => ?_) (fun q53 => ?_)
    · have q53 := (lg_cmp_eq _ _).mp q53
      have hb8 : (uN r.2.2) / 2 ^ i % 2 = 0 := (pk_lEQ (a := (uN r.2.2) / 2 ^ i % 2) (b := 0) (by omega) (by decide)).mp q53
      have hne : i ≠ hz := fun z => by have := (hiff.mpr z).1; omega
      refine lv_iload hx hb dX1_hop_61 (lv_at hl 1 rfl) ?_
      refine lv_aload_n hx hb dX1_hop_63 rfl (lv_at hl 3 rfl) ?_
      refine va_get (D := D) (ci := 1) (v := .ref h1) (C := RX1) (T := TX1) (N := 7) hx hb hts hinX1 hown hK hP 0 rfl rfl 6 (by decide) (hts (.fieldLink RX1 22 "PrefixBenchModel" "hops" "[J") (by decide +kernel)) (fun _ h9 => h9) rfl dX1_hop_64 ?_
      refine lv_iload_n hx hb dX1_hop_67 rfl (lv_at hl 2 rfl) ?_
      refine pb_lald hx hb hK hP 5 0 rfl rfl j (rfl) (⟨by omega, by decide⟩) dX1_hop_68 ?_
      refine pb_topl (z := lN (uN r.2.2)) (by rw [pb_uN]; exact (hR.2 _ _ hr1).2.2.2.2) ?_
      refine lv_iload hx hb dX1_hop_69 (lv_at hl 0 rfl) ?_
      refine lv_lshr hx hb dX1_hop_71 rfl ?_
      refine lv_lconst (v := 1) hx hb dX1_hop_72 (by decide) ?_
      refine lv_land hx hb dX1_hop_73 ?_
      refine pb_topl (z := lN ((uN r.2.2) / 2 ^ i % 2)) (pb_sbit (uN_lt _) (by omega)) ?_
      refine lv_lconst (v := 1) hx hb dX1_hop_74 (by decide) ?_
      refine W.lcmp hx hb dX1_hop_75 ?_
      refine lv_if_ne (tgt := 83) hx hb dX1_hop_76 (by decide) (fun q76 => ?_) (fun q76 => ?_)
      · have q76 := mt (lg_cmp_eq _ _).mpr q76
        have hb9 : (uN r.2.2) / 2 ^ i % 2 = 0 := by
          have : (uN r.2.2) / 2 ^ i % 2 ≠ 1 := fun z => q76 (by rw [z]; rfl)
          omega
        refine lv_iconst (v := 0) hx hb dX1_hop_83 (by decide) ?_
        refine lv_isub hx hb dX1_hop_84 ?_
        refine pb_topi (z := nI (fl % (pb_bits (uN r.2.2) 64) - pb_bits (uN r.2.2) (i + 1))) (by rw [show (0 : Int32) = nI 0 from rfl, pk_sub (a := fl % (pb_bits (uN r.2.2) 64) - pb_bits (uN r.2.2) i) (b := 0) (by omega), pb_bits_v hb9, Nat.sub_sub]) ?_
        refine lv_istore (lv' := [(4, .int (nI (fl % (pb_bits (uN r.2.2) 64) - pb_bits (uN r.2.2) (i + 1)))), (5, .int (nI i)), (3, .int (nI j)), (0, .ref m0)]) hx hb dX1_hop_85 hl (by decide) rfl (fun ls hl => ?_)
        refine lv_iinc (v := nI (i + 1)) (lv' := [(5, .int (nI (i + 1))), (4, .int (nI (fl % (pb_bits (uN r.2.2) 64) - pb_bits (uN r.2.2) (i + 1)))), (3, .int (nI j)), (0, .ref m0)]) hx hb dX1_hop_87 hl (k := 1) rfl (nI_1 _) (by decide) rfl (fun ls hl => ?_)
        refine lv_goto (tgt := 40) hx hb dX1_hop_90 (by decide) ?_
        exact ih _ _ (by omega) ⟨i + 1, by omega, rfl, lv_sub hl [0, 1, 2, 3] rfl⟩
      · have q76 := (lg_cmp_eq _ _).mp q76
        have hb9 : (uN r.2.2) / 2 ^ i % 2 = 1 := (pk_lEQ (a := (uN r.2.2) / 2 ^ i % 2) (b := 1) (by omega) (by decide)).mp q76
        have hst := pb_bit1 hb9 (i := hz) (by omega)
        refine lv_iconst (v := 1) hx hb dX1_hop_79 (by decide) ?_
        refine lv_goto (tgt := 84) hx hb dX1_hop_80 (by decide) ?_
        refine lv_isub hx hb dX1_hop_84 ?_
        refine pb_topi (z := nI (fl % (pb_bits (uN r.2.2) 64) - pb_bits (uN r.2.2) (i + 1))) (by rw [show (1 : Int32) = nI 1 from rfl, pk_sub (a := fl % (pb_bits (uN r.2.2) 64) - pb_bits (uN r.2.2) i) (b := 1) (by omega), pb_bits_v hb9, Nat.sub_sub]) ?_
        refine lv_istore (lv' := [(4, .int (nI (fl % (pb_bits (uN r.2.2) 64) - pb_bits (uN r.2.2) (i + 1)))), (5, .int (nI i)), (3, .int (nI j)), (0, .ref m0)]) hx hb dX1_hop_85 hl (by decide) rfl (fun ls hl => ?_)
        refine lv_iinc (v := nI (i + 1)) (lv' := [(5, .int (nI (i + 1))), (4, .int (nI (fl % (pb_bits (uN r.2.2) 64) - pb_bits (uN r.2.2) (i + 1)))), (3, .int (nI j)), (0, .ref m0)]) hx hb dX1_hop_87 hl (k := 1) rfl (nI_1 _) (by decide) rfl (fun ls hl => ?_)
        refine lv_goto (tgt := 40) hx hb dX1_hop_90 (by decide) ?_
        exact ih _ _ (by omega) ⟨i + 1, by omega, rfl, lv_sub hl [0, 1, 2, 3] rfl⟩
    · have q53 := mt (lg_cmp_eq _ _).mpr q53
      have hb8 : (uN r.2.2) / 2 ^ i % 2 = 1 := by
        have : (uN r.2.2) / 2 ^ i % 2 ≠ 0 := fun z => q53 (by rw [z]; rfl)
        omega
      refine lv_iload hx hb dX1_hop_56 (lv_at hl 1 rfl) ?_
      refine lv_if_le (tgt := 93) hx hb dX1_hop_58 (by decide) (fun q58 => ?_) (fun q58 => ?_)
      · have hw := (nI_leI (a := fl % (pb_bits (uN r.2.2) 64) - pb_bits (uN r.2.2) i) (b := 0) (by omega) (by decide)).mp q58
        have hy : i = hz := hiff.mp ⟨hb8, by omega⟩
        refine lv_iload hx hb dX1_hop_93 (lv_at hl 0 rfl) ?_
        exact pb_wi hx hb hr hlocks hS dX1_hop_95 (by rw [hy]) (pb_B_of hP hK hD)
      · have hw := mt (nI_leI (a := fl % (pb_bits (uN r.2.2) 64) - pb_bits (uN r.2.2) i) (b := 0) (by omega) (by decide)).mpr q58
        have hne : i ≠ hz := fun z => by
          have := (hiff.mpr z).2
          omega
        refine lv_iload hx hb dX1_hop_61 (lv_at hl 1 rfl) ?_
        refine lv_aload_n hx hb dX1_hop_63 rfl (lv_at hl 3 rfl) ?_
        refine va_get (D := D) (ci := 1) (v := .ref h1) (C := RX1) (T := TX1) (N := 7) hx hb hts hinX1 hown hK hP 0 rfl rfl 6 (by decide) (hts (.fieldLink RX1 22 "PrefixBenchModel" "hops" "[J") (by decide +kernel)) (fun _ h9 => h9) rfl dX1_hop_64 ?_
        refine lv_iload_n hx hb dX1_hop_67 rfl (lv_at hl 2 rfl) ?_
        refine pb_lald hx hb hK hP 5 0 rfl rfl j (rfl) (⟨by omega, by decide⟩) dX1_hop_68 ?_
        refine pb_topl (z := lN (uN r.2.2)) (by rw [pb_uN]; exact (hR.2 _ _ hr1).2.2.2.2) ?_
        refine lv_iload hx hb dX1_hop_69 (lv_at hl 0 rfl) ?_
        refine lv_lshr hx hb dX1_hop_71 rfl ?_
        refine lv_lconst (v := 1) hx hb dX1_hop_72 (by decide) ?_
        refine lv_land hx hb dX1_hop_73 ?_
        refine pb_topl (z := lN ((uN r.2.2) / 2 ^ i % 2)) (pb_sbit (uN_lt _) (by omega)) ?_
        refine lv_lconst (v := 1) hx hb dX1_hop_74 (by decide) ?_
        refine W.lcmp hx hb dX1_hop_75 ?_
        refine lv_if_ne (tgt := 83) hx hb dX1_hop_76 (by decide) (fun q76 => ?_) (fun q76 => ?_)
        · have q76 := mt (lg_cmp_eq _ _).mpr q76
          have hb9 : (uN r.2.2) / 2 ^ i % 2 = 0 := by
            have : (uN r.2.2) / 2 ^ i % 2 ≠ 1 := fun z => q76 (by rw [z]; rfl)
            omega
          refine lv_iconst (v := 0) hx hb dX1_hop_83 (by decide) ?_
          refine lv_isub hx hb dX1_hop_84 ?_
          refine pb_topi (z := nI (fl % (pb_bits (uN r.2.2) 64) - pb_bits (uN r.2.2) (i + 1))) (by rw [show (0 : Int32) = nI 0 from rfl, pk_sub (a := fl % (pb_bits (uN r.2.2) 64) - pb_bits (uN r.2.2) i) (b := 0) (by omega), pb_bits_v hb9, Nat.sub_sub]) ?_
          refine lv_istore (lv' := [(4, .int (nI (fl % (pb_bits (uN r.2.2) 64) - pb_bits (uN r.2.2) (i + 1)))), (5, .int (nI i)), (3, .int (nI j)), (0, .ref m0)]) hx hb dX1_hop_85 hl (by decide) rfl (fun ls hl => ?_)
          refine lv_iinc (v := nI (i + 1)) (lv' := [(5, .int (nI (i + 1))), (4, .int (nI (fl % (pb_bits (uN r.2.2) 64) - pb_bits (uN r.2.2) (i + 1)))), (3, .int (nI j)), (0, .ref m0)]) hx hb dX1_hop_87 hl (k := 1) rfl (nI_1 _) (by decide) rfl (fun ls hl => ?_)
          refine lv_goto (tgt := 40) hx hb dX1_hop_90 (by decide) ?_
          exact ih _ _ (by omega) ⟨i + 1, by omega, rfl, lv_sub hl [0, 1, 2, 3] rfl⟩
        · have q76 := (lg_cmp_eq _ _).mp q76
          have hb9 : (uN r.2.2) / 2 ^ i % 2 = 1 := (pk_lEQ (a := (uN r.2.2) / 2 ^ i % 2) (b := 1) (by omega) (by decide)).mp q76
          have hst := pb_bit1 hb9 (i := hz) (by omega)
          refine lv_iconst (v := 1) hx hb dX1_hop_79 (by decide) ?_
          refine lv_goto (tgt := 84) hx hb dX1_hop_80 (by decide) ?_
          refine lv_isub hx hb dX1_hop_84 ?_
          refine pb_topi (z := nI (fl % (pb_bits (uN r.2.2) 64) - pb_bits (uN r.2.2) (i + 1))) (by rw [show (1 : Int32) = nI 1 from rfl, pk_sub (a := fl % (pb_bits (uN r.2.2) 64) - pb_bits (uN r.2.2) i) (b := 1) (by omega), pb_bits_v hb9, Nat.sub_sub]) ?_
          refine lv_istore (lv' := [(4, .int (nI (fl % (pb_bits (uN r.2.2) 64) - pb_bits (uN r.2.2) (i + 1)))), (5, .int (nI i)), (3, .int (nI j)), (0, .ref m0)]) hx hb dX1_hop_85 hl (by decide) rfl (fun ls hl => ?_)
          refine lv_iinc (v := nI (i + 1)) (lv' := [(5, .int (nI (i + 1))), (4, .int (nI (fl % (pb_bits (uN r.2.2) 64) - pb_bits (uN r.2.2) (i + 1)))), (3, .int (nI j)), (0, .ref m0)]) hx hb dX1_hop_87 hl (k := 1) rfl (nI_1 _) (by decide) rfl (fun ls hl => ?_)
          refine lv_goto (tgt := 40) hx hb dX1_hop_90 (by decide) ?_
          exact ih _ _ (by omega) ⟨i + 1, by omega, rfl, lv_sub hl [0, 1, 2, 3] rfl⟩
  · exact hL _ _ ⟨0, Nat.zero_le _, rfl, lv_sub hl [0, 1, 2, 3] rfl⟩

set_option maxHeartbeats 4000000 in
set_option maxRecDepth 100000 in
theorem c_X1_shorter_n {T : List pb_Rt} (hT : pb_ok T) (hR : pb_rM T Af Lf Of Cf Hf) (a lim : Nat) (ha : a < 2 ^ 32) (hlim : lim ≤ 33) (hv : pb_bs T a lim T.length = none) : pb_Wq l yX1_shorter wsX1_shorter 3 0 0 67 [.ref m0, .int (nI a), .int (nI lim)] D (pb_ty cI cJ) (pb_wM cI cJ m0 a1 l1 o1 c1 h1 Af Lf Of Cf Hf co (nI T.length)) sz (some (.int (-1))) (pb_B D (pb_ty cI cJ) (pb_wM cI cJ m0 a1 l1 o1 c1 h1 Af Lf Of Cf Hf 0 (nI T.length))) := by
  refine pb_ofW RX1 (by decide) rfl rfl (Nat.le_of_ble_eq_true rfl) (fun p e s m args below meth c ls A hx hb hml hr hlocks hown hts hP hK hD hS hA hl hin9 => ?_)
  have hinX1 : ∀ w ∈ wsX10, w ∈ wsX1_shorter := by decide +kernel
  have hl : lv_has ls 4 [(0, .ref m0), (1, .int (nI a)), (2, .int (nI lim))] := hl
  have hP : va_P D vwCl (pb_wM cI cJ m0 a1 l1 o1 c1 h1 Af Lf Of Cf Hf co (nI T.length)) s.heap := hP
  have hD : va_D A (pb_wM cI cJ m0 a1 l1 o1 c1 h1 Af Lf Of Cf Hf co (nI T.length)) := hD
  have hcap := hR.1
  refine lv_aload_n hx hb dX1_shorter_0 rfl (lv_at hl 0 rfl) ?_
  refine lv_iload_n hx hb dX1_shorter_1 rfl (lv_at hl 2 rfl) ?_
  refine lv_if_lt (tgt := 11) hx hb dX1_shorter_2 (by decide) (fun q2 => absurd q2 (nI_pos (by omega))) (fun q2 => ?_)
  refine lv_iload_n hx hb dX1_shorter_5 rfl (lv_at hl 2 rfl) ?_
  refine lv_bipush (v := 33) hx hb dX1_shorter_6 (by decide) ?_
  refine lv_icmp_le (tgt := 15) hx hb dX1_shorter_8 (by decide) (fun q8 => ?_) (fun q8 => absurd ((nI_leI (a := lim) (b := 33) (by omega) (by decide)).mpr hlim) q8)
  refine lv_iconst (v := 0) hx hb dX1_shorter_15 (by decide) ?_
  refine va_put (D := D) (ci := 1) (v := .int 0) (ty := .int) (C := RX1) (T := TX1) (N := 7) hx hb hts hinX1 tyX1 tyX1_ok nmX1 hown hK hP hD hS 0 rfl rfl 0 (by decide) (hts (.fieldLink RX1 26 "PrefixBenchModel" "code" "I") (by decide +kernel)) (fun _ h9 => h9) rfl (by decide +kernel) rfl rfl (Nat.le_of_ble_eq_true rfl) dX1_shorter_16 (fun H locs hP hD hS => ?_)
  have hP : va_P D vwCl (pb_wM cI cJ m0 a1 l1 o1 c1 h1 Af Lf Of Cf Hf 0 (nI T.length)) H := hP
  have hD : va_D A (pb_wM cI cJ m0 a1 l1 o1 c1 h1 Af Lf Of Cf Hf 0 (nI T.length)) := hD
  refine lv_aload_n hx hb dX1_shorter_19 rfl (lv_at hl 0 rfl) ?_
  refine va_get (D := D) (ci := 1) (v := .int 0) (C := RX1) (T := TX1) (N := 7) hx hb hts hinX1 hown hK hP 0 rfl rfl 0 (by decide) (hts (.fieldLink RX1 26 "PrefixBenchModel" "code" "I") (by decide +kernel)) (fun _ h9 => h9) rfl dX1_shorter_20 ?_
  refine lv_if_le (tgt := 30) hx hb dX1_shorter_23 (by decide) (fun q23 => ?_) (fun q23 => absurd (by decide) q23)
  refine lv_aload_n hx hb dX1_shorter_30 rfl (lv_at hl 0 rfl) ?_
  refine lv_iload_n hx hb dX1_shorter_31 rfl (lv_at hl 1 rfl) ?_
  refine lv_iload_n hx hb dX1_shorter_32 rfl (lv_at hl 2 rfl) ?_
  refine pb_callV (As := [.int (nI a), .int (nI lim)]) (rest := []) ⟨hx, hb, hml, hown, hts⟩ (c_X1_best hT hR a lim ha hlim) (cwV 2 hts gX1_shorter_X1_best rfl rfl rfl (by decide +kernel) ⟨Nat.le_of_ble_eq_true rfl, Nat.le_of_ble_eq_true rfl⟩) hP hK (va_recv hK hP (ci := 1) (q0 := 0) rfl rfl) rfl rfl hl (Nat.le_of_ble_eq_true rfl) dX1_shorter_33 ⟨Nat.le_of_ble_eq_true rfl, Nat.le_of_ble_eq_true rfl⟩ ?_
  refine pb_topi (z := (-1)) (by rw [hv]; rfl) ?_
  refine lv_istore_n (lv' := [(3, .int (-1)), (0, .ref m0), (1, .int (nI a)), (2, .int (nI lim))]) hx hb dX1_shorter_36 rfl hl (by decide) rfl (fun ls hl => ?_)
  refine lv_aload_n hx hb dX1_shorter_37 rfl (lv_at hl 1 rfl) ?_
  refine va_get (D := D) (ci := 1) (v := .int 0) (C := RX1) (T := TX1) (N := 7) hx hb hts hinX1 hown hK hP 0 rfl rfl 0 (by decide) (hts (.fieldLink RX1 26 "PrefixBenchModel" "code" "I") (by decide +kernel)) (fun _ h9 => h9) rfl dX1_shorter_38 ?_
  refine lv_if_le (tgt := 48) hx hb dX1_shorter_41 (by decide) (fun q41 => ?_) (fun q41 => absurd (by decide) q41)
  refine lv_iload_n hx hb dX1_shorter_48 rfl (lv_at hl 0 rfl) ?_
  refine lv_if_ge (tgt := 56) hx hb dX1_shorter_49 (by decide) (fun q49 => absurd q49 (by decide)) (fun q49 => ?_)
  refine lv_iconst (v := (-1)) hx hb dX1_shorter_52 (by decide) ?_
  refine lv_goto (tgt := 62) hx hb dX1_shorter_53 (by decide) ?_
  exact pb_wi hx hb hr hlocks hS dX1_shorter_62 (rfl) (pb_B_of hP hK hD)

set_option maxHeartbeats 4000000 in
set_option maxRecDepth 100000 in
theorem c_X1_shorter_s {T : List pb_Rt} (hT : pb_ok T) (hR : pb_rM T Af Lf Of Cf Hf) (a lim : Nat) (ha : a < 2 ^ 32) (hlim : lim ≤ 33) (j : Nat) {r : pb_Rt} (hr1 : T[j]? = some r) (hv : pb_bs T a lim T.length = some j) : pb_Wq l yX1_shorter wsX1_shorter 3 0 0 67 [.ref m0, .int (nI a), .int (nI lim)] D (pb_ty cI cJ) (pb_wM cI cJ m0 a1 l1 o1 c1 h1 Af Lf Of Cf Hf co (nI T.length)) sz (some (.int (nI (r.1 / 8 % 64)))) (pb_B D (pb_ty cI cJ) (pb_wM cI cJ m0 a1 l1 o1 c1 h1 Af Lf Of Cf Hf 0 (nI T.length))) := by
  refine pb_ofW RX1 (by decide) rfl rfl (Nat.le_of_ble_eq_true rfl) (fun p e s m args below meth c ls A hx hb hml hr hlocks hown hts hP hK hD hS hA hl hin9 => ?_)
  have hinX1 : ∀ w ∈ wsX10, w ∈ wsX1_shorter := by decide +kernel
  have hl : lv_has ls 4 [(0, .ref m0), (1, .int (nI a)), (2, .int (nI lim))] := hl
  have hP : va_P D vwCl (pb_wM cI cJ m0 a1 l1 o1 c1 h1 Af Lf Of Cf Hf co (nI T.length)) s.heap := hP
  have hD : va_D A (pb_wM cI cJ m0 a1 l1 o1 c1 h1 Af Lf Of Cf Hf co (nI T.length)) := hD
  have hcap := hR.1
  have hj := (List.getElem?_eq_some_iff.mp hr1).1
  have hkb := pb_key_lt hT (List.mem_of_getElem? hr1)
  have hgd := hT.2 r (List.mem_of_getElem? hr1)
  refine lv_aload_n hx hb dX1_shorter_0 rfl (lv_at hl 0 rfl) ?_
  refine lv_iload_n hx hb dX1_shorter_1 rfl (lv_at hl 2 rfl) ?_
  refine lv_if_lt (tgt := 11) hx hb dX1_shorter_2 (by decide) (fun q2 => absurd q2 (nI_pos (by omega))) (fun q2 => ?_)
  refine lv_iload_n hx hb dX1_shorter_5 rfl (lv_at hl 2 rfl) ?_
  refine lv_bipush (v := 33) hx hb dX1_shorter_6 (by decide) ?_
  refine lv_icmp_le (tgt := 15) hx hb dX1_shorter_8 (by decide) (fun q8 => ?_) (fun q8 => absurd ((nI_leI (a := lim) (b := 33) (by omega) (by decide)).mpr hlim) q8)
  refine lv_iconst (v := 0) hx hb dX1_shorter_15 (by decide) ?_
  refine va_put (D := D) (ci := 1) (v := .int 0) (ty := .int) (C := RX1) (T := TX1) (N := 7) hx hb hts hinX1 tyX1 tyX1_ok nmX1 hown hK hP hD hS 0 rfl rfl 0 (by decide) (hts (.fieldLink RX1 26 "PrefixBenchModel" "code" "I") (by decide +kernel)) (fun _ h9 => h9) rfl (by decide +kernel) rfl rfl (Nat.le_of_ble_eq_true rfl) dX1_shorter_16 (fun H locs hP hD hS => ?_)
  have hP : va_P D vwCl (pb_wM cI cJ m0 a1 l1 o1 c1 h1 Af Lf Of Cf Hf 0 (nI T.length)) H := hP
  have hD : va_D A (pb_wM cI cJ m0 a1 l1 o1 c1 h1 Af Lf Of Cf Hf 0 (nI T.length)) := hD
  refine lv_aload_n hx hb dX1_shorter_19 rfl (lv_at hl 0 rfl) ?_
  refine va_get (D := D) (ci := 1) (v := .int 0) (C := RX1) (T := TX1) (N := 7) hx hb hts hinX1 hown hK hP 0 rfl rfl 0 (by decide) (hts (.fieldLink RX1 26 "PrefixBenchModel" "code" "I") (by decide +kernel)) (fun _ h9 => h9) rfl dX1_shorter_20 ?_
  refine lv_if_le (tgt := 30) hx hb dX1_shorter_23 (by decide) (fun q23 => ?_) (fun q23 => absurd (by decide) q23)
  refine lv_aload_n hx hb dX1_shorter_30 rfl (lv_at hl 0 rfl) ?_
  refine lv_iload_n hx hb dX1_shorter_31 rfl (lv_at hl 1 rfl) ?_
  refine lv_iload_n hx hb dX1_shorter_32 rfl (lv_at hl 2 rfl) ?_
  refine pb_callV (As := [.int (nI a), .int (nI lim)]) (rest := []) ⟨hx, hb, hml, hown, hts⟩ (c_X1_best hT hR a lim ha hlim) (cwV 2 hts gX1_shorter_X1_best rfl rfl rfl (by decide +kernel) ⟨Nat.le_of_ble_eq_true rfl, Nat.le_of_ble_eq_true rfl⟩) hP hK (va_recv hK hP (ci := 1) (q0 := 0) rfl rfl) rfl rfl hl (Nat.le_of_ble_eq_true rfl) dX1_shorter_33 ⟨Nat.le_of_ble_eq_true rfl, Nat.le_of_ble_eq_true rfl⟩ ?_
  refine pb_topi (z := nI j) (by rw [hv]; rfl) ?_
  refine lv_istore_n (lv' := [(3, .int (nI j)), (0, .ref m0), (1, .int (nI a)), (2, .int (nI lim))]) hx hb dX1_shorter_36 rfl hl (by decide) rfl (fun ls hl => ?_)
  refine lv_aload_n hx hb dX1_shorter_37 rfl (lv_at hl 1 rfl) ?_
  refine va_get (D := D) (ci := 1) (v := .int 0) (C := RX1) (T := TX1) (N := 7) hx hb hts hinX1 hown hK hP 0 rfl rfl 0 (by decide) (hts (.fieldLink RX1 26 "PrefixBenchModel" "code" "I") (by decide +kernel)) (fun _ h9 => h9) rfl dX1_shorter_38 ?_
  refine lv_if_le (tgt := 48) hx hb dX1_shorter_41 (by decide) (fun q41 => ?_) (fun q41 => absurd (by decide) q41)
  refine lv_iload_n hx hb dX1_shorter_48 rfl (lv_at hl 0 rfl) ?_
  refine lv_if_ge (tgt := 56) hx hb dX1_shorter_49 (by decide) (fun q49 => ?_) (fun q49 => absurd (nI_pos' (by omega)) q49)
  refine lv_aload_n hx hb dX1_shorter_56 rfl (lv_at hl 1 rfl) ?_
  refine va_get (D := D) (ci := 1) (v := .ref l1) (C := RX1) (T := TX1) (N := 7) hx hb hts hinX1 hown hK hP 0 rfl rfl 3 (by decide) (hts (.fieldLink RX1 13 "PrefixBenchModel" "length" "[I") (by decide +kernel)) (fun _ h9 => h9) rfl dX1_shorter_57 ?_
  refine lv_iload_n hx hb dX1_shorter_60 rfl (lv_at hl 0 rfl) ?_
  refine pb_iald hx hb hK hP 2 1 rfl rfl j (rfl) (⟨by omega, by decide⟩) dX1_shorter_61 ?_
  refine pb_topi (z := nI (r.1 / 8 % 64)) ((hR.2 _ _ hr1).2.1) ?_
  exact pb_wi hx hb hr hlocks hS dX1_shorter_62 (rfl) (pb_B_of hP hK hD)

set_option maxHeartbeats 4000000 in
set_option maxRecDepth 100000 in
theorem c_X1_shorter_bad (n9 xa xl : Int32) (hbad : ¬ pb_vi xl 34) : pb_Wq l yX1_shorter wsX1_shorter 3 0 0 67 [.ref m0, .int xa, .int xl] D (pb_ty cI cJ) (pb_wM cI cJ m0 a1 l1 o1 c1 h1 Af Lf Of Cf Hf co n9) sz (some (.int 0)) (pb_B D (pb_ty cI cJ) (pb_wM cI cJ m0 a1 l1 o1 c1 h1 Af Lf Of Cf Hf 1 n9)) := by
  refine pb_ofW RX1 (by decide) rfl rfl (Nat.le_of_ble_eq_true rfl) (fun p e s m args below meth c ls A hx hb hml hr hlocks hown hts hP hK hD hS hA hl hin9 => ?_)
  have hinX1 : ∀ w ∈ wsX10, w ∈ wsX1_shorter := by decide +kernel
  have hl : lv_has ls 4 [(0, .ref m0), (1, .int xa), (2, .int xl)] := hl
  have hP : va_P D vwCl (pb_wM cI cJ m0 a1 l1 o1 c1 h1 Af Lf Of Cf Hf co n9) s.heap := hP
  have hD : va_D A (pb_wM cI cJ m0 a1 l1 o1 c1 h1 Af Lf Of Cf Hf co n9) := hD
  refine lv_aload_n hx hb dX1_shorter_0 rfl (lv_at hl 0 rfl) ?_
  refine lv_iload_n hx hb dX1_shorter_1 rfl (lv_at hl 2 rfl) ?_
  refine lv_if_lt (tgt := 11) hx hb dX1_shorter_2 (by decide) (fun q2 => ?_) (fun q2 => ?_)
  · refine lv_iconst (v := 1) hx hb dX1_shorter_11 (by decide) ?_
    refine lv_goto (tgt := 16) hx hb dX1_shorter_12 (by decide) ?_
    refine va_put (D := D) (ci := 1) (v := .int 1) (ty := .int) (C := RX1) (T := TX1) (N := 7) hx hb hts hinX1 tyX1 tyX1_ok nmX1 hown hK hP hD hS 0 rfl rfl 0 (by decide) (hts (.fieldLink RX1 26 "PrefixBenchModel" "code" "I") (by decide +kernel)) (fun _ h9 => h9) rfl (by decide +kernel) rfl rfl (Nat.le_of_ble_eq_true rfl) dX1_shorter_16 (fun H locs hP hD hS => ?_)
    have hP : va_P D vwCl (pb_wM cI cJ m0 a1 l1 o1 c1 h1 Af Lf Of Cf Hf 1 n9) H := hP
    have hD : va_D A (pb_wM cI cJ m0 a1 l1 o1 c1 h1 Af Lf Of Cf Hf 1 n9) := hD
    refine lv_aload_n hx hb dX1_shorter_19 rfl (lv_at hl 0 rfl) ?_
    refine va_get (D := D) (ci := 1) (v := .int 1) (C := RX1) (T := TX1) (N := 7) hx hb hts hinX1 hown hK hP 0 rfl rfl 0 (by decide) (hts (.fieldLink RX1 26 "PrefixBenchModel" "code" "I") (by decide +kernel)) (fun _ h9 => h9) rfl dX1_shorter_20 ?_
    refine lv_if_le (tgt := 30) hx hb dX1_shorter_23 (by decide) (fun q23 => absurd q23 (by decide)) (fun q23 => ?_)
    refine lv_iconst (v := (-1)) hx hb dX1_shorter_26 (by decide) ?_
    refine lv_goto (tgt := 36) hx hb dX1_shorter_27 (by decide) ?_
    refine lv_istore_n (lv' := [(3, .int (-1)), (0, .ref m0), (1, .int xa), (2, .int xl)]) hx hb dX1_shorter_36 rfl hl (by decide) rfl (fun ls hl => ?_)
    refine lv_aload_n hx hb dX1_shorter_37 rfl (lv_at hl 1 rfl) ?_
    refine va_get (D := D) (ci := 1) (v := .int 1) (C := RX1) (T := TX1) (N := 7) hx hb hts hinX1 hown hK hP 0 rfl rfl 0 (by decide) (hts (.fieldLink RX1 26 "PrefixBenchModel" "code" "I") (by decide +kernel)) (fun _ h9 => h9) rfl dX1_shorter_38 ?_
    refine lv_if_le (tgt := 48) hx hb dX1_shorter_41 (by decide) (fun q41 => absurd q41 (by decide)) (fun q41 => ?_)
    refine lv_iconst (v := 0) hx hb dX1_shorter_44 (by decide) ?_
    refine lv_goto (tgt := 62) hx hb dX1_shorter_45 (by decide) ?_
    exact pb_wi hx hb hr hlocks hS dX1_shorter_62 (rfl) (pb_B_of hP hK hD)
  · refine lv_iload_n hx hb dX1_shorter_5 rfl (lv_at hl 2 rfl) ?_
    refine lv_bipush (v := 33) hx hb dX1_shorter_6 (by decide) ?_
    refine lv_icmp_le (tgt := 15) hx hb dX1_shorter_8 (by decide) (fun q8 => ?_) (fun q8 => ?_)
    · obtain ⟨j, hj, rfl⟩ := nI_of2 (M := 33) (n := 33) (by decide) q2 q8
      exact absurd ⟨j, by omega, rfl⟩ hbad
    · refine lv_iconst (v := 1) hx hb dX1_shorter_11 (by decide) ?_
      refine lv_goto (tgt := 16) hx hb dX1_shorter_12 (by decide) ?_
      refine va_put (D := D) (ci := 1) (v := .int 1) (ty := .int) (C := RX1) (T := TX1) (N := 7) hx hb hts hinX1 tyX1 tyX1_ok nmX1 hown hK hP hD hS 0 rfl rfl 0 (by decide) (hts (.fieldLink RX1 26 "PrefixBenchModel" "code" "I") (by decide +kernel)) (fun _ h9 => h9) rfl (by decide +kernel) rfl rfl (Nat.le_of_ble_eq_true rfl) dX1_shorter_16 (fun H locs hP hD hS => ?_)
      have hP : va_P D vwCl (pb_wM cI cJ m0 a1 l1 o1 c1 h1 Af Lf Of Cf Hf 1 n9) H := hP
      have hD : va_D A (pb_wM cI cJ m0 a1 l1 o1 c1 h1 Af Lf Of Cf Hf 1 n9) := hD
      refine lv_aload_n hx hb dX1_shorter_19 rfl (lv_at hl 0 rfl) ?_
      refine va_get (D := D) (ci := 1) (v := .int 1) (C := RX1) (T := TX1) (N := 7) hx hb hts hinX1 hown hK hP 0 rfl rfl 0 (by decide) (hts (.fieldLink RX1 26 "PrefixBenchModel" "code" "I") (by decide +kernel)) (fun _ h9 => h9) rfl dX1_shorter_20 ?_
      refine lv_if_le (tgt := 30) hx hb dX1_shorter_23 (by decide) (fun q23 => absurd q23 (by decide)) (fun q23 => ?_)
      refine lv_iconst (v := (-1)) hx hb dX1_shorter_26 (by decide) ?_
      refine lv_goto (tgt := 36) hx hb dX1_shorter_27 (by decide) ?_
      refine lv_istore_n (lv' := [(3, .int (-1)), (0, .ref m0), (1, .int xa), (2, .int xl)]) hx hb dX1_shorter_36 rfl hl (by decide) rfl (fun ls hl => ?_)
      refine lv_aload_n hx hb dX1_shorter_37 rfl (lv_at hl 1 rfl) ?_
      refine va_get (D := D) (ci := 1) (v := .int 1) (C := RX1) (T := TX1) (N := 7) hx hb hts hinX1 hown hK hP 0 rfl rfl 0 (by decide) (hts (.fieldLink RX1 26 "PrefixBenchModel" "code" "I") (by decide +kernel)) (fun _ h9 => h9) rfl dX1_shorter_38 ?_
      refine lv_if_le (tgt := 48) hx hb dX1_shorter_41 (by decide) (fun q41 => absurd q41 (by decide)) (fun q41 => ?_)
      refine lv_iconst (v := 0) hx hb dX1_shorter_44 (by decide) ?_
      refine lv_goto (tgt := 62) hx hb dX1_shorter_45 (by decide) ?_
      exact pb_wi hx hb hr hlocks hS dX1_shorter_62 (rfl) (pb_B_of hP hK hD)

set_option maxHeartbeats 4000000 in
set_option maxRecDepth 100000 in
theorem c_X1_after_n {T : List pb_Rt} (hT : pb_ok T) (hR : pb_rM T Af Lf Of Cf Hf) (a k : Nat) (ha : a < 2 ^ 32) (hk : k ≤ 32) (hg : a % 2 ^ (32 - k) = 0) (hr1 : T[pb_lb T ((pb_pre a k + 1) * 8)]? = none) : pb_Wq l yX1_after wsX1_after 4 0 0 88 [.ref m0, .int (nI a), .int (nI k)] D (pb_ty cI cJ) (pb_wM cI cJ m0 a1 l1 o1 c1 h1 Af Lf Of Cf Hf co (nI T.length)) sz (some (.long (-1))) (pb_B D (pb_ty cI cJ) (pb_wM cI cJ m0 a1 l1 o1 c1 h1 Af Lf Of Cf Hf 0 (nI T.length))) := by
  refine pb_ofW RX1 (by decide) rfl rfl (Nat.le_of_ble_eq_true rfl) (fun p e s m args below meth c ls A hx hb hml hr hlocks hown hts hP hK hD hS hA hl hin9 => ?_)
  have hinX1 : ∀ w ∈ wsX10, w ∈ wsX1_after := by decide +kernel
  have hl : lv_has ls 4 [(0, .ref m0), (1, .int (nI a)), (2, .int (nI k))] := hl
  have hP : va_P D vwCl (pb_wM cI cJ m0 a1 l1 o1 c1 h1 Af Lf Of Cf Hf co (nI T.length)) s.heap := hP
  have hD : va_D A (pb_wM cI cJ m0 a1 l1 o1 c1 h1 Af Lf Of Cf Hf co (nI T.length)) := hD
  have hcap := hR.1
  refine lv_aload_n hx hb dX1_after_0 rfl (lv_at hl 0 rfl) ?_
  refine lv_iload_n hx hb dX1_after_1 rfl (lv_at hl 1 rfl) ?_
  refine lv_iload_n hx hb dX1_after_2 rfl (lv_at hl 2 rfl) ?_
  refine pb_callS (As := [.int (nI a), .int (nI k)]) (rest := [.ref m0]) ⟨hx, hb, hml, hown, hts⟩ (c_X1_isPrefix_t a k ha hk hg) (va_cwS 2 hts gX1_after_X1_isPrefix rfl rfl rfl (by decide +kernel) ⟨Nat.le_of_ble_eq_true rfl, Nat.le_of_ble_eq_true rfl⟩) rfl rfl hl (Nat.le_of_ble_eq_true rfl) dX1_after_3 ⟨Nat.le_of_ble_eq_true rfl, Nat.le_of_ble_eq_true rfl⟩ ?_
  refine lv_if_eq (tgt := 13) hx hb dX1_after_6 (by decide) (fun q6 => absurd q6 (by decide)) (fun q6 => ?_)
  refine lv_iconst (v := 0) hx hb dX1_after_9 (by decide) ?_
  refine lv_goto (tgt := 14) hx hb dX1_after_10 (by decide) ?_
  refine va_put (D := D) (ci := 1) (v := .int 0) (ty := .int) (C := RX1) (T := TX1) (N := 7) hx hb hts hinX1 tyX1 tyX1_ok nmX1 hown hK hP hD hS 0 rfl rfl 0 (by decide) (hts (.fieldLink RX1 26 "PrefixBenchModel" "code" "I") (by decide +kernel)) (fun _ h9 => h9) rfl (by decide +kernel) rfl rfl (Nat.le_of_ble_eq_true rfl) dX1_after_14 (fun H locs hP hD hS => ?_)
  have hP : va_P D vwCl (pb_wM cI cJ m0 a1 l1 o1 c1 h1 Af Lf Of Cf Hf 0 (nI T.length)) H := hP
  have hD : va_D A (pb_wM cI cJ m0 a1 l1 o1 c1 h1 Af Lf Of Cf Hf 0 (nI T.length)) := hD
  refine lv_aload_n hx hb dX1_after_17 rfl (lv_at hl 0 rfl) ?_
  refine va_get (D := D) (ci := 1) (v := .int 0) (C := RX1) (T := TX1) (N := 7) hx hb hts hinX1 hown hK hP 0 rfl rfl 0 (by decide) (hts (.fieldLink RX1 26 "PrefixBenchModel" "code" "I") (by decide +kernel)) (fun _ h9 => h9) rfl dX1_after_18 ?_
  refine lv_if_le (tgt := 26) hx hb dX1_after_21 (by decide) (fun q21 => ?_) (fun q21 => absurd (by decide) q21)
  refine lv_aload_n hx hb dX1_after_26 rfl (lv_at hl 0 rfl) ?_
  refine lv_iload_n hx hb dX1_after_27 rfl (lv_at hl 1 rfl) ?_
  refine lv_iload_n hx hb dX1_after_28 rfl (lv_at hl 2 rfl) ?_
  refine lv_bipush (v := 7) hx hb dX1_after_29 (by decide) ?_
  refine pb_callS (As := [.int (nI a), .int (nI k), .int 7]) (rest := [.ref m0]) ⟨hx, hb, hml, hown, hts⟩ (c_X1_rank a k 7 ha (by omega) (by decide)) (va_cwS 3 hts gX1_after_X1_rank rfl rfl rfl (by decide +kernel) ⟨Nat.le_of_ble_eq_true rfl, Nat.le_of_ble_eq_true rfl⟩) rfl rfl hl (Nat.le_of_ble_eq_true rfl) dX1_after_31 ⟨Nat.le_of_ble_eq_true rfl, Nat.le_of_ble_eq_true rfl⟩ ?_
  refine lv_lconst (v := 1) hx hb dX1_after_34 (by decide) ?_
  refine lv_ladd hx hb dX1_after_35 ?_
  refine pb_topl (z := lN ((pb_pre a k + 1) * 8)) (by rw [show (1 : Int64) = lN 1 from rfl, lN_add]; congr 1; omega) ?_
  refine pb_callV (As := [.long (lN ((pb_pre a k + 1) * 8))]) (rest := []) ⟨hx, hb, hml, hown, hts⟩ (c_X1_place hT hR ((pb_pre a k + 1) * 8) (by show (64 * a + k + 1) * 8 < _; omega)) (cwV 1 hts gX1_after_X1_place rfl rfl rfl (by decide +kernel) ⟨Nat.le_of_ble_eq_true rfl, Nat.le_of_ble_eq_true rfl⟩) hP hK (va_recv hK hP (ci := 1) (q0 := 0) rfl rfl) rfl rfl hl (Nat.le_of_ble_eq_true rfl) dX1_after_36 ⟨Nat.le_of_ble_eq_true rfl, Nat.le_of_ble_eq_true rfl⟩ ?_
  refine lv_istore_n (lv' := [(3, .int (nI (pb_lb T ((pb_pre a k + 1) * 8)))), (0, .ref m0), (1, .int (nI a)), (2, .int (nI k))]) hx hb dX1_after_39 rfl hl (by decide) rfl (fun ls hl => ?_)
  refine lv_iload_n hx hb dX1_after_40 rfl (lv_at hl 0 rfl) ?_
  refine lv_aload_n hx hb dX1_after_41 rfl (lv_at hl 1 rfl) ?_
  refine va_get (D := D) (ci := 1) (v := .int (nI T.length)) (C := RX1) (T := TX1) (N := 7) hx hb hts hinX1 hown hK hP 0 rfl rfl 1 (by decide) (hts (.fieldLink RX1 48 "PrefixBenchModel" "count" "I") (by decide +kernel)) (fun _ h9 => h9) rfl dX1_after_42 ?_
  refine lv_icmp_ne (tgt := 54) hx hb dX1_after_45 (by decide) (fun q45 => absurd q45 (fun z => z (by rw [show pb_lb T ((pb_pre a k + 1) * 8) = T.length by have := List.getElem?_eq_none_iff.mp hr1; have := pb_lb_le T ((pb_pre a k + 1) * 8); omega]))) (fun q45 => ?_)
  refine lv_ldc2 (v := (-1)) hx hb hown (hts (.constantLong RX1 75 (-1)) (by decide +kernel)) dX1_after_48 ?_
  refine lv_goto (tgt := 75) hx hb dX1_after_51 (by decide) ?_
  exact pb_wl hx hb hr hlocks hS dX1_after_75 (rfl) (pb_B_of hP hK hD)

set_option maxHeartbeats 4000000 in
set_option maxRecDepth 100000 in
theorem c_X1_after_s {T : List pb_Rt} (hT : pb_ok T) (hR : pb_rM T Af Lf Of Cf Hf) (a k : Nat) (ha : a < 2 ^ 32) (hk : k ≤ 32) (hg : a % 2 ^ (32 - k) = 0) {r : pb_Rt} (hr1 : T[pb_lb T ((pb_pre a k + 1) * 8)]? = some r) : pb_Wq l yX1_after wsX1_after 4 0 0 88 [.ref m0, .int (nI a), .int (nI k)] D (pb_ty cI cJ) (pb_wM cI cJ m0 a1 l1 o1 c1 h1 Af Lf Of Cf Hf co (nI T.length)) sz (some (.long (lN (r.1 / 8)))) (pb_B D (pb_ty cI cJ) (pb_wM cI cJ m0 a1 l1 o1 c1 h1 Af Lf Of Cf Hf 0 (nI T.length))) := by
  refine pb_ofW RX1 (by decide) rfl rfl (Nat.le_of_ble_eq_true rfl) (fun p e s m args below meth c ls A hx hb hml hr hlocks hown hts hP hK hD hS hA hl hin9 => ?_)
  have hinX1 : ∀ w ∈ wsX10, w ∈ wsX1_after := by decide +kernel
  have hl : lv_has ls 4 [(0, .ref m0), (1, .int (nI a)), (2, .int (nI k))] := hl
  have hP : va_P D vwCl (pb_wM cI cJ m0 a1 l1 o1 c1 h1 Af Lf Of Cf Hf co (nI T.length)) s.heap := hP
  have hD : va_D A (pb_wM cI cJ m0 a1 l1 o1 c1 h1 Af Lf Of Cf Hf co (nI T.length)) := hD
  have hcap := hR.1
  have hj := (List.getElem?_eq_some_iff.mp hr1).1
  have hkb := pb_key_lt hT (List.mem_of_getElem? hr1)
  have hgd := hT.2 r (List.mem_of_getElem? hr1)
  refine lv_aload_n hx hb dX1_after_0 rfl (lv_at hl 0 rfl) ?_
  refine lv_iload_n hx hb dX1_after_1 rfl (lv_at hl 1 rfl) ?_
  refine lv_iload_n hx hb dX1_after_2 rfl (lv_at hl 2 rfl) ?_
  refine pb_callS (As := [.int (nI a), .int (nI k)]) (rest := [.ref m0]) ⟨hx, hb, hml, hown, hts⟩ (c_X1_isPrefix_t a k ha hk hg) (va_cwS 2 hts gX1_after_X1_isPrefix rfl rfl rfl (by decide +kernel) ⟨Nat.le_of_ble_eq_true rfl, Nat.le_of_ble_eq_true rfl⟩) rfl rfl hl (Nat.le_of_ble_eq_true rfl) dX1_after_3 ⟨Nat.le_of_ble_eq_true rfl, Nat.le_of_ble_eq_true rfl⟩ ?_
  refine lv_if_eq (tgt := 13) hx hb dX1_after_6 (by decide) (fun q6 => absurd q6 (by decide)) (fun q6 => ?_)
  refine lv_iconst (v := 0) hx hb dX1_after_9 (by decide) ?_
  refine lv_goto (tgt := 14) hx hb dX1_after_10 (by decide) ?_
  refine va_put (D := D) (ci := 1) (v := .int 0) (ty := .int) (C := RX1) (T := TX1) (N := 7) hx hb hts hinX1 tyX1 tyX1_ok nmX1 hown hK hP hD hS 0 rfl rfl 0 (by decide) (hts (.fieldLink RX1 26 "PrefixBenchModel" "code" "I") (by decide +kernel)) (fun _ h9 => h9) rfl (by decide +kernel) rfl rfl (Nat.le_of_ble_eq_true rfl) dX1_after_14 (fun H locs hP hD hS => ?_)
  have hP : va_P D vwCl (pb_wM cI cJ m0 a1 l1 o1 c1 h1 Af Lf Of Cf Hf 0 (nI T.length)) H := hP
  have hD : va_D A (pb_wM cI cJ m0 a1 l1 o1 c1 h1 Af Lf Of Cf Hf 0 (nI T.length)) := hD
  refine lv_aload_n hx hb dX1_after_17 rfl (lv_at hl 0 rfl) ?_
  refine va_get (D := D) (ci := 1) (v := .int 0) (C := RX1) (T := TX1) (N := 7) hx hb hts hinX1 hown hK hP 0 rfl rfl 0 (by decide) (hts (.fieldLink RX1 26 "PrefixBenchModel" "code" "I") (by decide +kernel)) (fun _ h9 => h9) rfl dX1_after_18 ?_
  refine lv_if_le (tgt := 26) hx hb dX1_after_21 (by decide) (fun q21 => ?_) (fun q21 => absurd (by decide) q21)
  refine lv_aload_n hx hb dX1_after_26 rfl (lv_at hl 0 rfl) ?_
  refine lv_iload_n hx hb dX1_after_27 rfl (lv_at hl 1 rfl) ?_
  refine lv_iload_n hx hb dX1_after_28 rfl (lv_at hl 2 rfl) ?_
  refine lv_bipush (v := 7) hx hb dX1_after_29 (by decide) ?_
  refine pb_callS (As := [.int (nI a), .int (nI k), .int 7]) (rest := [.ref m0]) ⟨hx, hb, hml, hown, hts⟩ (c_X1_rank a k 7 ha (by omega) (by decide)) (va_cwS 3 hts gX1_after_X1_rank rfl rfl rfl (by decide +kernel) ⟨Nat.le_of_ble_eq_true rfl, Nat.le_of_ble_eq_true rfl⟩) rfl rfl hl (Nat.le_of_ble_eq_true rfl) dX1_after_31 ⟨Nat.le_of_ble_eq_true rfl, Nat.le_of_ble_eq_true rfl⟩ ?_
  refine lv_lconst (v := 1) hx hb dX1_after_34 (by decide) ?_
  refine lv_ladd hx hb dX1_after_35 ?_
  refine pb_topl (z := lN ((pb_pre a k + 1) * 8)) (by rw [show (1 : Int64) = lN 1 from rfl, lN_add]; congr 1; omega) ?_
  refine pb_callV (As := [.long (lN ((pb_pre a k + 1) * 8))]) (rest := []) ⟨hx, hb, hml, hown, hts⟩ (c_X1_place hT hR ((pb_pre a k + 1) * 8) (by show (64 * a + k + 1) * 8 < _; omega)) (cwV 1 hts gX1_after_X1_place rfl rfl rfl (by decide +kernel) ⟨Nat.le_of_ble_eq_true rfl, Nat.le_of_ble_eq_true rfl⟩) hP hK (va_recv hK hP (ci := 1) (q0 := 0) rfl rfl) rfl rfl hl (Nat.le_of_ble_eq_true rfl) dX1_after_36 ⟨Nat.le_of_ble_eq_true rfl, Nat.le_of_ble_eq_true rfl⟩ ?_
  refine lv_istore_n (lv' := [(3, .int (nI (pb_lb T ((pb_pre a k + 1) * 8)))), (0, .ref m0), (1, .int (nI a)), (2, .int (nI k))]) hx hb dX1_after_39 rfl hl (by decide) rfl (fun ls hl => ?_)
  refine lv_iload_n hx hb dX1_after_40 rfl (lv_at hl 0 rfl) ?_
  refine lv_aload_n hx hb dX1_after_41 rfl (lv_at hl 1 rfl) ?_
  refine va_get (D := D) (ci := 1) (v := .int (nI T.length)) (C := RX1) (T := TX1) (N := 7) hx hb hts hinX1 hown hK hP 0 rfl rfl 1 (by decide) (hts (.fieldLink RX1 48 "PrefixBenchModel" "count" "I") (by decide +kernel)) (fun _ h9 => h9) rfl dX1_after_42 ?_
  refine lv_icmp_ne (tgt := 54) hx hb dX1_after_45 (by decide) (fun q45 => ?_) (fun q45 => absurd q45 (fun z => absurd ((nI_eq (by omega) (by omega)).mp z) (by omega)))
  refine lv_ldc2 (v := 64) hx hb hown (hts (.constantLong RX1 36 64) (by decide +kernel)) dX1_after_54 ?_
  refine lv_aload_n hx hb dX1_after_57 rfl (lv_at hl 1 rfl) ?_
  refine va_get (D := D) (ci := 1) (v := .ref a1) (C := RX1) (T := TX1) (N := 7) hx hb hts hinX1 hown hK hP 0 rfl rfl 2 (by decide) (hts (.fieldLink RX1 7 "PrefixBenchModel" "address" "[I") (by decide +kernel)) (fun _ h9 => h9) rfl dX1_after_58 ?_
  refine lv_iload_n hx hb dX1_after_61 rfl (lv_at hl 0 rfl) ?_
  refine pb_iald hx hb hK hP 1 1 rfl rfl (pb_lb T ((pb_pre a k + 1) * 8)) (rfl) (⟨by omega, by decide⟩) dX1_after_62 ?_
  refine pb_topi (z := nI (r.1 / 512)) ((hR.2 _ _ hr1).1) ?_
  refine pb_callS (As := [.int (nI (r.1 / 512))]) (rest := [.long 64]) ⟨hx, hb, hml, hown, hts⟩ (c_X1_unsigned (r.1 / 512) hgd.1) (va_cwS 1 hts gX1_after_X1_unsigned rfl rfl rfl (by decide +kernel) ⟨Nat.le_of_ble_eq_true rfl, Nat.le_of_ble_eq_true rfl⟩) rfl rfl hl (Nat.le_of_ble_eq_true rfl) dX1_after_63 ⟨Nat.le_of_ble_eq_true rfl, Nat.le_of_ble_eq_true rfl⟩ ?_
  refine lv_lmul hx hb dX1_after_66 ?_
  refine lv_aload_n hx hb dX1_after_67 rfl (lv_at hl 1 rfl) ?_
  refine va_get (D := D) (ci := 1) (v := .ref l1) (C := RX1) (T := TX1) (N := 7) hx hb hts hinX1 hown hK hP 0 rfl rfl 3 (by decide) (hts (.fieldLink RX1 13 "PrefixBenchModel" "length" "[I") (by decide +kernel)) (fun _ h9 => h9) rfl dX1_after_68 ?_
  refine lv_iload_n hx hb dX1_after_71 rfl (lv_at hl 0 rfl) ?_
  refine pb_iald hx hb hK hP 2 1 rfl rfl (pb_lb T ((pb_pre a k + 1) * 8)) (rfl) (⟨by omega, by decide⟩) dX1_after_72 ?_
  refine pb_topi (z := nI (r.1 / 8 % 64)) ((hR.2 _ _ hr1).2.1) ?_
  refine lv_i2l hx hb dX1_after_73 rfl ?_
  refine lv_ladd hx hb dX1_after_74 ?_
  exact pb_wl hx hb hr hlocks hS dX1_after_75 (by rw [nI_l (show r.1 / 8 % 64 < 2 ^ 31 by omega), show (64 : Int64) = lN 64 from rfl, lN_mul, lN_add, show 64 * (r.1 / 512) + r.1 / 8 % 64 = r.1 / 8 by omega]) (pb_B_of hP hK hD)

set_option maxHeartbeats 4000000 in
set_option maxRecDepth 100000 in
theorem c_X1_after_bad (n9 xa xl : Int32) (hbad : ¬ pb_vp xa xl) : pb_Wq l yX1_after wsX1_after 4 0 0 88 [.ref m0, .int xa, .int xl] D (pb_ty cI cJ) (pb_wM cI cJ m0 a1 l1 o1 c1 h1 Af Lf Of Cf Hf co n9) sz (some (.long 0)) (pb_B D (pb_ty cI cJ) (pb_wM cI cJ m0 a1 l1 o1 c1 h1 Af Lf Of Cf Hf 1 n9)) := by
  refine pb_ofW RX1 (by decide) rfl rfl (Nat.le_of_ble_eq_true rfl) (fun p e s m args below meth c ls A hx hb hml hr hlocks hown hts hP hK hD hS hA hl hin9 => ?_)
  have hinX1 : ∀ w ∈ wsX10, w ∈ wsX1_after := by decide +kernel
  have hl : lv_has ls 4 [(0, .ref m0), (1, .int xa), (2, .int xl)] := hl
  have hP : va_P D vwCl (pb_wM cI cJ m0 a1 l1 o1 c1 h1 Af Lf Of Cf Hf co n9) s.heap := hP
  have hD : va_D A (pb_wM cI cJ m0 a1 l1 o1 c1 h1 Af Lf Of Cf Hf co n9) := hD
  refine lv_aload_n hx hb dX1_after_0 rfl (lv_at hl 0 rfl) ?_
  refine lv_iload_n hx hb dX1_after_1 rfl (lv_at hl 1 rfl) ?_
  refine lv_iload_n hx hb dX1_after_2 rfl (lv_at hl 2 rfl) ?_
  refine pb_callS (As := [.int xa, .int xl]) (rest := [.ref m0]) ⟨hx, hb, hml, hown, hts⟩ (c_X1_isPrefix_f xa xl hbad) (va_cwS 2 hts gX1_after_X1_isPrefix rfl rfl rfl (by decide +kernel) ⟨Nat.le_of_ble_eq_true rfl, Nat.le_of_ble_eq_true rfl⟩) rfl rfl hl (Nat.le_of_ble_eq_true rfl) dX1_after_3 ⟨Nat.le_of_ble_eq_true rfl, Nat.le_of_ble_eq_true rfl⟩ ?_
  refine lv_if_eq (tgt := 13) hx hb dX1_after_6 (by decide) (fun q6 => ?_) (fun q6 => absurd (rfl) q6)
  refine lv_iconst (v := 1) hx hb dX1_after_13 (by decide) ?_
  refine va_put (D := D) (ci := 1) (v := .int 1) (ty := .int) (C := RX1) (T := TX1) (N := 7) hx hb hts hinX1 tyX1 tyX1_ok nmX1 hown hK hP hD hS 0 rfl rfl 0 (by decide) (hts (.fieldLink RX1 26 "PrefixBenchModel" "code" "I") (by decide +kernel)) (fun _ h9 => h9) rfl (by decide +kernel) rfl rfl (Nat.le_of_ble_eq_true rfl) dX1_after_14 (fun H locs hP hD hS => ?_)
  have hP : va_P D vwCl (pb_wM cI cJ m0 a1 l1 o1 c1 h1 Af Lf Of Cf Hf 1 n9) H := hP
  have hD : va_D A (pb_wM cI cJ m0 a1 l1 o1 c1 h1 Af Lf Of Cf Hf 1 n9) := hD
  refine lv_aload_n hx hb dX1_after_17 rfl (lv_at hl 0 rfl) ?_
  refine va_get (D := D) (ci := 1) (v := .int 1) (C := RX1) (T := TX1) (N := 7) hx hb hts hinX1 hown hK hP 0 rfl rfl 0 (by decide) (hts (.fieldLink RX1 26 "PrefixBenchModel" "code" "I") (by decide +kernel)) (fun _ h9 => h9) rfl dX1_after_18 ?_
  refine lv_if_le (tgt := 26) hx hb dX1_after_21 (by decide) (fun q21 => absurd q21 (by decide)) (fun q21 => ?_)
  refine lv_lconst (v := 0) hx hb dX1_after_24 (by decide) ?_
  exact pb_wl hx hb hr hlocks hS dX1_after_25 (rfl) (pb_B_of hP hK hD)

set_option maxHeartbeats 4000000 in
set_option maxRecDepth 100000 in
theorem c_X1_routes (n9 : Int32) : pb_Wq l yX1_routes wsX1_routes 0 0 0 0 [.ref m0] D (pb_ty cI cJ) (pb_wM cI cJ m0 a1 l1 o1 c1 h1 Af Lf Of Cf Hf co n9) sz (some (.int n9)) (pb_B D (pb_ty cI cJ) (pb_wM cI cJ m0 a1 l1 o1 c1 h1 Af Lf Of Cf Hf 0 n9)) := by
  refine pb_ofW RX1 (by decide) rfl rfl (Nat.le_of_ble_eq_true rfl) (fun p e s m args below meth c ls A hx hb hml hr hlocks hown hts hP hK hD hS hA hl hin9 => ?_)
  have hinX1 : ∀ w ∈ wsX10, w ∈ wsX1_routes := by decide +kernel
  have hl : lv_has ls 1 [(0, .ref m0)] := hl
  have hP : va_P D vwCl (pb_wM cI cJ m0 a1 l1 o1 c1 h1 Af Lf Of Cf Hf co n9) s.heap := hP
  have hD : va_D A (pb_wM cI cJ m0 a1 l1 o1 c1 h1 Af Lf Of Cf Hf co n9) := hD
  refine lv_aload_n hx hb dX1_routes_0 rfl (lv_at hl 0 rfl) ?_
  refine lv_iconst (v := 0) hx hb dX1_routes_1 (by decide) ?_
  refine va_put (D := D) (ci := 1) (v := .int 0) (ty := .int) (C := RX1) (T := TX1) (N := 7) hx hb hts hinX1 tyX1 tyX1_ok nmX1 hown hK hP hD hS 0 rfl rfl 0 (by decide) (hts (.fieldLink RX1 26 "PrefixBenchModel" "code" "I") (by decide +kernel)) (fun _ h9 => h9) rfl (by decide +kernel) rfl rfl (Nat.le_of_ble_eq_true rfl) dX1_routes_2 (fun H locs hP hD hS => ?_)
  have hP : va_P D vwCl (pb_wM cI cJ m0 a1 l1 o1 c1 h1 Af Lf Of Cf Hf 0 n9) H := hP
  have hD : va_D A (pb_wM cI cJ m0 a1 l1 o1 c1 h1 Af Lf Of Cf Hf 0 n9) := hD
  refine lv_aload_n hx hb dX1_routes_5 rfl (lv_at hl 0 rfl) ?_
  refine va_get (D := D) (ci := 1) (v := .int n9) (C := RX1) (T := TX1) (N := 7) hx hb hts hinX1 hown hK hP 0 rfl rfl 1 (by decide) (hts (.fieldLink RX1 48 "PrefixBenchModel" "count" "I") (by decide +kernel)) (fun _ h9 => h9) rfl dX1_routes_6 ?_
  exact pb_wi hx hb hr hlocks hS dX1_routes_9 (rfl) (pb_B_of hP hK hD)

set_option maxHeartbeats 4000000 in
set_option maxRecDepth 100000 in
theorem c_X1_known {T : List pb_Rt} (hT : pb_ok T) (hR : pb_rM T Af Lf Of Cf Hf)  : pb_Wq l yX1_known wsX1_known 1 0 0 21 [.ref m0] D (pb_ty cI cJ) (pb_wM cI cJ m0 a1 l1 o1 c1 h1 Af Lf Of Cf Hf co (nI T.length)) sz (some (.int (nI (pb_cn T 0 T.length)))) (pb_B D (pb_ty cI cJ) (pb_wM cI cJ m0 a1 l1 o1 c1 h1 Af Lf Of Cf Hf 0 (nI T.length))) := by
  refine pb_ofW RX1 (by decide) rfl rfl (Nat.le_of_ble_eq_true rfl) (fun p e s m args below meth c ls A hx hb hml hr hlocks hown hts hP hK hD hS hA hl hin9 => ?_)
  have hinX1 : ∀ w ∈ wsX10, w ∈ wsX1_known := by decide +kernel
  have hl : lv_has ls 3 [(0, .ref m0)] := hl
  have hP : va_P D vwCl (pb_wM cI cJ m0 a1 l1 o1 c1 h1 Af Lf Of Cf Hf co (nI T.length)) s.heap := hP
  have hD : va_D A (pb_wM cI cJ m0 a1 l1 o1 c1 h1 Af Lf Of Cf Hf co (nI T.length)) := hD
  have hcap := hR.1
  refine lv_aload_n hx hb dX1_known_0 rfl (lv_at hl 0 rfl) ?_
  refine lv_iconst (v := 0) hx hb dX1_known_1 (by decide) ?_
  refine va_put (D := D) (ci := 1) (v := .int 0) (ty := .int) (C := RX1) (T := TX1) (N := 7) hx hb hts hinX1 tyX1 tyX1_ok nmX1 hown hK hP hD hS 0 rfl rfl 0 (by decide) (hts (.fieldLink RX1 26 "PrefixBenchModel" "code" "I") (by decide +kernel)) (fun _ h9 => h9) rfl (by decide +kernel) rfl rfl (Nat.le_of_ble_eq_true rfl) dX1_known_2 (fun H locs hP hD hS => ?_)
  have hP : va_P D vwCl (pb_wM cI cJ m0 a1 l1 o1 c1 h1 Af Lf Of Cf Hf 0 (nI T.length)) H := hP
  have hD : va_D A (pb_wM cI cJ m0 a1 l1 o1 c1 h1 Af Lf Of Cf Hf 0 (nI T.length)) := hD
  refine lv_iconst (v := 0) hx hb dX1_known_5 (by decide) ?_
  refine lv_istore_n (lv' := [(1, .int 0), (0, .ref m0)]) hx hb dX1_known_6 rfl hl (by decide) rfl (fun ls hl => ?_)
  refine lv_iconst (v := 0) hx hb dX1_known_7 (by decide) ?_
  refine lv_istore_n (lv' := [(2, .int 0), (1, .int 0), (0, .ref m0)]) hx hb dX1_known_8 rfl hl (by decide) rfl (fun ls hl => ?_)
  refine pb_loop (fun kk ls => ∃ j : Nat, j ≤ T.length ∧ T.length - j = kk ∧ lv_has ls 3 [(2, .int (nI j)), (1, .int (nI (pb_cn T 0 j))), (0, .ref m0)]) 9 [] (fun kk ls hI ih => ?_) (fun hL => ?_)
  · obtain ⟨j, hj, rfl, hl⟩ := hI
    refine lv_iload_n hx hb dX1_known_9 rfl (lv_at hl 0 rfl) ?_
    refine lv_aload_n hx hb dX1_known_10 rfl (lv_at hl 2 rfl) ?_
    refine va_get (D := D) (ci := 1) (v := .int (nI T.length)) (C := RX1) (T := TX1) (N := 7) hx hb hts hinX1 hown hK hP 0 rfl rfl 1 (by decide) (hts (.fieldLink RX1 48 "PrefixBenchModel" "count" "I") (by decide +kernel)) (fun _ h9 => h9) rfl dX1_known_11 ?_
    refine lv_icmp_ge (tgt := 39) hx hb dX1_known_14 (by decide) (fun q14 => ?_) (fun q14 => ?_)
    · have hw := (nI_leI (a := T.length) (b := j) (by omega) (by omega)).mp q14
      refine lv_iload_n hx hb dX1_known_39 rfl (lv_at hl 1 rfl) ?_
      exact pb_wi hx hb hr hlocks hS dX1_known_40 (by rw [show T.length = j by omega]) (pb_B_of hP hK hD)
    · have hw := mt (nI_leI (a := T.length) (b := j) (by omega) (by omega)).mpr q14
      refine lv_iload_n hx hb dX1_known_17 rfl (lv_at hl 1 rfl) ?_
      refine lv_aload_n hx hb dX1_known_18 rfl (lv_at hl 2 rfl) ?_
      refine lv_iload_n hx hb dX1_known_19 rfl (lv_at hl 0 rfl) ?_
      refine pb_callV (As := [.int (nI j)]) (rest := [.int (nI (pb_cn T 0 j))]) ⟨hx, hb, hml, hown, hts⟩ (c_X1_isMore hT hR j (by omega)) (cwV 1 hts gX1_known_X1_isMore rfl rfl rfl (by decide +kernel) ⟨Nat.le_of_ble_eq_true rfl, Nat.le_of_ble_eq_true rfl⟩) hP hK (va_recv hK hP (ci := 1) (q0 := 0) rfl rfl) rfl rfl hl (Nat.le_of_ble_eq_true rfl) dX1_known_20 ⟨Nat.le_of_ble_eq_true rfl, Nat.le_of_ble_eq_true rfl⟩ ?_
      refine lv_if_eq (tgt := 30) hx hb dX1_known_23 (by decide) (fun q23 => ?_) (fun q23 => ?_)
      · have hb9 : pb_bg T j = true := by
          rcases hz : pb_bg T j with _ | _
          · rw [hz] at q23; exact absurd q23 (by decide)
          · rfl
        refine lv_iconst (v := 1) hx hb dX1_known_30 (by decide) ?_
        refine lv_iadd hx hb dX1_known_31 ?_
        refine pb_topi (z := nI (pb_cn T 0 j + 1)) (nI_1 _) ?_
        refine lv_istore_n (lv' := [(1, .int (nI (pb_cn T 0 j + 1))), (2, .int (nI j)), (0, .ref m0)]) hx hb dX1_known_32 rfl hl (by decide) rfl (fun ls hl => ?_)
        refine lv_iinc (v := nI (j + 1)) (lv' := [(2, .int (nI (j + 1))), (1, .int (nI (pb_cn T 0 j + 1))), (0, .ref m0)]) hx hb dX1_known_33 hl (k := 1) rfl (nI_1 _) (by decide) rfl (fun ls hl => ?_)
        refine lv_goto (tgt := 9) hx hb dX1_known_36 (by decide) ?_
        exact ih _ _ (by omega) ⟨j + 1, by omega, rfl, by rw [pb_cn_t (f := 0) (d := j) (by rw [Nat.zero_add]; exact hb9)]; exact lv_sub hl [0, 1, 2] rfl⟩
      · have hb9 : pb_bg T j = false := pb_bgT (fun z => q23 (by rw [if_pos z]))
        refine lv_iconst (v := 0) hx hb dX1_known_26 (by decide) ?_
        refine lv_goto (tgt := 31) hx hb dX1_known_27 (by decide) ?_
        refine lv_iadd hx hb dX1_known_31 ?_
        refine pb_topi (z := nI (pb_cn T 0 j)) (Int32.add_zero _) ?_
        refine lv_istore_n (lv' := [(1, .int (nI (pb_cn T 0 j))), (2, .int (nI j)), (0, .ref m0)]) hx hb dX1_known_32 rfl hl (by decide) rfl (fun ls hl => ?_)
        refine lv_iinc (v := nI (j + 1)) (lv' := [(2, .int (nI (j + 1))), (1, .int (nI (pb_cn T 0 j))), (0, .ref m0)]) hx hb dX1_known_33 hl (k := 1) rfl (nI_1 _) (by decide) rfl (fun ls hl => ?_)
        refine lv_goto (tgt := 9) hx hb dX1_known_36 (by decide) ?_
        exact ih _ _ (by omega) ⟨j + 1, by omega, rfl, by rw [pb_cn_f (f := 0) (d := j) (by rw [Nat.zero_add]; exact hb9)]; exact lv_sub hl [0, 1, 2] rfl⟩
  · exact hL _ _ ⟨0, Nat.zero_le _, rfl, lv_sub hl [0, 1, 2] rfl⟩

/-- how many of the first places begin a prefix that a prefix has -/
def pb_wt (T : List pb_Rt) (a k j : Nat) : Nat := fb_ct (fun i => pb_bg T i && (decide (k ≤ pb_ln T i) && decide (pb_cl (pb_k T i / 512) k = pb_cl a k))) j
theorem pb_wt_t {T : List pb_Rt} {a k j : Nat} (h : (pb_bg T j && (decide (k ≤ pb_ln T j) && decide (pb_cl (pb_k T j / 512) k = pb_cl a k))) = true) : pb_wt T a k (j + 1) = pb_wt T a k j + 1 := by unfold pb_wt; rw [fb_ct_succ, if_pos h]
theorem pb_wt_f {T : List pb_Rt} {a k j : Nat} (h : (pb_bg T j && (decide (k ≤ pb_ln T j) && decide (pb_cl (pb_k T j / 512) k = pb_cl a k))) = false) : pb_wt T a k (j + 1) = pb_wt T a k j := by unfold pb_wt; rw [fb_ct_succ, h]; simp
theorem pb_wt_le (T : List pb_Rt) (a k j : Nat) : pb_wt T a k j ≤ j := fb_ct_le _ j
set_option maxHeartbeats 4000000 in
set_option maxRecDepth 100000 in
theorem c_X1_within {T : List pb_Rt} (hT : pb_ok T) (hR : pb_rM T Af Lf Of Cf Hf) (a k : Nat) (ha : a < 2 ^ 32) (hk : k ≤ 32) (hg : a % 2 ^ (32 - k) = 0) : pb_Wq l yX1_within wsX1_within 2 0 0 41 [.ref m0, .int (nI a), .int (nI k)] D (pb_ty cI cJ) (pb_wM cI cJ m0 a1 l1 o1 c1 h1 Af Lf Of Cf Hf co (nI T.length)) sz (some (.int (nI (pb_wt T a k T.length)))) (pb_B D (pb_ty cI cJ) (pb_wM cI cJ m0 a1 l1 o1 c1 h1 Af Lf Of Cf Hf 0 (nI T.length))) := by
  refine pb_ofW RX1 (by decide) rfl rfl (Nat.le_of_ble_eq_true rfl) (fun p e s m args below meth c ls A hx hb hml hr hlocks hown hts hP hK hD hS hA hl hin9 => ?_)
  have hinX1 : ∀ w ∈ wsX10, w ∈ wsX1_within := by decide +kernel
  have hl : lv_has ls 5 [(0, .ref m0), (1, .int (nI a)), (2, .int (nI k))] := hl
  have hP : va_P D vwCl (pb_wM cI cJ m0 a1 l1 o1 c1 h1 Af Lf Of Cf Hf co (nI T.length)) s.heap := hP
  have hD : va_D A (pb_wM cI cJ m0 a1 l1 o1 c1 h1 Af Lf Of Cf Hf co (nI T.length)) := hD
  have hcap := hR.1
  refine lv_aload_n hx hb dX1_within_0 rfl (lv_at hl 0 rfl) ?_
  refine lv_iload_n hx hb dX1_within_1 rfl (lv_at hl 1 rfl) ?_
  refine lv_iload_n hx hb dX1_within_2 rfl (lv_at hl 2 rfl) ?_
  refine pb_callS (As := [.int (nI a), .int (nI k)]) (rest := [.ref m0]) ⟨hx, hb, hml, hown, hts⟩ (c_X1_isPrefix_t a k ha hk hg) (va_cwS 2 hts gX1_within_X1_isPrefix rfl rfl rfl (by decide +kernel) ⟨Nat.le_of_ble_eq_true rfl, Nat.le_of_ble_eq_true rfl⟩) rfl rfl hl (Nat.le_of_ble_eq_true rfl) dX1_within_3 ⟨Nat.le_of_ble_eq_true rfl, Nat.le_of_ble_eq_true rfl⟩ ?_
  refine lv_if_eq (tgt := 13) hx hb dX1_within_6 (by decide) (fun q6 => absurd q6 (by decide)) (fun q6 => ?_)
  refine lv_iconst (v := 0) hx hb dX1_within_9 (by decide) ?_
  refine lv_goto (tgt := 14) hx hb dX1_within_10 (by decide) ?_
  refine va_put (D := D) (ci := 1) (v := .int 0) (ty := .int) (C := RX1) (T := TX1) (N := 7) hx hb hts hinX1 tyX1 tyX1_ok nmX1 hown hK hP hD hS 0 rfl rfl 0 (by decide) (hts (.fieldLink RX1 26 "PrefixBenchModel" "code" "I") (by decide +kernel)) (fun _ h9 => h9) rfl (by decide +kernel) rfl rfl (Nat.le_of_ble_eq_true rfl) dX1_within_14 (fun H locs hP hD hS => ?_)
  have hP : va_P D vwCl (pb_wM cI cJ m0 a1 l1 o1 c1 h1 Af Lf Of Cf Hf 0 (nI T.length)) H := hP
  have hD : va_D A (pb_wM cI cJ m0 a1 l1 o1 c1 h1 Af Lf Of Cf Hf 0 (nI T.length)) := hD
  refine lv_iconst (v := 0) hx hb dX1_within_17 (by decide) ?_
  refine lv_istore_n (lv' := [(3, .int 0), (0, .ref m0), (1, .int (nI a)), (2, .int (nI k))]) hx hb dX1_within_18 rfl hl (by decide) rfl (fun ls hl => ?_)
  refine lv_iconst (v := 0) hx hb dX1_within_19 (by decide) ?_
  refine lv_istore (lv' := [(4, .int 0), (3, .int 0), (0, .ref m0), (1, .int (nI a)), (2, .int (nI k))]) hx hb dX1_within_20 hl (by decide) rfl (fun ls hl => ?_)
  refine pb_loop (fun kk ls => ∃ j : Nat, j ≤ T.length ∧ T.length - j = kk ∧ lv_has ls 5 [(4, .int (nI j)), (3, .int (nI (pb_wt T a k j))), (0, .ref m0), (1, .int (nI a)), (2, .int (nI k))]) 22 [] (fun kk ls hI ih => ?_) (fun hL => ?_)
  · obtain ⟨j, hj, rfl, hl⟩ := hI
    refine lv_iload hx hb dX1_within_22 (lv_at hl 0 rfl) ?_
    refine lv_aload_n hx hb dX1_within_24 rfl (lv_at hl 2 rfl) ?_
    refine va_get (D := D) (ci := 1) (v := .int (nI T.length)) (C := RX1) (T := TX1) (N := 7) hx hb hts hinX1 hown hK hP 0 rfl rfl 1 (by decide) (hts (.fieldLink RX1 48 "PrefixBenchModel" "count" "I") (by decide +kernel)) (fun _ h9 => h9) rfl dX1_within_25 ?_
    refine lv_icmp_ge (tgt := 89) hx hb dX1_within_28 (by decide) (fun q28 => ?_) (fun q28 => ?_)
    · have hw := (nI_leI (a := T.length) (b := j) (by omega) (by omega)).mp q28
      refine lv_iload_n hx hb dX1_within_89 rfl (lv_at hl 1 rfl) ?_
      exact pb_wi hx hb hr hlocks hS dX1_within_90 (by rw [show T.length = j by omega]) (pb_B_of hP hK hD)
    · have hw := mt (nI_leI (a := T.length) (b := j) (by omega) (by omega)).mpr q28
      refine lv_aload_n hx hb dX1_within_31 rfl (lv_at hl 2 rfl) ?_
      refine va_get (D := D) (ci := 1) (v := .int 0) (C := RX1) (T := TX1) (N := 7) hx hb hts hinX1 hown hK hP 0 rfl rfl 0 (by decide) (hts (.fieldLink RX1 26 "PrefixBenchModel" "code" "I") (by decide +kernel)) (fun _ h9 => h9) rfl dX1_within_32 ?_
      refine lv_if_ne (tgt := 89) hx hb dX1_within_35 (by decide) (fun q35 => absurd q35 (fun z => z rfl)) (fun q35 => ?_)
      refine lv_iload_n hx hb dX1_within_38 rfl (lv_at hl 1 rfl) ?_
      refine lv_aload_n hx hb dX1_within_39 rfl (lv_at hl 2 rfl) ?_
      obtain ⟨rj, hrj, mrj⟩ := pb_get (T := T) (j := j) (by omega)
      have krj := pb_key_lt hT mrj
      have hgd := hT.2 rj mrj
      have hkj : pb_k T j = rj.1 := pb_k_of hrj
      have hlj : pb_ln T j = rj.1 / 8 % 64 := pb_ln_of hrj
      have hxc := pb_xor_cl (a := rj.1 / 512) (b := a) (k := k) hgd.1 ha hk
      refine lv_iload hx hb dX1_within_40 (lv_at hl 0 rfl) ?_
      refine pb_callV (As := [.int (nI j)]) (rest := [.int (nI (pb_wt T a k j))]) ⟨hx, hb, hml, hown, hts⟩ (c_X1_isMore hT hR j (by omega)) (cwV 1 hts gX1_within_X1_isMore rfl rfl rfl (by decide +kernel) ⟨Nat.le_of_ble_eq_true rfl, Nat.le_of_ble_eq_true rfl⟩) hP hK (va_recv hK hP (ci := 1) (q0 := 0) rfl rfl) rfl rfl hl (Nat.le_of_ble_eq_true rfl) dX1_within_42 ⟨Nat.le_of_ble_eq_true rfl, Nat.le_of_ble_eq_true rfl⟩ ?_
      refine lv_if_ne (tgt := 80) hx hb dX1_within_45 (by decide) (fun q45 => ?_) (fun q45 => ?_)
      · have hb9 : (pb_bg T j && (decide (k ≤ pb_ln T j) && decide (pb_cl (pb_k T j / 512) k = pb_cl a k))) = false := by
          rw [show pb_bg T j = false from pb_bgT (fun z => q45 (by rw [if_pos z]))]; rfl
        refine lv_iconst (v := 0) hx hb dX1_within_80 (by decide) ?_
        refine lv_iadd hx hb dX1_within_81 ?_
        refine pb_topi (z := nI (pb_wt T a k j)) (Int32.add_zero _) ?_
        refine lv_istore_n (lv' := [(3, .int (nI (pb_wt T a k j))), (4, .int (nI j)), (0, .ref m0), (1, .int (nI a)), (2, .int (nI k))]) hx hb dX1_within_82 rfl hl (by decide) rfl (fun ls hl => ?_)
        refine lv_iinc (v := nI (j + 1)) (lv' := [(4, .int (nI (j + 1))), (3, .int (nI (pb_wt T a k j))), (0, .ref m0), (1, .int (nI a)), (2, .int (nI k))]) hx hb dX1_within_83 hl (k := 1) rfl (nI_1 _) (by decide) rfl (fun ls hl => ?_)
        refine lv_goto (tgt := 22) hx hb dX1_within_86 (by decide) ?_
        exact ih _ _ (by omega) ⟨j + 1, by omega, rfl, by rw [pb_wt_f hb9]; exact lv_sub hl [0, 1, 2, 3, 4] rfl⟩
      · have hbg : pb_bg T j = true := by
          rcases hz : pb_bg T j with _ | _
          · rw [hz] at q45; exact absurd q45 (by decide)
          · rfl
        refine lv_aload_n hx hb dX1_within_48 rfl (lv_at hl 2 rfl) ?_
        refine va_get (D := D) (ci := 1) (v := .ref l1) (C := RX1) (T := TX1) (N := 7) hx hb hts hinX1 hown hK hP 0 rfl rfl 3 (by decide) (hts (.fieldLink RX1 13 "PrefixBenchModel" "length" "[I") (by decide +kernel)) (fun _ h9 => h9) rfl dX1_within_49 ?_
        refine lv_iload hx hb dX1_within_52 (lv_at hl 0 rfl) ?_
        refine pb_iald hx hb hK hP 2 1 rfl rfl j (rfl) (⟨by omega, by decide⟩) dX1_within_54 ?_
        refine pb_topi (z := nI (rj.1 / 8 % 64)) ((hR.2 _ _ hrj).2.1) ?_
        refine lv_iload_n hx hb dX1_within_55 rfl (lv_at hl 4 rfl) ?_
        refine lv_icmp_lt (tgt := 80) hx hb dX1_within_56 (by decide) (fun q56 => ?_) (fun q56 => ?_)
        · have hw2 := (nI_ltI (a := rj.1 / 8 % 64) (b := k) (by omega) (by omega)).mp q56
          have hb9 : (pb_bg T j && (decide (k ≤ pb_ln T j) && decide (pb_cl (pb_k T j / 512) k = pb_cl a k))) = false := by
            rw [hlj, show decide (k ≤ rj.1 / 8 % 64) = false from decide_eq_false (by omega), Bool.false_and, Bool.and_false]
          refine lv_iconst (v := 0) hx hb dX1_within_80 (by decide) ?_
          refine lv_iadd hx hb dX1_within_81 ?_
          refine pb_topi (z := nI (pb_wt T a k j)) (Int32.add_zero _) ?_
          refine lv_istore_n (lv' := [(3, .int (nI (pb_wt T a k j))), (4, .int (nI j)), (0, .ref m0), (1, .int (nI a)), (2, .int (nI k))]) hx hb dX1_within_82 rfl hl (by decide) rfl (fun ls hl => ?_)
          refine lv_iinc (v := nI (j + 1)) (lv' := [(4, .int (nI (j + 1))), (3, .int (nI (pb_wt T a k j))), (0, .ref m0), (1, .int (nI a)), (2, .int (nI k))]) hx hb dX1_within_83 hl (k := 1) rfl (nI_1 _) (by decide) rfl (fun ls hl => ?_)
          refine lv_goto (tgt := 22) hx hb dX1_within_86 (by decide) ?_
          exact ih _ _ (by omega) ⟨j + 1, by omega, rfl, by rw [pb_wt_f hb9]; exact lv_sub hl [0, 1, 2, 3, 4] rfl⟩
        · have hw2 := mt (nI_ltI (a := rj.1 / 8 % 64) (b := k) (by omega) (by omega)).mpr q56
          refine lv_aload_n hx hb dX1_within_59 rfl (lv_at hl 2 rfl) ?_
          refine va_get (D := D) (ci := 1) (v := .ref a1) (C := RX1) (T := TX1) (N := 7) hx hb hts hinX1 hown hK hP 0 rfl rfl 2 (by decide) (hts (.fieldLink RX1 7 "PrefixBenchModel" "address" "[I") (by decide +kernel)) (fun _ h9 => h9) rfl dX1_within_60 ?_
          refine lv_iload hx hb dX1_within_63 (lv_at hl 0 rfl) ?_
          refine pb_iald hx hb hK hP 1 1 rfl rfl j (rfl) (⟨by omega, by decide⟩) dX1_within_65 ?_
          refine pb_topi (z := nI (rj.1 / 512)) ((hR.2 _ _ hrj).1) ?_
          refine lv_iload_n hx hb dX1_within_66 rfl (lv_at hl 3 rfl) ?_
          refine lv_ixor hx hb dX1_within_67 ?_
          refine lv_iload_n hx hb dX1_within_68 rfl (lv_at hl 4 rfl) ?_
          refine pb_callS (As := [.int (nI k)]) (rest := [.int (nI (rj.1 / 512) ^^^ nI a), .int (nI (pb_wt T a k j))]) ⟨hx, hb, hml, hown, hts⟩ (c_X1_mask k (by omega)) (va_cwS 1 hts gX1_within_X1_mask rfl rfl rfl (by decide +kernel) ⟨Nat.le_of_ble_eq_true rfl, Nat.le_of_ble_eq_true rfl⟩) rfl rfl hl (Nat.le_of_ble_eq_true rfl) dX1_within_69 ⟨Nat.le_of_ble_eq_true rfl, Nat.le_of_ble_eq_true rfl⟩ ?_
          refine lv_iand hx hb dX1_within_72 ?_
          refine lv_if_ne (tgt := 80) hx hb dX1_within_73 (by decide) (fun q73 => ?_) (fun q73 => ?_)
          · have hb9 : (pb_bg T j && (decide (k ≤ pb_ln T j) && decide (pb_cl (pb_k T j / 512) k = pb_cl a k))) = false := by
              rw [hkj, show decide (pb_cl (rj.1 / 512) k = pb_cl a k) = false from decide_eq_false (fun z => q73 (hxc.mpr z)), Bool.and_false, Bool.and_false]
            refine lv_iconst (v := 0) hx hb dX1_within_80 (by decide) ?_
            refine lv_iadd hx hb dX1_within_81 ?_
            refine pb_topi (z := nI (pb_wt T a k j)) (Int32.add_zero _) ?_
            refine lv_istore_n (lv' := [(3, .int (nI (pb_wt T a k j))), (4, .int (nI j)), (0, .ref m0), (1, .int (nI a)), (2, .int (nI k))]) hx hb dX1_within_82 rfl hl (by decide) rfl (fun ls hl => ?_)
            refine lv_iinc (v := nI (j + 1)) (lv' := [(4, .int (nI (j + 1))), (3, .int (nI (pb_wt T a k j))), (0, .ref m0), (1, .int (nI a)), (2, .int (nI k))]) hx hb dX1_within_83 hl (k := 1) rfl (nI_1 _) (by decide) rfl (fun ls hl => ?_)
            refine lv_goto (tgt := 22) hx hb dX1_within_86 (by decide) ?_
            exact ih _ _ (by omega) ⟨j + 1, by omega, rfl, by rw [pb_wt_f hb9]; exact lv_sub hl [0, 1, 2, 3, 4] rfl⟩
          · have hb9 : (pb_bg T j && (decide (k ≤ pb_ln T j) && decide (pb_cl (pb_k T j / 512) k = pb_cl a k))) = true := by
              rw [hbg, hlj, hkj, decide_eq_true (show k ≤ rj.1 / 8 % 64 by omega), decide_eq_true (hxc.mp q73)]; rfl
            refine lv_iconst (v := 1) hx hb dX1_within_76 (by decide) ?_
            refine lv_goto (tgt := 81) hx hb dX1_within_77 (by decide) ?_
            refine lv_iadd hx hb dX1_within_81 ?_
            refine pb_topi (z := nI (pb_wt T a k j + 1)) (nI_1 _) ?_
            refine lv_istore_n (lv' := [(3, .int (nI (pb_wt T a k j + 1))), (4, .int (nI j)), (0, .ref m0), (1, .int (nI a)), (2, .int (nI k))]) hx hb dX1_within_82 rfl hl (by decide) rfl (fun ls hl => ?_)
            refine lv_iinc (v := nI (j + 1)) (lv' := [(4, .int (nI (j + 1))), (3, .int (nI (pb_wt T a k j + 1))), (0, .ref m0), (1, .int (nI a)), (2, .int (nI k))]) hx hb dX1_within_83 hl (k := 1) rfl (nI_1 _) (by decide) rfl (fun ls hl => ?_)
            refine lv_goto (tgt := 22) hx hb dX1_within_86 (by decide) ?_
            exact ih _ _ (by omega) ⟨j + 1, by omega, rfl, by rw [pb_wt_t hb9]; exact lv_sub hl [0, 1, 2, 3, 4] rfl⟩
  · exact hL _ _ ⟨0, Nat.zero_le _, rfl, lv_sub hl [0, 1, 2, 3, 4] rfl⟩

set_option maxHeartbeats 4000000 in
set_option maxRecDepth 100000 in
theorem c_X1_within_bad (n9 xa xl : Int32) (hbad : ¬ pb_vp xa xl) : pb_Wq l yX1_within wsX1_within 2 0 0 41 [.ref m0, .int xa, .int xl] D (pb_ty cI cJ) (pb_wM cI cJ m0 a1 l1 o1 c1 h1 Af Lf Of Cf Hf co n9) sz (some (.int 0)) (pb_B D (pb_ty cI cJ) (pb_wM cI cJ m0 a1 l1 o1 c1 h1 Af Lf Of Cf Hf 1 n9)) := by
  refine pb_ofW RX1 (by decide) rfl rfl (Nat.le_of_ble_eq_true rfl) (fun p e s m args below meth c ls A hx hb hml hr hlocks hown hts hP hK hD hS hA hl hin9 => ?_)
  have hinX1 : ∀ w ∈ wsX10, w ∈ wsX1_within := by decide +kernel
  have hl : lv_has ls 5 [(0, .ref m0), (1, .int xa), (2, .int xl)] := hl
  have hP : va_P D vwCl (pb_wM cI cJ m0 a1 l1 o1 c1 h1 Af Lf Of Cf Hf co n9) s.heap := hP
  have hD : va_D A (pb_wM cI cJ m0 a1 l1 o1 c1 h1 Af Lf Of Cf Hf co n9) := hD
  refine lv_aload_n hx hb dX1_within_0 rfl (lv_at hl 0 rfl) ?_
  refine lv_iload_n hx hb dX1_within_1 rfl (lv_at hl 1 rfl) ?_
  refine lv_iload_n hx hb dX1_within_2 rfl (lv_at hl 2 rfl) ?_
  refine pb_callS (As := [.int xa, .int xl]) (rest := [.ref m0]) ⟨hx, hb, hml, hown, hts⟩ (c_X1_isPrefix_f xa xl hbad) (va_cwS 2 hts gX1_within_X1_isPrefix rfl rfl rfl (by decide +kernel) ⟨Nat.le_of_ble_eq_true rfl, Nat.le_of_ble_eq_true rfl⟩) rfl rfl hl (Nat.le_of_ble_eq_true rfl) dX1_within_3 ⟨Nat.le_of_ble_eq_true rfl, Nat.le_of_ble_eq_true rfl⟩ ?_
  refine lv_if_eq (tgt := 13) hx hb dX1_within_6 (by decide) (fun q6 => ?_) (fun q6 => absurd (rfl) q6)
  refine lv_iconst (v := 1) hx hb dX1_within_13 (by decide) ?_
  refine va_put (D := D) (ci := 1) (v := .int 1) (ty := .int) (C := RX1) (T := TX1) (N := 7) hx hb hts hinX1 tyX1 tyX1_ok nmX1 hown hK hP hD hS 0 rfl rfl 0 (by decide) (hts (.fieldLink RX1 26 "PrefixBenchModel" "code" "I") (by decide +kernel)) (fun _ h9 => h9) rfl (by decide +kernel) rfl rfl (Nat.le_of_ble_eq_true rfl) dX1_within_14 (fun H locs hP hD hS => ?_)
  have hP : va_P D vwCl (pb_wM cI cJ m0 a1 l1 o1 c1 h1 Af Lf Of Cf Hf 1 n9) H := hP
  have hD : va_D A (pb_wM cI cJ m0 a1 l1 o1 c1 h1 Af Lf Of Cf Hf 1 n9) := hD
  refine lv_iconst (v := 0) hx hb dX1_within_17 (by decide) ?_
  refine lv_istore_n (lv' := [(3, .int 0), (0, .ref m0), (1, .int xa), (2, .int xl)]) hx hb dX1_within_18 rfl hl (by decide) rfl (fun ls hl => ?_)
  refine lv_iconst (v := 0) hx hb dX1_within_19 (by decide) ?_
  refine lv_istore (lv' := [(4, .int 0), (3, .int 0), (0, .ref m0), (1, .int xa), (2, .int xl)]) hx hb dX1_within_20 hl (by decide) rfl (fun ls hl => ?_)
  refine lv_iload hx hb dX1_within_22 (lv_at hl 0 rfl) ?_
  refine lv_aload_n hx hb dX1_within_24 rfl (lv_at hl 2 rfl) ?_
  refine va_get (D := D) (ci := 1) (v := .int n9) (C := RX1) (T := TX1) (N := 7) hx hb hts hinX1 hown hK hP 0 rfl rfl 1 (by decide) (hts (.fieldLink RX1 48 "PrefixBenchModel" "count" "I") (by decide +kernel)) (fun _ h9 => h9) rfl dX1_within_25 ?_
  refine lv_icmp_ge (tgt := 89) hx hb dX1_within_28 (by decide) (fun q28 => ?_) (fun q28 => ?_)
  · refine lv_iload_n hx hb dX1_within_89 rfl (lv_at hl 1 rfl) ?_
    exact pb_wi hx hb hr hlocks hS dX1_within_90 (rfl) (pb_B_of hP hK hD)
  · refine lv_aload_n hx hb dX1_within_31 rfl (lv_at hl 2 rfl) ?_
    refine va_get (D := D) (ci := 1) (v := .int 1) (C := RX1) (T := TX1) (N := 7) hx hb hts hinX1 hown hK hP 0 rfl rfl 0 (by decide) (hts (.fieldLink RX1 26 "PrefixBenchModel" "code" "I") (by decide +kernel)) (fun _ h9 => h9) rfl dX1_within_32 ?_
    refine lv_if_ne (tgt := 89) hx hb dX1_within_35 (by decide) (fun q35 => ?_) (fun q35 => absurd q35 (by decide))
    refine lv_iload_n hx hb dX1_within_89 rfl (lv_at hl 1 rfl) ?_
    exact pb_wi hx hb hr hlocks hS dX1_within_90 (rfl) (pb_B_of hP hK hD)

theorem pb_xor_mk {x mz : Nat} (hx : x < 2 ^ 32) (hm : mz ≤ 32) : (nI x &&& pb_mk mz) = 0 ↔ mz ≤ pb_nz x := by
  rw [pb_mk_and hx hm, pb_nz_iff hx hm]
  have hc := pb_cl_lt (k := mz) hx
  have hp := pb_pow_pos mz
  have key : pb_cl x mz = 0 ↔ x < 2 ^ (32 - mz) := by
    unfold pb_cl
    constructor
    · intro h
      rcases Nat.mul_eq_zero.mp h with h | h
      · rcases Nat.lt_or_ge x (2 ^ (32 - mz)) with z | z
        · exact z
        · have := Nat.div_pos z hp
          omega
      · omega
    · intro h
      rw [Nat.div_eq_of_lt h, Nat.zero_mul]
  rw [← key]
  constructor
  · intro h
    have := congrArg pb_u h
    rw [pb_u_of hc] at this
    exact this
  · intro h; rw [h]; rfl
theorem pb_xor_nz {x y mz : Nat} (hx : x < 2 ^ 32) (hy : y < 2 ^ 32) (hm : mz ≤ 32) : pb_cl x mz = pb_cl y mz ↔ mz ≤ pb_nz (x ^^^ y) := by
  rw [← pb_xor_cl hx hy hm, nx_xor, pb_xor_mk (Nat.xor_lt_two_pow hx hy) hm]
theorem pb_xor_comm (x y : Nat) : x ^^^ y = y ^^^ x := by
  apply Nat.eq_of_testBit_eq
  intro i
  rw [Nat.testBit_xor, Nat.testBit_xor, Bool.xor_comm]
/-- two neighbours part at a prefix that isn't known, as the reference asks it -/
theorem pb_pu_iff {T : List pb_Rt} (hT : pb_ok T) {ry rz : pb_Rt} (gy : pb_good ry) (gz : pb_good rz) : pb_pu T (ry.1 / 8) (rz.1 / 8) = true ↔ ¬ ry.1 / 512 = pb_cl (rz.1 / 512) (ry.1 / 8 % 64) ∧ pb_kn T (pb_pre (pb_cl (rz.1 / 512) (pb_nz (rz.1 / 512 ^^^ ry.1 / 512))) (pb_nz (rz.1 / 512 ^^^ ry.1 / 512))) = false := by
  have e1 : ry.1 / 8 / 64 = ry.1 / 512 := by omega
  have e2 : rz.1 / 8 / 64 = rz.1 / 512 := by omega
  unfold pb_pu
  rw [e1, e2, pb_xor_comm (ry.1 / 512) (rz.1 / 512), decide_eq_true_iff]
  have hz := pb_nz_lt (rz.1 / 512 ^^^ ry.1 / 512)
  have h1 := pb_xor_nz (mz := ry.1 / 8 % 64) gz.1 gy.1 gy.2.1
  have h2 := (pb_xor_nz (mz := pb_nz (rz.1 / 512 ^^^ ry.1 / 512)) gz.1 gy.1 (by omega)).mpr (Nat.le_refl _)
  rw [pb_cl_self gy.2.2.1] at h1
  rw [h2]
  constructor
  · rintro ⟨z1, z2⟩
    exact ⟨fun z => by have := h1.mp z.symm; omega, z2⟩
  · rintro ⟨z1, z2⟩
    refine ⟨?_, z2⟩
    rcases Nat.lt_or_ge (pb_nz (rz.1 / 512 ^^^ ry.1 / 512)) (ry.1 / 8 % 64) with z | z
    · exact z
    · exact absurd (h1.mpr z).symm z1
set_option maxHeartbeats 4000000 in
set_option maxRecDepth 100000 in
theorem c_X1_nodes {T : List pb_Rt} (hT : pb_ok T) (hR : pb_rM T Af Lf Of Cf Hf)  : pb_Wq l yX1_nodes wsX1_nodes 5 0 0 111 [.ref m0] D (pb_ty cI cJ) (pb_wM cI cJ m0 a1 l1 o1 c1 h1 Af Lf Of Cf Hf co (nI T.length)) sz (some (.int (nI (pb_nd T T.length)))) (pb_B D (pb_ty cI cJ) (pb_wM cI cJ m0 a1 l1 o1 c1 h1 Af Lf Of Cf Hf 0 (nI T.length))) := by
  refine pb_ofW RX1 (by decide) rfl rfl (Nat.le_of_ble_eq_true rfl) (fun p e s m args below meth c ls A hx hb hml hr hlocks hown hts hP hK hD hS hA hl hin9 => ?_)
  have hinX1 : ∀ w ∈ wsX10, w ∈ wsX1_nodes := by decide +kernel
  have hl : lv_has ls 4 [(0, .ref m0)] := hl
  have hP : va_P D vwCl (pb_wM cI cJ m0 a1 l1 o1 c1 h1 Af Lf Of Cf Hf co (nI T.length)) s.heap := hP
  have hD : va_D A (pb_wM cI cJ m0 a1 l1 o1 c1 h1 Af Lf Of Cf Hf co (nI T.length)) := hD
  have hcap := hR.1
  refine lv_aload_n hx hb dX1_nodes_0 rfl (lv_at hl 0 rfl) ?_
  refine lv_iconst (v := 0) hx hb dX1_nodes_1 (by decide) ?_
  refine va_put (D := D) (ci := 1) (v := .int 0) (ty := .int) (C := RX1) (T := TX1) (N := 7) hx hb hts hinX1 tyX1 tyX1_ok nmX1 hown hK hP hD hS 0 rfl rfl 0 (by decide) (hts (.fieldLink RX1 26 "PrefixBenchModel" "code" "I") (by decide +kernel)) (fun _ h9 => h9) rfl (by decide +kernel) rfl rfl (Nat.le_of_ble_eq_true rfl) dX1_nodes_2 (fun H locs hP hD hS => ?_)
  have hP : va_P D vwCl (pb_wM cI cJ m0 a1 l1 o1 c1 h1 Af Lf Of Cf Hf 0 (nI T.length)) H := hP
  have hD : va_D A (pb_wM cI cJ m0 a1 l1 o1 c1 h1 Af Lf Of Cf Hf 0 (nI T.length)) := hD
  refine lv_iconst (v := 0) hx hb dX1_nodes_5 (by decide) ?_
  refine lv_istore_n (lv' := [(1, .int 0), (0, .ref m0)]) hx hb dX1_nodes_6 rfl hl (by decide) rfl (fun ls hl => ?_)
  refine lv_iconst (v := 0) hx hb dX1_nodes_7 (by decide) ?_
  refine lv_istore_n (lv' := [(2, .int 0), (1, .int 0), (0, .ref m0)]) hx hb dX1_nodes_8 rfl hl (by decide) rfl (fun ls hl => ?_)
  refine pb_loop (fun kk ls => ∃ j : Nat, j ≤ T.length ∧ T.length - j = kk ∧ lv_has ls 4 [(2, .int (nI j)), (1, .int (nI (pb_nd T j))), (0, .ref m0)]) 9 [] (fun kk ls hI ih => ?_) (fun hL => ?_)
  · obtain ⟨j, hj, rfl, hl⟩ := hI
    have hnd := pb_nd_le T j
    refine lv_iload_n hx hb dX1_nodes_9 rfl (lv_at hl 0 rfl) ?_
    refine lv_aload_n hx hb dX1_nodes_10 rfl (lv_at hl 2 rfl) ?_
    refine va_get (D := D) (ci := 1) (v := .int (nI T.length)) (C := RX1) (T := TX1) (N := 7) hx hb hts hinX1 hown hK hP 0 rfl rfl 1 (by decide) (hts (.fieldLink RX1 48 "PrefixBenchModel" "count" "I") (by decide +kernel)) (fun _ h9 => h9) rfl dX1_nodes_11 ?_
    refine lv_icmp_ge (tgt := 114) hx hb dX1_nodes_14 (by decide) (fun q14 => ?_) (fun q14 => ?_)
    · have hw := (nI_leI (a := T.length) (b := j) (by omega) (by omega)).mp q14
      refine lv_iload_n hx hb dX1_nodes_114 rfl (lv_at hl 1 rfl) ?_
      exact pb_wi hx hb hr hlocks hS dX1_nodes_115 (by rw [show T.length = j by omega]) (pb_B_of hP hK hD)
    · have hw := mt (nI_leI (a := T.length) (b := j) (by omega) (by omega)).mpr q14
      refine lv_aload_n hx hb dX1_nodes_17 rfl (lv_at hl 2 rfl) ?_
      refine lv_iload_n hx hb dX1_nodes_18 rfl (lv_at hl 0 rfl) ?_
      refine pb_callV (As := [.int (nI j)]) (rest := []) ⟨hx, hb, hml, hown, hts⟩ (c_X1_isMore hT hR j (by omega)) (cwV 1 hts gX1_nodes_X1_isMore rfl rfl rfl (by decide +kernel) ⟨Nat.le_of_ble_eq_true rfl, Nat.le_of_ble_eq_true rfl⟩) hP hK (va_recv hK hP (ci := 1) (q0 := 0) rfl rfl) rfl rfl hl (Nat.le_of_ble_eq_true rfl) dX1_nodes_19 ⟨Nat.le_of_ble_eq_true rfl, Nat.le_of_ble_eq_true rfl⟩ ?_
      refine lv_if_ne (tgt := 108) hx hb dX1_nodes_22 (by decide) (fun q22 => ?_) (fun q22 => ?_)
      · have hb9 : pb_bg T j = false := pb_bgT (fun z => q22 (by rw [if_pos z]))
        refine lv_iinc (v := nI (j + 1)) (lv' := [(2, .int (nI (j + 1))), (1, .int (nI (pb_nd T j))), (0, .ref m0)]) hx hb dX1_nodes_108 hl (k := 0) rfl (nI_1 _) (by decide) rfl (fun ls hl => ?_)
        refine lv_goto (tgt := 9) hx hb dX1_nodes_111 (by decide) ?_
        exact ih _ _ (by omega) ⟨j + 1, by omega, rfl, by rw [pb_nd_0 hb9]; exact lv_sub hl [0, 1, 2] rfl⟩
      · have hb9 : pb_bg T j = true := by
          rcases hz : pb_bg T j with _ | _
          · rw [hz] at q22; exact absurd q22 (by decide)
          · rfl
        refine lv_iinc (v := nI (pb_nd T j + 1)) (lv' := [(1, .int (nI (pb_nd T j + 1))), (2, .int (nI j)), (0, .ref m0)]) hx hb dX1_nodes_25 hl (k := 1) rfl (nI_1 _) (by decide) rfl (fun ls hl => ?_)
        refine lv_iload_n hx hb dX1_nodes_28 rfl (lv_at hl 1 rfl) ?_
        refine lv_if_le (tgt := 108) hx hb dX1_nodes_29 (by decide) (fun q29 => ?_) (fun q29 => ?_)
        · have hno : ¬ (0 < j ∧ pb_pu T (pb_k T (j - 1) / 8) (pb_k T j / 8) = true) := fun z => by
            have := (nI_leI (a := j) (b := 0) (by omega) (by decide)).mp q29
            omega
          refine lv_iinc (v := nI (j + 1)) (lv' := [(2, .int (nI (j + 1))), (1, .int (nI (pb_nd T j + 1))), (0, .ref m0)]) hx hb dX1_nodes_108 hl (k := 1) rfl (nI_1 _) (by decide) rfl (fun ls hl => ?_)
          refine lv_goto (tgt := 9) hx hb dX1_nodes_111 (by decide) ?_
          exact ih _ _ (by omega) ⟨j + 1, by omega, rfl, by rw [pb_nd_1 hb9 hno]; exact lv_sub hl [0, 1, 2] rfl⟩
        · have hj0 : 0 < j := by
            have := mt (nI_leI (a := j) (b := 0) (by omega) (by decide)).mpr q29
            omega
          obtain ⟨i, rfl⟩ : ∃ i, j = i + 1 := ⟨j - 1, by omega⟩
          obtain ⟨rz, hrz, mrz⟩ := pb_get (T := T) (j := i + 1) (by omega)
          have krz := pb_key_lt hT mrz
          obtain ⟨ry, hry, mry⟩ := pb_get (T := T) (j := i) (by omega)
          have kry := pb_key_lt hT mry
          have gz := hT.2 rz mrz
          have gy := hT.2 ry mry
          have ez : pb_k T (i + 1) = rz.1 := pb_k_of hrz
          have ey : pb_k T (i + 1 - 1) = ry.1 := pb_k_of hry
          have hpu := pb_pu_iff hT gy gz
          refine lv_aload_n hx hb dX1_nodes_32 rfl (lv_at hl 2 rfl) ?_
          refine lv_iload_n hx hb dX1_nodes_33 rfl (lv_at hl 1 rfl) ?_
          refine lv_iconst (v := 1) hx hb dX1_nodes_34 (by decide) ?_
          refine lv_isub hx hb dX1_nodes_35 ?_
          refine pb_topi (z := nI i) (nI_pred i) ?_
          refine lv_aload_n hx hb dX1_nodes_36 rfl (lv_at hl 2 rfl) ?_
          refine va_get (D := D) (ci := 1) (v := .ref a1) (C := RX1) (T := TX1) (N := 7) hx hb hts hinX1 hown hK hP 0 rfl rfl 2 (by decide) (hts (.fieldLink RX1 7 "PrefixBenchModel" "address" "[I") (by decide +kernel)) (fun _ h9 => h9) rfl dX1_nodes_37 ?_
          refine lv_iload_n hx hb dX1_nodes_40 rfl (lv_at hl 1 rfl) ?_
          refine pb_iald hx hb hK hP 1 1 rfl rfl (i + 1) (rfl) (⟨by omega, by decide⟩) dX1_nodes_41 ?_
          refine pb_topi (z := nI (rz.1 / 512)) ((hR.2 _ _ hrz).1) ?_
          refine pb_callV (As := [.int (nI i), .int (nI (rz.1 / 512))]) (rest := []) ⟨hx, hb, hml, hown, hts⟩ (c_X1_has hT hR i hry (rz.1 / 512) gz.1) (cwV 2 hts gX1_nodes_X1_has rfl rfl rfl (by decide +kernel) ⟨Nat.le_of_ble_eq_true rfl, Nat.le_of_ble_eq_true rfl⟩) hP hK (va_recv hK hP (ci := 1) (q0 := 0) rfl rfl) rfl rfl hl (Nat.le_of_ble_eq_true rfl) dX1_nodes_42 ⟨Nat.le_of_ble_eq_true rfl, Nat.le_of_ble_eq_true rfl⟩ ?_
          refine lv_if_ne (tgt := 108) hx hb dX1_nodes_45 (by decide) (fun q45 => ?_) (fun q45 => ?_)
          · have hno : ¬ (0 < i + 1 ∧ pb_pu T (pb_k T (i + 1 - 1) / 8) (pb_k T (i + 1) / 8) = true) := fun z => by
              have z2 := z.2
              rw [ez, ey] at z2
              exact (hpu.mp z2).1 (by
                rcases Decidable.em (ry.1 / 512 = pb_cl (rz.1 / 512) (ry.1 / 8 % 64)) with w | w
                · exact w
                · rw [if_neg w] at q45; exact absurd rfl q45)
            refine lv_iinc (v := nI (i + 1 + 1)) (lv' := [(2, .int (nI (i + 1 + 1))), (1, .int (nI (pb_nd T (i + 1) + 1))), (0, .ref m0)]) hx hb dX1_nodes_108 hl (k := 1) rfl (nI_1 _) (by decide) rfl (fun ls hl => ?_)
            refine lv_goto (tgt := 9) hx hb dX1_nodes_111 (by decide) ?_
            exact ih _ _ (by omega) ⟨i + 1 + 1, by omega, rfl, by rw [pb_nd_1 hb9 hno]; exact lv_sub hl [0, 1, 2] rfl⟩
          · have hnh : ¬ ry.1 / 512 = pb_cl (rz.1 / 512) (ry.1 / 8 % 64) := fun w => by
              rw [if_pos w] at q45
              exact absurd q45 (by decide)
            have hnl : pb_nz (rz.1 / 512 ^^^ ry.1 / 512) < ry.1 / 8 % 64 := by
              have h1 := pb_xor_nz (mz := ry.1 / 8 % 64) gz.1 gy.1 gy.2.1
              rw [pb_cl_self gy.2.2.1] at h1
              rcases Nat.lt_or_ge (pb_nz (rz.1 / 512 ^^^ ry.1 / 512)) (ry.1 / 8 % 64) with z | z
              · exact z
              · exact absurd (h1.mpr z).symm hnh
            have gyl := gy.2.1
            have hxl := Nat.xor_lt_two_pow gz.1 gy.1
            have hclt := pb_cl_lt (k := pb_nz (rz.1 / 512 ^^^ ry.1 / 512)) gz.1
            refine lv_iconst (v := 0) hx hb dX1_nodes_48 (by decide) ?_
            refine lv_istore_n (lv' := [(3, .int 0), (1, .int (nI (pb_nd T (i + 1) + 1))), (2, .int (nI (i + 1))), (0, .ref m0)]) hx hb dX1_nodes_49 rfl hl (by decide) rfl (fun ls hl => ?_)
            refine pb_loop (fun kk ls => ∃ g : Nat, g ≤ pb_nz (rz.1 / 512 ^^^ ry.1 / 512) ∧ pb_nz (rz.1 / 512 ^^^ ry.1 / 512) - g = kk ∧ lv_has ls 4 [(3, .int (nI g)), (1, .int (nI (pb_nd T (i + 1) + 1))), (2, .int (nI (i + 1))), (0, .ref m0)]) 50 [] (fun kk ls hI ih2 => ?_) (fun hL => ?_)
            · obtain ⟨g, hgz, rfl, hl⟩ := hI
              refine lv_aload_n hx hb dX1_nodes_50 rfl (lv_at hl 3 rfl) ?_
              refine va_get (D := D) (ci := 1) (v := .ref a1) (C := RX1) (T := TX1) (N := 7) hx hb hts hinX1 hown hK hP 0 rfl rfl 2 (by decide) (hts (.fieldLink RX1 7 "PrefixBenchModel" "address" "[I") (by decide +kernel)) (fun _ h9 => h9) rfl dX1_nodes_51 ?_
              refine lv_iload_n hx hb dX1_nodes_54 rfl (lv_at hl 2 rfl) ?_
              refine pb_iald hx hb hK hP 1 1 rfl rfl (i + 1) (rfl) (⟨by omega, by decide⟩) dX1_nodes_55 ?_
              refine pb_topi (z := nI (rz.1 / 512)) ((hR.2 _ _ hrz).1) ?_
              refine lv_aload_n hx hb dX1_nodes_56 rfl (lv_at hl 3 rfl) ?_
              refine va_get (D := D) (ci := 1) (v := .ref a1) (C := RX1) (T := TX1) (N := 7) hx hb hts hinX1 hown hK hP 0 rfl rfl 2 (by decide) (hts (.fieldLink RX1 7 "PrefixBenchModel" "address" "[I") (by decide +kernel)) (fun _ h9 => h9) rfl dX1_nodes_57 ?_
              refine lv_iload_n hx hb dX1_nodes_60 rfl (lv_at hl 2 rfl) ?_
              refine lv_iconst (v := 1) hx hb dX1_nodes_61 (by decide) ?_
              refine lv_isub hx hb dX1_nodes_62 ?_
              refine pb_topi (z := nI i) (nI_pred i) ?_
              refine pb_iald hx hb hK hP 1 1 rfl rfl i (rfl) (⟨by omega, by decide⟩) dX1_nodes_63 ?_
              refine pb_topi (z := nI (ry.1 / 512)) ((hR.2 _ _ hry).1) ?_
              refine lv_ixor hx hb dX1_nodes_64 ?_
              refine pb_topi (z := nI (rz.1 / 512 ^^^ ry.1 / 512)) (nx_xor _ _) ?_
              refine lv_iload_n hx hb dX1_nodes_65 rfl (lv_at hl 0 rfl) ?_
              refine lv_iconst (v := 1) hx hb dX1_nodes_66 (by decide) ?_
              refine lv_iadd hx hb dX1_nodes_67 ?_
              refine pb_topi (z := nI (g + 1)) (nI_1 _) ?_
              refine pb_callS (As := [.int (nI (g + 1))]) (rest := [.int (nI (rz.1 / 512 ^^^ ry.1 / 512))]) ⟨hx, hb, hml, hown, hts⟩ (c_X1_mask (g + 1) (by omega)) (va_cwS 1 hts gX1_nodes_X1_mask rfl rfl rfl (by decide +kernel) ⟨Nat.le_of_ble_eq_true rfl, Nat.le_of_ble_eq_true rfl⟩) rfl rfl hl (Nat.le_of_ble_eq_true rfl) dX1_nodes_68 ⟨Nat.le_of_ble_eq_true rfl, Nat.le_of_ble_eq_true rfl⟩ ?_
              refine lv_iand hx hb dX1_nodes_71 ?_
              refine lv_if_ne (tgt := 81) hx hb dX1_nodes_72 (by decide) (fun q72 => ?_) (fun q72 => ?_)
              · have hgl : g = pb_nz (rz.1 / 512 ^^^ ry.1 / 512) := by
                  have := mt (pb_xor_mk hxl (show g + 1 ≤ 32 by omega)).mpr q72
                  omega
                rw [hgl] at hl
                refine lv_iload_n hx hb dX1_nodes_81 rfl (lv_at hl 1 rfl) ?_
                refine lv_aload_n hx hb dX1_nodes_82 rfl (lv_at hl 3 rfl) ?_
                refine lv_aload_n hx hb dX1_nodes_83 rfl (lv_at hl 3 rfl) ?_
                refine va_get (D := D) (ci := 1) (v := .ref a1) (C := RX1) (T := TX1) (N := 7) hx hb hts hinX1 hown hK hP 0 rfl rfl 2 (by decide) (hts (.fieldLink RX1 7 "PrefixBenchModel" "address" "[I") (by decide +kernel)) (fun _ h9 => h9) rfl dX1_nodes_84 ?_
                refine lv_iload_n hx hb dX1_nodes_87 rfl (lv_at hl 2 rfl) ?_
                refine pb_iald hx hb hK hP 1 1 rfl rfl (i + 1) (rfl) (⟨by omega, by decide⟩) dX1_nodes_88 ?_
                refine pb_topi (z := nI (rz.1 / 512)) ((hR.2 _ _ hrz).1) ?_
                refine lv_iload_n hx hb dX1_nodes_89 rfl (lv_at hl 0 rfl) ?_
                refine pb_callS (As := [.int (nI (pb_nz (rz.1 / 512 ^^^ ry.1 / 512)))]) (rest := [.int (nI (rz.1 / 512)), .ref m0, .int (nI (pb_nd T (i + 1) + 1))]) ⟨hx, hb, hml, hown, hts⟩ (c_X1_mask (pb_nz (rz.1 / 512 ^^^ ry.1 / 512)) (by omega)) (va_cwS 1 hts gX1_nodes_X1_mask rfl rfl rfl (by decide +kernel) ⟨Nat.le_of_ble_eq_true rfl, Nat.le_of_ble_eq_true rfl⟩) rfl rfl hl (Nat.le_of_ble_eq_true rfl) dX1_nodes_90 ⟨Nat.le_of_ble_eq_true rfl, Nat.le_of_ble_eq_true rfl⟩ ?_
                refine lv_iand hx hb dX1_nodes_93 ?_
                refine pb_topi (z := nI (pb_cl (rz.1 / 512) (pb_nz (rz.1 / 512 ^^^ ry.1 / 512)))) (pb_mk_and gz.1 (by omega)) ?_
                refine lv_iload_n hx hb dX1_nodes_94 rfl (lv_at hl 0 rfl) ?_
                refine pb_callV (As := [.int (nI (pb_cl (rz.1 / 512) (pb_nz (rz.1 / 512 ^^^ ry.1 / 512)))), .int (nI (pb_nz (rz.1 / 512 ^^^ ry.1 / 512)))]) (rest := [.int (nI (pb_nd T (i + 1) + 1))]) ⟨hx, hb, hml, hown, hts⟩ (c_X1_isKnown hT hR (pb_cl (rz.1 / 512) (pb_nz (rz.1 / 512 ^^^ ry.1 / 512))) (pb_nz (rz.1 / 512 ^^^ ry.1 / 512)) hclt (by omega)) (cwV 2 hts gX1_nodes_X1_isKnown rfl rfl rfl (by decide +kernel) ⟨Nat.le_of_ble_eq_true rfl, Nat.le_of_ble_eq_true rfl⟩) hP hK (va_recv hK hP (ci := 1) (q0 := 0) rfl rfl) rfl rfl hl (Nat.le_of_ble_eq_true rfl) dX1_nodes_95 ⟨Nat.le_of_ble_eq_true rfl, Nat.le_of_ble_eq_true rfl⟩ ?_
                refine lv_if_eq (tgt := 105) hx hb dX1_nodes_98 (by decide) (fun q98 => ?_) (fun q98 => ?_)
                · have hye : 0 < i + 1 ∧ pb_pu T (pb_k T (i + 1 - 1) / 8) (pb_k T (i + 1) / 8) = true := ⟨by omega, by
                    rw [ez, ey]
                    refine hpu.mpr ⟨hnh, ?_⟩
                    rcases hz : pb_kn T (pb_pre (pb_cl (rz.1 / 512) (pb_nz (rz.1 / 512 ^^^ ry.1 / 512))) (pb_nz (rz.1 / 512 ^^^ ry.1 / 512))) with _ | _
                    · rfl
                    · rw [hz] at q98; exact absurd q98 (by decide)⟩
                  refine lv_iconst (v := 1) hx hb dX1_nodes_105 (by decide) ?_
                  refine lv_iadd hx hb dX1_nodes_106 ?_
                  refine pb_topi (z := nI (pb_nd T (i + 1) + 1 + 1)) (nI_1 _) ?_
                  refine lv_istore_n (lv' := [(1, .int (nI (pb_nd T (i + 1) + 1 + 1))), (3, .int (nI (pb_nz (rz.1 / 512 ^^^ ry.1 / 512)))), (2, .int (nI (i + 1))), (0, .ref m0)]) hx hb dX1_nodes_107 rfl hl (by decide) rfl (fun ls hl => ?_)
                  refine lv_iinc (v := nI (i + 1 + 1)) (lv' := [(2, .int (nI (i + 1 + 1))), (1, .int (nI (pb_nd T (i + 1) + 1 + 1))), (3, .int (nI (pb_nz (rz.1 / 512 ^^^ ry.1 / 512)))), (0, .ref m0)]) hx hb dX1_nodes_108 hl (k := 2) rfl (nI_1 _) (by decide) rfl (fun ls hl => ?_)
                  refine lv_goto (tgt := 9) hx hb dX1_nodes_111 (by decide) ?_
                  exact ih _ _ (by omega) ⟨i + 1 + 1, by omega, rfl, by rw [pb_nd_2 hb9 hye]; exact lv_sub hl [0, 1, 3] rfl⟩
                · have hno : ¬ (0 < i + 1 ∧ pb_pu T (pb_k T (i + 1 - 1) / 8) (pb_k T (i + 1) / 8) = true) := fun z => by
                    have z2 := z.2
                    rw [ez, ey] at z2
                    rw [(hpu.mp z2).2] at q98
                    exact absurd rfl q98
                  refine lv_iconst (v := 0) hx hb dX1_nodes_101 (by decide) ?_
                  refine lv_goto (tgt := 106) hx hb dX1_nodes_102 (by decide) ?_
                  refine lv_iadd hx hb dX1_nodes_106 ?_
                  refine pb_topi (z := nI (pb_nd T (i + 1) + 1)) (Int32.add_zero _) ?_
                  refine lv_istore_n (lv' := [(1, .int (nI (pb_nd T (i + 1) + 1))), (3, .int (nI (pb_nz (rz.1 / 512 ^^^ ry.1 / 512)))), (2, .int (nI (i + 1))), (0, .ref m0)]) hx hb dX1_nodes_107 rfl hl (by decide) rfl (fun ls hl => ?_)
                  refine lv_iinc (v := nI (i + 1 + 1)) (lv' := [(2, .int (nI (i + 1 + 1))), (1, .int (nI (pb_nd T (i + 1) + 1))), (3, .int (nI (pb_nz (rz.1 / 512 ^^^ ry.1 / 512)))), (0, .ref m0)]) hx hb dX1_nodes_108 hl (k := 2) rfl (nI_1 _) (by decide) rfl (fun ls hl => ?_)
                  refine lv_goto (tgt := 9) hx hb dX1_nodes_111 (by decide) ?_
                  exact ih _ _ (by omega) ⟨i + 1 + 1, by omega, rfl, by rw [pb_nd_1 hb9 hno]; exact lv_sub hl [0, 1, 3] rfl⟩
              · have hgl : g + 1 ≤ pb_nz (rz.1 / 512 ^^^ ry.1 / 512) := (pb_xor_mk hxl (show g + 1 ≤ 32 by omega)).mp q72
                refine lv_iinc (v := nI (g + 1)) (lv' := [(3, .int (nI (g + 1))), (1, .int (nI (pb_nd T (i + 1) + 1))), (2, .int (nI (i + 1))), (0, .ref m0)]) hx hb dX1_nodes_75 hl (k := 0) rfl (nI_1 _) (by decide) rfl (fun ls hl => ?_)
                refine lv_goto (tgt := 50) hx hb dX1_nodes_78 (by decide) ?_
                exact ih2 _ _ (by omega) ⟨g + 1, by omega, rfl, lv_sub hl [0, 1, 2, 3] rfl⟩
            · exact hL _ _ ⟨0, Nat.zero_le _, rfl, lv_sub hl [0, 1, 2, 3] rfl⟩
  · exact hL _ _ ⟨0, Nat.zero_le _, rfl, lv_sub hl [0, 1, 2] rfl⟩

end PB12
