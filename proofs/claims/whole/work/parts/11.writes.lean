/-! WRITES of PrefixBench (laid by wip/gen/p11.py) -/
section PB8
/-- behind a change: the object holds the routes T' in some rows -/
def pb_BX (D : va_G) (cI cJ : ClassId) (h0 : Nat) (T : List pb_Rt) : (Nat → Prop) → State → Prop := fun A t => ∃ (k9 c9 h9 cap9 : Nat) (K9 : Nat → Int64) (C9 : Nat → Int32) (H9 : Nat → Int64), (pb_rX T cap9 K9 C9 H9 ∧ cap9 ≤ 1024) ∧ pb_B D (pb_ty cI cJ) (pb_wX cI cJ h0 k9 c9 h9 cap9 K9 C9 H9 (nI T.length)) A t
theorem pb_rX_of {T : List pb_Rt} {cap : Nat} {Kf : Nat → Int64} {Cf : Nat → Int32} {Hf : Nat → Int64} (h1 : T.length ≤ cap ∧ cap < 2 ^ 30 ∧ 0 < cap) (h2 : pb_rep T Kf Cf Hf) : pb_rX T cap Kf Cf Hf := ⟨h1, h2⟩
section
variable {p : Program} {l : Launch} {e : Env} {R : Room} {s : State} {m : MethodId} {args : Array Value} {below : List Frame} {meth : Method} {c : Code} {H : Heap} {locs : List Loc} {cells slots : Nat} {Q : State → Prop}
theorem pb_joinH {g : JFrame} (P : Heap → List Loc → Array Slot → Prop) (pc2 : Nat) (st2 : List Value) (cells2 slots2 : Nat) (h : ∀ (H2 : Heap) (locs2 : List Loc) (ls2 : Array Slot), P H2 locs2 ls2 → W p l e R s m args below meth c H2 locs2 cells2 slots2 Q (F0 m pc2 ls2 st2))
    (k : (∀ (H2 : Heap) (locs2 : List Loc) (ls2 : Array Slot), P H2 locs2 ls2 → W p l e R s m args below meth c H2 locs2 cells2 slots2 Q (F0 m pc2 ls2 st2)) → W p l e R s m args below meth c H locs cells slots Q g) : W p l e R s m args below meth c H locs cells slots Q g := k h
end
variable {l : Launch} {D : va_G} {cI cJ : ClassId} {h0 k1 c1 h1 cap sz : Nat} {Kf : Nat → Int64} {Cf : Nat → Int32} {Hf : Nat → Int64}
set_option maxHeartbeats 4000000 in
set_option maxRecDepth 100000 in
theorem c_X0_write (j n : Nat) (hj : j < n) (hn : n ≤ cap ∧ cap < 2 ^ 30) (kz : Int64) (cz : Int32) (hz : Int64) : pb_Wq l yX0_write wsX0_write 1 0 0 21 [.ref h0, .int (nI j), .long kz, .int cz, .long hz] D (pb_ty cI cJ) (pb_wX cI cJ h0 k1 c1 h1 cap Kf Cf Hf (nI n)) sz (none) (pb_B D (pb_ty cI cJ) (pb_wX cI cJ h0 k1 c1 h1 cap (va_up Kf j kz) (va_up Cf j cz) (va_up Hf j hz) (nI n))) := by
  refine pb_ofW RX0 (by decide) rfl rfl (Nat.le_of_ble_eq_true rfl) (fun p e s m args below meth c ls A hx hb hml hr hlocks hown hts hP hK hD hS hA hl hin9 => ?_)
  have hinX0 : ∀ w ∈ wsX00, w ∈ wsX0_write := by decide +kernel
  have hl : lv_has ls 7 [(0, .ref h0), (1, .int (nI j)), (2, .long kz), (4, .int cz), (5, .long hz)] := hl
  have hP : va_P D vwCl (pb_wX cI cJ h0 k1 c1 h1 cap Kf Cf Hf (nI n)) s.heap := hP
  have hD : va_D A (pb_wX cI cJ h0 k1 c1 h1 cap Kf Cf Hf (nI n)) := hD
  refine lv_aload_n hx hb dX0_write_0 rfl (lv_at hl 0 rfl) ?_
  refine lv_iload_n hx hb dX0_write_1 rfl (lv_at hl 1 rfl) ?_
  refine pb_callV (As := [.int (nI j)]) (rest := []) ⟨hx, hb, hml, hown, hts⟩ (c_X0_isPlace_t j n hj hn) (cwV 1 hts gX0_write_X0_isPlace rfl rfl rfl (by decide +kernel) ⟨Nat.le_of_ble_eq_true rfl, Nat.le_of_ble_eq_true rfl⟩) hP hK (va_recv hK hP (ci := 0) (q0 := 0) rfl rfl) rfl rfl hl (Nat.le_of_ble_eq_true rfl) dX0_write_2 ⟨Nat.le_of_ble_eq_true rfl, Nat.le_of_ble_eq_true rfl⟩ ?_
  refine lv_if_eq (tgt := 31) hx hb dX0_write_5 (by decide) (fun q5 => absurd q5 (by decide)) (fun q5 => ?_)
  refine lv_aload_n hx hb dX0_write_8 rfl (lv_at hl 0 rfl) ?_
  refine va_get (D := D) (ci := 0) (v := .ref k1) (C := RX0) (T := TX0) (N := 4) hx hb hts hinX0 hown hK hP 0 rfl rfl 0 (by decide) (hts (.fieldLink RX0 9 "PrefixBench" "keys" "[J") (by decide +kernel)) (fun _ h9 => h9) rfl dX0_write_9 ?_
  refine lv_iload_n hx hb dX0_write_12 rfl (lv_at hl 1 rfl) ?_
  refine lv_lload_n hx hb dX0_write_13 rfl (lv_at hl 2 rfl) ?_
  refine pb_last hx hb hK hP hD hS 1 0 rfl rfl j (rfl) (⟨by omega, by omega⟩) dX0_write_14 (fun H locs hP hD hS => ?_)
  have hP : va_P D vwCl (pb_wX cI cJ h0 k1 c1 h1 cap (va_up Kf j kz) Cf Hf (nI n)) H := hP
  have hD : va_D A (pb_wX cI cJ h0 k1 c1 h1 cap (va_up Kf j kz) Cf Hf (nI n)) := hD
  refine lv_aload_n hx hb dX0_write_15 rfl (lv_at hl 0 rfl) ?_
  refine va_get (D := D) (ci := 0) (v := .ref c1) (C := RX0) (T := TX0) (N := 4) hx hb hts hinX0 hown hK hP 0 rfl rfl 1 (by decide) (hts (.fieldLink RX0 13 "PrefixBench" "costs" "[I") (by decide +kernel)) (fun _ h9 => h9) rfl dX0_write_16 ?_
  refine lv_iload_n hx hb dX0_write_19 rfl (lv_at hl 1 rfl) ?_
  refine lv_iload hx hb dX0_write_20 (lv_at hl 3 rfl) ?_
  refine pb_iast hx hb hK hP hD hS 2 1 rfl rfl j (rfl) (⟨by omega, by omega⟩) dX0_write_22 (fun H locs hP hD hS => ?_)
  have hP : va_P D vwCl (pb_wX cI cJ h0 k1 c1 h1 cap (va_up Kf j kz) (va_up Cf j cz) Hf (nI n)) H := hP
  have hD : va_D A (pb_wX cI cJ h0 k1 c1 h1 cap (va_up Kf j kz) (va_up Cf j cz) Hf (nI n)) := hD
  refine lv_aload_n hx hb dX0_write_23 rfl (lv_at hl 0 rfl) ?_
  refine va_get (D := D) (ci := 0) (v := .ref h1) (C := RX0) (T := TX0) (N := 4) hx hb hts hinX0 hown hK hP 0 rfl rfl 2 (by decide) (hts (.fieldLink RX0 17 "PrefixBench" "hopSets" "[J") (by decide +kernel)) (fun _ h9 => h9) rfl dX0_write_24 ?_
  refine lv_iload_n hx hb dX0_write_27 rfl (lv_at hl 1 rfl) ?_
  refine lv_lload hx hb dX0_write_28 (lv_at hl 4 rfl) ?_
  refine pb_last hx hb hK hP hD hS 3 0 rfl rfl j (rfl) (⟨by omega, by omega⟩) dX0_write_30 (fun H locs hP hD hS => ?_)
  have hP : va_P D vwCl (pb_wX cI cJ h0 k1 c1 h1 cap (va_up Kf j kz) (va_up Cf j cz) (va_up Hf j hz) (nI n)) H := hP
  have hD : va_D A (pb_wX cI cJ h0 k1 c1 h1 cap (va_up Kf j kz) (va_up Cf j cz) (va_up Hf j hz) (nI n)) := hD
  exact pb_wv hx hb hr hlocks hS dX0_write_31 (pb_B_of hP hK hD)

set_option maxHeartbeats 4000000 in
set_option maxRecDepth 100000 in
theorem c_X0_copy (i j n : Nat) (hi : i < n) (hj : j < n) (hn : n ≤ cap ∧ cap < 2 ^ 30) : pb_Wq l yX0_copy wsX0_copy 2 0 0 47 [.ref h0, .int (nI i), .int (nI j)] D (pb_ty cI cJ) (pb_wX cI cJ h0 k1 c1 h1 cap Kf Cf Hf (nI n)) sz (none) (pb_B D (pb_ty cI cJ) (pb_wX cI cJ h0 k1 c1 h1 cap (va_up Kf j (Kf i)) (va_up Cf j (Cf i)) (va_up Hf j (Hf i)) (nI n))) := by
  refine pb_ofW RX0 (by decide) rfl rfl (Nat.le_of_ble_eq_true rfl) (fun p e s m args below meth c ls A hx hb hml hr hlocks hown hts hP hK hD hS hA hl hin9 => ?_)
  have hl : lv_has ls 3 [(0, .ref h0), (1, .int (nI i)), (2, .int (nI j))] := hl
  have hP : va_P D vwCl (pb_wX cI cJ h0 k1 c1 h1 cap Kf Cf Hf (nI n)) s.heap := hP
  have hD : va_D A (pb_wX cI cJ h0 k1 c1 h1 cap Kf Cf Hf (nI n)) := hD
  refine lv_aload_n hx hb dX0_copy_0 rfl (lv_at hl 0 rfl) ?_
  refine lv_iload_n hx hb dX0_copy_1 rfl (lv_at hl 2 rfl) ?_
  refine lv_aload_n hx hb dX0_copy_2 rfl (lv_at hl 0 rfl) ?_
  refine lv_iload_n hx hb dX0_copy_3 rfl (lv_at hl 1 rfl) ?_
  refine pb_callV (As := [.int (nI i)]) (rest := [.int (nI j), .ref h0]) ⟨hx, hb, hml, hown, hts⟩ (c_X0_keyAt_t i n hi hn) (cwV 1 hts gX0_copy_X0_keyAt rfl rfl rfl (by decide +kernel) ⟨Nat.le_of_ble_eq_true rfl, Nat.le_of_ble_eq_true rfl⟩) hP hK (va_recv hK hP (ci := 0) (q0 := 0) rfl rfl) rfl rfl hl (Nat.le_of_ble_eq_true rfl) dX0_copy_4 ⟨Nat.le_of_ble_eq_true rfl, Nat.le_of_ble_eq_true rfl⟩ ?_
  refine lv_aload_n hx hb dX0_copy_7 rfl (lv_at hl 0 rfl) ?_
  refine lv_iload_n hx hb dX0_copy_8 rfl (lv_at hl 1 rfl) ?_
  refine pb_callV (As := [.int (nI i)]) (rest := [.long (Kf i), .int (nI j), .ref h0]) ⟨hx, hb, hml, hown, hts⟩ (c_X0_costAt_t i n hi hn) (cwV 1 hts gX0_copy_X0_costAt rfl rfl rfl (by decide +kernel) ⟨Nat.le_of_ble_eq_true rfl, Nat.le_of_ble_eq_true rfl⟩) hP hK (va_recv hK hP (ci := 0) (q0 := 0) rfl rfl) rfl rfl hl (Nat.le_of_ble_eq_true rfl) dX0_copy_9 ⟨Nat.le_of_ble_eq_true rfl, Nat.le_of_ble_eq_true rfl⟩ ?_
  refine lv_aload_n hx hb dX0_copy_12 rfl (lv_at hl 0 rfl) ?_
  refine lv_iload_n hx hb dX0_copy_13 rfl (lv_at hl 1 rfl) ?_
  refine pb_callV (As := [.int (nI i)]) (rest := [.int (Cf i), .long (Kf i), .int (nI j), .ref h0]) ⟨hx, hb, hml, hown, hts⟩ (c_X0_hopsAt_t i n hi hn) (cwV 1 hts gX0_copy_X0_hopsAt rfl rfl rfl (by decide +kernel) ⟨Nat.le_of_ble_eq_true rfl, Nat.le_of_ble_eq_true rfl⟩) hP hK (va_recv hK hP (ci := 0) (q0 := 0) rfl rfl) rfl rfl hl (Nat.le_of_ble_eq_true rfl) dX0_copy_14 ⟨Nat.le_of_ble_eq_true rfl, Nat.le_of_ble_eq_true rfl⟩ ?_
  refine pb_callWv (As := [.int (nI j), .long (Kf i), .int (Cf i), .long (Hf i)]) (rest := []) ⟨hx, hb, hml, hown, hts⟩ (c_X0_write j n hj hn (Kf i) (Cf i) (Hf i)) (cwV 4 hts gX0_copy_X0_write rfl rfl rfl (by decide +kernel) ⟨Nat.le_of_ble_eq_true rfl, Nat.le_of_ble_eq_true rfl⟩) hP hK hD hS hA (va_recv hK hP (ci := 0) (q0 := 0) rfl rfl) rfl rfl hl (Nat.le_of_ble_eq_true rfl) dX0_copy_17 ⟨Nat.le_of_ble_eq_true rfl, Nat.le_of_ble_eq_true rfl⟩ (fun t9 H locs ht hvm hB hsub hS => ?_)
  obtain ⟨hP, hD⟩ := pb_back (wd' := (pb_wX cI cJ h0 k1 c1 h1 cap (va_up Kf j (Kf i)) (va_up Cf j (Cf i)) (va_up Hf j (Hf i)) (nI n))) ht hB hsub
  exact pb_wv hx hb hr hlocks hS dX0_copy_20 (pb_B_of hP hK hD)

set_option maxHeartbeats 4000000 in
set_option maxRecDepth 100000 in
theorem c_X0_keepFirst (n k : Nat) (hk : k ≤ n ∧ n < 2 ^ 30) : pb_Wq l yX0_keepFirst wsX0_keepFirst 0 0 0 0 [.ref h0, .int (nI k)] D (pb_ty cI cJ) (pb_wX cI cJ h0 k1 c1 h1 cap Kf Cf Hf (nI n)) sz (some (.int (nI (n - k)))) (pb_B D (pb_ty cI cJ) (pb_wX cI cJ h0 k1 c1 h1 cap Kf Cf Hf (nI k))) := by
  refine pb_ofW RX0 (by decide) rfl rfl (Nat.le_of_ble_eq_true rfl) (fun p e s m args below meth c ls A hx hb hml hr hlocks hown hts hP hK hD hS hA hl hin9 => ?_)
  have hinX0 : ∀ w ∈ wsX00, w ∈ wsX0_keepFirst := by decide +kernel
  have hl : lv_has ls 3 [(0, .ref h0), (1, .int (nI k))] := hl
  have hP : va_P D vwCl (pb_wX cI cJ h0 k1 c1 h1 cap Kf Cf Hf (nI n)) s.heap := hP
  have hD : va_D A (pb_wX cI cJ h0 k1 c1 h1 cap Kf Cf Hf (nI n)) := hD
  refine lv_aload_n hx hb dX0_keepFirst_0 rfl (lv_at hl 0 rfl) ?_
  refine va_get (D := D) (ci := 0) (v := .int (nI n)) (C := RX0) (T := TX0) (N := 4) hx hb hts hinX0 hown hK hP 0 rfl rfl 3 (by decide) (hts (.fieldLink RX0 20 "PrefixBench" "count" "I") (by decide +kernel)) (fun _ h9 => h9) rfl dX0_keepFirst_1 ?_
  refine lv_iload_n hx hb dX0_keepFirst_4 rfl (lv_at hl 1 rfl) ?_
  refine lv_isub hx hb dX0_keepFirst_5 ?_
  refine pb_topi (z := nI (n - k)) (pk_sub hk.1) ?_
  refine lv_istore_n (lv' := [(2, .int (nI (n - k))), (0, .ref h0), (1, .int (nI k))]) hx hb dX0_keepFirst_6 rfl hl (by decide) rfl (fun ls hl => ?_)
  refine lv_aload_n hx hb dX0_keepFirst_7 rfl (lv_at hl 1 rfl) ?_
  refine lv_iload_n hx hb dX0_keepFirst_8 rfl (lv_at hl 2 rfl) ?_
  refine va_put (D := D) (ci := 0) (v := .int (nI k)) (ty := .int) (C := RX0) (T := TX0) (N := 4) hx hb hts hinX0 tyX0 tyX0_ok nmX0 hown hK hP hD hS 0 rfl rfl 3 (by decide) (hts (.fieldLink RX0 20 "PrefixBench" "count" "I") (by decide +kernel)) (fun _ h9 => h9) rfl (by decide +kernel) rfl rfl (Nat.le_of_ble_eq_true rfl) dX0_keepFirst_9 (fun H locs hP hD hS => ?_)
  have hP : va_P D vwCl (pb_wX cI cJ h0 k1 c1 h1 cap Kf Cf Hf (nI k)) H := hP
  have hD : va_D A (pb_wX cI cJ h0 k1 c1 h1 cap Kf Cf Hf (nI k)) := hD
  refine lv_iload_n hx hb dX0_keepFirst_12 rfl (lv_at hl 0 rfl) ?_
  exact pb_wi hx hb hr hlocks hS dX0_keepFirst_13 (rfl) (pb_B_of hP hK hD)

set_option maxHeartbeats 4000000 in
set_option maxRecDepth 100000 in
theorem c_X0_closePlace (j n : Nat) (hj : j < n) (hn : n ≤ cap ∧ cap < 2 ^ 30) : pb_Wq l yX0_closePlace wsX0_closePlace 3 0 0 69 [.ref h0, .int (nI j)] D (pb_ty cI cJ) (pb_wX cI cJ h0 k1 c1 h1 cap Kf Cf Hf (nI n)) sz (none) (pb_B D (pb_ty cI cJ) (pb_wX cI cJ h0 k1 c1 h1 cap (pb_shL Kf j n) (pb_shL Cf j n) (pb_shL Hf j n) (nI (n - 1)))) := by
  refine pb_ofW RX0 (by decide) rfl rfl (Nat.le_of_ble_eq_true rfl) (fun p e s m args below meth c ls A hx hb hml hr hlocks hown hts hP hK hD hS hA hl hin9 => ?_)
  have hinX0 : ∀ w ∈ wsX00, w ∈ wsX0_closePlace := by decide +kernel
  have hl : lv_has ls 3 [(0, .ref h0), (1, .int (nI j))] := hl
  have hP : va_P D vwCl (pb_wX cI cJ h0 k1 c1 h1 cap Kf Cf Hf (nI n)) s.heap := hP
  have hD : va_D A (pb_wX cI cJ h0 k1 c1 h1 cap Kf Cf Hf (nI n)) := hD
  refine lv_iload_n hx hb dX0_closePlace_0 rfl (lv_at hl 1 rfl) ?_
  refine lv_iconst (v := 1) hx hb dX0_closePlace_1 (by decide) ?_
  refine lv_iadd hx hb dX0_closePlace_2 ?_
  refine pb_topi (z := nI (j + 1)) (nI_1 _) ?_
  refine lv_istore_n (lv' := [(2, .int (nI (j + 1))), (0, .ref h0), (1, .int (nI j))]) hx hb dX0_closePlace_3 rfl hl (by decide) rfl (fun ls hl => ?_)
  refine pb_loopH (fun kk H locs ls => ∃ f : Nat, (j + 1 ≤ f ∧ f ≤ n ∧ n - f = kk) ∧ va_P D vwCl (pb_wX cI cJ h0 k1 c1 h1 cap (pb_shL Kf j f) (pb_shL Cf j f) (pb_shL Hf j f) (nI n)) H ∧ va_D A (pb_wX cI cJ h0 k1 c1 h1 cap (pb_shL Kf j f) (pb_shL Cf j f) (pb_shL Hf j f) (nI n)) ∧ va_S A s.heap H locs ∧ lv_has ls 3 [(2, .int (nI f)), (0, .ref h0), (1, .int (nI j))]) 4 [] (fun kk H locs ls hI ih => ?_) (fun hL => ?_)
  · obtain ⟨f, ⟨hf1, hf2, rfl⟩, hP, hD, hS, hl⟩ := hI
    refine lv_iload_n hx hb dX0_closePlace_4 rfl (lv_at hl 0 rfl) ?_
    refine lv_aload_n hx hb dX0_closePlace_5 rfl (lv_at hl 1 rfl) ?_
    refine va_get (D := D) (ci := 0) (v := .int (nI n)) (C := RX0) (T := TX0) (N := 4) hx hb hts hinX0 hown hK hP 0 rfl rfl 3 (by decide) (hts (.fieldLink RX0 20 "PrefixBench" "count" "I") (by decide +kernel)) (fun _ h9 => h9) rfl dX0_closePlace_6 ?_
    refine lv_icmp_ge (tgt := 26) hx hb dX0_closePlace_9 (by decide) (fun q9 => ?_) (fun q9 => ?_)
    · have hw := (nI_leI (a := n) (b := f) (by omega) (by omega)).mp q9
      rw [show f = n by omega] at hP hD
      refine lv_aload_n hx hb dX0_closePlace_26 rfl (lv_at hl 1 rfl) ?_
      refine lv_dup hx hb dX0_closePlace_27 rfl ?_
      refine va_get (D := D) (ci := 0) (v := .int (nI n)) (C := RX0) (T := TX0) (N := 4) hx hb hts hinX0 hown hK hP 0 rfl rfl 3 (by decide) (hts (.fieldLink RX0 20 "PrefixBench" "count" "I") (by decide +kernel)) (fun _ h9 => h9) rfl dX0_closePlace_28 ?_
      refine lv_iconst (v := 1) hx hb dX0_closePlace_31 (by decide) ?_
      refine lv_isub hx hb dX0_closePlace_32 ?_
      refine pb_topi (z := nI (n - 1)) (pk_sub (b := 1) (by omega)) ?_
      refine va_put (D := D) (ci := 0) (v := .int (nI (n - 1))) (ty := .int) (C := RX0) (T := TX0) (N := 4) hx hb hts hinX0 tyX0 tyX0_ok nmX0 hown hK hP hD hS 0 rfl rfl 3 (by decide) (hts (.fieldLink RX0 20 "PrefixBench" "count" "I") (by decide +kernel)) (fun _ h9 => h9) rfl (by decide +kernel) rfl rfl (Nat.le_of_ble_eq_true rfl) dX0_closePlace_33 (fun H locs hP hD hS => ?_)
      have hP : va_P D vwCl (pb_wX cI cJ h0 k1 c1 h1 cap (pb_shL Kf j n) (pb_shL Cf j n) (pb_shL Hf j n) (nI (n - 1))) H := hP
      have hD : va_D A (pb_wX cI cJ h0 k1 c1 h1 cap (pb_shL Kf j n) (pb_shL Cf j n) (pb_shL Hf j n) (nI (n - 1))) := hD
      exact pb_wv hx hb hr hlocks hS dX0_closePlace_36 (pb_B_of hP hK hD)
    · have hw := mt (nI_leI (a := n) (b := f) (by omega) (by omega)).mpr q9
      refine lv_aload_n hx hb dX0_closePlace_12 rfl (lv_at hl 1 rfl) ?_
      refine lv_iload_n hx hb dX0_closePlace_13 rfl (lv_at hl 0 rfl) ?_
      refine lv_iload_n hx hb dX0_closePlace_14 rfl (lv_at hl 0 rfl) ?_
      refine lv_iconst (v := 1) hx hb dX0_closePlace_15 (by decide) ?_
      refine lv_isub hx hb dX0_closePlace_16 ?_
      refine pb_topi (z := nI (f - 1)) (pk_sub (b := 1) (by omega)) ?_
      refine pb_callWv (As := [.int (nI f), .int (nI (f - 1))]) (rest := []) ⟨hx, hb, hml, hown, hts⟩ (c_X0_copy f (f - 1) n (by omega) (by omega) hn) (cwV 2 hts gX0_closePlace_X0_copy rfl rfl rfl (by decide +kernel) ⟨Nat.le_of_ble_eq_true rfl, Nat.le_of_ble_eq_true rfl⟩) hP hK hD hS hA (va_recv hK hP (ci := 0) (q0 := 0) rfl rfl) rfl rfl hl (Nat.le_of_ble_eq_true rfl) dX0_closePlace_17 ⟨Nat.le_of_ble_eq_true rfl, Nat.le_of_ble_eq_true rfl⟩ (fun t9 H locs ht hvm hB hsub hS => ?_)
      obtain ⟨hP, hD⟩ := pb_back (wd' := (pb_wX cI cJ h0 k1 c1 h1 cap (va_up (pb_shL Kf j f) (f - 1) ((pb_shL Kf j f) f)) (va_up (pb_shL Cf j f) (f - 1) ((pb_shL Cf j f) f)) (va_up (pb_shL Hf j f) (f - 1) ((pb_shL Hf j f) f)) (nI n))) ht hB hsub
      refine lv_iinc (v := nI (f + 1)) (lv' := [(2, .int (nI (f + 1))), (0, .ref h0), (1, .int (nI j))]) hx hb dX0_closePlace_20 hl (k := 0) rfl (nI_1 _) (by decide) rfl (fun ls hl => ?_)
      refine lv_goto (tgt := 4) hx hb dX0_closePlace_23 (by decide) ?_
      exact ih _ _ _ _ (by omega) ⟨f + 1, ⟨by omega, by omega, rfl⟩, by rw [← pb_shL_s Kf hf1, ← pb_shL_s Cf hf1, ← pb_shL_s Hf hf1]; exact hP, by rw [← pb_shL_s Kf hf1, ← pb_shL_s Cf hf1, ← pb_shL_s Hf hf1]; exact hD, hS, lv_sub hl [0, 1, 2] rfl⟩
  · exact hL _ _ _ _ ⟨j + 1, ⟨Nat.le_refl _, hj, rfl⟩, by rw [pb_shL_0, pb_shL_0, pb_shL_0]; exact hP, by rw [pb_shL_0, pb_shL_0, pb_shL_0]; exact hD, hS, lv_sub hl [0, 1, 2] rfl⟩

end PB8
