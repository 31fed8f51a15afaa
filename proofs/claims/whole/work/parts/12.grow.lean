/-! GROWTH, and the public changes of PrefixBench (laid by wip/gen/p12.py) -/
section PB9
theorem pb_cidJ {D : va_G} {cI cJ cA : ClassId} {s : State} (h : va_K D vwCl (pb_ty cI cJ ++ [(cA, .long)]) s) : cJ = cA := by
  have e1 : s.vm.findClass ("[" ++ FieldType.long.toString) = some cJ := (h.2 0 (cJ, .long) rfl).2
  have e2 : s.vm.findClass ("[" ++ FieldType.long.toString) = some cA := (h.2 2 (cA, .long) rfl).2
  exact Option.some.inj (e1.symm.trans e2)
theorem pb_cidI {D : va_G} {cI cJ cA : ClassId} {s : State} (h : va_K D vwCl (pb_ty cI cJ ++ [(cA, .int)]) s) : cI = cA := by
  have e1 : s.vm.findClass ("[" ++ FieldType.int.toString) = some cI := (h.2 1 (cI, .int) rfl).2
  have e2 : s.vm.findClass ("[" ++ FieldType.int.toString) = some cA := (h.2 2 (cA, .int) rfl).2
  exact Option.some.inj (e1.symm.trans e2)
/-- a row copied into a longer one -/
abbrev pb_cpJ (F : Nat → Int64) (cap : Nat) : Nat → Int64 := va_cpy F (fun _ => 0) 0 0 cap
abbrev pb_cpI (F : Nat → Int32) (cap : Nat) : Nat → Int32 := va_cpy F (fun _ => 0) 0 0 cap
theorem pb_cp_in {α : Type} {F g : Nat → α} {cap x : Nat} (h : x < cap) : va_cpy F g 0 0 cap x = F x := by
  rw [pk_cpy_in (Nat.zero_le _) (by omega), Nat.sub_zero, Nat.zero_add]
variable {l : Launch} {D : va_G} {cI cJ : ClassId} {h0 k1 c1 h1 cap sz : Nat} {Kf : Nat → Int64} {Cf : Nat → Int32} {Hf : Nat → Int64}
set_option maxHeartbeats 4000000 in
set_option maxRecDepth 100000 in
theorem c_copyOfJ (z : Nat) (hz : cap < z ∧ z ≤ 1024) : Met l yJ7_copyOf_c38d5 wsJ7_copyOf_c38d5 ({ frames := 1, cells := 1, slots := 1024, locals := 60 } : Room) (pb_XD [.ref k1, .int (nI z)] D (pb_ty cI cJ) [(k1, .inl (cJ, cap, .inr (.inl Kf)))] sz) (va_Qr (fun _ : Unit => True) (fun _ q1 t => va_P D vwCl [(k1, .inl (cJ, cap, .inr (.inl Kf))), (q1, .inl (cJ, z, .inr (.inl (pb_cpJ Kf cap))))] t.heap ∧ va_K D vwCl (pb_ty cI cJ) t ∧ va_D (va_A [(k1, .inl (cJ, cap, .inr (.inl Kf)))] sz) [(k1, .inl (cJ, cap, .inr (.inl Kf))), (q1, .inl (cJ, z, .inr (.inl (pb_cpJ Kf cap))))]) (va_A [(k1, .inl (cJ, cap, .inr (.inl Kf)))] sz)) 1 1024 (va_A [(k1, .inl (cJ, cap, .inr (.inl Kf)))] sz) := by
  refine Met.ofW (cc := cJ7_copyOf_c38d5) (maxL := 3) (ret := (some (.array .long))) (by decide) rfl ?_
  intro p e s m args below meth c s₁ B hml hv
  obtain ⟨rfl, hsz, hP, hK, hD0⟩ := hv
  have hx := B.exec
  have hb := B.bytes
  have hr := B.returns
  have hts := atoms_spec (ws := wsJ7_copyOf_c38d5) B.pre
  have hown : s.vm.findClass RJ7 = some m.cls := findClass_of_methodNamed B.named
  have hlocks := B.notSynchronized
  subst hsz
  have hD := hD0.self (sz := s.heap.size)
  generalize hAe : va_A [(k1, .inl (cJ, cap, .inr (.inl Kf)))] s.heap.size = A at hD ⊢
  have hA : ∀ q : Nat, s.heap.size ≤ q → A q := fun q h => by rw [← hAe]; exact Or.inr h
  have hS : va_S A s.heap s.heap [] := va_S.rf
  have hl := lv_entry ([.ref k1, .int (nI z)]) (n := 3) (Nat.le_of_ble_eq_true rfl)
  rw [lg_entry_eq]
  generalize (lg_sl ([.ref k1, .int (nI z)]) ++ List.replicate (3 - (lg_sl ([.ref k1, .int (nI z)])).length) Slot.unset).toArray = ls at hl ⊢
  have hl : lv_has ls 3 [(0, .ref k1), (1, .int (nI z))] := hl
  refine lv_iload_n hx hb dJ7_copyOf_c38d5_0 rfl (lv_at hl 1 rfl) ?_
  refine lv_aload_n hx hb dJ7_copyOf_c38d5_1 rfl (lv_at hl 0 rfl) ?_
  refine va_alen hx hb hK hP 0 0 rfl rfl (v := nI cap) rfl dJ7_copyOf_c38d5_2 ?_
  refine lv_icmp_ne (tgt := 14) hx hb dJ7_copyOf_c38d5_3 (by decide) (fun _ => ?_) (fun w => absurd ((nI_eq (by omega) (by omega)).mp w) (by omega))
  refine lv_iload_n hx hb dJ7_copyOf_c38d5_14 rfl (lv_at hl 1 rfl) ?_
  refine va_newa (atype := .long) (ty := .long) (N' := z) (a0 := (z, .inr (.inl (fun _ => 0)))) hx hb (hts (.arrayClass .long) (by decide +kernel)) rfl hK hP hD hS hA (fun cA => rfl) (nI_pos (by omega)) (nI_clamp (by omega)) (by show z * 8 ≤ _; omega) (Nat.le_of_ble_eq_true rfl) (by show 0 + z ≤ 1024; omega) dJ7_copyOf_c38d5_15 (fun q1 cA H hK9 hP hD hS => ?_)
  obtain rfl := pb_cidJ hK9
  refine W.widen (k := 1) (n := 1024) (Nat.le_of_ble_eq_true rfl) (by omega) ?_
  refine lv_astore_n (lv' := [(2, .ref q1), (0, .ref k1), (1, .int (nI z))]) hx hb dJ7_copyOf_c38d5_17 rfl hl (by decide) rfl (fun ls hl => ?_)
  refine lv_aload_n hx hb dJ7_copyOf_c38d5_18 rfl (lv_at hl 1 rfl) ?_
  refine lv_iconst (v := 0) hx hb dJ7_copyOf_c38d5_19 (by decide) ?_
  refine lv_aload_n hx hb dJ7_copyOf_c38d5_20 rfl (lv_at hl 0 rfl) ?_
  refine lv_iconst (v := 0) hx hb dJ7_copyOf_c38d5_21 (by decide) ?_
  refine lv_aload_n hx hb dJ7_copyOf_c38d5_22 rfl (lv_at hl 1 rfl) ?_
  refine va_alen hx hb hK hP 0 0 rfl rfl (v := nI cap) rfl dJ7_copyOf_c38d5_23 ?_
  refine lv_iload_n hx hb dJ7_copyOf_c38d5_24 rfl (lv_at hl 2 rfl) ?_
  refine va_mmin hx hb (hml.trans hl.1.symm) hown (hts (.methodLink RJ7 304 Lib.Math.min.name) (by decide +kernel)) (hts (.static Lib.Math.min.name) (by decide +kernel)) (hts (.initialized "java/lang/Math") (by decide +kernel)) (hts (.code Lib.Math.min.name Lib.Math.min.code 2 (some .int)) (by decide +kernel)) (Nat.le_of_ble_eq_true rfl) (Nat.le_of_ble_eq_true rfl) (Nat.le_of_ble_eq_true rfl) (Nat.le_of_ble_eq_true rfl) dJ7_copyOf_c38d5_25 ?_
  refine pb_topi (z := nI cap) (if_neg (nI_nlt (by omega) (by omega))) ?_
  refine va_copyl hx hb (hml.trans hl.1.symm) hown (hts (.methodLink RJ7 150 arraycopyName) (by decide +kernel)) (hts (.native arraycopyName) (by decide +kernel)) (hts (.static arraycopyName) (by decide +kernel)) (hts (.initialized "java/lang/System") (by decide +kernel)) hK hP hD hS 0 1 0 0 rfl rfl rfl rfl rfl (by decide) (by decide) (nI_pos (by omega)) (by rw [nI_clamp (by omega), sb_cl0]; omega) (by rw [nI_clamp (by omega), sb_cl0]; omega) (fun i _ => rfl) (Nat.le_of_ble_eq_true rfl) (by decide +kernel) dJ7_copyOf_c38d5_28 (fun H locs hP hD hS => ?_)
  rw [nI_clamp (show cap < 2 ^ 31 by omega), sb_cl0] at hP hD
  refine lv_aload_n hx hb dJ7_copyOf_c38d5_31 rfl (lv_at hl 0 rfl) ?_
  have hP9 : va_P D vwCl [(k1, .inl (cJ, cap, .inr (.inl Kf))), (q1, .inl (cJ, z, .inr (.inl (pb_cpJ Kf cap))))] H := hP
  have hD9 : va_D A [(k1, .inl (cJ, cap, .inr (.inl Kf))), (q1, .inl (cJ, z, .inr (.inl (pb_cpJ Kf cap))))] := hD
  exact W.aret hx hb hr (Or.inr ⟨_, rfl⟩) (Or.inr ⟨_, rfl⟩) (fun t ht hW => ⟨⟨(), q1, rfl, trivial, by rw [ht]; exact hP9, va_K.moved hW.alike hK, hD9⟩, hS.F ht⟩) hS.2.2 dJ7_copyOf_c38d5_32
set_option maxHeartbeats 4000000 in
set_option maxRecDepth 100000 in
theorem c_copyOfI (z : Nat) (hz : cap < z ∧ z ≤ 1024) : Met l yJ7_copyOf_59c91 wsJ7_copyOf_59c91 ({ frames := 1, cells := 1, slots := 1024, locals := 60 } : Room) (pb_XD [.ref k1, .int (nI z)] D (pb_ty cI cJ) [(k1, .inl (cI, cap, .inl Cf))] sz) (va_Qr (fun _ : Unit => True) (fun _ q1 t => va_P D vwCl [(k1, .inl (cI, cap, .inl Cf)), (q1, .inl (cI, z, .inl (pb_cpI Cf cap)))] t.heap ∧ va_K D vwCl (pb_ty cI cJ) t ∧ va_D (va_A [(k1, .inl (cI, cap, .inl Cf))] sz) [(k1, .inl (cI, cap, .inl Cf)), (q1, .inl (cI, z, .inl (pb_cpI Cf cap)))]) (va_A [(k1, .inl (cI, cap, .inl Cf))] sz)) 1 1024 (va_A [(k1, .inl (cI, cap, .inl Cf))] sz) := by
  refine Met.ofW (cc := cJ7_copyOf_59c91) (maxL := 3) (ret := (some (.array .int))) (by decide) rfl ?_
  intro p e s m args below meth c s₁ B hml hv
  obtain ⟨rfl, hsz, hP, hK, hD0⟩ := hv
  have hx := B.exec
  have hb := B.bytes
  have hr := B.returns
  have hts := atoms_spec (ws := wsJ7_copyOf_59c91) B.pre
  have hown : s.vm.findClass RJ7 = some m.cls := findClass_of_methodNamed B.named
  have hlocks := B.notSynchronized
  subst hsz
  have hD := hD0.self (sz := s.heap.size)
  generalize hAe : va_A [(k1, .inl (cI, cap, .inl Cf))] s.heap.size = A at hD ⊢
  have hA : ∀ q : Nat, s.heap.size ≤ q → A q := fun q h => by rw [← hAe]; exact Or.inr h
  have hS : va_S A s.heap s.heap [] := va_S.rf
  have hl := lv_entry ([.ref k1, .int (nI z)]) (n := 3) (Nat.le_of_ble_eq_true rfl)
  rw [lg_entry_eq]
  generalize (lg_sl ([.ref k1, .int (nI z)]) ++ List.replicate (3 - (lg_sl ([.ref k1, .int (nI z)])).length) Slot.unset).toArray = ls at hl ⊢
  have hl : lv_has ls 3 [(0, .ref k1), (1, .int (nI z))] := hl
  refine lv_iload_n hx hb dJ7_copyOf_59c91_0 rfl (lv_at hl 1 rfl) ?_
  refine lv_aload_n hx hb dJ7_copyOf_59c91_1 rfl (lv_at hl 0 rfl) ?_
  refine va_alen hx hb hK hP 0 1 rfl rfl (v := nI cap) rfl dJ7_copyOf_59c91_2 ?_
  refine lv_icmp_ne (tgt := 14) hx hb dJ7_copyOf_59c91_3 (by decide) (fun _ => ?_) (fun w => absurd ((nI_eq (by omega) (by omega)).mp w) (by omega))
  refine lv_iload_n hx hb dJ7_copyOf_59c91_14 rfl (lv_at hl 1 rfl) ?_
  refine va_newa (atype := .int) (ty := .int) (N' := z) (a0 := (z, .inl (fun _ => 0))) hx hb (hts (.arrayClass .int) (by decide +kernel)) rfl hK hP hD hS hA (fun cA => rfl) (nI_pos (by omega)) (nI_clamp (by omega)) (by show z * 4 ≤ _; omega) (Nat.le_of_ble_eq_true rfl) (by show 0 + z ≤ 1024; omega) dJ7_copyOf_59c91_15 (fun q1 cA H hK9 hP hD hS => ?_)
  obtain rfl := pb_cidI hK9
  refine W.widen (k := 1) (n := 1024) (Nat.le_of_ble_eq_true rfl) (by omega) ?_
  refine lv_astore_n (lv' := [(2, .ref q1), (0, .ref k1), (1, .int (nI z))]) hx hb dJ7_copyOf_59c91_17 rfl hl (by decide) rfl (fun ls hl => ?_)
  refine lv_aload_n hx hb dJ7_copyOf_59c91_18 rfl (lv_at hl 1 rfl) ?_
  refine lv_iconst (v := 0) hx hb dJ7_copyOf_59c91_19 (by decide) ?_
  refine lv_aload_n hx hb dJ7_copyOf_59c91_20 rfl (lv_at hl 0 rfl) ?_
  refine lv_iconst (v := 0) hx hb dJ7_copyOf_59c91_21 (by decide) ?_
  refine lv_aload_n hx hb dJ7_copyOf_59c91_22 rfl (lv_at hl 1 rfl) ?_
  refine va_alen hx hb hK hP 0 1 rfl rfl (v := nI cap) rfl dJ7_copyOf_59c91_23 ?_
  refine lv_iload_n hx hb dJ7_copyOf_59c91_24 rfl (lv_at hl 2 rfl) ?_
  refine va_mmin hx hb (hml.trans hl.1.symm) hown (hts (.methodLink RJ7 304 Lib.Math.min.name) (by decide +kernel)) (hts (.static Lib.Math.min.name) (by decide +kernel)) (hts (.initialized "java/lang/Math") (by decide +kernel)) (hts (.code Lib.Math.min.name Lib.Math.min.code 2 (some .int)) (by decide +kernel)) (Nat.le_of_ble_eq_true rfl) (Nat.le_of_ble_eq_true rfl) (Nat.le_of_ble_eq_true rfl) (Nat.le_of_ble_eq_true rfl) dJ7_copyOf_59c91_25 ?_
  refine pb_topi (z := nI cap) (if_neg (nI_nlt (by omega) (by omega))) ?_
  refine va_copyi hx hb (hml.trans hl.1.symm) hown (hts (.methodLink RJ7 150 arraycopyName) (by decide +kernel)) (hts (.native arraycopyName) (by decide +kernel)) (hts (.static arraycopyName) (by decide +kernel)) (hts (.initialized "java/lang/System") (by decide +kernel)) hK hP hD hS 0 1 1 1 rfl rfl rfl rfl rfl (by decide) (by decide) (nI_pos (by omega)) (by rw [nI_clamp (by omega), sb_cl0]; omega) (by rw [nI_clamp (by omega), sb_cl0]; omega) (fun i _ => rfl) (Nat.le_of_ble_eq_true rfl) (by decide +kernel) dJ7_copyOf_59c91_28 (fun H locs hP hD hS => ?_)
  rw [nI_clamp (show cap < 2 ^ 31 by omega), sb_cl0] at hP hD
  refine lv_aload_n hx hb dJ7_copyOf_59c91_31 rfl (lv_at hl 0 rfl) ?_
  have hP9 : va_P D vwCl [(k1, .inl (cI, cap, .inl Cf)), (q1, .inl (cI, z, .inl (pb_cpI Cf cap)))] H := hP
  have hD9 : va_D A [(k1, .inl (cI, cap, .inl Cf)), (q1, .inl (cI, z, .inl (pb_cpI Cf cap)))] := hD
  exact W.aret hx hb hr (Or.inr ⟨_, rfl⟩) (Or.inr ⟨_, rfl⟩) (fun t ht hW => ⟨⟨(), q1, rfl, trivial, by rw [ht]; exact hP9, va_K.moved hW.alike hK, hD9⟩, hS.F ht⟩) hS.2.2 dJ7_copyOf_59c91_32
set_option maxHeartbeats 4000000 in
set_option maxRecDepth 100000 in
theorem c_X0_grow_n (n : Nat) (hn : n < cap ∧ cap < 2 ^ 30) : pb_Wq l yX0_growIfFull wsX0_growIfFull 2 0 0 82 [.ref h0] D (pb_ty cI cJ) (pb_wX cI cJ h0 k1 c1 h1 cap Kf Cf Hf (nI n)) sz (none) (pb_B D (pb_ty cI cJ) (pb_wX cI cJ h0 k1 c1 h1 cap Kf Cf Hf (nI n))) := by
  refine pb_ofW RX0 (by decide) rfl rfl (Nat.le_of_ble_eq_true rfl) (fun p e s m args below meth c ls A hx hb hml hr hlocks hown hts hP hK hD hS hA hl hin9 => ?_)
  have hinX0 : ∀ w ∈ wsX00, w ∈ wsX0_growIfFull := by decide +kernel
  have hl : lv_has ls 2 [(0, .ref h0)] := hl
  have hP : va_P D vwCl (pb_wX cI cJ h0 k1 c1 h1 cap Kf Cf Hf (nI n)) s.heap := hP
  have hD : va_D A (pb_wX cI cJ h0 k1 c1 h1 cap Kf Cf Hf (nI n)) := hD
  refine lv_aload_n hx hb dX0_growIfFull_0 rfl (lv_at hl 0 rfl) ?_
  refine va_get (D := D) (ci := 0) (v := .ref k1) (C := RX0) (T := TX0) (N := 4) hx hb hts hinX0 hown hK hP 0 rfl rfl 0 (by decide) (hts (.fieldLink RX0 9 "PrefixBench" "keys" "[J") (by decide +kernel)) (fun _ h9 => h9) rfl dX0_growIfFull_1 ?_
  refine va_alen hx hb hK hP 1 0 rfl rfl (v := nI cap) rfl dX0_growIfFull_4 ?_
  refine lv_iconst (v := 2) hx hb dX0_growIfFull_5 (by decide) ?_
  refine lv_imul hx hb dX0_growIfFull_6 ?_
  refine pb_topi (z := nI (cap * 2)) (pk_mul cap 2) ?_
  refine lv_istore_n (lv' := [(1, .int (nI (cap * 2))), (0, .ref h0)]) hx hb dX0_growIfFull_7 rfl hl (by decide) rfl (fun ls hl => ?_)
  refine lv_aload_n hx hb dX0_growIfFull_8 rfl (lv_at hl 1 rfl) ?_
  refine va_get (D := D) (ci := 0) (v := .int (nI n)) (C := RX0) (T := TX0) (N := 4) hx hb hts hinX0 hown hK hP 0 rfl rfl 3 (by decide) (hts (.fieldLink RX0 20 "PrefixBench" "count" "I") (by decide +kernel)) (fun _ h9 => h9) rfl dX0_growIfFull_9 ?_
  refine lv_aload_n hx hb dX0_growIfFull_12 rfl (lv_at hl 1 rfl) ?_
  refine va_get (D := D) (ci := 0) (v := .ref k1) (C := RX0) (T := TX0) (N := 4) hx hb hts hinX0 hown hK hP 0 rfl rfl 0 (by decide) (hts (.fieldLink RX0 9 "PrefixBench" "keys" "[J") (by decide +kernel)) (fun _ h9 => h9) rfl dX0_growIfFull_13 ?_
  refine va_alen hx hb hK hP 1 0 rfl rfl (v := nI cap) rfl dX0_growIfFull_16 ?_
  refine lv_icmp_lt (tgt := 67) hx hb dX0_growIfFull_17 (by decide) (fun q17 => ?_) (fun q17 => absurd ((nI_ltI (a := n) (b := cap) (by omega) (by omega)).mpr hn.1) q17)
  exact pb_wv hx hb hr hlocks hS dX0_growIfFull_67 (pb_B_of hP hK hD)

set_option maxHeartbeats 4000000 in
set_option maxRecDepth 100000 in
theorem c_X0_grow_g (n : Nat) (hn : n = cap ∧ 0 < cap ∧ cap ≤ 512) : pb_Wq l yX0_growIfFull wsX0_growIfFull 2 3 3072 82 [.ref h0] D (pb_ty cI cJ) (pb_wX cI cJ h0 k1 c1 h1 cap Kf Cf Hf (nI n)) sz (none) (fun A t => ∃ q1 q2 q3 : Nat, pb_B D (pb_ty cI cJ) (pb_wX cI cJ h0 q1 q2 q3 (cap * 2) (pb_cpJ Kf cap) (pb_cpI Cf cap) (pb_cpJ Hf cap) (nI n)) A t) := by
  refine pb_ofW RX0 (by decide) rfl rfl (Nat.le_of_ble_eq_true rfl) (fun p e s m args below meth c ls A hx hb hml hr hlocks hown hts hP hK hD hS hA hl hin9 => ?_)
  have hinX0 : ∀ w ∈ wsX00, w ∈ wsX0_growIfFull := by decide +kernel
  have hl : lv_has ls 2 [(0, .ref h0)] := hl
  have hP : va_P D vwCl (pb_wX cI cJ h0 k1 c1 h1 cap Kf Cf Hf (nI n)) s.heap := hP
  have hD : va_D A (pb_wX cI cJ h0 k1 c1 h1 cap Kf Cf Hf (nI n)) := hD
  refine lv_aload_n hx hb dX0_growIfFull_0 rfl (lv_at hl 0 rfl) ?_
  refine va_get (D := D) (ci := 0) (v := .ref k1) (C := RX0) (T := TX0) (N := 4) hx hb hts hinX0 hown hK hP 0 rfl rfl 0 (by decide) (hts (.fieldLink RX0 9 "PrefixBench" "keys" "[J") (by decide +kernel)) (fun _ h9 => h9) rfl dX0_growIfFull_1 ?_
  refine va_alen hx hb hK hP 1 0 rfl rfl (v := nI cap) rfl dX0_growIfFull_4 ?_
  refine lv_iconst (v := 2) hx hb dX0_growIfFull_5 (by decide) ?_
  refine lv_imul hx hb dX0_growIfFull_6 ?_
  refine pb_topi (z := nI (cap * 2)) (pk_mul cap 2) ?_
  refine lv_istore_n (lv' := [(1, .int (nI (cap * 2))), (0, .ref h0)]) hx hb dX0_growIfFull_7 rfl hl (by decide) rfl (fun ls hl => ?_)
  refine lv_aload_n hx hb dX0_growIfFull_8 rfl (lv_at hl 1 rfl) ?_
  refine va_get (D := D) (ci := 0) (v := .int (nI n)) (C := RX0) (T := TX0) (N := 4) hx hb hts hinX0 hown hK hP 0 rfl rfl 3 (by decide) (hts (.fieldLink RX0 20 "PrefixBench" "count" "I") (by decide +kernel)) (fun _ h9 => h9) rfl dX0_growIfFull_9 ?_
  refine lv_aload_n hx hb dX0_growIfFull_12 rfl (lv_at hl 1 rfl) ?_
  refine va_get (D := D) (ci := 0) (v := .ref k1) (C := RX0) (T := TX0) (N := 4) hx hb hts hinX0 hown hK hP 0 rfl rfl 0 (by decide) (hts (.fieldLink RX0 9 "PrefixBench" "keys" "[J") (by decide +kernel)) (fun _ h9 => h9) rfl dX0_growIfFull_13 ?_
  refine va_alen hx hb hK hP 1 0 rfl rfl (v := nI cap) rfl dX0_growIfFull_16 ?_
  refine lv_icmp_lt (tgt := 67) hx hb dX0_growIfFull_17 (by decide) (fun q17 => absurd q17 (nI_nlt (a := n) (b := cap) (by omega) (by omega))) (fun q17 => ?_)
  refine lv_iload_n hx hb dX0_growIfFull_20 rfl (lv_at hl 0 rfl) ?_
  refine lv_if_le (tgt := 67) hx hb dX0_growIfFull_21 (by decide) (fun q21 => absurd q21 (nI_nle (by omega) (by omega))) (fun q21 => ?_)
  refine lv_iload_n hx hb dX0_growIfFull_24 rfl (lv_at hl 0 rfl) ?_
  refine lv_sipush (v := 2048) hx hb dX0_growIfFull_25 (by decide) ?_
  refine lv_icmp_gt (tgt := 67) hx hb dX0_growIfFull_28 (by decide) (fun q28 => absurd q28 (nI_nlt (a := 2048) (b := cap * 2) (by omega) (by decide))) (fun q28 => ?_)
  refine lv_aload_n hx hb dX0_growIfFull_31 rfl (lv_at hl 1 rfl) ?_
  refine lv_aload_n hx hb dX0_growIfFull_32 rfl (lv_at hl 1 rfl) ?_
  refine va_get (D := D) (ci := 0) (v := .ref k1) (C := RX0) (T := TX0) (N := 4) hx hb hts hinX0 hown hK hP 0 rfl rfl 0 (by decide) (hts (.fieldLink RX0 9 "PrefixBench" "keys" "[J") (by decide +kernel)) (fun _ h9 => h9) rfl dX0_growIfFull_33 ?_
  refine lv_iload_n hx hb dX0_growIfFull_36 rfl (lv_at hl 0 rfl) ?_
  have hPc := hP.sub (ws' := [(k1, .inl (cJ, cap, .inr (.inl Kf)))]) [1] rfl
  have hDc := hD.sub (ws' := [(k1, .inl (cJ, cap, .inr (.inl Kf)))]) [1] (by decide) rfl
  have hFc := va_free (wc := [(k1, .inl (cJ, cap, .inr (.inl Kf)))]) hD hS hA [1] rfl
  refine va_callr (va_runS (As := [.ref k1, .int (nI (cap * 2))]) (rest := [.ref h0]) ⟨hx, hb, hml, hown, hts⟩ (c_copyOfJ (cap * 2) (by omega)) (va_cwS 2 hts gX0_growIfFull_J7_copyOf_c38d5 rfl rfl rfl (by decide +kernel) ⟨Nat.le_of_ble_eq_true rfl, Nat.le_of_ble_eq_true rfl⟩) ⟨pb_XD_blind, pb_XD_pre hPc hK hDc⟩ rfl rfl hl.1 rfl (lv_room (Nat.le_of_ble_eq_true rfl)) dX0_growIfFull_37 ⟨Nat.le_of_ble_eq_true rfl, Nat.le_of_ble_eq_true rfl⟩) hS (fun q _ h => hFc q h) hFc (fun u9 q1 t9 H locs ht hvm hw hB hz1 hk1 hS => ?_)
  obtain ⟨hP1, hK1, hD1⟩ := hB
  rw [ht] at hP1
  obtain ⟨hP, hD⟩ := va_join (wr := [(h0, .inr (0, [.ref k1, .ref c1, .ref h1, .int (nI n)])), (c1, .inl (cI, cap, .inl Cf)), (h1, .inl (cJ, cap, .inr (.inl Hf)))]) (w1 := [(k1, .inl (cJ, cap, .inr (.inl Kf))), (q1, .inl (cJ, (cap * 2), .inr (.inl (pb_cpJ Kf cap))))]) hP hD [1] [0, 2, 3] rfl rfl (by decide) (by decide) hk1 hFc hP1 hD1
  have hP : va_P D vwCl [(h0, .inr (0, [.ref k1, .ref c1, .ref h1, .int (nI n)])), (c1, .inl (cI, cap, .inl Cf)), (h1, .inl (cJ, cap, .inr (.inl Hf))), (k1, .inl (cJ, cap, .inr (.inl Kf))), (q1, .inl (cJ, (cap * 2), .inr (.inl (pb_cpJ Kf cap))))] H := hP
  have hD : va_D A [(h0, .inr (0, [.ref k1, .ref c1, .ref h1, .int (nI n)])), (c1, .inl (cI, cap, .inl Cf)), (h1, .inl (cJ, cap, .inr (.inl Hf))), (k1, .inl (cJ, cap, .inr (.inl Kf))), (q1, .inl (cJ, (cap * 2), .inr (.inl (pb_cpJ Kf cap))))] := hD
  refine va_put (D := D) (ci := 0) (v := .ref q1) (ty := .array .long) (C := RX0) (T := TX0) (N := 4) hx hb hts hinX0 tyX0 tyX0_ok nmX0 hown hK hP hD hS 0 rfl rfl 0 (by decide) (hts (.fieldLink RX0 9 "PrefixBench" "keys" "[J") (by decide +kernel)) (fun _ h9 => h9) rfl (by decide +kernel) rfl rfl (Nat.le_of_ble_eq_true rfl) dX0_growIfFull_40 (fun H locs hP hD hS => ?_)
  have hP : va_P D vwCl [(h0, .inr (0, [.ref q1, .ref c1, .ref h1, .int (nI n)])), (q1, .inl (cJ, (cap * 2), .inr (.inl (pb_cpJ Kf cap)))), (c1, .inl (cI, cap, .inl Cf)), (h1, .inl (cJ, cap, .inr (.inl Hf)))] H := hP.sub [0, 4, 1, 2] rfl
  have hD : va_D A [(h0, .inr (0, [.ref q1, .ref c1, .ref h1, .int (nI n)])), (q1, .inl (cJ, (cap * 2), .inr (.inl (pb_cpJ Kf cap)))), (c1, .inl (cI, cap, .inl Cf)), (h1, .inl (cJ, cap, .inr (.inl Hf)))] := hD.sub [0, 4, 1, 2] (by decide) rfl
  refine lv_aload_n hx hb dX0_growIfFull_43 rfl (lv_at hl 1 rfl) ?_
  refine lv_aload_n hx hb dX0_growIfFull_44 rfl (lv_at hl 1 rfl) ?_
  refine va_get (D := D) (ci := 0) (v := .ref c1) (C := RX0) (T := TX0) (N := 4) hx hb hts hinX0 hown hK hP 0 rfl rfl 1 (by decide) (hts (.fieldLink RX0 13 "PrefixBench" "costs" "[I") (by decide +kernel)) (fun _ h9 => h9) rfl dX0_growIfFull_45 ?_
  refine lv_iload_n hx hb dX0_growIfFull_48 rfl (lv_at hl 0 rfl) ?_
  have hPc := hP.sub (ws' := [(c1, .inl (cI, cap, .inl Cf))]) [2] rfl
  have hDc := hD.sub (ws' := [(c1, .inl (cI, cap, .inl Cf))]) [2] (by decide) rfl
  have hFc := va_free (wc := [(c1, .inl (cI, cap, .inl Cf))]) hD hS hA [2] rfl
  refine va_callr (va_runS (As := [.ref c1, .int (nI (cap * 2))]) (rest := [.ref h0]) ⟨hx, hb, hml, hown, hts⟩ (c_copyOfI (cap * 2) (by omega)) (va_cwS 2 hts gX0_growIfFull_J7_copyOf_59c91 rfl rfl rfl (by decide +kernel) ⟨Nat.le_of_ble_eq_true rfl, Nat.le_of_ble_eq_true rfl⟩) ⟨pb_XD_blind, pb_XD_pre hPc hK hDc⟩ rfl rfl hl.1 rfl (lv_room (Nat.le_of_ble_eq_true rfl)) dX0_growIfFull_49 ⟨Nat.le_of_ble_eq_true rfl, Nat.le_of_ble_eq_true rfl⟩) hS (fun q _ h => hFc q h) hFc (fun u9 q2 t9 H locs ht hvm hw hB hz1 hk1 hS => ?_)
  obtain ⟨hP1, hK1, hD1⟩ := hB
  rw [ht] at hP1
  obtain ⟨hP, hD⟩ := va_join (wr := [(h0, .inr (0, [.ref q1, .ref c1, .ref h1, .int (nI n)])), (q1, .inl (cJ, (cap * 2), .inr (.inl (pb_cpJ Kf cap)))), (h1, .inl (cJ, cap, .inr (.inl Hf)))]) (w1 := [(c1, .inl (cI, cap, .inl Cf)), (q2, .inl (cI, (cap * 2), .inl (pb_cpI Cf cap)))]) hP hD [2] [0, 1, 3] rfl rfl (by decide) (by decide) hk1 hFc hP1 hD1
  have hP : va_P D vwCl [(h0, .inr (0, [.ref q1, .ref c1, .ref h1, .int (nI n)])), (q1, .inl (cJ, (cap * 2), .inr (.inl (pb_cpJ Kf cap)))), (h1, .inl (cJ, cap, .inr (.inl Hf))), (c1, .inl (cI, cap, .inl Cf)), (q2, .inl (cI, (cap * 2), .inl (pb_cpI Cf cap)))] H := hP
  have hD : va_D A [(h0, .inr (0, [.ref q1, .ref c1, .ref h1, .int (nI n)])), (q1, .inl (cJ, (cap * 2), .inr (.inl (pb_cpJ Kf cap)))), (h1, .inl (cJ, cap, .inr (.inl Hf))), (c1, .inl (cI, cap, .inl Cf)), (q2, .inl (cI, (cap * 2), .inl (pb_cpI Cf cap)))] := hD
  refine va_put (D := D) (ci := 0) (v := .ref q2) (ty := .array .int) (C := RX0) (T := TX0) (N := 4) hx hb hts hinX0 tyX0 tyX0_ok nmX0 hown hK hP hD hS 0 rfl rfl 1 (by decide) (hts (.fieldLink RX0 13 "PrefixBench" "costs" "[I") (by decide +kernel)) (fun _ h9 => h9) rfl (by decide +kernel) rfl rfl (Nat.le_of_ble_eq_true rfl) dX0_growIfFull_52 (fun H locs hP hD hS => ?_)
  have hP : va_P D vwCl [(h0, .inr (0, [.ref q1, .ref q2, .ref h1, .int (nI n)])), (q1, .inl (cJ, (cap * 2), .inr (.inl (pb_cpJ Kf cap)))), (q2, .inl (cI, (cap * 2), .inl (pb_cpI Cf cap))), (h1, .inl (cJ, cap, .inr (.inl Hf)))] H := hP.sub [0, 1, 4, 2] rfl
  have hD : va_D A [(h0, .inr (0, [.ref q1, .ref q2, .ref h1, .int (nI n)])), (q1, .inl (cJ, (cap * 2), .inr (.inl (pb_cpJ Kf cap)))), (q2, .inl (cI, (cap * 2), .inl (pb_cpI Cf cap))), (h1, .inl (cJ, cap, .inr (.inl Hf)))] := hD.sub [0, 1, 4, 2] (by decide) rfl
  refine lv_aload_n hx hb dX0_growIfFull_55 rfl (lv_at hl 1 rfl) ?_
  refine lv_aload_n hx hb dX0_growIfFull_56 rfl (lv_at hl 1 rfl) ?_
  refine va_get (D := D) (ci := 0) (v := .ref h1) (C := RX0) (T := TX0) (N := 4) hx hb hts hinX0 hown hK hP 0 rfl rfl 2 (by decide) (hts (.fieldLink RX0 17 "PrefixBench" "hopSets" "[J") (by decide +kernel)) (fun _ h9 => h9) rfl dX0_growIfFull_57 ?_
  refine lv_iload_n hx hb dX0_growIfFull_60 rfl (lv_at hl 0 rfl) ?_
  have hPc := hP.sub (ws' := [(h1, .inl (cJ, cap, .inr (.inl Hf)))]) [3] rfl
  have hDc := hD.sub (ws' := [(h1, .inl (cJ, cap, .inr (.inl Hf)))]) [3] (by decide) rfl
  have hFc := va_free (wc := [(h1, .inl (cJ, cap, .inr (.inl Hf)))]) hD hS hA [3] rfl
  refine va_callr (va_runS (As := [.ref h1, .int (nI (cap * 2))]) (rest := [.ref h0]) ⟨hx, hb, hml, hown, hts⟩ (c_copyOfJ (cap * 2) (by omega)) (va_cwS 2 hts gX0_growIfFull_J7_copyOf_c38d5 rfl rfl rfl (by decide +kernel) ⟨Nat.le_of_ble_eq_true rfl, Nat.le_of_ble_eq_true rfl⟩) ⟨pb_XD_blind, pb_XD_pre hPc hK hDc⟩ rfl rfl hl.1 rfl (lv_room (Nat.le_of_ble_eq_true rfl)) dX0_growIfFull_61 ⟨Nat.le_of_ble_eq_true rfl, Nat.le_of_ble_eq_true rfl⟩) hS (fun q _ h => hFc q h) hFc (fun u9 q3 t9 H locs ht hvm hw hB hz1 hk1 hS => ?_)
  obtain ⟨hP1, hK1, hD1⟩ := hB
  rw [ht] at hP1
  obtain ⟨hP, hD⟩ := va_join (wr := [(h0, .inr (0, [.ref q1, .ref q2, .ref h1, .int (nI n)])), (q1, .inl (cJ, (cap * 2), .inr (.inl (pb_cpJ Kf cap)))), (q2, .inl (cI, (cap * 2), .inl (pb_cpI Cf cap)))]) (w1 := [(h1, .inl (cJ, cap, .inr (.inl Hf))), (q3, .inl (cJ, (cap * 2), .inr (.inl (pb_cpJ Hf cap))))]) hP hD [3] [0, 1, 2] rfl rfl (by decide) (by decide) hk1 hFc hP1 hD1
  have hP : va_P D vwCl [(h0, .inr (0, [.ref q1, .ref q2, .ref h1, .int (nI n)])), (q1, .inl (cJ, (cap * 2), .inr (.inl (pb_cpJ Kf cap)))), (q2, .inl (cI, (cap * 2), .inl (pb_cpI Cf cap))), (h1, .inl (cJ, cap, .inr (.inl Hf))), (q3, .inl (cJ, (cap * 2), .inr (.inl (pb_cpJ Hf cap))))] H := hP
  have hD : va_D A [(h0, .inr (0, [.ref q1, .ref q2, .ref h1, .int (nI n)])), (q1, .inl (cJ, (cap * 2), .inr (.inl (pb_cpJ Kf cap)))), (q2, .inl (cI, (cap * 2), .inl (pb_cpI Cf cap))), (h1, .inl (cJ, cap, .inr (.inl Hf))), (q3, .inl (cJ, (cap * 2), .inr (.inl (pb_cpJ Hf cap))))] := hD
  refine va_put (D := D) (ci := 0) (v := .ref q3) (ty := .array .long) (C := RX0) (T := TX0) (N := 4) hx hb hts hinX0 tyX0 tyX0_ok nmX0 hown hK hP hD hS 0 rfl rfl 2 (by decide) (hts (.fieldLink RX0 17 "PrefixBench" "hopSets" "[J") (by decide +kernel)) (fun _ h9 => h9) rfl (by decide +kernel) rfl rfl (Nat.le_of_ble_eq_true rfl) dX0_growIfFull_64 (fun H locs hP hD hS => ?_)
  have hP : va_P D vwCl [(h0, .inr (0, [.ref q1, .ref q2, .ref q3, .int (nI n)])), (q1, .inl (cJ, (cap * 2), .inr (.inl (pb_cpJ Kf cap)))), (q2, .inl (cI, (cap * 2), .inl (pb_cpI Cf cap))), (q3, .inl (cJ, (cap * 2), .inr (.inl (pb_cpJ Hf cap))))] H := hP.sub [0, 1, 2, 4] rfl
  have hD : va_D A [(h0, .inr (0, [.ref q1, .ref q2, .ref q3, .int (nI n)])), (q1, .inl (cJ, (cap * 2), .inr (.inl (pb_cpJ Kf cap)))), (q2, .inl (cI, (cap * 2), .inl (pb_cpI Cf cap))), (q3, .inl (cJ, (cap * 2), .inr (.inl (pb_cpJ Hf cap))))] := hD.sub [0, 1, 2, 4] (by decide) rfl
  exact pb_wv hx hb hr hlocks hS dX0_growIfFull_67 (fun t ht hW => ⟨q1, q2, q3, pb_B_of hP hK hD t ht hW⟩)

set_option maxHeartbeats 4000000 in
set_option maxRecDepth 100000 in
theorem c_X0_openPlace (j n : Nat) (hj : j ≤ n) (hn : n ≤ cap ∧ n < 512 ∧ 0 < cap ∧ cap ≤ 1024) : pb_Wq l yX0_openPlace wsX0_openPlace 3 3 3072 103 [.ref h0, .int (nI j)] D (pb_ty cI cJ) (pb_wX cI cJ h0 k1 c1 h1 cap Kf Cf Hf (nI n)) sz (none) (fun A t => ∃ (k9 c9 h9 cap9 : Nat) (K9 : Nat → Int64) (C9 : Nat → Int32) (H9 : Nat → Int64), (n + 1 ≤ cap9 ∧ cap9 ≤ 1024) ∧ (∀ x, x < n → K9 x = Kf x ∧ C9 x = Cf x ∧ H9 x = Hf x) ∧ pb_B D (pb_ty cI cJ) (pb_wX cI cJ h0 k9 c9 h9 cap9 (pb_shR K9 j n) (pb_shR C9 j n) (pb_shR H9 j n) (nI (n + 1))) A t) := by
  refine pb_ofW RX0 (by decide) rfl rfl (Nat.le_of_ble_eq_true rfl) (fun p e s m args below meth c ls A hx hb hml hr hlocks hown hts hP hK hD hS hA hl hin9 => ?_)
  have hinX0 : ∀ w ∈ wsX00, w ∈ wsX0_openPlace := by decide +kernel
  have hl : lv_has ls 3 [(0, .ref h0), (1, .int (nI j))] := hl
  have hP : va_P D vwCl (pb_wX cI cJ h0 k1 c1 h1 cap Kf Cf Hf (nI n)) s.heap := hP
  have hD : va_D A (pb_wX cI cJ h0 k1 c1 h1 cap Kf Cf Hf (nI n)) := hD
  refine pb_joinH (fun H locs ls => ∃ (k9 c9 h9 cap9 : Nat) (K9 : Nat → Int64) (C9 : Nat → Int32) (H9 : Nat → Int64), (n + 1 ≤ cap9 ∧ cap9 ≤ 1024) ∧ (∀ x, x < n → K9 x = Kf x ∧ C9 x = Cf x ∧ H9 x = Hf x) ∧ va_P D vwCl (pb_wX cI cJ h0 k9 c9 h9 cap9 K9 C9 H9 (nI n)) H ∧ va_D A (pb_wX cI cJ h0 k9 c9 h9 cap9 K9 C9 H9 (nI n)) ∧ va_S A s.heap H locs ∧ lv_has ls 3 [(0, .ref h0), (1, .int (nI j))]) 4 [] 3 3072 (fun H locs ls hJ => ?_) (fun hJ => ?_)
  · obtain ⟨k9, c9, h9, cap9, K9, C9, H9, hc9, hag, hP, hD, hS, hl⟩ := hJ
    refine lv_aload_n hx hb dX0_openPlace_4 rfl (lv_at hl 0 rfl) ?_
    refine lv_dup hx hb dX0_openPlace_5 rfl ?_
    refine va_get (D := D) (ci := 0) (v := .int (nI n)) (C := RX0) (T := TX0) (N := 4) hx hb hts hinX0 hown hK hP 0 rfl rfl 3 (by decide) (hts (.fieldLink RX0 20 "PrefixBench" "count" "I") (by decide +kernel)) (fun _ h9 => h9) rfl dX0_openPlace_6 ?_
    refine lv_iconst (v := 1) hx hb dX0_openPlace_9 (by decide) ?_
    refine lv_iadd hx hb dX0_openPlace_10 ?_
    refine pb_topi (z := nI (n + 1)) (nI_1 _) ?_
    refine va_put (D := D) (ci := 0) (v := .int (nI (n + 1))) (ty := .int) (C := RX0) (T := TX0) (N := 4) hx hb hts hinX0 tyX0 tyX0_ok nmX0 hown hK hP hD hS 0 rfl rfl 3 (by decide) (hts (.fieldLink RX0 20 "PrefixBench" "count" "I") (by decide +kernel)) (fun _ h9 => h9) rfl (by decide +kernel) rfl rfl (Nat.le_of_ble_eq_true rfl) dX0_openPlace_11 (fun H locs hP hD hS => ?_)
    have hP : va_P D vwCl (pb_wX cI cJ h0 k9 c9 h9 cap9 K9 C9 H9 (nI (n + 1))) H := hP
    have hD : va_D A (pb_wX cI cJ h0 k9 c9 h9 cap9 K9 C9 H9 (nI (n + 1))) := hD
    refine lv_aload_n hx hb dX0_openPlace_14 rfl (lv_at hl 0 rfl) ?_
    refine va_get (D := D) (ci := 0) (v := .int (nI (n + 1))) (C := RX0) (T := TX0) (N := 4) hx hb hts hinX0 hown hK hP 0 rfl rfl 3 (by decide) (hts (.fieldLink RX0 20 "PrefixBench" "count" "I") (by decide +kernel)) (fun _ h9 => h9) rfl dX0_openPlace_15 ?_
    refine lv_iconst (v := 1) hx hb dX0_openPlace_18 (by decide) ?_
    refine lv_isub hx hb dX0_openPlace_19 ?_
    refine pb_topi (z := nI n) (pk_sub (a := n + 1) (b := 1) (by omega)) ?_
    refine lv_istore_n (lv' := [(2, .int (nI n)), (0, .ref h0), (1, .int (nI j))]) hx hb dX0_openPlace_20 rfl hl (by decide) rfl (fun ls hl => ?_)
    refine pb_loopH (fun kk H locs ls => ∃ tz : Nat, (j ≤ tz ∧ tz ≤ n ∧ tz - j = kk) ∧ va_P D vwCl (pb_wX cI cJ h0 k9 c9 h9 cap9 (pb_shR K9 tz n) (pb_shR C9 tz n) (pb_shR H9 tz n) (nI (n + 1))) H ∧ va_D A (pb_wX cI cJ h0 k9 c9 h9 cap9 (pb_shR K9 tz n) (pb_shR C9 tz n) (pb_shR H9 tz n) (nI (n + 1))) ∧ va_S A s.heap H locs ∧ lv_has ls 3 [(2, .int (nI tz)), (0, .ref h0), (1, .int (nI j))]) 21 [] (fun kk H locs ls hI ih => ?_) (fun hL => ?_)
    · obtain ⟨tz, ⟨ht1, ht2, rfl⟩, hP, hD, hS, hl⟩ := hI
      refine lv_iload_n hx hb dX0_openPlace_21 rfl (lv_at hl 0 rfl) ?_
      refine lv_iload_n hx hb dX0_openPlace_22 rfl (lv_at hl 2 rfl) ?_
      refine lv_icmp_le (tgt := 40) hx hb dX0_openPlace_23 (by decide) (fun q23 => ?_) (fun q23 => ?_)
      · have hw := (nI_leI (a := tz) (b := j) (by omega) (by omega)).mp q23
        rw [show tz = j by omega] at hP hD
        exact pb_wv hx hb hr hlocks hS dX0_openPlace_40 (fun t ht hW => ⟨k9, c9, h9, cap9, K9, C9, H9, hc9, hag, pb_B_of hP hK hD t ht hW⟩)
      · have hw := mt (nI_leI (a := tz) (b := j) (by omega) (by omega)).mpr q23
        refine lv_aload_n hx hb dX0_openPlace_26 rfl (lv_at hl 1 rfl) ?_
        refine lv_iload_n hx hb dX0_openPlace_27 rfl (lv_at hl 0 rfl) ?_
        refine lv_iconst (v := 1) hx hb dX0_openPlace_28 (by decide) ?_
        refine lv_isub hx hb dX0_openPlace_29 ?_
        refine pb_topi (z := nI (tz - 1)) (pk_sub (b := 1) (by omega)) ?_
        refine lv_iload_n hx hb dX0_openPlace_30 rfl (lv_at hl 0 rfl) ?_
        refine pb_callWv (As := [.int (nI (tz - 1)), .int (nI tz)]) (rest := []) ⟨hx, hb, hml, hown, hts⟩ (c_X0_copy (tz - 1) tz (n + 1) (by omega) (by omega) (by omega)) (cwV 2 hts gX0_openPlace_X0_copy rfl rfl rfl (by decide +kernel) ⟨Nat.le_of_ble_eq_true rfl, Nat.le_of_ble_eq_true rfl⟩) hP hK hD hS hA (va_recv hK hP (ci := 0) (q0 := 0) rfl rfl) rfl rfl hl (Nat.le_of_ble_eq_true rfl) dX0_openPlace_31 ⟨Nat.le_of_ble_eq_true rfl, Nat.le_of_ble_eq_true rfl⟩ (fun t9 H locs ht hvm hB hsub hS => ?_)
        obtain ⟨hP, hD⟩ := pb_back (wd' := (pb_wX cI cJ h0 k9 c9 h9 cap9 (va_up (pb_shR K9 tz n) tz ((pb_shR K9 tz n) (tz - 1))) (va_up (pb_shR C9 tz n) tz ((pb_shR C9 tz n) (tz - 1))) (va_up (pb_shR H9 tz n) tz ((pb_shR H9 tz n) (tz - 1))) (nI (n + 1)))) ht hB hsub
        refine lv_iinc (v := nI (tz - 1)) (lv' := [(2, .int (nI (tz - 1))), (0, .ref h0), (1, .int (nI j))]) hx hb dX0_openPlace_34 hl (k := 0) rfl ((pb_dec _).trans (pk_sub (b := 1) (by omega))) (by decide) rfl (fun ls hl => ?_)
        refine lv_goto (tgt := 21) hx hb dX0_openPlace_37 (by decide) ?_
        exact ih _ _ _ _ (by omega) ⟨tz - 1, ⟨by omega, by omega, rfl⟩, by rw [← pb_shR_s K9 (by omega) ht2, ← pb_shR_s C9 (by omega) ht2, ← pb_shR_s H9 (by omega) ht2]; exact hP, by rw [← pb_shR_s K9 (by omega) ht2, ← pb_shR_s C9 (by omega) ht2, ← pb_shR_s H9 (by omega) ht2]; exact hD, hS, lv_sub hl [0, 1, 2] rfl⟩
    · exact hL _ _ _ _ ⟨n, ⟨hj, Nat.le_refl _, rfl⟩, by rw [pb_shR_0, pb_shR_0, pb_shR_0]; exact hP, by rw [pb_shR_0, pb_shR_0, pb_shR_0]; exact hD, hS, lv_sub hl [0, 1, 2] rfl⟩
  · refine lv_aload_n hx hb dX0_openPlace_0 rfl (lv_at hl 0 rfl) ?_
    rcases Nat.lt_or_ge n cap with hlt | hge
    · refine pb_callWv (As := []) (rest := []) ⟨hx, hb, hml, hown, hts⟩ (c_X0_grow_n n (by omega)) (cwV 0 hts gX0_openPlace_X0_growIfFull rfl rfl rfl (by decide +kernel) ⟨Nat.le_of_ble_eq_true rfl, Nat.le_of_ble_eq_true rfl⟩) hP hK hD hS hA (va_recv hK hP (ci := 0) (q0 := 0) rfl rfl) rfl rfl hl (Nat.le_of_ble_eq_true rfl) dX0_openPlace_1 ⟨Nat.le_of_ble_eq_true rfl, Nat.le_of_ble_eq_true rfl⟩ (fun t9 H locs ht hvm hB hsub hS => ?_)
      obtain ⟨hP, hD⟩ := pb_back (wd' := (pb_wX cI cJ h0 k1 c1 h1 cap Kf Cf Hf (nI n))) ht hB hsub
      refine W.widen (k := 3) (n := 3072) (Nat.le_of_ble_eq_true rfl) (Nat.le_of_ble_eq_true rfl) ?_
      exact hJ _ _ _ ⟨k1, c1, h1, cap, Kf, Cf, Hf, by omega, fun _ _ => ⟨rfl, rfl, rfl⟩, hP, hD, hS, hl⟩
    · refine pb_callWv (As := []) (rest := []) ⟨hx, hb, hml, hown, hts⟩ (c_X0_grow_g n (by omega)) (cwV 0 hts gX0_openPlace_X0_growIfFull rfl rfl rfl (by decide +kernel) ⟨Nat.le_of_ble_eq_true rfl, Nat.le_of_ble_eq_true rfl⟩) hP hK hD hS hA (va_recv hK hP (ci := 0) (q0 := 0) rfl rfl) rfl rfl hl (Nat.le_of_ble_eq_true rfl) dX0_openPlace_1 ⟨Nat.le_of_ble_eq_true rfl, Nat.le_of_ble_eq_true rfl⟩ (fun t9 H locs ht hvm hB hsub hS => ?_)
      obtain ⟨q1, q2, q3, hB⟩ := hB
      obtain ⟨hP, hD⟩ := pb_back (wd' := (pb_wX cI cJ h0 q1 q2 q3 (cap * 2) (pb_cpJ Kf cap) (pb_cpI Cf cap) (pb_cpJ Hf cap) (nI n))) ht hB hsub
      exact hJ _ _ _ ⟨q1, q2, q3, cap * 2, (pb_cpJ Kf cap), (pb_cpI Cf cap), (pb_cpJ Hf cap), by omega, fun x hx9 => ⟨pb_cp_in (by omega), pb_cp_in (by omega), pb_cp_in (by omega)⟩, hP, hD, hS, hl⟩

end PB9
