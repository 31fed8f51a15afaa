section PB3b
variable {l : Launch}
set_option maxHeartbeats 4000000 in
set_option maxRecDepth 100000 in
theorem c_bitCount (a : Nat) (ha : a < 2 ^ 64) : pb_Rd l yJ13_bitCount_95d88 wsJ13_bitCount_95d88 0 0 (pb_S [.long (lN a)]) (.int (nI (pb_bits a 64))) := by
  refine pb_ofS RJ13 (by decide) rfl rfl (Nat.le_of_ble_eq_true rfl) (fun p e s m args below meth c ls hx hb hml hr hlocks hown hts hl => ?_)
  have hl : lv_has ls 2 [(0, .long (lN a))] := hl
  refine lv_lload_n hx hb dJ13_bitCount_95d88_0 rfl (lv_at hl 0 rfl) ?_
  refine lv_lload_n hx hb dJ13_bitCount_95d88_1 rfl (lv_at hl 0 rfl) ?_
  refine lv_iconst (v := 1) hx hb dJ13_bitCount_95d88_2 (by decide) ?_
  refine lv_lushr hx hb dJ13_bitCount_95d88_3 rfl ?_
  refine pb_topl (z := lN (a / 2)) (pb_ush 1 2 ha (by decide) rfl) ?_
  refine lv_ldc2 (v := 6148914691236517205) hx hb hown (hts (.constantLong RJ13 314 6148914691236517205) (by decide +kernel)) dJ13_bitCount_95d88_4 ?_
  refine lv_land hx hb dJ13_bitCount_95d88_7 ?_
  refine pb_topl (z := lN (a / 2 &&& 6148914691236517205)) (fb_andL _ _) ?_
  refine lv_lsub hx hb dJ13_bitCount_95d88_8 ?_
  obtain ⟨a1, ha1⟩ : ∃ z : Nat, z = a - (a / 2 &&& 6148914691236517205) := ⟨_, rfl⟩
  have hd1 : a1 = pb_d1 8 a := by rw [ha1, ← pb_M5]; exact pb_S1 8 a (by omega)
  have hb1 : a1 < 2 ^ 64 := by omega
  refine pb_topl (z := lN a1) (by rw [ha1]; exact lN_sub (Nat.le_trans Nat.and_le_left (Nat.div_le_self _ _))) ?_
  refine lv_lstore_n (lv' := [(0, .long (lN a1))]) hx hb dJ13_bitCount_95d88_9 rfl hl (by decide) rfl (fun ls hl => ?_)
  refine lv_lload_n hx hb dJ13_bitCount_95d88_10 rfl (lv_at hl 0 rfl) ?_
  refine lv_ldc2 (v := 3689348814741910323) hx hb hown (hts (.constantLong RJ13 316 3689348814741910323) (by decide +kernel)) dJ13_bitCount_95d88_11 ?_
  refine lv_land hx hb dJ13_bitCount_95d88_14 ?_
  refine pb_topl (z := lN (a1 &&& 3689348814741910323)) (fb_andL _ _) ?_
  refine lv_lload_n hx hb dJ13_bitCount_95d88_15 rfl (lv_at hl 0 rfl) ?_
  refine lv_iconst (v := 2) hx hb dJ13_bitCount_95d88_16 (by decide) ?_
  refine lv_lushr hx hb dJ13_bitCount_95d88_17 rfl ?_
  refine pb_topl (z := lN (a1 / 4)) (pb_ush 2 4 hb1 (by decide) rfl) ?_
  refine lv_ldc2 (v := 3689348814741910323) hx hb hown (hts (.constantLong RJ13 316 3689348814741910323) (by decide +kernel)) dJ13_bitCount_95d88_18 ?_
  refine lv_land hx hb dJ13_bitCount_95d88_21 ?_
  refine pb_topl (z := lN (a1 / 4 &&& 3689348814741910323)) (fb_andL _ _) ?_
  refine lv_ladd hx hb dJ13_bitCount_95d88_22 ?_
  obtain ⟨a2, ha2⟩ : ∃ z : Nat, z = (a1 &&& 3689348814741910323) + (a1 / 4 &&& 3689348814741910323) := ⟨_, rfl⟩
  have hd2 : a2 = pb_d2 8 a := by rw [ha2, ← pb_M3, hd1]; exact pb_S2 8 a
  have hb2 : a2 < 2 ^ 64 := by have := pb_d2_lt 8 a; omega
  refine pb_topl (z := lN a2) (by rw [ha2, lN_add]) ?_
  refine lv_lstore_n (lv' := [(0, .long (lN a2))]) hx hb dJ13_bitCount_95d88_23 rfl hl (by decide) rfl (fun ls hl => ?_)
  refine lv_lload_n hx hb dJ13_bitCount_95d88_24 rfl (lv_at hl 0 rfl) ?_
  refine lv_lload_n hx hb dJ13_bitCount_95d88_25 rfl (lv_at hl 0 rfl) ?_
  refine lv_iconst (v := 4) hx hb dJ13_bitCount_95d88_26 (by decide) ?_
  refine lv_lushr hx hb dJ13_bitCount_95d88_27 rfl ?_
  refine pb_topl (z := lN (a2 / 16)) (pb_ush 4 16 hb2 (by decide) rfl) ?_
  refine lv_ladd hx hb dJ13_bitCount_95d88_28 ?_
  refine pb_topl (z := lN (a2 + a2 / 16)) (lN_add _ _) ?_
  refine lv_ldc2 (v := 1085102592571150095) hx hb hown (hts (.constantLong RJ13 318 1085102592571150095) (by decide +kernel)) dJ13_bitCount_95d88_29 ?_
  refine lv_land hx hb dJ13_bitCount_95d88_32 ?_
  obtain ⟨a3, ha3⟩ : ∃ z : Nat, z = (a2 + a2 / 16) &&& 1085102592571150095 := ⟨_, rfl⟩
  have hd3 : a3 = pb_d3 8 a := by rw [ha3, ← pb_MF, hd2]; exact pb_S3 8 a
  have hb3 : a3 ≤ 578721382704613384 := by rw [hd3]; exact Nat.le_trans (pb_d3_lt 8 a) (by decide +kernel)
  refine pb_topl (z := lN a3) (by rw [ha3]; exact fb_andL _ _) ?_
  refine lv_lstore_n (lv' := [(0, .long (lN a3))]) hx hb dJ13_bitCount_95d88_33 rfl hl (by decide) rfl (fun ls hl => ?_)
  refine lv_lload_n hx hb dJ13_bitCount_95d88_34 rfl (lv_at hl 0 rfl) ?_
  refine lv_lload_n hx hb dJ13_bitCount_95d88_35 rfl (lv_at hl 0 rfl) ?_
  refine lv_bipush (v := 8) hx hb dJ13_bitCount_95d88_36 (by decide) ?_
  refine lv_lushr hx hb dJ13_bitCount_95d88_38 rfl ?_
  have hb3 : a3 < 2 ^ 64 := by omega
  refine pb_topl (z := lN (a3 / 256)) (pb_ush 8 256 hb3 (by decide) rfl) ?_
  refine lv_ladd hx hb dJ13_bitCount_95d88_39 ?_
  obtain ⟨a4, ha4⟩ : ∃ z : Nat, z = a3 + a3 / 256 := ⟨_, rfl⟩
  refine pb_topl (z := lN a4) (by rw [ha4, lN_add]) ?_
  refine lv_lstore_n (lv' := [(0, .long (lN a4))]) hx hb dJ13_bitCount_95d88_40 rfl hl (by decide) rfl (fun ls hl => ?_)
  refine lv_lload_n hx hb dJ13_bitCount_95d88_41 rfl (lv_at hl 0 rfl) ?_
  refine lv_lload_n hx hb dJ13_bitCount_95d88_42 rfl (lv_at hl 0 rfl) ?_
  refine lv_bipush (v := 16) hx hb dJ13_bitCount_95d88_43 (by decide) ?_
  refine lv_lushr hx hb dJ13_bitCount_95d88_45 rfl ?_
  have hb4 : a4 < 2 ^ 64 := by omega
  refine pb_topl (z := lN (a4 / 65536)) (pb_ush 16 65536 hb4 (by decide) rfl) ?_
  refine lv_ladd hx hb dJ13_bitCount_95d88_46 ?_
  obtain ⟨a5, ha5⟩ : ∃ z : Nat, z = a4 + a4 / 65536 := ⟨_, rfl⟩
  refine pb_topl (z := lN a5) (by rw [ha5, lN_add]) ?_
  refine lv_lstore_n (lv' := [(0, .long (lN a5))]) hx hb dJ13_bitCount_95d88_47 rfl hl (by decide) rfl (fun ls hl => ?_)
  refine lv_lload_n hx hb dJ13_bitCount_95d88_48 rfl (lv_at hl 0 rfl) ?_
  refine lv_lload_n hx hb dJ13_bitCount_95d88_49 rfl (lv_at hl 0 rfl) ?_
  refine lv_bipush (v := 32) hx hb dJ13_bitCount_95d88_50 (by decide) ?_
  refine lv_lushr hx hb dJ13_bitCount_95d88_52 rfl ?_
  have hb5 : a5 < 2 ^ 64 := by omega
  refine pb_topl (z := lN (a5 / 4294967296)) (pb_ush 32 4294967296 hb5 (by decide) rfl) ?_
  refine lv_ladd hx hb dJ13_bitCount_95d88_53 ?_
  obtain ⟨a6, ha6⟩ : ∃ z : Nat, z = a5 + a5 / 4294967296 := ⟨_, rfl⟩
  refine pb_topl (z := lN a6) (by rw [ha6, lN_add]) ?_
  refine lv_lstore_n (lv' := [(0, .long (lN a6))]) hx hb dJ13_bitCount_95d88_54 rfl hl (by decide) rfl (fun ls hl => ?_)
  refine lv_lload_n hx hb dJ13_bitCount_95d88_55 rfl (lv_at hl 0 rfl) ?_
  refine lv_l2i hx hb dJ13_bitCount_95d88_56 rfl ?_
  refine pb_topi (z := nI a6) (lN_i a6) ?_
  refine lv_bipush (v := 127) hx hb dJ13_bitCount_95d88_57 (by decide) ?_
  refine lv_iand hx hb dJ13_bitCount_95d88_59 ?_
  exact pb_iret hx hb hr hlocks dJ13_bitCount_95d88_60 (by rw [← pb_pop hd3 ha4 ha5 ha6, show (127 : Int32) = nI (2 ^ 7 - 1) from rfl, fa_mask])

end PB3b
