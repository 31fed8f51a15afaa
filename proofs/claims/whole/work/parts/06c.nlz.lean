section PB3c
variable {l : Launch}
def pb_nz (u : Nat) : Nat :=
  if u = 0 then 32 else if 2 ^ 31 ≤ u then 0 else
  let x1 := if u < 65536 then (31, u) else (15, u / 65536)
  let x2 := if x1.2 < 256 then x1 else (x1.1 - 8, x1.2 / 256)
  let x3 := if x2.2 < 16 then x2 else (x2.1 - 4, x2.2 / 16)
  let x4 := if x3.2 < 4 then x3 else (x3.1 - 2, x3.2 / 4)
  x4.1 - x4.2 / 2
theorem pb_neg {u : Nat} (hu : u < 2 ^ 32) (h : 2 ^ 31 ≤ u) : ¬ 0 < nI u := fun z => by
  have h1 := Int32.lt_iff_toInt_lt.mp z
  have h2 : (nI u).toInt = (u : Int) - 2 ^ 32 := by
    rw [Int32.toInt, BitVec.toInt_eq_toNat_cond]
    rw [show (nI u).toBitVec.toNat = u from pk_tn hu]
    rw [if_neg (by omega)]; rfl
  rw [h2] at h1
  have h3 : (0 : Int32).toInt = 0 := by decide
  omega
set_option maxHeartbeats 4000000 in
set_option maxRecDepth 100000 in
theorem c_nlz (u : Nat) (hu : u < 2 ^ 32) : pb_Rd l yJ6_numberOfLeadingZeros_0f7a4 wsJ6_numberOfLeadingZeros_0f7a4 0 0 (pb_S [.int (nI u)]) (.int (nI (pb_nz u))) := by
  refine pb_ofS RJ6 (by decide) rfl rfl (Nat.le_of_ble_eq_true rfl) (fun p e s m args below meth c ls hx hb hml hr hlocks hown hts hl => ?_)
  have hl : lv_has ls 2 [(0, .int (nI u))] := hl
  refine lv_iload_n hx hb dJ6_numberOfLeadingZeros_0f7a4_0 rfl (lv_at hl 0 rfl) ?_
  refine lv_if_gt (tgt := 15) hx hb dJ6_numberOfLeadingZeros_0f7a4_1 (by decide) (fun q1 => ?_) (fun q1 => ?_)
  · have h0 : u ≠ 0 := fun z => by subst z; exact absurd q1 (by decide)
    have hneg : ¬ 2 ^ 31 ≤ u := fun z => pb_neg hu z q1
    refine lv_bipush (v := 31) hx hb dJ6_numberOfLeadingZeros_0f7a4_15 (by decide) ?_
    refine lv_istore_n (lv' := [(1, .int 31), (0, .int (nI u))]) hx hb dJ6_numberOfLeadingZeros_0f7a4_17 rfl hl (by decide) rfl (fun ls hl => ?_)
    refine lv_iload_n hx hb dJ6_numberOfLeadingZeros_0f7a4_18 rfl (lv_at hl 1 rfl) ?_
    refine lv_ldcw (v := 65536) hx hb hown (hts (.constant RJ6 264 65536) (by decide +kernel)) dJ6_numberOfLeadingZeros_0f7a4_19 ?_
    refine lv_icmp_lt (tgt := 33) hx hb dJ6_numberOfLeadingZeros_0f7a4_22 (by decide) (fun q22 => ?_) (fun q22 => ?_)
    · have w22 : u < 65536 := (nI_ltI (by omega) (by decide)).mp q22
      refine lv_iload_n hx hb dJ6_numberOfLeadingZeros_0f7a4_33 rfl (lv_at hl 1 rfl) ?_
      refine lv_sipush (v := 256) hx hb dJ6_numberOfLeadingZeros_0f7a4_34 (by decide) ?_
      refine lv_icmp_lt (tgt := 48) hx hb dJ6_numberOfLeadingZeros_0f7a4_37 (by decide) (fun q37 => ?_) (fun q37 => ?_)
      · have w37 : u < 256 := (nI_ltI (by omega) (by decide)).mp q37
        refine lv_iload_n hx hb dJ6_numberOfLeadingZeros_0f7a4_48 rfl (lv_at hl 1 rfl) ?_
        refine lv_bipush (v := 16) hx hb dJ6_numberOfLeadingZeros_0f7a4_49 (by decide) ?_
        refine lv_icmp_lt (tgt := 61) hx hb dJ6_numberOfLeadingZeros_0f7a4_51 (by decide) (fun q51 => ?_) (fun q51 => ?_)
        · have w51 : u < 16 := (nI_ltI (by omega) (by decide)).mp q51
          refine lv_iload_n hx hb dJ6_numberOfLeadingZeros_0f7a4_61 rfl (lv_at hl 1 rfl) ?_
          refine lv_iconst (v := 4) hx hb dJ6_numberOfLeadingZeros_0f7a4_62 (by decide) ?_
          refine lv_icmp_lt (tgt := 73) hx hb dJ6_numberOfLeadingZeros_0f7a4_63 (by decide) (fun q63 => ?_) (fun q63 => ?_)
          · have w63 : u < 4 := (nI_ltI (by omega) (by decide)).mp q63
            refine lv_iload_n hx hb dJ6_numberOfLeadingZeros_0f7a4_73 rfl (lv_at hl 0 rfl) ?_
            refine lv_iload_n hx hb dJ6_numberOfLeadingZeros_0f7a4_74 rfl (lv_at hl 1 rfl) ?_
            refine lv_iconst (v := 1) hx hb dJ6_numberOfLeadingZeros_0f7a4_75 (by decide) ?_
            refine lv_iushr hx hb dJ6_numberOfLeadingZeros_0f7a4_76 rfl ?_
            refine pb_topi (z := nI (u / 2)) ((pk_ushrN (by omega) 1 1 (by decide)).trans rfl) ?_
            refine lv_isub hx hb dJ6_numberOfLeadingZeros_0f7a4_77 ?_
            exact pb_iret hx hb hr hlocks dJ6_numberOfLeadingZeros_0f7a4_78 (by rw [show (31 : Int32) = nI 31 from rfl, pk_sub (a := 31) (b := u / 2) (by omega)]; simp only [pb_nz, if_neg h0, if_neg hneg, if_true, if_false, *] <;> try rfl)
          · have w63 : ¬ u < 4 := mt (nI_ltI (by omega) (by decide)).mpr q63
            refine lv_iinc (v := 29) (lv' := [(1, .int 29), (0, .int (nI u))]) hx hb dJ6_numberOfLeadingZeros_0f7a4_66 hl (k := 0) rfl (by decide) (by decide) rfl (fun ls hl => ?_)
            refine lv_iload_n hx hb dJ6_numberOfLeadingZeros_0f7a4_69 rfl (lv_at hl 1 rfl) ?_
            refine lv_iconst (v := 2) hx hb dJ6_numberOfLeadingZeros_0f7a4_70 (by decide) ?_
            refine lv_iushr hx hb dJ6_numberOfLeadingZeros_0f7a4_71 rfl ?_
            refine pb_topi (z := nI (u / 4)) ((pk_ushrN (by omega) 2 2 (by decide)).trans rfl) ?_
            refine lv_istore_n (lv' := [(0, .int (nI (u / 4))), (1, .int 29)]) hx hb dJ6_numberOfLeadingZeros_0f7a4_72 rfl hl (by decide) rfl (fun ls hl => ?_)
            refine lv_iload_n hx hb dJ6_numberOfLeadingZeros_0f7a4_73 rfl (lv_at hl 1 rfl) ?_
            refine lv_iload_n hx hb dJ6_numberOfLeadingZeros_0f7a4_74 rfl (lv_at hl 0 rfl) ?_
            refine lv_iconst (v := 1) hx hb dJ6_numberOfLeadingZeros_0f7a4_75 (by decide) ?_
            refine lv_iushr hx hb dJ6_numberOfLeadingZeros_0f7a4_76 rfl ?_
            refine pb_topi (z := nI ((u / 4) / 2)) ((pk_ushrN (by omega) 1 1 (by decide)).trans rfl) ?_
            refine lv_isub hx hb dJ6_numberOfLeadingZeros_0f7a4_77 ?_
            exact pb_iret hx hb hr hlocks dJ6_numberOfLeadingZeros_0f7a4_78 (by rw [show (29 : Int32) = nI 29 from rfl, pk_sub (a := 29) (b := (u / 4) / 2) (by omega)]; simp only [pb_nz, if_neg h0, if_neg hneg, if_true, if_false, *] <;> try rfl)
        · have w51 : ¬ u < 16 := mt (nI_ltI (by omega) (by decide)).mpr q51
          refine lv_iinc (v := 27) (lv' := [(1, .int 27), (0, .int (nI u))]) hx hb dJ6_numberOfLeadingZeros_0f7a4_54 hl (k := 0) rfl (by decide) (by decide) rfl (fun ls hl => ?_)
          refine lv_iload_n hx hb dJ6_numberOfLeadingZeros_0f7a4_57 rfl (lv_at hl 1 rfl) ?_
          refine lv_iconst (v := 4) hx hb dJ6_numberOfLeadingZeros_0f7a4_58 (by decide) ?_
          refine lv_iushr hx hb dJ6_numberOfLeadingZeros_0f7a4_59 rfl ?_
          refine pb_topi (z := nI (u / 16)) ((pk_ushrN (by omega) 4 4 (by decide)).trans rfl) ?_
          refine lv_istore_n (lv' := [(0, .int (nI (u / 16))), (1, .int 27)]) hx hb dJ6_numberOfLeadingZeros_0f7a4_60 rfl hl (by decide) rfl (fun ls hl => ?_)
          refine lv_iload_n hx hb dJ6_numberOfLeadingZeros_0f7a4_61 rfl (lv_at hl 0 rfl) ?_
          refine lv_iconst (v := 4) hx hb dJ6_numberOfLeadingZeros_0f7a4_62 (by decide) ?_
          refine lv_icmp_lt (tgt := 73) hx hb dJ6_numberOfLeadingZeros_0f7a4_63 (by decide) (fun q63 => ?_) (fun q63 => ?_)
          · have w63 : (u / 16) < 4 := (nI_ltI (by omega) (by decide)).mp q63
            refine lv_iload_n hx hb dJ6_numberOfLeadingZeros_0f7a4_73 rfl (lv_at hl 1 rfl) ?_
            refine lv_iload_n hx hb dJ6_numberOfLeadingZeros_0f7a4_74 rfl (lv_at hl 0 rfl) ?_
            refine lv_iconst (v := 1) hx hb dJ6_numberOfLeadingZeros_0f7a4_75 (by decide) ?_
            refine lv_iushr hx hb dJ6_numberOfLeadingZeros_0f7a4_76 rfl ?_
            refine pb_topi (z := nI ((u / 16) / 2)) ((pk_ushrN (by omega) 1 1 (by decide)).trans rfl) ?_
            refine lv_isub hx hb dJ6_numberOfLeadingZeros_0f7a4_77 ?_
            exact pb_iret hx hb hr hlocks dJ6_numberOfLeadingZeros_0f7a4_78 (by rw [show (27 : Int32) = nI 27 from rfl, pk_sub (a := 27) (b := (u / 16) / 2) (by omega)]; simp only [pb_nz, if_neg h0, if_neg hneg, if_true, if_false, *] <;> try rfl)
          · have w63 : ¬ (u / 16) < 4 := mt (nI_ltI (by omega) (by decide)).mpr q63
            refine lv_iinc (v := 25) (lv' := [(1, .int 25), (0, .int (nI (u / 16)))]) hx hb dJ6_numberOfLeadingZeros_0f7a4_66 hl (k := 1) rfl (by decide) (by decide) rfl (fun ls hl => ?_)
            refine lv_iload_n hx hb dJ6_numberOfLeadingZeros_0f7a4_69 rfl (lv_at hl 1 rfl) ?_
            refine lv_iconst (v := 2) hx hb dJ6_numberOfLeadingZeros_0f7a4_70 (by decide) ?_
            refine lv_iushr hx hb dJ6_numberOfLeadingZeros_0f7a4_71 rfl ?_
            refine pb_topi (z := nI ((u / 16) / 4)) ((pk_ushrN (by omega) 2 2 (by decide)).trans rfl) ?_
            refine lv_istore_n (lv' := [(0, .int (nI ((u / 16) / 4))), (1, .int 25)]) hx hb dJ6_numberOfLeadingZeros_0f7a4_72 rfl hl (by decide) rfl (fun ls hl => ?_)
            refine lv_iload_n hx hb dJ6_numberOfLeadingZeros_0f7a4_73 rfl (lv_at hl 1 rfl) ?_
            refine lv_iload_n hx hb dJ6_numberOfLeadingZeros_0f7a4_74 rfl (lv_at hl 0 rfl) ?_
            refine lv_iconst (v := 1) hx hb dJ6_numberOfLeadingZeros_0f7a4_75 (by decide) ?_
            refine lv_iushr hx hb dJ6_numberOfLeadingZeros_0f7a4_76 rfl ?_
            refine pb_topi (z := nI (((u / 16) / 4) / 2)) ((pk_ushrN (by omega) 1 1 (by decide)).trans rfl) ?_
            refine lv_isub hx hb dJ6_numberOfLeadingZeros_0f7a4_77 ?_
            exact pb_iret hx hb hr hlocks dJ6_numberOfLeadingZeros_0f7a4_78 (by rw [show (25 : Int32) = nI 25 from rfl, pk_sub (a := 25) (b := ((u / 16) / 4) / 2) (by omega)]; simp only [pb_nz, if_neg h0, if_neg hneg, if_true, if_false, *] <;> try rfl)
      · have w37 : ¬ u < 256 := mt (nI_ltI (by omega) (by decide)).mpr q37
        refine lv_iinc (v := 23) (lv' := [(1, .int 23), (0, .int (nI u))]) hx hb dJ6_numberOfLeadingZeros_0f7a4_40 hl (k := 0) rfl (by decide) (by decide) rfl (fun ls hl => ?_)
        refine lv_iload_n hx hb dJ6_numberOfLeadingZeros_0f7a4_43 rfl (lv_at hl 1 rfl) ?_
        refine lv_bipush (v := 8) hx hb dJ6_numberOfLeadingZeros_0f7a4_44 (by decide) ?_
        refine lv_iushr hx hb dJ6_numberOfLeadingZeros_0f7a4_46 rfl ?_
        refine pb_topi (z := nI (u / 256)) ((pk_ushrN (by omega) 8 8 (by decide)).trans rfl) ?_
        refine lv_istore_n (lv' := [(0, .int (nI (u / 256))), (1, .int 23)]) hx hb dJ6_numberOfLeadingZeros_0f7a4_47 rfl hl (by decide) rfl (fun ls hl => ?_)
        refine lv_iload_n hx hb dJ6_numberOfLeadingZeros_0f7a4_48 rfl (lv_at hl 0 rfl) ?_
        refine lv_bipush (v := 16) hx hb dJ6_numberOfLeadingZeros_0f7a4_49 (by decide) ?_
        refine lv_icmp_lt (tgt := 61) hx hb dJ6_numberOfLeadingZeros_0f7a4_51 (by decide) (fun q51 => ?_) (fun q51 => ?_)
        · have w51 : (u / 256) < 16 := (nI_ltI (by omega) (by decide)).mp q51
          refine lv_iload_n hx hb dJ6_numberOfLeadingZeros_0f7a4_61 rfl (lv_at hl 0 rfl) ?_
          refine lv_iconst (v := 4) hx hb dJ6_numberOfLeadingZeros_0f7a4_62 (by decide) ?_
          refine lv_icmp_lt (tgt := 73) hx hb dJ6_numberOfLeadingZeros_0f7a4_63 (by decide) (fun q63 => ?_) (fun q63 => ?_)
          · have w63 : (u / 256) < 4 := (nI_ltI (by omega) (by decide)).mp q63
            refine lv_iload_n hx hb dJ6_numberOfLeadingZeros_0f7a4_73 rfl (lv_at hl 1 rfl) ?_
            refine lv_iload_n hx hb dJ6_numberOfLeadingZeros_0f7a4_74 rfl (lv_at hl 0 rfl) ?_
            refine lv_iconst (v := 1) hx hb dJ6_numberOfLeadingZeros_0f7a4_75 (by decide) ?_
            refine lv_iushr hx hb dJ6_numberOfLeadingZeros_0f7a4_76 rfl ?_
            refine pb_topi (z := nI ((u / 256) / 2)) ((pk_ushrN (by omega) 1 1 (by decide)).trans rfl) ?_
            refine lv_isub hx hb dJ6_numberOfLeadingZeros_0f7a4_77 ?_
            exact pb_iret hx hb hr hlocks dJ6_numberOfLeadingZeros_0f7a4_78 (by rw [show (23 : Int32) = nI 23 from rfl, pk_sub (a := 23) (b := (u / 256) / 2) (by omega)]; simp only [pb_nz, if_neg h0, if_neg hneg, if_true, if_false, *] <;> try rfl)
          · have w63 : ¬ (u / 256) < 4 := mt (nI_ltI (by omega) (by decide)).mpr q63
            refine lv_iinc (v := 21) (lv' := [(1, .int 21), (0, .int (nI (u / 256)))]) hx hb dJ6_numberOfLeadingZeros_0f7a4_66 hl (k := 1) rfl (by decide) (by decide) rfl (fun ls hl => ?_)
            refine lv_iload_n hx hb dJ6_numberOfLeadingZeros_0f7a4_69 rfl (lv_at hl 1 rfl) ?_
            refine lv_iconst (v := 2) hx hb dJ6_numberOfLeadingZeros_0f7a4_70 (by decide) ?_
            refine lv_iushr hx hb dJ6_numberOfLeadingZeros_0f7a4_71 rfl ?_
            refine pb_topi (z := nI ((u / 256) / 4)) ((pk_ushrN (by omega) 2 2 (by decide)).trans rfl) ?_
            refine lv_istore_n (lv' := [(0, .int (nI ((u / 256) / 4))), (1, .int 21)]) hx hb dJ6_numberOfLeadingZeros_0f7a4_72 rfl hl (by decide) rfl (fun ls hl => ?_)
            refine lv_iload_n hx hb dJ6_numberOfLeadingZeros_0f7a4_73 rfl (lv_at hl 1 rfl) ?_
            refine lv_iload_n hx hb dJ6_numberOfLeadingZeros_0f7a4_74 rfl (lv_at hl 0 rfl) ?_
            refine lv_iconst (v := 1) hx hb dJ6_numberOfLeadingZeros_0f7a4_75 (by decide) ?_
            refine lv_iushr hx hb dJ6_numberOfLeadingZeros_0f7a4_76 rfl ?_
            refine pb_topi (z := nI (((u / 256) / 4) / 2)) ((pk_ushrN (by omega) 1 1 (by decide)).trans rfl) ?_
            refine lv_isub hx hb dJ6_numberOfLeadingZeros_0f7a4_77 ?_
            exact pb_iret hx hb hr hlocks dJ6_numberOfLeadingZeros_0f7a4_78 (by rw [show (21 : Int32) = nI 21 from rfl, pk_sub (a := 21) (b := ((u / 256) / 4) / 2) (by omega)]; simp only [pb_nz, if_neg h0, if_neg hneg, if_true, if_false, *] <;> try rfl)
        · have w51 : ¬ (u / 256) < 16 := mt (nI_ltI (by omega) (by decide)).mpr q51
          refine lv_iinc (v := 19) (lv' := [(1, .int 19), (0, .int (nI (u / 256)))]) hx hb dJ6_numberOfLeadingZeros_0f7a4_54 hl (k := 1) rfl (by decide) (by decide) rfl (fun ls hl => ?_)
          refine lv_iload_n hx hb dJ6_numberOfLeadingZeros_0f7a4_57 rfl (lv_at hl 1 rfl) ?_
          refine lv_iconst (v := 4) hx hb dJ6_numberOfLeadingZeros_0f7a4_58 (by decide) ?_
          refine lv_iushr hx hb dJ6_numberOfLeadingZeros_0f7a4_59 rfl ?_
          refine pb_topi (z := nI ((u / 256) / 16)) ((pk_ushrN (by omega) 4 4 (by decide)).trans rfl) ?_
          refine lv_istore_n (lv' := [(0, .int (nI ((u / 256) / 16))), (1, .int 19)]) hx hb dJ6_numberOfLeadingZeros_0f7a4_60 rfl hl (by decide) rfl (fun ls hl => ?_)
          refine lv_iload_n hx hb dJ6_numberOfLeadingZeros_0f7a4_61 rfl (lv_at hl 0 rfl) ?_
          refine lv_iconst (v := 4) hx hb dJ6_numberOfLeadingZeros_0f7a4_62 (by decide) ?_
          refine lv_icmp_lt (tgt := 73) hx hb dJ6_numberOfLeadingZeros_0f7a4_63 (by decide) (fun q63 => ?_) (fun q63 => ?_)
          · have w63 : ((u / 256) / 16) < 4 := (nI_ltI (by omega) (by decide)).mp q63
            refine lv_iload_n hx hb dJ6_numberOfLeadingZeros_0f7a4_73 rfl (lv_at hl 1 rfl) ?_
            refine lv_iload_n hx hb dJ6_numberOfLeadingZeros_0f7a4_74 rfl (lv_at hl 0 rfl) ?_
            refine lv_iconst (v := 1) hx hb dJ6_numberOfLeadingZeros_0f7a4_75 (by decide) ?_
            refine lv_iushr hx hb dJ6_numberOfLeadingZeros_0f7a4_76 rfl ?_
            refine pb_topi (z := nI (((u / 256) / 16) / 2)) ((pk_ushrN (by omega) 1 1 (by decide)).trans rfl) ?_
            refine lv_isub hx hb dJ6_numberOfLeadingZeros_0f7a4_77 ?_
            exact pb_iret hx hb hr hlocks dJ6_numberOfLeadingZeros_0f7a4_78 (by rw [show (19 : Int32) = nI 19 from rfl, pk_sub (a := 19) (b := ((u / 256) / 16) / 2) (by omega)]; simp only [pb_nz, if_neg h0, if_neg hneg, if_true, if_false, *] <;> try rfl)
          · have w63 : ¬ ((u / 256) / 16) < 4 := mt (nI_ltI (by omega) (by decide)).mpr q63
            refine lv_iinc (v := 17) (lv' := [(1, .int 17), (0, .int (nI ((u / 256) / 16)))]) hx hb dJ6_numberOfLeadingZeros_0f7a4_66 hl (k := 1) rfl (by decide) (by decide) rfl (fun ls hl => ?_)
            refine lv_iload_n hx hb dJ6_numberOfLeadingZeros_0f7a4_69 rfl (lv_at hl 1 rfl) ?_
            refine lv_iconst (v := 2) hx hb dJ6_numberOfLeadingZeros_0f7a4_70 (by decide) ?_
            refine lv_iushr hx hb dJ6_numberOfLeadingZeros_0f7a4_71 rfl ?_
            refine pb_topi (z := nI (((u / 256) / 16) / 4)) ((pk_ushrN (by omega) 2 2 (by decide)).trans rfl) ?_
            refine lv_istore_n (lv' := [(0, .int (nI (((u / 256) / 16) / 4))), (1, .int 17)]) hx hb dJ6_numberOfLeadingZeros_0f7a4_72 rfl hl (by decide) rfl (fun ls hl => ?_)
            refine lv_iload_n hx hb dJ6_numberOfLeadingZeros_0f7a4_73 rfl (lv_at hl 1 rfl) ?_
            refine lv_iload_n hx hb dJ6_numberOfLeadingZeros_0f7a4_74 rfl (lv_at hl 0 rfl) ?_
            refine lv_iconst (v := 1) hx hb dJ6_numberOfLeadingZeros_0f7a4_75 (by decide) ?_
            refine lv_iushr hx hb dJ6_numberOfLeadingZeros_0f7a4_76 rfl ?_
            refine pb_topi (z := nI ((((u / 256) / 16) / 4) / 2)) ((pk_ushrN (by omega) 1 1 (by decide)).trans rfl) ?_
            refine lv_isub hx hb dJ6_numberOfLeadingZeros_0f7a4_77 ?_
            exact pb_iret hx hb hr hlocks dJ6_numberOfLeadingZeros_0f7a4_78 (by rw [show (17 : Int32) = nI 17 from rfl, pk_sub (a := 17) (b := (((u / 256) / 16) / 4) / 2) (by omega)]; simp only [pb_nz, if_neg h0, if_neg hneg, if_true, if_false, *] <;> try rfl)
    · have w22 : ¬ u < 65536 := mt (nI_ltI (by omega) (by decide)).mpr q22
      refine lv_iinc (v := 15) (lv' := [(1, .int 15), (0, .int (nI u))]) hx hb dJ6_numberOfLeadingZeros_0f7a4_25 hl (k := 0) rfl (by decide) (by decide) rfl (fun ls hl => ?_)
      refine lv_iload_n hx hb dJ6_numberOfLeadingZeros_0f7a4_28 rfl (lv_at hl 1 rfl) ?_
      refine lv_bipush (v := 16) hx hb dJ6_numberOfLeadingZeros_0f7a4_29 (by decide) ?_
      refine lv_iushr hx hb dJ6_numberOfLeadingZeros_0f7a4_31 rfl ?_
      refine pb_topi (z := nI (u / 65536)) ((pk_ushrN (by omega) 16 16 (by decide)).trans rfl) ?_
      refine lv_istore_n (lv' := [(0, .int (nI (u / 65536))), (1, .int 15)]) hx hb dJ6_numberOfLeadingZeros_0f7a4_32 rfl hl (by decide) rfl (fun ls hl => ?_)
      refine lv_iload_n hx hb dJ6_numberOfLeadingZeros_0f7a4_33 rfl (lv_at hl 0 rfl) ?_
      refine lv_sipush (v := 256) hx hb dJ6_numberOfLeadingZeros_0f7a4_34 (by decide) ?_
      refine lv_icmp_lt (tgt := 48) hx hb dJ6_numberOfLeadingZeros_0f7a4_37 (by decide) (fun q37 => ?_) (fun q37 => ?_)
      · have w37 : (u / 65536) < 256 := (nI_ltI (by omega) (by decide)).mp q37
        refine lv_iload_n hx hb dJ6_numberOfLeadingZeros_0f7a4_48 rfl (lv_at hl 0 rfl) ?_
        refine lv_bipush (v := 16) hx hb dJ6_numberOfLeadingZeros_0f7a4_49 (by decide) ?_
        refine lv_icmp_lt (tgt := 61) hx hb dJ6_numberOfLeadingZeros_0f7a4_51 (by decide) (fun q51 => ?_) (fun q51 => ?_)
        · have w51 : (u / 65536) < 16 := (nI_ltI (by omega) (by decide)).mp q51
          refine lv_iload_n hx hb dJ6_numberOfLeadingZeros_0f7a4_61 rfl (lv_at hl 0 rfl) ?_
          refine lv_iconst (v := 4) hx hb dJ6_numberOfLeadingZeros_0f7a4_62 (by decide) ?_
          refine lv_icmp_lt (tgt := 73) hx hb dJ6_numberOfLeadingZeros_0f7a4_63 (by decide) (fun q63 => ?_) (fun q63 => ?_)
          · have w63 : (u / 65536) < 4 := (nI_ltI (by omega) (by decide)).mp q63
            refine lv_iload_n hx hb dJ6_numberOfLeadingZeros_0f7a4_73 rfl (lv_at hl 1 rfl) ?_
            refine lv_iload_n hx hb dJ6_numberOfLeadingZeros_0f7a4_74 rfl (lv_at hl 0 rfl) ?_
            refine lv_iconst (v := 1) hx hb dJ6_numberOfLeadingZeros_0f7a4_75 (by decide) ?_
            refine lv_iushr hx hb dJ6_numberOfLeadingZeros_0f7a4_76 rfl ?_
            refine pb_topi (z := nI ((u / 65536) / 2)) ((pk_ushrN (by omega) 1 1 (by decide)).trans rfl) ?_
            refine lv_isub hx hb dJ6_numberOfLeadingZeros_0f7a4_77 ?_
            exact pb_iret hx hb hr hlocks dJ6_numberOfLeadingZeros_0f7a4_78 (by rw [show (15 : Int32) = nI 15 from rfl, pk_sub (a := 15) (b := (u / 65536) / 2) (by omega)]; simp only [pb_nz, if_neg h0, if_neg hneg, if_true, if_false, *] <;> try rfl)
          · have w63 : ¬ (u / 65536) < 4 := mt (nI_ltI (by omega) (by decide)).mpr q63
            refine lv_iinc (v := 13) (lv' := [(1, .int 13), (0, .int (nI (u / 65536)))]) hx hb dJ6_numberOfLeadingZeros_0f7a4_66 hl (k := 1) rfl (by decide) (by decide) rfl (fun ls hl => ?_)
            refine lv_iload_n hx hb dJ6_numberOfLeadingZeros_0f7a4_69 rfl (lv_at hl 1 rfl) ?_
            refine lv_iconst (v := 2) hx hb dJ6_numberOfLeadingZeros_0f7a4_70 (by decide) ?_
            refine lv_iushr hx hb dJ6_numberOfLeadingZeros_0f7a4_71 rfl ?_
            refine pb_topi (z := nI ((u / 65536) / 4)) ((pk_ushrN (by omega) 2 2 (by decide)).trans rfl) ?_
            refine lv_istore_n (lv' := [(0, .int (nI ((u / 65536) / 4))), (1, .int 13)]) hx hb dJ6_numberOfLeadingZeros_0f7a4_72 rfl hl (by decide) rfl (fun ls hl => ?_)
            refine lv_iload_n hx hb dJ6_numberOfLeadingZeros_0f7a4_73 rfl (lv_at hl 1 rfl) ?_
            refine lv_iload_n hx hb dJ6_numberOfLeadingZeros_0f7a4_74 rfl (lv_at hl 0 rfl) ?_
            refine lv_iconst (v := 1) hx hb dJ6_numberOfLeadingZeros_0f7a4_75 (by decide) ?_
            refine lv_iushr hx hb dJ6_numberOfLeadingZeros_0f7a4_76 rfl ?_
            refine pb_topi (z := nI (((u / 65536) / 4) / 2)) ((pk_ushrN (by omega) 1 1 (by decide)).trans rfl) ?_
            refine lv_isub hx hb dJ6_numberOfLeadingZeros_0f7a4_77 ?_
            exact pb_iret hx hb hr hlocks dJ6_numberOfLeadingZeros_0f7a4_78 (by rw [show (13 : Int32) = nI 13 from rfl, pk_sub (a := 13) (b := ((u / 65536) / 4) / 2) (by omega)]; simp only [pb_nz, if_neg h0, if_neg hneg, if_true, if_false, *] <;> try rfl)
        · have w51 : ¬ (u / 65536) < 16 := mt (nI_ltI (by omega) (by decide)).mpr q51
          refine lv_iinc (v := 11) (lv' := [(1, .int 11), (0, .int (nI (u / 65536)))]) hx hb dJ6_numberOfLeadingZeros_0f7a4_54 hl (k := 1) rfl (by decide) (by decide) rfl (fun ls hl => ?_)
          refine lv_iload_n hx hb dJ6_numberOfLeadingZeros_0f7a4_57 rfl (lv_at hl 1 rfl) ?_
          refine lv_iconst (v := 4) hx hb dJ6_numberOfLeadingZeros_0f7a4_58 (by decide) ?_
          refine lv_iushr hx hb dJ6_numberOfLeadingZeros_0f7a4_59 rfl ?_
          refine pb_topi (z := nI ((u / 65536) / 16)) ((pk_ushrN (by omega) 4 4 (by decide)).trans rfl) ?_
          refine lv_istore_n (lv' := [(0, .int (nI ((u / 65536) / 16))), (1, .int 11)]) hx hb dJ6_numberOfLeadingZeros_0f7a4_60 rfl hl (by decide) rfl (fun ls hl => ?_)
          refine lv_iload_n hx hb dJ6_numberOfLeadingZeros_0f7a4_61 rfl (lv_at hl 0 rfl) ?_
          refine lv_iconst (v := 4) hx hb dJ6_numberOfLeadingZeros_0f7a4_62 (by decide) ?_
          refine lv_icmp_lt (tgt := 73) hx hb dJ6_numberOfLeadingZeros_0f7a4_63 (by decide) (fun q63 => ?_) (fun q63 => ?_)
          · have w63 : ((u / 65536) / 16) < 4 := (nI_ltI (by omega) (by decide)).mp q63
            refine lv_iload_n hx hb dJ6_numberOfLeadingZeros_0f7a4_73 rfl (lv_at hl 1 rfl) ?_
            refine lv_iload_n hx hb dJ6_numberOfLeadingZeros_0f7a4_74 rfl (lv_at hl 0 rfl) ?_
            refine lv_iconst (v := 1) hx hb dJ6_numberOfLeadingZeros_0f7a4_75 (by decide) ?_
            refine lv_iushr hx hb dJ6_numberOfLeadingZeros_0f7a4_76 rfl ?_
            refine pb_topi (z := nI (((u / 65536) / 16) / 2)) ((pk_ushrN (by omega) 1 1 (by decide)).trans rfl) ?_
            refine lv_isub hx hb dJ6_numberOfLeadingZeros_0f7a4_77 ?_
            exact pb_iret hx hb hr hlocks dJ6_numberOfLeadingZeros_0f7a4_78 (by rw [show (11 : Int32) = nI 11 from rfl, pk_sub (a := 11) (b := ((u / 65536) / 16) / 2) (by omega)]; simp only [pb_nz, if_neg h0, if_neg hneg, if_true, if_false, *] <;> try rfl)
          · have w63 : ¬ ((u / 65536) / 16) < 4 := mt (nI_ltI (by omega) (by decide)).mpr q63
            refine lv_iinc (v := 9) (lv' := [(1, .int 9), (0, .int (nI ((u / 65536) / 16)))]) hx hb dJ6_numberOfLeadingZeros_0f7a4_66 hl (k := 1) rfl (by decide) (by decide) rfl (fun ls hl => ?_)
            refine lv_iload_n hx hb dJ6_numberOfLeadingZeros_0f7a4_69 rfl (lv_at hl 1 rfl) ?_
            refine lv_iconst (v := 2) hx hb dJ6_numberOfLeadingZeros_0f7a4_70 (by decide) ?_
            refine lv_iushr hx hb dJ6_numberOfLeadingZeros_0f7a4_71 rfl ?_
            refine pb_topi (z := nI (((u / 65536) / 16) / 4)) ((pk_ushrN (by omega) 2 2 (by decide)).trans rfl) ?_
            refine lv_istore_n (lv' := [(0, .int (nI (((u / 65536) / 16) / 4))), (1, .int 9)]) hx hb dJ6_numberOfLeadingZeros_0f7a4_72 rfl hl (by decide) rfl (fun ls hl => ?_)
            refine lv_iload_n hx hb dJ6_numberOfLeadingZeros_0f7a4_73 rfl (lv_at hl 1 rfl) ?_
            refine lv_iload_n hx hb dJ6_numberOfLeadingZeros_0f7a4_74 rfl (lv_at hl 0 rfl) ?_
            refine lv_iconst (v := 1) hx hb dJ6_numberOfLeadingZeros_0f7a4_75 (by decide) ?_
            refine lv_iushr hx hb dJ6_numberOfLeadingZeros_0f7a4_76 rfl ?_
            refine pb_topi (z := nI ((((u / 65536) / 16) / 4) / 2)) ((pk_ushrN (by omega) 1 1 (by decide)).trans rfl) ?_
            refine lv_isub hx hb dJ6_numberOfLeadingZeros_0f7a4_77 ?_
            exact pb_iret hx hb hr hlocks dJ6_numberOfLeadingZeros_0f7a4_78 (by rw [show (9 : Int32) = nI 9 from rfl, pk_sub (a := 9) (b := (((u / 65536) / 16) / 4) / 2) (by omega)]; simp only [pb_nz, if_neg h0, if_neg hneg, if_true, if_false, *] <;> try rfl)
      · have w37 : ¬ (u / 65536) < 256 := mt (nI_ltI (by omega) (by decide)).mpr q37
        refine lv_iinc (v := 7) (lv' := [(1, .int 7), (0, .int (nI (u / 65536)))]) hx hb dJ6_numberOfLeadingZeros_0f7a4_40 hl (k := 1) rfl (by decide) (by decide) rfl (fun ls hl => ?_)
        refine lv_iload_n hx hb dJ6_numberOfLeadingZeros_0f7a4_43 rfl (lv_at hl 1 rfl) ?_
        refine lv_bipush (v := 8) hx hb dJ6_numberOfLeadingZeros_0f7a4_44 (by decide) ?_
        refine lv_iushr hx hb dJ6_numberOfLeadingZeros_0f7a4_46 rfl ?_
        refine pb_topi (z := nI ((u / 65536) / 256)) ((pk_ushrN (by omega) 8 8 (by decide)).trans rfl) ?_
        refine lv_istore_n (lv' := [(0, .int (nI ((u / 65536) / 256))), (1, .int 7)]) hx hb dJ6_numberOfLeadingZeros_0f7a4_47 rfl hl (by decide) rfl (fun ls hl => ?_)
        refine lv_iload_n hx hb dJ6_numberOfLeadingZeros_0f7a4_48 rfl (lv_at hl 0 rfl) ?_
        refine lv_bipush (v := 16) hx hb dJ6_numberOfLeadingZeros_0f7a4_49 (by decide) ?_
        refine lv_icmp_lt (tgt := 61) hx hb dJ6_numberOfLeadingZeros_0f7a4_51 (by decide) (fun q51 => ?_) (fun q51 => ?_)
        · have w51 : ((u / 65536) / 256) < 16 := (nI_ltI (by omega) (by decide)).mp q51
          refine lv_iload_n hx hb dJ6_numberOfLeadingZeros_0f7a4_61 rfl (lv_at hl 0 rfl) ?_
          refine lv_iconst (v := 4) hx hb dJ6_numberOfLeadingZeros_0f7a4_62 (by decide) ?_
          refine lv_icmp_lt (tgt := 73) hx hb dJ6_numberOfLeadingZeros_0f7a4_63 (by decide) (fun q63 => ?_) (fun q63 => ?_)
          · have w63 : ((u / 65536) / 256) < 4 := (nI_ltI (by omega) (by decide)).mp q63
            refine lv_iload_n hx hb dJ6_numberOfLeadingZeros_0f7a4_73 rfl (lv_at hl 1 rfl) ?_
            refine lv_iload_n hx hb dJ6_numberOfLeadingZeros_0f7a4_74 rfl (lv_at hl 0 rfl) ?_
            refine lv_iconst (v := 1) hx hb dJ6_numberOfLeadingZeros_0f7a4_75 (by decide) ?_
            refine lv_iushr hx hb dJ6_numberOfLeadingZeros_0f7a4_76 rfl ?_
            refine pb_topi (z := nI (((u / 65536) / 256) / 2)) ((pk_ushrN (by omega) 1 1 (by decide)).trans rfl) ?_
            refine lv_isub hx hb dJ6_numberOfLeadingZeros_0f7a4_77 ?_
            exact pb_iret hx hb hr hlocks dJ6_numberOfLeadingZeros_0f7a4_78 (by rw [show (7 : Int32) = nI 7 from rfl, pk_sub (a := 7) (b := ((u / 65536) / 256) / 2) (by omega)]; simp only [pb_nz, if_neg h0, if_neg hneg, if_true, if_false, *] <;> try rfl)
          · have w63 : ¬ ((u / 65536) / 256) < 4 := mt (nI_ltI (by omega) (by decide)).mpr q63
            refine lv_iinc (v := 5) (lv' := [(1, .int 5), (0, .int (nI ((u / 65536) / 256)))]) hx hb dJ6_numberOfLeadingZeros_0f7a4_66 hl (k := 1) rfl (by decide) (by decide) rfl (fun ls hl => ?_)
            refine lv_iload_n hx hb dJ6_numberOfLeadingZeros_0f7a4_69 rfl (lv_at hl 1 rfl) ?_
            refine lv_iconst (v := 2) hx hb dJ6_numberOfLeadingZeros_0f7a4_70 (by decide) ?_
            refine lv_iushr hx hb dJ6_numberOfLeadingZeros_0f7a4_71 rfl ?_
            refine pb_topi (z := nI (((u / 65536) / 256) / 4)) ((pk_ushrN (by omega) 2 2 (by decide)).trans rfl) ?_
            refine lv_istore_n (lv' := [(0, .int (nI (((u / 65536) / 256) / 4))), (1, .int 5)]) hx hb dJ6_numberOfLeadingZeros_0f7a4_72 rfl hl (by decide) rfl (fun ls hl => ?_)
            refine lv_iload_n hx hb dJ6_numberOfLeadingZeros_0f7a4_73 rfl (lv_at hl 1 rfl) ?_
            refine lv_iload_n hx hb dJ6_numberOfLeadingZeros_0f7a4_74 rfl (lv_at hl 0 rfl) ?_
            refine lv_iconst (v := 1) hx hb dJ6_numberOfLeadingZeros_0f7a4_75 (by decide) ?_
            refine lv_iushr hx hb dJ6_numberOfLeadingZeros_0f7a4_76 rfl ?_
            refine pb_topi (z := nI ((((u / 65536) / 256) / 4) / 2)) ((pk_ushrN (by omega) 1 1 (by decide)).trans rfl) ?_
            refine lv_isub hx hb dJ6_numberOfLeadingZeros_0f7a4_77 ?_
            exact pb_iret hx hb hr hlocks dJ6_numberOfLeadingZeros_0f7a4_78 (by rw [show (5 : Int32) = nI 5 from rfl, pk_sub (a := 5) (b := (((u / 65536) / 256) / 4) / 2) (by omega)]; simp only [pb_nz, if_neg h0, if_neg hneg, if_true, if_false, *] <;> try rfl)
        · have w51 : ¬ ((u / 65536) / 256) < 16 := mt (nI_ltI (by omega) (by decide)).mpr q51
          refine lv_iinc (v := 3) (lv' := [(1, .int 3), (0, .int (nI ((u / 65536) / 256)))]) hx hb dJ6_numberOfLeadingZeros_0f7a4_54 hl (k := 1) rfl (by decide) (by decide) rfl (fun ls hl => ?_)
          refine lv_iload_n hx hb dJ6_numberOfLeadingZeros_0f7a4_57 rfl (lv_at hl 1 rfl) ?_
          refine lv_iconst (v := 4) hx hb dJ6_numberOfLeadingZeros_0f7a4_58 (by decide) ?_
          refine lv_iushr hx hb dJ6_numberOfLeadingZeros_0f7a4_59 rfl ?_
          refine pb_topi (z := nI (((u / 65536) / 256) / 16)) ((pk_ushrN (by omega) 4 4 (by decide)).trans rfl) ?_
          refine lv_istore_n (lv' := [(0, .int (nI (((u / 65536) / 256) / 16))), (1, .int 3)]) hx hb dJ6_numberOfLeadingZeros_0f7a4_60 rfl hl (by decide) rfl (fun ls hl => ?_)
          refine lv_iload_n hx hb dJ6_numberOfLeadingZeros_0f7a4_61 rfl (lv_at hl 0 rfl) ?_
          refine lv_iconst (v := 4) hx hb dJ6_numberOfLeadingZeros_0f7a4_62 (by decide) ?_
          refine lv_icmp_lt (tgt := 73) hx hb dJ6_numberOfLeadingZeros_0f7a4_63 (by decide) (fun q63 => ?_) (fun q63 => ?_)
          · have w63 : (((u / 65536) / 256) / 16) < 4 := (nI_ltI (by omega) (by decide)).mp q63
            refine lv_iload_n hx hb dJ6_numberOfLeadingZeros_0f7a4_73 rfl (lv_at hl 1 rfl) ?_
            refine lv_iload_n hx hb dJ6_numberOfLeadingZeros_0f7a4_74 rfl (lv_at hl 0 rfl) ?_
            refine lv_iconst (v := 1) hx hb dJ6_numberOfLeadingZeros_0f7a4_75 (by decide) ?_
            refine lv_iushr hx hb dJ6_numberOfLeadingZeros_0f7a4_76 rfl ?_
            refine pb_topi (z := nI ((((u / 65536) / 256) / 16) / 2)) ((pk_ushrN (by omega) 1 1 (by decide)).trans rfl) ?_
            refine lv_isub hx hb dJ6_numberOfLeadingZeros_0f7a4_77 ?_
            exact pb_iret hx hb hr hlocks dJ6_numberOfLeadingZeros_0f7a4_78 (by rw [show (3 : Int32) = nI 3 from rfl, pk_sub (a := 3) (b := (((u / 65536) / 256) / 16) / 2) (by omega)]; simp only [pb_nz, if_neg h0, if_neg hneg, if_true, if_false, *] <;> try rfl)
          · have w63 : ¬ (((u / 65536) / 256) / 16) < 4 := mt (nI_ltI (by omega) (by decide)).mpr q63
            refine lv_iinc (v := 1) (lv' := [(1, .int 1), (0, .int (nI (((u / 65536) / 256) / 16)))]) hx hb dJ6_numberOfLeadingZeros_0f7a4_66 hl (k := 1) rfl (by decide) (by decide) rfl (fun ls hl => ?_)
            refine lv_iload_n hx hb dJ6_numberOfLeadingZeros_0f7a4_69 rfl (lv_at hl 1 rfl) ?_
            refine lv_iconst (v := 2) hx hb dJ6_numberOfLeadingZeros_0f7a4_70 (by decide) ?_
            refine lv_iushr hx hb dJ6_numberOfLeadingZeros_0f7a4_71 rfl ?_
            refine pb_topi (z := nI ((((u / 65536) / 256) / 16) / 4)) ((pk_ushrN (by omega) 2 2 (by decide)).trans rfl) ?_
            refine lv_istore_n (lv' := [(0, .int (nI ((((u / 65536) / 256) / 16) / 4))), (1, .int 1)]) hx hb dJ6_numberOfLeadingZeros_0f7a4_72 rfl hl (by decide) rfl (fun ls hl => ?_)
            refine lv_iload_n hx hb dJ6_numberOfLeadingZeros_0f7a4_73 rfl (lv_at hl 1 rfl) ?_
            refine lv_iload_n hx hb dJ6_numberOfLeadingZeros_0f7a4_74 rfl (lv_at hl 0 rfl) ?_
            refine lv_iconst (v := 1) hx hb dJ6_numberOfLeadingZeros_0f7a4_75 (by decide) ?_
            refine lv_iushr hx hb dJ6_numberOfLeadingZeros_0f7a4_76 rfl ?_
            refine pb_topi (z := nI (((((u / 65536) / 256) / 16) / 4) / 2)) ((pk_ushrN (by omega) 1 1 (by decide)).trans rfl) ?_
            refine lv_isub hx hb dJ6_numberOfLeadingZeros_0f7a4_77 ?_
            exact pb_iret hx hb hr hlocks dJ6_numberOfLeadingZeros_0f7a4_78 (by rw [show (1 : Int32) = nI 1 from rfl, pk_sub (a := 1) (b := ((((u / 65536) / 256) / 16) / 4) / 2) (by omega)]; simp only [pb_nz, if_neg h0, if_neg hneg, if_true, if_false, *] <;> try rfl)
  · refine lv_iload_n hx hb dJ6_numberOfLeadingZeros_0f7a4_4 rfl (lv_at hl 0 rfl) ?_
    refine lv_if_ne (tgt := 13) hx hb dJ6_numberOfLeadingZeros_0f7a4_5 (by decide) (fun q5 => ?_) (fun q5 => ?_)
    · have h0 : u ≠ 0 := fun z => q5 (by rw [z]; rfl)
      have hneg : 2 ^ 31 ≤ u := by
        rcases Nat.lt_or_ge u (2 ^ 31) with z | z
        · exact absurd ((nI_ltI (a := 0) (b := u) (by decide) z).mpr (by omega)) q1
        · exact z
      refine lv_iconst (v := 0) hx hb dJ6_numberOfLeadingZeros_0f7a4_13 (by decide) ?_
      exact pb_iret hx hb hr hlocks dJ6_numberOfLeadingZeros_0f7a4_14 (by rw [pb_nz, if_neg h0, if_pos hneg]; rfl)
    · have h0 : u = 0 := by have := congrArg pb_u q5; rw [pb_u_of hu] at this; exact this
      refine lv_bipush (v := 32) hx hb dJ6_numberOfLeadingZeros_0f7a4_8 (by decide) ?_
      refine lv_goto (tgt := 14) hx hb dJ6_numberOfLeadingZeros_0f7a4_10 (by decide) ?_
      exact pb_iret hx hb hr hlocks dJ6_numberOfLeadingZeros_0f7a4_14 (by rw [h0]; rfl)

end PB3c
