/-! PUBLIC CHANGES of PrefixBench at good arguments, and its constructor (laid by wip/gen/p14.py) -/
section PB11
theorem pb_rep_fm {T : List pb_Rt} {Kx : Nat → Int64} {Cx : Nat → Int32} {Hx : Nat → Int64} {g : pb_Rt → Option pb_Rt} {k : Nat} {r r2 : pb_Rt} {kv hv : Int64} {cv : Int32} (hk : T[k]? = some r) (hg : g r = some r2) (h : pb_rep ((T.take k).filterMap g) Kx Cx Hx) (e1 : kv = lN r2.1) (e2 : cv = r2.2.1) (e3 : hv = r2.2.2) : pb_rep ((T.take (k + 1)).filterMap g) (va_up Kx ((T.take k).filterMap g).length kv) (va_up Cx ((T.take k).filterMap g).length cv) (va_up Hx ((T.take k).filterMap g).length hv) := by
  rw [pb_fm_s g hk, hg, e1, e2, e3]
  exact pb_rep_push h r2
theorem pb_lb_lt {T : List pb_Rt} {j : Nat} {r : pb_Rt} (h : T[j]? = some r) : j < T.length := (List.getElem?_eq_some_iff.mp h).1
variable {l : Launch} {D : va_G} {cI cJ : ClassId} {h0 k1 c1 h1 cap sz : Nat} {Kf : Nat → Int64} {Cf : Nat → Int32} {Hf : Nat → Int64}
set_option maxHeartbeats 4000000 in
set_option maxRecDepth 100000 in
theorem c_X0_put {T : List pb_Rt} (hT : pb_ok T) (hR : pb_rX T cap Kf Cf Hf) (hcap : cap ≤ 1024) (hn : T.length < 512) (a k o : Nat) (ha : a < 2 ^ 32) (hk : k ≤ 32) (hg : a % 2 ^ (32 - k) = 0) (ho : o < 8) (cn : Nat) (hcn : cn < 65536) (hz : Int64) (hz0 : hz ≠ 0) : pb_Wq l yX0_put wsX0_put 4 3 3072 125 [.ref h0, .int (nI a), .int (nI k), .int (nI o), .int (nI cn), .long hz] D (pb_ty cI cJ) (pb_wX cI cJ h0 k1 c1 h1 cap Kf Cf Hf (nI T.length)) sz (some (.int (nI (pb_put T ((pb_pre a k * 8 + o), nI cn, hz)).length))) (pb_BX D cI cJ h0 (pb_put T ((pb_pre a k * 8 + o), nI cn, hz))) := by
  refine pb_ofW RX0 (by decide) rfl rfl (Nat.le_of_ble_eq_true rfl) (fun p e s m args below meth c ls A hx hb hml hr hlocks hown hts hP hK hD hS hA hl hin9 => ?_)
  have hinX0 : ∀ w ∈ wsX00, w ∈ wsX0_put := by decide +kernel
  have hl : lv_has ls 10 [(0, .ref h0), (1, .int (nI a)), (2, .int (nI k)), (3, .int (nI o)), (4, .int (nI cn)), (5, .long hz)] := hl
  have hP : va_P D vwCl (pb_wX cI cJ h0 k1 c1 h1 cap Kf Cf Hf (nI T.length)) s.heap := hP
  have hD : va_D A (pb_wX cI cJ h0 k1 c1 h1 cap Kf Cf Hf (nI T.length)) := hD
  have hcp := hR.1
  refine lv_iload_n hx hb dX0_put_0 rfl (lv_at hl 1 rfl) ?_
  refine lv_iload_n hx hb dX0_put_1 rfl (lv_at hl 2 rfl) ?_
  refine pb_callSv (As := [.int (nI a), .int (nI k)]) (rest := []) ⟨hx, hb, hml, hown, hts⟩ (c_X0_checkPrefix a k ha hk hg) (va_cwS 2 hts gX0_put_X0_checkPrefix rfl rfl rfl (by decide +kernel) ⟨Nat.le_of_ble_eq_true rfl, Nat.le_of_ble_eq_true rfl⟩) rfl rfl hl (Nat.le_of_ble_eq_true rfl) dX0_put_2 ⟨Nat.le_of_ble_eq_true rfl, Nat.le_of_ble_eq_true rfl⟩ ?_
  refine lv_iload_n hx hb dX0_put_5 rfl (lv_at hl 3 rfl) ?_
  refine pb_callSv (As := [.int (nI o)]) (rest := []) ⟨hx, hb, hml, hown, hts⟩ (c_X0_checkOrigin o ho) (va_cwS 1 hts gX0_put_X0_checkOrigin rfl rfl rfl (by decide +kernel) ⟨Nat.le_of_ble_eq_true rfl, Nat.le_of_ble_eq_true rfl⟩) rfl rfl hl (Nat.le_of_ble_eq_true rfl) dX0_put_6 ⟨Nat.le_of_ble_eq_true rfl, Nat.le_of_ble_eq_true rfl⟩ ?_
  refine lv_iload hx hb dX0_put_9 (lv_at hl 4 rfl) ?_
  refine lv_lload hx hb dX0_put_11 (lv_at hl 5 rfl) ?_
  refine pb_callSv (As := [.int (nI cn), .long hz]) (rest := []) ⟨hx, hb, hml, hown, hts⟩ (c_X0_checkCostAndHops cn hcn hz hz0) (va_cwS 2 hts gX0_put_X0_checkCostAndHops rfl rfl rfl (by decide +kernel) ⟨Nat.le_of_ble_eq_true rfl, Nat.le_of_ble_eq_true rfl⟩) rfl rfl hl (Nat.le_of_ble_eq_true rfl) dX0_put_13 ⟨Nat.le_of_ble_eq_true rfl, Nat.le_of_ble_eq_true rfl⟩ ?_
  refine lv_iload_n hx hb dX0_put_16 rfl (lv_at hl 1 rfl) ?_
  refine lv_iload_n hx hb dX0_put_17 rfl (lv_at hl 2 rfl) ?_
  refine pb_callS (As := [.int (nI a), .int (nI k)]) (rest := []) ⟨hx, hb, hml, hown, hts⟩ (c_X0_prefixOf a k ha (by omega)) (va_cwS 2 hts gX0_put_X0_prefixOf rfl rfl rfl (by decide +kernel) ⟨Nat.le_of_ble_eq_true rfl, Nat.le_of_ble_eq_true rfl⟩) rfl rfl hl (Nat.le_of_ble_eq_true rfl) dX0_put_18 ⟨Nat.le_of_ble_eq_true rfl, Nat.le_of_ble_eq_true rfl⟩ ?_
  refine lv_iload_n hx hb dX0_put_21 rfl (lv_at hl 3 rfl) ?_
  refine pb_callS (As := [.long (lN (pb_pre a k)), .int (nI o)]) (rest := []) ⟨hx, hb, hml, hown, hts⟩ (c_X0_routeKey (pb_pre a k) o (by omega)) (va_cwS 2 hts gX0_put_X0_routeKey rfl rfl rfl (by decide +kernel) ⟨Nat.le_of_ble_eq_true rfl, Nat.le_of_ble_eq_true rfl⟩) rfl rfl hl (Nat.le_of_ble_eq_true rfl) dX0_put_22 ⟨Nat.le_of_ble_eq_true rfl, Nat.le_of_ble_eq_true rfl⟩ ?_
  refine lv_lstore (lv' := [(7, .long (lN (pb_pre a k * 8 + o))), (0, .ref h0), (1, .int (nI a)), (2, .int (nI k)), (3, .int (nI o)), (4, .int (nI cn)), (5, .long hz)]) hx hb dX0_put_25 hl (by decide) rfl (fun ls hl => ?_)
  refine lv_aload_n hx hb dX0_put_27 rfl (lv_at hl 1 rfl) ?_
  refine lv_lload hx hb dX0_put_28 (lv_at hl 0 rfl) ?_
  refine pb_callV (As := [.long (lN (pb_pre a k * 8 + o))]) (rest := []) ⟨hx, hb, hml, hown, hts⟩ (c_X0_firstFrom hT hR (pb_pre a k * 8 + o) (by show (64 * a + k) * 8 + o < _; omega)) (cwV 1 hts gX0_put_X0_firstFrom rfl rfl rfl (by decide +kernel) ⟨Nat.le_of_ble_eq_true rfl, Nat.le_of_ble_eq_true rfl⟩) hP hK (va_recv hK hP (ci := 0) (q0 := 0) rfl rfl) rfl rfl hl (Nat.le_of_ble_eq_true rfl) dX0_put_30 ⟨Nat.le_of_ble_eq_true rfl, Nat.le_of_ble_eq_true rfl⟩ ?_
  refine lv_istore (lv' := [(9, .int (nI (pb_lb T (pb_pre a k * 8 + o)))), (7, .long (lN (pb_pre a k * 8 + o))), (0, .ref h0), (1, .int (nI a)), (2, .int (nI k)), (3, .int (nI o)), (4, .int (nI cn)), (5, .long hz)]) hx hb dX0_put_33 hl (by decide) rfl (fun ls hl => ?_)
  refine lv_aload_n hx hb dX0_put_35 rfl (lv_at hl 2 rfl) ?_
  refine lv_iload hx hb dX0_put_36 (lv_at hl 0 rfl) ?_
  have hle := pb_lb_le T (pb_pre a k * 8 + o)
  rcases hd : T[(pb_lb T (pb_pre a k * 8 + o))]? with _ | r
  · have hle2 := List.getElem?_eq_none_iff.mp hd
    have hno := pb_hs_no hT.1 hd
    have hTe : pb_put T ((pb_pre a k * 8 + o), nI cn, hz) = pb_ins T (pb_lb T (pb_pre a k * 8 + o)) ((pb_pre a k * 8 + o), nI cn, hz) := by
      unfold pb_put
      exact if_neg (by rw [hno]; decide)
    have hTl := pb_ins_len (T := T) hle ((pb_pre a k * 8 + o), nI cn, hz)
    refine pb_callV (As := [.int (nI (pb_lb T (pb_pre a k * 8 + o)))]) (rest := []) ⟨hx, hb, hml, hown, hts⟩ (c_X0_keyAt_f (nI (pb_lb T (pb_pre a k * 8 + o))) T.length (Or.inr (nI_le hle2 (by omega)))) (cwV 1 hts gX0_put_X0_keyAt rfl rfl rfl (by decide +kernel) ⟨Nat.le_of_ble_eq_true rfl, Nat.le_of_ble_eq_true rfl⟩) hP hK (va_recv hK hP (ci := 0) (q0 := 0) rfl rfl) rfl rfl hl (Nat.le_of_ble_eq_true rfl) dX0_put_38 ⟨Nat.le_of_ble_eq_true rfl, Nat.le_of_ble_eq_true rfl⟩ ?_
    refine lv_lload hx hb dX0_put_41 (lv_at hl 1 rfl) ?_
    refine W.lcmp hx hb dX0_put_43 ?_
    refine lv_if_eq (tgt := 57) hx hb dX0_put_44 (by decide) (fun q44 => absurd ((lg_cmp_eq _ _).mp q44) (fun z => pb_lm1 (by show (64 * a + k) * 8 + o < _; omega) z.symm)) (fun q44 => ?_)
    have q44 := mt (lg_cmp_eq _ _).mpr q44
    
    refine lv_aload_n hx hb dX0_put_47 rfl (lv_at hl 2 rfl) ?_
    refine pb_callVv (As := []) (rest := []) ⟨hx, hb, hml, hown, hts⟩ (c_X0_checkRoom T.length (by omega)) (cwV 0 hts gX0_put_X0_checkRoom rfl rfl rfl (by decide +kernel) ⟨Nat.le_of_ble_eq_true rfl, Nat.le_of_ble_eq_true rfl⟩) hP hK (va_recv hK hP (ci := 0) (q0 := 0) rfl rfl) rfl rfl hl (Nat.le_of_ble_eq_true rfl) dX0_put_48 ⟨Nat.le_of_ble_eq_true rfl, Nat.le_of_ble_eq_true rfl⟩ ?_
    refine lv_aload_n hx hb dX0_put_51 rfl (lv_at hl 2 rfl) ?_
    refine lv_iload hx hb dX0_put_52 (lv_at hl 0 rfl) ?_
    refine pb_callWv (As := [.int (nI (pb_lb T (pb_pre a k * 8 + o)))]) (rest := []) ⟨hx, hb, hml, hown, hts⟩ (c_X0_openPlace (pb_lb T (pb_pre a k * 8 + o)) T.length hle (by omega)) (cwV 1 hts gX0_put_X0_openPlace rfl rfl rfl (by decide +kernel) ⟨Nat.le_of_ble_eq_true rfl, Nat.le_of_ble_eq_true rfl⟩) hP hK hD hS hA (va_recv hK hP (ci := 0) (q0 := 0) rfl rfl) rfl rfl hl (Nat.le_of_ble_eq_true rfl) dX0_put_54 ⟨Nat.le_of_ble_eq_true rfl, Nat.le_of_ble_eq_true rfl⟩ (fun t9 H locs ht hvm hB hsub hS => ?_)
    obtain ⟨k9, c9, h9, cap9, K9, C9, H9, hc9, hag, hB⟩ := hB
    obtain ⟨hP, hD⟩ := pb_back (wd' := (pb_wX cI cJ h0 k9 c9 h9 cap9 (pb_shR K9 (pb_lb T (pb_pre a k * 8 + o)) T.length) (pb_shR C9 (pb_lb T (pb_pre a k * 8 + o)) T.length) (pb_shR H9 (pb_lb T (pb_pre a k * 8 + o)) T.length) (nI (T.length + 1)))) ht hB hsub
    refine lv_aload_n hx hb dX0_put_57 rfl (lv_at hl 2 rfl) ?_
    refine lv_iload hx hb dX0_put_58 (lv_at hl 0 rfl) ?_
    refine lv_lload hx hb dX0_put_60 (lv_at hl 1 rfl) ?_
    refine lv_iload hx hb dX0_put_62 (lv_at hl 6 rfl) ?_
    refine lv_lload hx hb dX0_put_64 (lv_at hl 7 rfl) ?_
    refine pb_callWv (As := [.int (nI (pb_lb T (pb_pre a k * 8 + o))), .long (lN (pb_pre a k * 8 + o)), .int (nI cn), .long hz]) (rest := []) ⟨hx, hb, hml, hown, hts⟩ (c_X0_write (pb_lb T (pb_pre a k * 8 + o)) (T.length + 1) (by omega) (by omega) (lN (pb_pre a k * 8 + o)) (nI cn) hz) (cwV 4 hts gX0_put_X0_write rfl rfl rfl (by decide +kernel) ⟨Nat.le_of_ble_eq_true rfl, Nat.le_of_ble_eq_true rfl⟩) hP hK hD hS hA (va_recv hK hP (ci := 0) (q0 := 0) rfl rfl) rfl rfl hl (Nat.le_of_ble_eq_true rfl) dX0_put_66 ⟨Nat.le_of_ble_eq_true rfl, Nat.le_of_ble_eq_true rfl⟩ (fun t9 H locs ht hvm hB hsub hS => ?_)
    obtain ⟨hP, hD⟩ := pb_back (wd' := (pb_wX cI cJ h0 k9 c9 h9 cap9 (va_up (pb_shR K9 (pb_lb T (pb_pre a k * 8 + o)) T.length) (pb_lb T (pb_pre a k * 8 + o)) (lN (pb_pre a k * 8 + o))) (va_up (pb_shR C9 (pb_lb T (pb_pre a k * 8 + o)) T.length) (pb_lb T (pb_pre a k * 8 + o)) (nI cn)) (va_up (pb_shR H9 (pb_lb T (pb_pre a k * 8 + o)) T.length) (pb_lb T (pb_pre a k * 8 + o)) hz) (nI (T.length + 1)))) ht hB hsub
    refine lv_aload_n hx hb dX0_put_69 rfl (lv_at hl 2 rfl) ?_
    refine va_get (D := D) (ci := 0) (v := .int (nI (T.length + 1))) (C := RX0) (T := TX0) (N := 4) hx hb hts hinX0 hown hK hP 0 rfl rfl 3 (by decide) (hts (.fieldLink RX0 20 "PrefixBench" "count" "I") (by decide +kernel)) (fun _ h9 => h9) rfl dX0_put_70 ?_
    refine W.widen (k := 3) (n := 3072) (Nat.le_of_ble_eq_true rfl) (Nat.le_of_ble_eq_true rfl) ?_
    exact pb_wi hx hb hr hlocks hS dX0_put_73 (by rw [hTe, hTl]) (fun t ht hW => by rw [hTe]; exact ⟨k9, c9, h9, cap9, _, _, _, ⟨pb_rX_of (by omega) (pb_rep_ins (show pb_rep T K9 C9 H9 from fun j9 r9 hj9 => by
      have hlt9 := pb_lb_lt hj9
      obtain ⟨w1, w2, w3⟩ := hag j9 hlt9
      rw [w1, w2, w3]
      exact hR.2 j9 r9 hj9) hle ((pb_pre a k * 8 + o), nI cn, hz)), hc9.2⟩, by rw [hTl]; exact pb_B_of hP hK hD t ht hW⟩)
  · have hkb := pb_key_lt hT (List.mem_of_getElem? hd)
    have hlt := pb_lb_lt hd
    have hiff := pb_hs_iff hT.1 hd
    refine pb_callV (As := [.int (nI (pb_lb T (pb_pre a k * 8 + o)))]) (rest := []) ⟨hx, hb, hml, hown, hts⟩ (c_X0_keyAt_t (pb_lb T (pb_pre a k * 8 + o)) T.length hlt ⟨hR.1.1, hR.1.2.1⟩) (cwV 1 hts gX0_put_X0_keyAt rfl rfl rfl (by decide +kernel) ⟨Nat.le_of_ble_eq_true rfl, Nat.le_of_ble_eq_true rfl⟩) hP hK (va_recv hK hP (ci := 0) (q0 := 0) rfl rfl) rfl rfl hl (Nat.le_of_ble_eq_true rfl) dX0_put_38 ⟨Nat.le_of_ble_eq_true rfl, Nat.le_of_ble_eq_true rfl⟩ ?_
    refine pb_topl (z := lN r.1) ((hR.2 _ _ hd).1) ?_
    refine lv_lload hx hb dX0_put_41 (lv_at hl 1 rfl) ?_
    refine W.lcmp hx hb dX0_put_43 ?_
    refine lv_if_eq (tgt := 57) hx hb dX0_put_44 (by decide) (fun q44 => ?_) (fun q44 => ?_)
    · have q44 := (lg_cmp_eq _ _).mp q44
      have hye := hiff.mp ((pk_lEQ (by omega) (by show (64 * a + k) * 8 + o < _; omega)).mp q44)
      have hTe : pb_put T ((pb_pre a k * 8 + o), nI cn, hz) = T.set (pb_lb T (pb_pre a k * 8 + o)) ((pb_pre a k * 8 + o), nI cn, hz) := by
        unfold pb_put
        exact if_pos hye
      have hTl : (T.set (pb_lb T (pb_pre a k * 8 + o)) ((pb_pre a k * 8 + o), nI cn, hz)).length = T.length := List.length_set
      refine lv_aload_n hx hb dX0_put_57 rfl (lv_at hl 2 rfl) ?_
      refine lv_iload hx hb dX0_put_58 (lv_at hl 0 rfl) ?_
      refine lv_lload hx hb dX0_put_60 (lv_at hl 1 rfl) ?_
      refine lv_iload hx hb dX0_put_62 (lv_at hl 6 rfl) ?_
      refine lv_lload hx hb dX0_put_64 (lv_at hl 7 rfl) ?_
      refine pb_callWv (As := [.int (nI (pb_lb T (pb_pre a k * 8 + o))), .long (lN (pb_pre a k * 8 + o)), .int (nI cn), .long hz]) (rest := []) ⟨hx, hb, hml, hown, hts⟩ (c_X0_write (pb_lb T (pb_pre a k * 8 + o)) T.length hlt (by omega) (lN (pb_pre a k * 8 + o)) (nI cn) hz) (cwV 4 hts gX0_put_X0_write rfl rfl rfl (by decide +kernel) ⟨Nat.le_of_ble_eq_true rfl, Nat.le_of_ble_eq_true rfl⟩) hP hK hD hS hA (va_recv hK hP (ci := 0) (q0 := 0) rfl rfl) rfl rfl hl (Nat.le_of_ble_eq_true rfl) dX0_put_66 ⟨Nat.le_of_ble_eq_true rfl, Nat.le_of_ble_eq_true rfl⟩ (fun t9 H locs ht hvm hB hsub hS => ?_)
      obtain ⟨hP, hD⟩ := pb_back (wd' := (pb_wX cI cJ h0 k1 c1 h1 cap (va_up Kf (pb_lb T (pb_pre a k * 8 + o)) (lN (pb_pre a k * 8 + o))) (va_up Cf (pb_lb T (pb_pre a k * 8 + o)) (nI cn)) (va_up Hf (pb_lb T (pb_pre a k * 8 + o)) hz) (nI T.length))) ht hB hsub
      refine lv_aload_n hx hb dX0_put_69 rfl (lv_at hl 2 rfl) ?_
      refine va_get (D := D) (ci := 0) (v := .int (nI T.length)) (C := RX0) (T := TX0) (N := 4) hx hb hts hinX0 hown hK hP 0 rfl rfl 3 (by decide) (hts (.fieldLink RX0 20 "PrefixBench" "count" "I") (by decide +kernel)) (fun _ h9 => h9) rfl dX0_put_70 ?_
      refine W.widen (k := 3) (n := 3072) (Nat.le_of_ble_eq_true rfl) (Nat.le_of_ble_eq_true rfl) ?_
      exact pb_wi hx hb hr hlocks hS dX0_put_73 (by rw [hTe, hTl]) (fun t ht hW => by rw [hTe]; exact ⟨k1, c1, h1, cap, _, _, _, ⟨pb_rX_of (by rw [hTl]; exact hR.1) (pb_rep_set hR.2 _ ((pb_pre a k * 8 + o), nI cn, hz)), hcap⟩, by rw [hTl]; exact pb_B_of hP hK hD t ht hW⟩)
    · have q44 := mt (lg_cmp_eq _ _).mpr q44
      have hno : pb_hs T (pb_pre a k * 8 + o) = false := pb_bgT (fun z => q44 (by rw [hiff.mpr z]))
      have hTe : pb_put T ((pb_pre a k * 8 + o), nI cn, hz) = pb_ins T (pb_lb T (pb_pre a k * 8 + o)) ((pb_pre a k * 8 + o), nI cn, hz) := by
        unfold pb_put
        exact if_neg (by rw [hno]; decide)
      have hTl := pb_ins_len (T := T) hle ((pb_pre a k * 8 + o), nI cn, hz)
      refine lv_aload_n hx hb dX0_put_47 rfl (lv_at hl 2 rfl) ?_
      refine pb_callVv (As := []) (rest := []) ⟨hx, hb, hml, hown, hts⟩ (c_X0_checkRoom T.length (by omega)) (cwV 0 hts gX0_put_X0_checkRoom rfl rfl rfl (by decide +kernel) ⟨Nat.le_of_ble_eq_true rfl, Nat.le_of_ble_eq_true rfl⟩) hP hK (va_recv hK hP (ci := 0) (q0 := 0) rfl rfl) rfl rfl hl (Nat.le_of_ble_eq_true rfl) dX0_put_48 ⟨Nat.le_of_ble_eq_true rfl, Nat.le_of_ble_eq_true rfl⟩ ?_
      refine lv_aload_n hx hb dX0_put_51 rfl (lv_at hl 2 rfl) ?_
      refine lv_iload hx hb dX0_put_52 (lv_at hl 0 rfl) ?_
      refine pb_callWv (As := [.int (nI (pb_lb T (pb_pre a k * 8 + o)))]) (rest := []) ⟨hx, hb, hml, hown, hts⟩ (c_X0_openPlace (pb_lb T (pb_pre a k * 8 + o)) T.length hle (by omega)) (cwV 1 hts gX0_put_X0_openPlace rfl rfl rfl (by decide +kernel) ⟨Nat.le_of_ble_eq_true rfl, Nat.le_of_ble_eq_true rfl⟩) hP hK hD hS hA (va_recv hK hP (ci := 0) (q0 := 0) rfl rfl) rfl rfl hl (Nat.le_of_ble_eq_true rfl) dX0_put_54 ⟨Nat.le_of_ble_eq_true rfl, Nat.le_of_ble_eq_true rfl⟩ (fun t9 H locs ht hvm hB hsub hS => ?_)
      obtain ⟨k9, c9, h9, cap9, K9, C9, H9, hc9, hag, hB⟩ := hB
      obtain ⟨hP, hD⟩ := pb_back (wd' := (pb_wX cI cJ h0 k9 c9 h9 cap9 (pb_shR K9 (pb_lb T (pb_pre a k * 8 + o)) T.length) (pb_shR C9 (pb_lb T (pb_pre a k * 8 + o)) T.length) (pb_shR H9 (pb_lb T (pb_pre a k * 8 + o)) T.length) (nI (T.length + 1)))) ht hB hsub
      refine lv_aload_n hx hb dX0_put_57 rfl (lv_at hl 2 rfl) ?_
      refine lv_iload hx hb dX0_put_58 (lv_at hl 0 rfl) ?_
      refine lv_lload hx hb dX0_put_60 (lv_at hl 1 rfl) ?_
      refine lv_iload hx hb dX0_put_62 (lv_at hl 6 rfl) ?_
      refine lv_lload hx hb dX0_put_64 (lv_at hl 7 rfl) ?_
      refine pb_callWv (As := [.int (nI (pb_lb T (pb_pre a k * 8 + o))), .long (lN (pb_pre a k * 8 + o)), .int (nI cn), .long hz]) (rest := []) ⟨hx, hb, hml, hown, hts⟩ (c_X0_write (pb_lb T (pb_pre a k * 8 + o)) (T.length + 1) (by omega) (by omega) (lN (pb_pre a k * 8 + o)) (nI cn) hz) (cwV 4 hts gX0_put_X0_write rfl rfl rfl (by decide +kernel) ⟨Nat.le_of_ble_eq_true rfl, Nat.le_of_ble_eq_true rfl⟩) hP hK hD hS hA (va_recv hK hP (ci := 0) (q0 := 0) rfl rfl) rfl rfl hl (Nat.le_of_ble_eq_true rfl) dX0_put_66 ⟨Nat.le_of_ble_eq_true rfl, Nat.le_of_ble_eq_true rfl⟩ (fun t9 H locs ht hvm hB hsub hS => ?_)
      obtain ⟨hP, hD⟩ := pb_back (wd' := (pb_wX cI cJ h0 k9 c9 h9 cap9 (va_up (pb_shR K9 (pb_lb T (pb_pre a k * 8 + o)) T.length) (pb_lb T (pb_pre a k * 8 + o)) (lN (pb_pre a k * 8 + o))) (va_up (pb_shR C9 (pb_lb T (pb_pre a k * 8 + o)) T.length) (pb_lb T (pb_pre a k * 8 + o)) (nI cn)) (va_up (pb_shR H9 (pb_lb T (pb_pre a k * 8 + o)) T.length) (pb_lb T (pb_pre a k * 8 + o)) hz) (nI (T.length + 1)))) ht hB hsub
      refine lv_aload_n hx hb dX0_put_69 rfl (lv_at hl 2 rfl) ?_
      refine va_get (D := D) (ci := 0) (v := .int (nI (T.length + 1))) (C := RX0) (T := TX0) (N := 4) hx hb hts hinX0 hown hK hP 0 rfl rfl 3 (by decide) (hts (.fieldLink RX0 20 "PrefixBench" "count" "I") (by decide +kernel)) (fun _ h9 => h9) rfl dX0_put_70 ?_
      refine W.widen (k := 3) (n := 3072) (Nat.le_of_ble_eq_true rfl) (Nat.le_of_ble_eq_true rfl) ?_
      exact pb_wi hx hb hr hlocks hS dX0_put_73 (by rw [hTe, hTl]) (fun t ht hW => by rw [hTe]; exact ⟨k9, c9, h9, cap9, _, _, _, ⟨pb_rX_of (by omega) (pb_rep_ins (show pb_rep T K9 C9 H9 from fun j9 r9 hj9 => by
        have hlt9 := pb_lb_lt hj9
        obtain ⟨w1, w2, w3⟩ := hag j9 hlt9
        rw [w1, w2, w3]
        exact hR.2 j9 r9 hj9) hle ((pb_pre a k * 8 + o), nI cn, hz)), hc9.2⟩, by rw [hTl]; exact pb_B_of hP hK hD t ht hW⟩)

set_option maxHeartbeats 4000000 in
set_option maxRecDepth 100000 in
theorem c_X0_take_n {T : List pb_Rt} (hT : pb_ok T) (hR : pb_rX T cap Kf Cf Hf) (hcap : cap ≤ 1024) (a k o : Nat) (ha : a < 2 ^ 32) (hk : k ≤ 32) (hg : a % 2 ^ (32 - k) = 0) (ho : o < 8) (hh : pb_hs T (pb_pre a k * 8 + o) = false) : pb_Wq l yX0_take wsX0_take 4 0 0 94 [.ref h0, .int (nI a), .int (nI k), .int (nI o)] D (pb_ty cI cJ) (pb_wX cI cJ h0 k1 c1 h1 cap Kf Cf Hf (nI T.length)) sz (some (.int 0)) (pb_BX D cI cJ h0 T) := by
  refine pb_ofW RX0 (by decide) rfl rfl (Nat.le_of_ble_eq_true rfl) (fun p e s m args below meth c ls A hx hb hml hr hlocks hown hts hP hK hD hS hA hl hin9 => ?_)
  have hl : lv_has ls 5 [(0, .ref h0), (1, .int (nI a)), (2, .int (nI k)), (3, .int (nI o))] := hl
  have hP : va_P D vwCl (pb_wX cI cJ h0 k1 c1 h1 cap Kf Cf Hf (nI T.length)) s.heap := hP
  have hD : va_D A (pb_wX cI cJ h0 k1 c1 h1 cap Kf Cf Hf (nI T.length)) := hD
  refine lv_iload_n hx hb dX0_take_0 rfl (lv_at hl 1 rfl) ?_
  refine lv_iload_n hx hb dX0_take_1 rfl (lv_at hl 2 rfl) ?_
  refine pb_callSv (As := [.int (nI a), .int (nI k)]) (rest := []) ⟨hx, hb, hml, hown, hts⟩ (c_X0_checkPrefix a k ha hk hg) (va_cwS 2 hts gX0_take_X0_checkPrefix rfl rfl rfl (by decide +kernel) ⟨Nat.le_of_ble_eq_true rfl, Nat.le_of_ble_eq_true rfl⟩) rfl rfl hl (Nat.le_of_ble_eq_true rfl) dX0_take_2 ⟨Nat.le_of_ble_eq_true rfl, Nat.le_of_ble_eq_true rfl⟩ ?_
  refine lv_iload_n hx hb dX0_take_5 rfl (lv_at hl 3 rfl) ?_
  refine pb_callSv (As := [.int (nI o)]) (rest := []) ⟨hx, hb, hml, hown, hts⟩ (c_X0_checkOrigin o ho) (va_cwS 1 hts gX0_take_X0_checkOrigin rfl rfl rfl (by decide +kernel) ⟨Nat.le_of_ble_eq_true rfl, Nat.le_of_ble_eq_true rfl⟩) rfl rfl hl (Nat.le_of_ble_eq_true rfl) dX0_take_6 ⟨Nat.le_of_ble_eq_true rfl, Nat.le_of_ble_eq_true rfl⟩ ?_
  refine lv_aload_n hx hb dX0_take_9 rfl (lv_at hl 0 rfl) ?_
  refine lv_iload_n hx hb dX0_take_10 rfl (lv_at hl 1 rfl) ?_
  refine lv_iload_n hx hb dX0_take_11 rfl (lv_at hl 2 rfl) ?_
  refine pb_callS (As := [.int (nI a), .int (nI k)]) (rest := [.ref h0]) ⟨hx, hb, hml, hown, hts⟩ (c_X0_prefixOf a k ha (by omega)) (va_cwS 2 hts gX0_take_X0_prefixOf rfl rfl rfl (by decide +kernel) ⟨Nat.le_of_ble_eq_true rfl, Nat.le_of_ble_eq_true rfl⟩) rfl rfl hl (Nat.le_of_ble_eq_true rfl) dX0_take_12 ⟨Nat.le_of_ble_eq_true rfl, Nat.le_of_ble_eq_true rfl⟩ ?_
  refine lv_iload_n hx hb dX0_take_15 rfl (lv_at hl 3 rfl) ?_
  refine pb_callV (As := [.long (lN (pb_pre a k)), .int (nI o)]) (rest := []) ⟨hx, hb, hml, hown, hts⟩ (c_X0_placeOfRoute hT hR (pb_pre a k) o (by show 64 * a + k < _; omega) ho) (cwV 2 hts gX0_take_X0_placeOfRoute rfl rfl rfl (by decide +kernel) ⟨Nat.le_of_ble_eq_true rfl, Nat.le_of_ble_eq_true rfl⟩) hP hK (va_recv hK hP (ci := 0) (q0 := 0) rfl rfl) rfl rfl hl (Nat.le_of_ble_eq_true rfl) dX0_take_16 ⟨Nat.le_of_ble_eq_true rfl, Nat.le_of_ble_eq_true rfl⟩ ?_
  refine pb_topi (z := (-1)) (by rw [hh]; rfl) ?_
  refine lv_istore (lv' := [(4, .int (-1)), (0, .ref h0), (1, .int (nI a)), (2, .int (nI k)), (3, .int (nI o))]) hx hb dX0_take_19 hl (by decide) rfl (fun ls hl => ?_)
  refine lv_iload hx hb dX0_take_21 (lv_at hl 0 rfl) ?_
  refine lv_iconst (v := (-1)) hx hb dX0_take_23 (by decide) ?_
  refine lv_icmp_ne (tgt := 29) hx hb dX0_take_24 (by decide) (fun q24 => absurd q24 (fun z => z rfl)) (fun q24 => ?_)
  refine lv_iconst (v := 0) hx hb dX0_take_27 (by decide) ?_
  exact pb_wz hx hb hr hlocks hS dX0_take_28 (by decide) (rfl) (fun t ht hW => ⟨k1, c1, h1, cap, Kf, Cf, Hf, ⟨hR, hcap⟩, pb_B_of hP hK hD t ht hW⟩)

set_option maxHeartbeats 4000000 in
set_option maxRecDepth 100000 in
theorem c_X0_take_s {T : List pb_Rt} (hT : pb_ok T) (hR : pb_rX T cap Kf Cf Hf) (hcap : cap ≤ 1024) (a k o : Nat) (ha : a < 2 ^ 32) (hk : k ≤ 32) (hg : a % 2 ^ (32 - k) = 0) (ho : o < 8) {r : pb_Rt} (hr1 : T[(pb_lb T (pb_pre a k * 8 + o))]? = some r) (hh : pb_hs T (pb_pre a k * 8 + o) = true) : pb_Wq l yX0_take wsX0_take 4 0 0 94 [.ref h0, .int (nI a), .int (nI k), .int (nI o)] D (pb_ty cI cJ) (pb_wX cI cJ h0 k1 c1 h1 cap Kf Cf Hf (nI T.length)) sz (some (.int 1)) (pb_BX D cI cJ h0 (T.eraseIdx (pb_lb T (pb_pre a k * 8 + o)))) := by
  refine pb_ofW RX0 (by decide) rfl rfl (Nat.le_of_ble_eq_true rfl) (fun p e s m args below meth c ls A hx hb hml hr hlocks hown hts hP hK hD hS hA hl hin9 => ?_)
  have hl : lv_has ls 5 [(0, .ref h0), (1, .int (nI a)), (2, .int (nI k)), (3, .int (nI o))] := hl
  have hP : va_P D vwCl (pb_wX cI cJ h0 k1 c1 h1 cap Kf Cf Hf (nI T.length)) s.heap := hP
  have hD : va_D A (pb_wX cI cJ h0 k1 c1 h1 cap Kf Cf Hf (nI T.length)) := hD
  have hcp := hR.1
  have hlt := pb_lb_lt hr1
  have hTl : (T.eraseIdx (pb_lb T (pb_pre a k * 8 + o))).length = T.length - 1 := by rw [List.length_eraseIdx, if_pos hlt]
  refine lv_iload_n hx hb dX0_take_0 rfl (lv_at hl 1 rfl) ?_
  refine lv_iload_n hx hb dX0_take_1 rfl (lv_at hl 2 rfl) ?_
  refine pb_callSv (As := [.int (nI a), .int (nI k)]) (rest := []) ⟨hx, hb, hml, hown, hts⟩ (c_X0_checkPrefix a k ha hk hg) (va_cwS 2 hts gX0_take_X0_checkPrefix rfl rfl rfl (by decide +kernel) ⟨Nat.le_of_ble_eq_true rfl, Nat.le_of_ble_eq_true rfl⟩) rfl rfl hl (Nat.le_of_ble_eq_true rfl) dX0_take_2 ⟨Nat.le_of_ble_eq_true rfl, Nat.le_of_ble_eq_true rfl⟩ ?_
  refine lv_iload_n hx hb dX0_take_5 rfl (lv_at hl 3 rfl) ?_
  refine pb_callSv (As := [.int (nI o)]) (rest := []) ⟨hx, hb, hml, hown, hts⟩ (c_X0_checkOrigin o ho) (va_cwS 1 hts gX0_take_X0_checkOrigin rfl rfl rfl (by decide +kernel) ⟨Nat.le_of_ble_eq_true rfl, Nat.le_of_ble_eq_true rfl⟩) rfl rfl hl (Nat.le_of_ble_eq_true rfl) dX0_take_6 ⟨Nat.le_of_ble_eq_true rfl, Nat.le_of_ble_eq_true rfl⟩ ?_
  refine lv_aload_n hx hb dX0_take_9 rfl (lv_at hl 0 rfl) ?_
  refine lv_iload_n hx hb dX0_take_10 rfl (lv_at hl 1 rfl) ?_
  refine lv_iload_n hx hb dX0_take_11 rfl (lv_at hl 2 rfl) ?_
  refine pb_callS (As := [.int (nI a), .int (nI k)]) (rest := [.ref h0]) ⟨hx, hb, hml, hown, hts⟩ (c_X0_prefixOf a k ha (by omega)) (va_cwS 2 hts gX0_take_X0_prefixOf rfl rfl rfl (by decide +kernel) ⟨Nat.le_of_ble_eq_true rfl, Nat.le_of_ble_eq_true rfl⟩) rfl rfl hl (Nat.le_of_ble_eq_true rfl) dX0_take_12 ⟨Nat.le_of_ble_eq_true rfl, Nat.le_of_ble_eq_true rfl⟩ ?_
  refine lv_iload_n hx hb dX0_take_15 rfl (lv_at hl 3 rfl) ?_
  refine pb_callV (As := [.long (lN (pb_pre a k)), .int (nI o)]) (rest := []) ⟨hx, hb, hml, hown, hts⟩ (c_X0_placeOfRoute hT hR (pb_pre a k) o (by show 64 * a + k < _; omega) ho) (cwV 2 hts gX0_take_X0_placeOfRoute rfl rfl rfl (by decide +kernel) ⟨Nat.le_of_ble_eq_true rfl, Nat.le_of_ble_eq_true rfl⟩) hP hK (va_recv hK hP (ci := 0) (q0 := 0) rfl rfl) rfl rfl hl (Nat.le_of_ble_eq_true rfl) dX0_take_16 ⟨Nat.le_of_ble_eq_true rfl, Nat.le_of_ble_eq_true rfl⟩ ?_
  refine pb_topi (z := nI (pb_lb T (pb_pre a k * 8 + o))) (by rw [hh]; rfl) ?_
  refine lv_istore (lv' := [(4, .int (nI (pb_lb T (pb_pre a k * 8 + o)))), (0, .ref h0), (1, .int (nI a)), (2, .int (nI k)), (3, .int (nI o))]) hx hb dX0_take_19 hl (by decide) rfl (fun ls hl => ?_)
  refine lv_iload hx hb dX0_take_21 (lv_at hl 0 rfl) ?_
  refine lv_iconst (v := (-1)) hx hb dX0_take_23 (by decide) ?_
  refine lv_icmp_ne (tgt := 29) hx hb dX0_take_24 (by decide) (fun q24 => ?_) (fun q24 => absurd q24 (pb_m1_ne (by omega)))
  refine lv_aload_n hx hb dX0_take_29 rfl (lv_at hl 1 rfl) ?_
  refine lv_iload hx hb dX0_take_30 (lv_at hl 0 rfl) ?_
  refine pb_callWv (As := [.int (nI (pb_lb T (pb_pre a k * 8 + o)))]) (rest := []) ⟨hx, hb, hml, hown, hts⟩ (c_X0_closePlace (pb_lb T (pb_pre a k * 8 + o)) T.length hlt ⟨hR.1.1, hR.1.2.1⟩) (cwV 1 hts gX0_take_X0_closePlace rfl rfl rfl (by decide +kernel) ⟨Nat.le_of_ble_eq_true rfl, Nat.le_of_ble_eq_true rfl⟩) hP hK hD hS hA (va_recv hK hP (ci := 0) (q0 := 0) rfl rfl) rfl rfl hl (Nat.le_of_ble_eq_true rfl) dX0_take_32 ⟨Nat.le_of_ble_eq_true rfl, Nat.le_of_ble_eq_true rfl⟩ (fun t9 H locs ht hvm hB hsub hS => ?_)
  obtain ⟨hP, hD⟩ := pb_back (wd' := (pb_wX cI cJ h0 k1 c1 h1 cap (pb_shL Kf (pb_lb T (pb_pre a k * 8 + o)) T.length) (pb_shL Cf (pb_lb T (pb_pre a k * 8 + o)) T.length) (pb_shL Hf (pb_lb T (pb_pre a k * 8 + o)) T.length) (nI (T.length - 1)))) ht hB hsub
  refine lv_iconst (v := 1) hx hb dX0_take_35 (by decide) ?_
  exact pb_wz hx hb hr hlocks hS dX0_take_36 (by decide) (rfl) (fun t ht hW => ⟨k1, c1, h1, cap, _, _, _, ⟨pb_rX_of (by rw [hTl]; omega) (pb_rep_del hR.2 (pb_lb T (pb_pre a k * 8 + o))), hcap⟩, by rw [hTl]; exact pb_B_of hP hK hD t ht hW⟩)

set_option maxHeartbeats 4000000 in
set_option maxRecDepth 100000 in
theorem c_X0_drop {T : List pb_Rt} (hT : pb_ok T) (hR : pb_rX T cap Kf Cf Hf) (hcap : cap ≤ 1024) (o : Nat) (ho : o < 8) : pb_Wq l yX0_drop wsX0_drop 3 0 0 69 [.ref h0, .int (nI o)] D (pb_ty cI cJ) (pb_wX cI cJ h0 k1 c1 h1 cap Kf Cf Hf (nI T.length)) sz (some (.int (nI (T.length - (T.filterMap (pb_gd o)).length)))) (pb_BX D cI cJ h0 (T.filterMap (pb_gd o))) := by
  refine pb_ofW RX0 (by decide) rfl rfl (Nat.le_of_ble_eq_true rfl) (fun p e s m args below meth c ls A hx hb hml hr hlocks hown hts hP hK hD hS hA hl hin9 => ?_)
  have hinX0 : ∀ w ∈ wsX00, w ∈ wsX0_drop := by decide +kernel
  have hl : lv_has ls 4 [(0, .ref h0), (1, .int (nI o))] := hl
  have hP : va_P D vwCl (pb_wX cI cJ h0 k1 c1 h1 cap Kf Cf Hf (nI T.length)) s.heap := hP
  have hD : va_D A (pb_wX cI cJ h0 k1 c1 h1 cap Kf Cf Hf (nI T.length)) := hD
  have hcp := hR.1
  refine lv_iload_n hx hb dX0_drop_0 rfl (lv_at hl 1 rfl) ?_
  refine pb_callSv (As := [.int (nI o)]) (rest := []) ⟨hx, hb, hml, hown, hts⟩ (c_X0_checkOrigin o ho) (va_cwS 1 hts gX0_drop_X0_checkOrigin rfl rfl rfl (by decide +kernel) ⟨Nat.le_of_ble_eq_true rfl, Nat.le_of_ble_eq_true rfl⟩) rfl rfl hl (Nat.le_of_ble_eq_true rfl) dX0_drop_1 ⟨Nat.le_of_ble_eq_true rfl, Nat.le_of_ble_eq_true rfl⟩ ?_
  refine lv_iconst (v := 0) hx hb dX0_drop_4 (by decide) ?_
  refine lv_istore_n (lv' := [(2, .int 0), (0, .ref h0), (1, .int (nI o))]) hx hb dX0_drop_5 rfl hl (by decide) rfl (fun ls hl => ?_)
  refine lv_iconst (v := 0) hx hb dX0_drop_6 (by decide) ?_
  refine lv_istore_n (lv' := [(3, .int 0), (2, .int 0), (0, .ref h0), (1, .int (nI o))]) hx hb dX0_drop_7 rfl hl (by decide) rfl (fun ls hl => ?_)
  refine pb_loopH (fun kk H locs ls => ∃ (k : Nat) (Kx : Nat → Int64) (Cx : Nat → Int32) (Hx : Nat → Int64), (k ≤ T.length ∧ T.length - k = kk) ∧ pb_rep ((T.take k).filterMap (pb_gd o)) Kx Cx Hx ∧ (∀ x, k ≤ x → Kx x = Kf x ∧ Cx x = Cf x ∧ Hx x = Hf x) ∧ va_P D vwCl (pb_wX cI cJ h0 k1 c1 h1 cap Kx Cx Hx (nI T.length)) H ∧ va_D A (pb_wX cI cJ h0 k1 c1 h1 cap Kx Cx Hx (nI T.length)) ∧ va_S A s.heap H locs ∧ lv_has ls 4 [(3, .int (nI k)), (2, .int (nI ((T.take k).filterMap (pb_gd o)).length)), (0, .ref h0), (1, .int (nI o))]) 8 [] (fun kk H locs ls hI ih => ?_) (fun hL => ?_)
  · obtain ⟨k, Kx, Cx, Hx, ⟨hk, rfl⟩, hrep, hold, hP, hD, hS, hl⟩ := hI
    have hle := pb_fm_le T (pb_gd o) k
    refine lv_iload_n hx hb dX0_drop_8 rfl (lv_at hl 0 rfl) ?_
    refine lv_aload_n hx hb dX0_drop_9 rfl (lv_at hl 2 rfl) ?_
    refine va_get (D := D) (ci := 0) (v := .int (nI T.length)) (C := RX0) (T := TX0) (N := 4) hx hb hts hinX0 hown hK hP 0 rfl rfl 3 (by decide) (hts (.fieldLink RX0 20 "PrefixBench" "count" "I") (by decide +kernel)) (fun _ h9 => h9) rfl dX0_drop_10 ?_
    refine lv_icmp_ge (tgt := 40) hx hb dX0_drop_13 (by decide) (fun q13 => ?_) (fun q13 => ?_)
    · have hw := (nI_leI (a := T.length) (b := k) (by omega) (by omega)).mp q13
      rw [show k = T.length by omega, pb_fm_all] at hrep hl
      have hlen : (T.filterMap (pb_gd o)).length ≤ T.length := List.length_filterMap_le _ _
      refine lv_aload_n hx hb dX0_drop_40 rfl (lv_at hl 2 rfl) ?_
      refine lv_iload_n hx hb dX0_drop_41 rfl (lv_at hl 1 rfl) ?_
      refine pb_callW (As := [.int (nI (T.filterMap (pb_gd o)).length)]) (rest := []) ⟨hx, hb, hml, hown, hts⟩ (c_X0_keepFirst T.length (T.filterMap (pb_gd o)).length ⟨hlen, by omega⟩) (cwV 1 hts gX0_drop_X0_keepFirst rfl rfl rfl (by decide +kernel) ⟨Nat.le_of_ble_eq_true rfl, Nat.le_of_ble_eq_true rfl⟩) hP hK hD hS hA (va_recv hK hP (ci := 0) (q0 := 0) rfl rfl) rfl rfl hl (Nat.le_of_ble_eq_true rfl) dX0_drop_42 ⟨Nat.le_of_ble_eq_true rfl, Nat.le_of_ble_eq_true rfl⟩ (fun t9 H locs ht hvm hB hsub hS => ?_)
      obtain ⟨hP, hD⟩ := pb_back (wd' := (pb_wX cI cJ h0 k1 c1 h1 cap Kx Cx Hx (nI (T.filterMap (pb_gd o)).length))) ht hB hsub
      exact pb_wi hx hb hr hlocks hS dX0_drop_45 (rfl) (fun t ht hW => ⟨k1, c1, h1, cap, Kx, Cx, Hx, ⟨pb_rX_of (by omega) hrep, hcap⟩, pb_B_of hP hK hD t ht hW⟩)
    · have hw := mt (nI_leI (a := T.length) (b := k) (by omega) (by omega)).mpr q13
      obtain ⟨r, hr1, mr1⟩ := pb_get (T := T) (j := k) (by omega)
      have hkr := (hold k (Nat.le_refl _)).1.trans (hR.2 k r hr1).1
      have hcr := (hold k (Nat.le_refl _)).2.1.trans (hR.2 k r hr1).2.1
      have hhr := (hold k (Nat.le_refl _)).2.2.trans (hR.2 k r hr1).2.2
      refine lv_aload_n hx hb dX0_drop_16 rfl (lv_at hl 2 rfl) ?_
      refine lv_iload_n hx hb dX0_drop_17 rfl (lv_at hl 0 rfl) ?_
      refine pb_callV (As := [.int (nI k)]) (rest := []) ⟨hx, hb, hml, hown, hts⟩ (c_X0_originAt_t k T.length (by omega) ⟨hR.1.1, hR.1.2.1⟩ r.1 hkr) (cwV 1 hts gX0_drop_X0_originAt rfl rfl rfl (by decide +kernel) ⟨Nat.le_of_ble_eq_true rfl, Nat.le_of_ble_eq_true rfl⟩) hP hK (va_recv hK hP (ci := 0) (q0 := 0) rfl rfl) rfl rfl hl (Nat.le_of_ble_eq_true rfl) dX0_drop_18 ⟨Nat.le_of_ble_eq_true rfl, Nat.le_of_ble_eq_true rfl⟩ ?_
      refine lv_iload_n hx hb dX0_drop_21 rfl (lv_at hl 3 rfl) ?_
      refine lv_icmp_eq (tgt := 34) hx hb dX0_drop_22 (by decide) (fun q22 => ?_) (fun q22 => ?_)
      · have hgn : pb_gd o r = none := if_pos ((pb_nI_inj (by omega) (by omega)).mp q22)
        refine lv_iinc (v := nI (k + 1)) (lv' := [(3, .int (nI (k + 1))), (2, .int (nI ((T.take k).filterMap (pb_gd o)).length)), (0, .ref h0), (1, .int (nI o))]) hx hb dX0_drop_34 hl (k := 0) rfl (nI_1 _) (by decide) rfl (fun ls hl => ?_)
        refine lv_goto (tgt := 8) hx hb dX0_drop_37 (by decide) ?_
        exact ih _ _ _ _ (by omega) ⟨k + 1, Kx, Cx, Hx, ⟨by omega, rfl⟩, by rw [pb_fm_f hr1 hgn]; exact hrep, fun x hx9 => hold x (by omega), hP, hD, hS, by rw [pb_fm_f hr1 hgn]; exact lv_sub hl [0, 1, 2, 3] rfl⟩
      · have hgs : pb_gd o r = some r := if_neg (fun z => q22 (by rw [z]))
        have ek := hkr
        have ec := hcr
        have eh := hhr
        refine lv_aload_n hx hb dX0_drop_25 rfl (lv_at hl 2 rfl) ?_
        refine lv_iload_n hx hb dX0_drop_26 rfl (lv_at hl 0 rfl) ?_
        refine lv_iload_n hx hb dX0_drop_27 rfl (lv_at hl 1 rfl) ?_
        refine pb_callWv (As := [.int (nI k), .int (nI ((T.take k).filterMap (pb_gd o)).length)]) (rest := []) ⟨hx, hb, hml, hown, hts⟩ (c_X0_copy k ((T.take k).filterMap (pb_gd o)).length T.length (by omega) (by omega) ⟨hR.1.1, hR.1.2.1⟩) (cwV 2 hts gX0_drop_X0_copy rfl rfl rfl (by decide +kernel) ⟨Nat.le_of_ble_eq_true rfl, Nat.le_of_ble_eq_true rfl⟩) hP hK hD hS hA (va_recv hK hP (ci := 0) (q0 := 0) rfl rfl) rfl rfl hl (Nat.le_of_ble_eq_true rfl) dX0_drop_28 ⟨Nat.le_of_ble_eq_true rfl, Nat.le_of_ble_eq_true rfl⟩ (fun t9 H locs ht hvm hB hsub hS => ?_)
        obtain ⟨hP, hD⟩ := pb_back (wd' := (pb_wX cI cJ h0 k1 c1 h1 cap (va_up Kx (((T.take k).filterMap (pb_gd o)).length) (Kx k)) (va_up Cx (((T.take k).filterMap (pb_gd o)).length) (Cx k)) (va_up Hx (((T.take k).filterMap (pb_gd o)).length) (Hx k)) (nI T.length))) ht hB hsub
        refine lv_iinc (v := nI (((T.take k).filterMap (pb_gd o)).length + 1)) (lv' := [(2, .int (nI (((T.take k).filterMap (pb_gd o)).length + 1))), (3, .int (nI k)), (0, .ref h0), (1, .int (nI o))]) hx hb dX0_drop_31 hl (k := 1) rfl (nI_1 _) (by decide) rfl (fun ls hl => ?_)
        refine lv_iinc (v := nI (k + 1)) (lv' := [(3, .int (nI (k + 1))), (2, .int (nI (((T.take k).filterMap (pb_gd o)).length + 1))), (0, .ref h0), (1, .int (nI o))]) hx hb dX0_drop_34 hl (k := 1) rfl (nI_1 _) (by decide) rfl (fun ls hl => ?_)
        refine lv_goto (tgt := 8) hx hb dX0_drop_37 (by decide) ?_
        exact ih _ _ _ _ (by omega) ⟨k + 1, _, _, _, ⟨by omega, rfl⟩, pb_rep_fm hr1 hgs hrep ek ec eh, fun x hx9 => by rw [pb_up_ge (by omega), pb_up_ge (by omega), pb_up_ge (by omega)]; exact hold x (by omega), hP, hD, hS, by rw [pb_fm_t hr1 hgs]; exact lv_sub hl [0, 1, 2, 3] rfl⟩
  · exact hL _ _ _ _ ⟨0, Kf, Cf, Hf, ⟨Nat.zero_le _, rfl⟩, by intro j r hj; simp at hj, fun _ _ => ⟨rfl, rfl, rfl⟩, hP, hD, hS, lv_sub hl [0, 1, 2, 3] rfl⟩

set_option maxHeartbeats 4000000 in
set_option maxRecDepth 100000 in
theorem c_X0_cut {T : List pb_Rt} (hT : pb_ok T) (hR : pb_rX T cap Kf Cf Hf) (hcap : cap ≤ 1024) (o : Nat) (ho : o < 64) : pb_Wq l yX0_cut wsX0_cut 2 0 0 47 [.ref h0, .int (nI o)] D (pb_ty cI cJ) (pb_wX cI cJ h0 k1 c1 h1 cap Kf Cf Hf (nI T.length)) sz (some (.int (nI (T.length - (T.filterMap (pb_gc (((1 : Int64) <<< ((nI o).toInt64 &&& 63)) ^^^ (-1)))).length)))) (pb_BX D cI cJ h0 (T.filterMap (pb_gc (((1 : Int64) <<< ((nI o).toInt64 &&& 63)) ^^^ (-1))))) := by
  refine pb_ofW RX0 (by decide) rfl rfl (Nat.le_of_ble_eq_true rfl) (fun p e s m args below meth c ls A hx hb hml hr hlocks hown hts hP hK hD hS hA hl hin9 => ?_)
  have hinX0 : ∀ w ∈ wsX00, w ∈ wsX0_cut := by decide +kernel
  have hl : lv_has ls 8 [(0, .ref h0), (1, .int (nI o))] := hl
  have hP : va_P D vwCl (pb_wX cI cJ h0 k1 c1 h1 cap Kf Cf Hf (nI T.length)) s.heap := hP
  have hD : va_D A (pb_wX cI cJ h0 k1 c1 h1 cap Kf Cf Hf (nI T.length)) := hD
  have hcp := hR.1
  refine lv_iload_n hx hb dX0_cut_0 rfl (lv_at hl 1 rfl) ?_
  refine pb_callSv (As := [.int (nI o)]) (rest := []) ⟨hx, hb, hml, hown, hts⟩ (c_X0_checkHop o ho) (va_cwS 1 hts gX0_cut_X0_checkHop rfl rfl rfl (by decide +kernel) ⟨Nat.le_of_ble_eq_true rfl, Nat.le_of_ble_eq_true rfl⟩) rfl rfl hl (Nat.le_of_ble_eq_true rfl) dX0_cut_1 ⟨Nat.le_of_ble_eq_true rfl, Nat.le_of_ble_eq_true rfl⟩ ?_
  refine lv_lconst (v := 1) hx hb dX0_cut_4 (by decide) ?_
  refine lv_iload_n hx hb dX0_cut_5 rfl (lv_at hl 1 rfl) ?_
  refine lv_lshl hx hb dX0_cut_6 rfl ?_
  refine lv_ldc2 (v := (-1)) hx hb hown (hts (.constantLong RX0 82 (-1)) (by decide +kernel)) dX0_cut_7 ?_
  refine lv_lxor hx hb dX0_cut_10 ?_
  refine pb_topl (z := (((1 : Int64) <<< ((nI o).toInt64 &&& 63)) ^^^ (-1))) (rfl) ?_
  refine lv_lstore_n (lv' := [(2, .long (((1 : Int64) <<< ((nI o).toInt64 &&& 63)) ^^^ (-1))), (0, .ref h0), (1, .int (nI o))]) hx hb dX0_cut_11 rfl hl (by decide) rfl (fun ls hl => ?_)
  refine lv_iconst (v := 0) hx hb dX0_cut_12 (by decide) ?_
  refine lv_istore (lv' := [(4, .int 0), (2, .long (((1 : Int64) <<< ((nI o).toInt64 &&& 63)) ^^^ (-1))), (0, .ref h0), (1, .int (nI o))]) hx hb dX0_cut_13 hl (by decide) rfl (fun ls hl => ?_)
  refine lv_iconst (v := 0) hx hb dX0_cut_15 (by decide) ?_
  refine lv_istore (lv' := [(5, .int 0), (4, .int 0), (2, .long (((1 : Int64) <<< ((nI o).toInt64 &&& 63)) ^^^ (-1))), (0, .ref h0), (1, .int (nI o))]) hx hb dX0_cut_16 hl (by decide) rfl (fun ls hl => ?_)
  refine pb_loopH (fun kk H locs ls => ∃ (k : Nat) (Kx : Nat → Int64) (Cx : Nat → Int32) (Hx : Nat → Int64), (k ≤ T.length ∧ T.length - k = kk) ∧ pb_rep ((T.take k).filterMap (pb_gc (((1 : Int64) <<< ((nI o).toInt64 &&& 63)) ^^^ (-1)))) Kx Cx Hx ∧ (∀ x, k ≤ x → Kx x = Kf x ∧ Cx x = Cf x ∧ Hx x = Hf x) ∧ va_P D vwCl (pb_wX cI cJ h0 k1 c1 h1 cap Kx Cx Hx (nI T.length)) H ∧ va_D A (pb_wX cI cJ h0 k1 c1 h1 cap Kx Cx Hx (nI T.length)) ∧ va_S A s.heap H locs ∧ lv_has ls 8 [(5, .int (nI k)), (4, .int (nI ((T.take k).filterMap (pb_gc (((1 : Int64) <<< ((nI o).toInt64 &&& 63)) ^^^ (-1)))).length)), (2, .long (((1 : Int64) <<< ((nI o).toInt64 &&& 63)) ^^^ (-1))), (0, .ref h0), (1, .int (nI o))]) 18 [] (fun kk H locs ls hI ih => ?_) (fun hL => ?_)
  · obtain ⟨k, Kx, Cx, Hx, ⟨hk, rfl⟩, hrep, hold, hP, hD, hS, hl⟩ := hI
    have hle := pb_fm_le T (pb_gc (((1 : Int64) <<< ((nI o).toInt64 &&& 63)) ^^^ (-1))) k
    refine lv_iload hx hb dX0_cut_18 (lv_at hl 0 rfl) ?_
    refine lv_aload_n hx hb dX0_cut_20 rfl (lv_at hl 3 rfl) ?_
    refine va_get (D := D) (ci := 0) (v := .int (nI T.length)) (C := RX0) (T := TX0) (N := 4) hx hb hts hinX0 hown hK hP 0 rfl rfl 3 (by decide) (hts (.fieldLink RX0 20 "PrefixBench" "count" "I") (by decide +kernel)) (fun _ h9 => h9) rfl dX0_cut_21 ?_
    refine lv_icmp_ge (tgt := 73) hx hb dX0_cut_24 (by decide) (fun q24 => ?_) (fun q24 => ?_)
    · have hw := (nI_leI (a := T.length) (b := k) (by omega) (by omega)).mp q24
      rw [show k = T.length by omega, pb_fm_all] at hrep hl
      have hlen : (T.filterMap (pb_gc (((1 : Int64) <<< ((nI o).toInt64 &&& 63)) ^^^ (-1)))).length ≤ T.length := List.length_filterMap_le _ _
      refine lv_aload_n hx hb dX0_cut_73 rfl (lv_at hl 3 rfl) ?_
      refine lv_iload hx hb dX0_cut_74 (lv_at hl 1 rfl) ?_
      refine pb_callW (As := [.int (nI (T.filterMap (pb_gc (((1 : Int64) <<< ((nI o).toInt64 &&& 63)) ^^^ (-1)))).length)]) (rest := []) ⟨hx, hb, hml, hown, hts⟩ (c_X0_keepFirst T.length (T.filterMap (pb_gc (((1 : Int64) <<< ((nI o).toInt64 &&& 63)) ^^^ (-1)))).length ⟨hlen, by omega⟩) (cwV 1 hts gX0_cut_X0_keepFirst rfl rfl rfl (by decide +kernel) ⟨Nat.le_of_ble_eq_true rfl, Nat.le_of_ble_eq_true rfl⟩) hP hK hD hS hA (va_recv hK hP (ci := 0) (q0 := 0) rfl rfl) rfl rfl hl (Nat.le_of_ble_eq_true rfl) dX0_cut_76 ⟨Nat.le_of_ble_eq_true rfl, Nat.le_of_ble_eq_true rfl⟩ (fun t9 H locs ht hvm hB hsub hS => ?_)
      obtain ⟨hP, hD⟩ := pb_back (wd' := (pb_wX cI cJ h0 k1 c1 h1 cap Kx Cx Hx (nI (T.filterMap (pb_gc (((1 : Int64) <<< ((nI o).toInt64 &&& 63)) ^^^ (-1)))).length))) ht hB hsub
      exact pb_wi hx hb hr hlocks hS dX0_cut_79 (rfl) (fun t ht hW => ⟨k1, c1, h1, cap, Kx, Cx, Hx, ⟨pb_rX_of (by omega) hrep, hcap⟩, pb_B_of hP hK hD t ht hW⟩)
    · have hw := mt (nI_leI (a := T.length) (b := k) (by omega) (by omega)).mpr q24
      obtain ⟨r, hr1, mr1⟩ := pb_get (T := T) (j := k) (by omega)
      have hkr := (hold k (Nat.le_refl _)).1.trans (hR.2 k r hr1).1
      have hcr := (hold k (Nat.le_refl _)).2.1.trans (hR.2 k r hr1).2.1
      have hhr := (hold k (Nat.le_refl _)).2.2.trans (hR.2 k r hr1).2.2
      refine lv_aload_n hx hb dX0_cut_27 rfl (lv_at hl 3 rfl) ?_
      refine lv_iload hx hb dX0_cut_28 (lv_at hl 0 rfl) ?_
      refine pb_callV (As := [.int (nI k)]) (rest := []) ⟨hx, hb, hml, hown, hts⟩ (c_X0_hopsAt_t k T.length (by omega) ⟨hR.1.1, hR.1.2.1⟩) (cwV 1 hts gX0_cut_X0_hopsAt rfl rfl rfl (by decide +kernel) ⟨Nat.le_of_ble_eq_true rfl, Nat.le_of_ble_eq_true rfl⟩) hP hK (va_recv hK hP (ci := 0) (q0 := 0) rfl rfl) rfl rfl hl (Nat.le_of_ble_eq_true rfl) dX0_cut_30 ⟨Nat.le_of_ble_eq_true rfl, Nat.le_of_ble_eq_true rfl⟩ ?_
      refine pb_topl (z := r.2.2) (hhr) ?_
      refine lv_lload_n hx hb dX0_cut_33 rfl (lv_at hl 2 rfl) ?_
      refine lv_land hx hb dX0_cut_34 ?_
      refine lv_lstore (lv' := [(6, .long (r.2.2 &&& (((1 : Int64) <<< ((nI o).toInt64 &&& 63)) ^^^ (-1)))), (5, .int (nI k)), (4, .int (nI ((T.take k).filterMap (pb_gc (((1 : Int64) <<< ((nI o).toInt64 &&& 63)) ^^^ (-1)))).length)), (2, .long (((1 : Int64) <<< ((nI o).toInt64 &&& 63)) ^^^ (-1))), (0, .ref h0), (1, .int (nI o))]) hx hb dX0_cut_35 hl (by decide) rfl (fun ls hl => ?_)
      refine lv_lload hx hb dX0_cut_37 (lv_at hl 0 rfl) ?_
      refine lv_lconst (v := 0) hx hb dX0_cut_39 (by decide) ?_
      refine W.lcmp hx hb dX0_cut_40 ?_
      refine lv_if_eq (tgt := 67) hx hb dX0_cut_41 (by decide) (fun q41 => ?_) (fun q41 => ?_)
      · have q41 := (lg_cmp_eq _ _).mp q41
        have hgn : pb_gc (((1 : Int64) <<< ((nI o).toInt64 &&& 63)) ^^^ (-1)) r = none := if_pos q41
        refine lv_iinc (v := nI (k + 1)) (lv' := [(5, .int (nI (k + 1))), (6, .long (r.2.2 &&& (((1 : Int64) <<< ((nI o).toInt64 &&& 63)) ^^^ (-1)))), (4, .int (nI ((T.take k).filterMap (pb_gc (((1 : Int64) <<< ((nI o).toInt64 &&& 63)) ^^^ (-1)))).length)), (2, .long (((1 : Int64) <<< ((nI o).toInt64 &&& 63)) ^^^ (-1))), (0, .ref h0), (1, .int (nI o))]) hx hb dX0_cut_67 hl (k := 1) rfl (nI_1 _) (by decide) rfl (fun ls hl => ?_)
        refine lv_goto (tgt := 18) hx hb dX0_cut_70 (by decide) ?_
        exact ih _ _ _ _ (by omega) ⟨k + 1, Kx, Cx, Hx, ⟨by omega, rfl⟩, by rw [pb_fm_f hr1 hgn]; exact hrep, fun x hx9 => hold x (by omega), hP, hD, hS, by rw [pb_fm_f hr1 hgn]; exact lv_sub hl [0, 2, 3, 4, 5] rfl⟩
      · have q41 := mt (lg_cmp_eq _ _).mpr q41
        have hgs : pb_gc (((1 : Int64) <<< ((nI o).toInt64 &&& 63)) ^^^ (-1)) r = some (r.1, r.2.1, r.2.2 &&& (((1 : Int64) <<< ((nI o).toInt64 &&& 63)) ^^^ (-1))) := if_neg q41
        have ek : Kx k = lN (r.1, r.2.1, r.2.2 &&& (((1 : Int64) <<< ((nI o).toInt64 &&& 63)) ^^^ (-1))).1 := hkr
        have ec : Cx k = (r.1, r.2.1, r.2.2 &&& (((1 : Int64) <<< ((nI o).toInt64 &&& 63)) ^^^ (-1))).2.1 := hcr
        have eh : r.2.2 &&& (((1 : Int64) <<< ((nI o).toInt64 &&& 63)) ^^^ (-1)) = (r.1, r.2.1, r.2.2 &&& (((1 : Int64) <<< ((nI o).toInt64 &&& 63)) ^^^ (-1))).2.2 := rfl
        refine lv_aload_n hx hb dX0_cut_44 rfl (lv_at hl 4 rfl) ?_
        refine lv_iload hx hb dX0_cut_45 (lv_at hl 2 rfl) ?_
        refine lv_aload_n hx hb dX0_cut_47 rfl (lv_at hl 4 rfl) ?_
        refine lv_iload hx hb dX0_cut_48 (lv_at hl 1 rfl) ?_
        refine pb_callV (As := [.int (nI k)]) (rest := [.int (nI ((T.take k).filterMap (pb_gc (((1 : Int64) <<< ((nI o).toInt64 &&& 63)) ^^^ (-1)))).length), .ref h0]) ⟨hx, hb, hml, hown, hts⟩ (c_X0_keyAt_t k T.length (by omega) ⟨hR.1.1, hR.1.2.1⟩) (cwV 1 hts gX0_cut_X0_keyAt rfl rfl rfl (by decide +kernel) ⟨Nat.le_of_ble_eq_true rfl, Nat.le_of_ble_eq_true rfl⟩) hP hK (va_recv hK hP (ci := 0) (q0 := 0) rfl rfl) rfl rfl hl (Nat.le_of_ble_eq_true rfl) dX0_cut_50 ⟨Nat.le_of_ble_eq_true rfl, Nat.le_of_ble_eq_true rfl⟩ ?_
        refine lv_aload_n hx hb dX0_cut_53 rfl (lv_at hl 4 rfl) ?_
        refine lv_iload hx hb dX0_cut_54 (lv_at hl 1 rfl) ?_
        refine pb_callV (As := [.int (nI k)]) (rest := [.long (Kx k), .int (nI ((T.take k).filterMap (pb_gc (((1 : Int64) <<< ((nI o).toInt64 &&& 63)) ^^^ (-1)))).length), .ref h0]) ⟨hx, hb, hml, hown, hts⟩ (c_X0_costAt_t k T.length (by omega) ⟨hR.1.1, hR.1.2.1⟩) (cwV 1 hts gX0_cut_X0_costAt rfl rfl rfl (by decide +kernel) ⟨Nat.le_of_ble_eq_true rfl, Nat.le_of_ble_eq_true rfl⟩) hP hK (va_recv hK hP (ci := 0) (q0 := 0) rfl rfl) rfl rfl hl (Nat.le_of_ble_eq_true rfl) dX0_cut_56 ⟨Nat.le_of_ble_eq_true rfl, Nat.le_of_ble_eq_true rfl⟩ ?_
        refine lv_lload hx hb dX0_cut_59 (lv_at hl 0 rfl) ?_
        refine pb_callWv (As := [.int (nI ((T.take k).filterMap (pb_gc (((1 : Int64) <<< ((nI o).toInt64 &&& 63)) ^^^ (-1)))).length), .long (Kx k), .int (Cx k), .long (r.2.2 &&& (((1 : Int64) <<< ((nI o).toInt64 &&& 63)) ^^^ (-1)))]) (rest := []) ⟨hx, hb, hml, hown, hts⟩ (c_X0_write ((T.take k).filterMap (pb_gc (((1 : Int64) <<< ((nI o).toInt64 &&& 63)) ^^^ (-1)))).length T.length (by omega) ⟨hR.1.1, hR.1.2.1⟩ (Kx k) (Cx k) (r.2.2 &&& (((1 : Int64) <<< ((nI o).toInt64 &&& 63)) ^^^ (-1)))) (cwV 4 hts gX0_cut_X0_write rfl rfl rfl (by decide +kernel) ⟨Nat.le_of_ble_eq_true rfl, Nat.le_of_ble_eq_true rfl⟩) hP hK hD hS hA (va_recv hK hP (ci := 0) (q0 := 0) rfl rfl) rfl rfl hl (Nat.le_of_ble_eq_true rfl) dX0_cut_61 ⟨Nat.le_of_ble_eq_true rfl, Nat.le_of_ble_eq_true rfl⟩ (fun t9 H locs ht hvm hB hsub hS => ?_)
        obtain ⟨hP, hD⟩ := pb_back (wd' := (pb_wX cI cJ h0 k1 c1 h1 cap (va_up Kx (((T.take k).filterMap (pb_gc (((1 : Int64) <<< ((nI o).toInt64 &&& 63)) ^^^ (-1)))).length) (Kx k)) (va_up Cx (((T.take k).filterMap (pb_gc (((1 : Int64) <<< ((nI o).toInt64 &&& 63)) ^^^ (-1)))).length) (Cx k)) (va_up Hx (((T.take k).filterMap (pb_gc (((1 : Int64) <<< ((nI o).toInt64 &&& 63)) ^^^ (-1)))).length) (r.2.2 &&& (((1 : Int64) <<< ((nI o).toInt64 &&& 63)) ^^^ (-1)))) (nI T.length))) ht hB hsub
        refine lv_iinc (v := nI (((T.take k).filterMap (pb_gc (((1 : Int64) <<< ((nI o).toInt64 &&& 63)) ^^^ (-1)))).length + 1)) (lv' := [(4, .int (nI (((T.take k).filterMap (pb_gc (((1 : Int64) <<< ((nI o).toInt64 &&& 63)) ^^^ (-1)))).length + 1))), (6, .long (r.2.2 &&& (((1 : Int64) <<< ((nI o).toInt64 &&& 63)) ^^^ (-1)))), (5, .int (nI k)), (2, .long (((1 : Int64) <<< ((nI o).toInt64 &&& 63)) ^^^ (-1))), (0, .ref h0), (1, .int (nI o))]) hx hb dX0_cut_64 hl (k := 2) rfl (nI_1 _) (by decide) rfl (fun ls hl => ?_)
        refine lv_iinc (v := nI (k + 1)) (lv' := [(5, .int (nI (k + 1))), (4, .int (nI (((T.take k).filterMap (pb_gc (((1 : Int64) <<< ((nI o).toInt64 &&& 63)) ^^^ (-1)))).length + 1))), (6, .long (r.2.2 &&& (((1 : Int64) <<< ((nI o).toInt64 &&& 63)) ^^^ (-1)))), (2, .long (((1 : Int64) <<< ((nI o).toInt64 &&& 63)) ^^^ (-1))), (0, .ref h0), (1, .int (nI o))]) hx hb dX0_cut_67 hl (k := 2) rfl (nI_1 _) (by decide) rfl (fun ls hl => ?_)
        refine lv_goto (tgt := 18) hx hb dX0_cut_70 (by decide) ?_
        exact ih _ _ _ _ (by omega) ⟨k + 1, _, _, _, ⟨by omega, rfl⟩, pb_rep_fm hr1 hgs hrep ek ec eh, fun x hx9 => by rw [pb_up_ge (by omega), pb_up_ge (by omega), pb_up_ge (by omega)]; exact hold x (by omega), hP, hD, hS, by rw [pb_fm_t hr1 hgs]; exact lv_sub hl [0, 1, 3, 4, 5] rfl⟩
  · exact hL _ _ _ _ ⟨0, Kf, Cf, Hf, ⟨Nat.zero_le _, rfl⟩, by intro j r hj; simp at hj, fun _ _ => ⟨rfl, rfl, rfl⟩, hP, hD, hS, lv_sub hl [0, 1, 2, 3, 4] rfl⟩

set_option maxHeartbeats 4000000 in
set_option maxRecDepth 100000 in
theorem c_X0_init : pb_Wq l yX0_init wsX0_init 1 3 48 40 [.ref h0] D (pb_ty cI cJ) [(h0, .inr (0, [.null, .null, .null, .int 0]))] sz (none) (pb_BX D cI cJ h0 ([])) := by
  refine pb_ofW RX0 (by decide) rfl rfl (Nat.le_of_ble_eq_true rfl) (fun p e s m args below meth c ls A hx hb hml hr hlocks hown hts hP hK hD hS hA hl hin9 => ?_)
  have hinX0 : ∀ w ∈ wsX00, w ∈ wsX0_init := by decide +kernel
  have hl : lv_has ls 1 [(0, .ref h0)] := hl
  have hP : va_P D vwCl [(h0, .inr (0, [.null, .null, .null, .int 0]))] s.heap := hP
  have hD : va_D A [(h0, .inr (0, [.null, .null, .null, .int 0]))] := hD
  refine lv_aload_n hx hb dX0_init_0 rfl (lv_at hl 0 rfl) ?_
  refine W.objInit hx hb hown (hts (.methodLink RX0 1 objectInit) (by decide +kernel)) (hts (.instanceMethod objectInit) (by decide +kernel)) (hts _ (List.mem_of_getElem? (i := 3) rfl)) rfl (by rw [hml]; exact hl.1) rfl dX0_init_1 (Nat.le_of_ble_eq_true rfl) (Nat.le_of_ble_eq_true rfl) ?_
  refine W.eq (g2 := F0 m 4 ls []) rfl ?_
  refine lv_aload_n hx hb dX0_init_4 rfl (lv_at hl 0 rfl) ?_
  refine lv_bipush (v := 16) hx hb dX0_init_5 (by decide) ?_
  refine va_newa (atype := .long) (ty := .long) (N' := 16) (a0 := (16, .inr (.inl (fun _ => 0)))) hx hb (hts (.arrayClass .long) (by decide +kernel)) rfl hK hP hD hS hA (fun cA => rfl) (by decide) (by decide) (by decide) (Nat.le_of_ble_eq_true rfl) (Nat.le_of_ble_eq_true rfl) dX0_init_7 (fun q1 cA H hK9 hP hD hS => ?_)
  obtain rfl := pb_cidJ hK9
  have hP : va_P D vwCl [(h0, .inr (0, [.null, .null, .null, .int 0])), (q1, .inl (cJ, 16, .inr (.inl (fun _ => 0))))] H := hP
  have hD : va_D A [(h0, .inr (0, [.null, .null, .null, .int 0])), (q1, .inl (cJ, 16, .inr (.inl (fun _ => 0))))] := hD
  refine va_put (D := D) (ci := 0) (v := .ref q1) (ty := .array .long) (C := RX0) (T := TX0) (N := 4) hx hb hts hinX0 tyX0 tyX0_ok nmX0 hown hK hP hD hS 0 rfl rfl 0 (by decide) (hts (.fieldLink RX0 9 "PrefixBench" "keys" "[J") (by decide +kernel)) (fun _ h9 => h9) rfl (by decide +kernel) rfl rfl (Nat.le_of_ble_eq_true rfl) dX0_init_9 (fun H locs hP hD hS => ?_)
  have hP : va_P D vwCl [(h0, .inr (0, [.ref q1, .null, .null, .int 0])), (q1, .inl (cJ, 16, .inr (.inl (fun _ => 0))))] H := hP
  have hD : va_D A [(h0, .inr (0, [.ref q1, .null, .null, .int 0])), (q1, .inl (cJ, 16, .inr (.inl (fun _ => 0))))] := hD
  refine lv_aload_n hx hb dX0_init_12 rfl (lv_at hl 0 rfl) ?_
  refine lv_bipush (v := 16) hx hb dX0_init_13 (by decide) ?_
  refine va_newa (atype := .int) (ty := .int) (N' := 16) (a0 := (16, .inl (fun _ => 0))) hx hb (hts (.arrayClass .int) (by decide +kernel)) rfl hK hP hD hS hA (fun cA => rfl) (by decide) (by decide) (by decide) (Nat.le_of_ble_eq_true rfl) (Nat.le_of_ble_eq_true rfl) dX0_init_15 (fun q2 cA H hK9 hP hD hS => ?_)
  obtain rfl := pb_cidI hK9
  have hP : va_P D vwCl [(h0, .inr (0, [.ref q1, .null, .null, .int 0])), (q1, .inl (cJ, 16, .inr (.inl (fun _ => 0)))), (q2, .inl (cI, 16, .inl (fun _ => 0)))] H := hP
  have hD : va_D A [(h0, .inr (0, [.ref q1, .null, .null, .int 0])), (q1, .inl (cJ, 16, .inr (.inl (fun _ => 0)))), (q2, .inl (cI, 16, .inl (fun _ => 0)))] := hD
  refine va_put (D := D) (ci := 0) (v := .ref q2) (ty := .array .int) (C := RX0) (T := TX0) (N := 4) hx hb hts hinX0 tyX0 tyX0_ok nmX0 hown hK hP hD hS 0 rfl rfl 1 (by decide) (hts (.fieldLink RX0 13 "PrefixBench" "costs" "[I") (by decide +kernel)) (fun _ h9 => h9) rfl (by decide +kernel) rfl rfl (Nat.le_of_ble_eq_true rfl) dX0_init_17 (fun H locs hP hD hS => ?_)
  have hP : va_P D vwCl [(h0, .inr (0, [.ref q1, .ref q2, .null, .int 0])), (q1, .inl (cJ, 16, .inr (.inl (fun _ => 0)))), (q2, .inl (cI, 16, .inl (fun _ => 0)))] H := hP
  have hD : va_D A [(h0, .inr (0, [.ref q1, .ref q2, .null, .int 0])), (q1, .inl (cJ, 16, .inr (.inl (fun _ => 0)))), (q2, .inl (cI, 16, .inl (fun _ => 0)))] := hD
  refine lv_aload_n hx hb dX0_init_20 rfl (lv_at hl 0 rfl) ?_
  refine lv_bipush (v := 16) hx hb dX0_init_21 (by decide) ?_
  refine va_newa (atype := .long) (ty := .long) (N' := 16) (a0 := (16, .inr (.inl (fun _ => 0)))) hx hb (hts (.arrayClass .long) (by decide +kernel)) rfl hK hP hD hS hA (fun cA => rfl) (by decide) (by decide) (by decide) (Nat.le_of_ble_eq_true rfl) (Nat.le_of_ble_eq_true rfl) dX0_init_23 (fun q3 cA H hK9 hP hD hS => ?_)
  obtain rfl := pb_cidJ hK9
  have hP : va_P D vwCl [(h0, .inr (0, [.ref q1, .ref q2, .null, .int 0])), (q1, .inl (cJ, 16, .inr (.inl (fun _ => 0)))), (q2, .inl (cI, 16, .inl (fun _ => 0))), (q3, .inl (cJ, 16, .inr (.inl (fun _ => 0))))] H := hP
  have hD : va_D A [(h0, .inr (0, [.ref q1, .ref q2, .null, .int 0])), (q1, .inl (cJ, 16, .inr (.inl (fun _ => 0)))), (q2, .inl (cI, 16, .inl (fun _ => 0))), (q3, .inl (cJ, 16, .inr (.inl (fun _ => 0))))] := hD
  refine va_put (D := D) (ci := 0) (v := .ref q3) (ty := .array .long) (C := RX0) (T := TX0) (N := 4) hx hb hts hinX0 tyX0 tyX0_ok nmX0 hown hK hP hD hS 0 rfl rfl 2 (by decide) (hts (.fieldLink RX0 17 "PrefixBench" "hopSets" "[J") (by decide +kernel)) (fun _ h9 => h9) rfl (by decide +kernel) rfl rfl (Nat.le_of_ble_eq_true rfl) dX0_init_25 (fun H locs hP hD hS => ?_)
  have hP : va_P D vwCl [(h0, .inr (0, [.ref q1, .ref q2, .ref q3, .int 0])), (q1, .inl (cJ, 16, .inr (.inl (fun _ => 0)))), (q2, .inl (cI, 16, .inl (fun _ => 0))), (q3, .inl (cJ, 16, .inr (.inl (fun _ => 0))))] H := hP
  have hD : va_D A [(h0, .inr (0, [.ref q1, .ref q2, .ref q3, .int 0])), (q1, .inl (cJ, 16, .inr (.inl (fun _ => 0)))), (q2, .inl (cI, 16, .inl (fun _ => 0))), (q3, .inl (cJ, 16, .inr (.inl (fun _ => 0))))] := hD
  refine lv_aload_n hx hb dX0_init_28 rfl (lv_at hl 0 rfl) ?_
  refine lv_iconst (v := 0) hx hb dX0_init_29 (by decide) ?_
  refine va_put (D := D) (ci := 0) (v := .int 0) (ty := .int) (C := RX0) (T := TX0) (N := 4) hx hb hts hinX0 tyX0 tyX0_ok nmX0 hown hK hP hD hS 0 rfl rfl 3 (by decide) (hts (.fieldLink RX0 20 "PrefixBench" "count" "I") (by decide +kernel)) (fun _ h9 => h9) rfl (by decide +kernel) rfl rfl (Nat.le_of_ble_eq_true rfl) dX0_init_30 (fun H locs hP hD hS => ?_)
  have hP : va_P D vwCl [(h0, .inr (0, [.ref q1, .ref q2, .ref q3, .int 0])), (q1, .inl (cJ, 16, .inr (.inl (fun _ => 0)))), (q2, .inl (cI, 16, .inl (fun _ => 0))), (q3, .inl (cJ, 16, .inr (.inl (fun _ => 0))))] H := hP
  have hD : va_D A [(h0, .inr (0, [.ref q1, .ref q2, .ref q3, .int 0])), (q1, .inl (cJ, 16, .inr (.inl (fun _ => 0)))), (q2, .inl (cI, 16, .inl (fun _ => 0))), (q3, .inl (cJ, 16, .inr (.inl (fun _ => 0))))] := hD
  exact pb_wv hx hb hr hlocks hS dX0_init_33 (fun t ht hW => ⟨q1, q2, q3, 16, _, _, _, ⟨pb_rX_of (by decide) (fun j r hj => by simp at hj), by decide⟩, pb_B_of hP hK hD t ht hW⟩)

set_option maxHeartbeats 4000000 in
set_option maxRecDepth 100000 in
theorem c_X1_init {m0 : Nat} : pb_Wq l yX1_init wsX1_init 1 5 5005 40 [.ref m0] D (pb_ty cI cJ) [(m0, .inr (1, [.int 0, .int 0, .null, .null, .null, .null, .null]))] sz (none) (fun A t => ∃ q1 q2 q3 q4 q5 : Nat, pb_BM D cI cJ m0 q1 q2 q3 q4 q5 [] 0 A t) := by
  refine pb_ofW RX1 (by decide) rfl rfl (Nat.le_of_ble_eq_true rfl) (fun p e s m args below meth c ls A hx hb hml hr hlocks hown hts hP hK hD hS hA hl hin9 => ?_)
  have hinX1 : ∀ w ∈ wsX10, w ∈ wsX1_init := by decide +kernel
  have hl : lv_has ls 1 [(0, .ref m0)] := hl
  have hP : va_P D vwCl [(m0, .inr (1, [.int 0, .int 0, .null, .null, .null, .null, .null]))] s.heap := hP
  have hD : va_D A [(m0, .inr (1, [.int 0, .int 0, .null, .null, .null, .null, .null]))] := hD
  refine lv_aload_n hx hb dX1_init_0 rfl (lv_at hl 0 rfl) ?_
  refine W.objInit hx hb hown (hts (.methodLink RX1 1 objectInit) (by decide +kernel)) (hts (.instanceMethod objectInit) (by decide +kernel)) (hts _ (List.mem_of_getElem? (i := 3) rfl)) rfl (by rw [hml]; exact hl.1) rfl dX1_init_1 (Nat.le_of_ble_eq_true rfl) (Nat.le_of_ble_eq_true rfl) ?_
  refine W.eq (g2 := F0 m 4 ls []) rfl ?_
  refine lv_aload_n hx hb dX1_init_4 rfl (lv_at hl 0 rfl) ?_
  refine lv_sipush (v := 1001) hx hb dX1_init_5 (by decide) ?_
  refine va_newa (atype := .int) (ty := .int) (N' := 1001) (a0 := (1001, .inl (fun _ => 0))) hx hb (hts (.arrayClass .int) (by decide +kernel)) rfl hK hP hD hS hA (fun cA => rfl) (by decide) (by decide) (by decide) (Nat.le_of_ble_eq_true rfl) (Nat.le_of_ble_eq_true rfl) dX1_init_8 (fun q1 cA H hK9 hP hD hS => ?_)
  obtain rfl := pb_cidI hK9
  have hP : va_P D vwCl [(m0, .inr (1, [.int 0, .int 0, .null, .null, .null, .null, .null])), (q1, .inl (cI, 1001, .inl (fun _ => 0)))] H := hP
  have hD : va_D A [(m0, .inr (1, [.int 0, .int 0, .null, .null, .null, .null, .null])), (q1, .inl (cI, 1001, .inl (fun _ => 0)))] := hD
  refine va_putF (D := D) (ci := 1) (v := .ref q1) (ty := .array .int) (C := RX1) (T := TX1) (N := 7) hx hb hts hinX1 tyX1 tyX1_ok nmX1 hown hK hP hD hS 0 rfl rfl 2 (by decide) (hts (.fieldLink RX1 7 "PrefixBenchModel" "address" "[I") (by decide +kernel)) (fun _ h9 => h9) rfl (hin9 rfl) rfl (by decide +kernel) rfl rfl (Nat.le_of_ble_eq_true rfl) dX1_init_10 (fun H locs hP hD hS => ?_)
  have hP : va_P D vwCl [(m0, .inr (1, [.int 0, .int 0, .ref q1, .null, .null, .null, .null])), (q1, .inl (cI, 1001, .inl (fun _ => 0)))] H := hP
  have hD : va_D A [(m0, .inr (1, [.int 0, .int 0, .ref q1, .null, .null, .null, .null])), (q1, .inl (cI, 1001, .inl (fun _ => 0)))] := hD
  refine lv_aload_n hx hb dX1_init_13 rfl (lv_at hl 0 rfl) ?_
  refine lv_sipush (v := 1001) hx hb dX1_init_14 (by decide) ?_
  refine va_newa (atype := .int) (ty := .int) (N' := 1001) (a0 := (1001, .inl (fun _ => 0))) hx hb (hts (.arrayClass .int) (by decide +kernel)) rfl hK hP hD hS hA (fun cA => rfl) (by decide) (by decide) (by decide) (Nat.le_of_ble_eq_true rfl) (Nat.le_of_ble_eq_true rfl) dX1_init_17 (fun q2 cA H hK9 hP hD hS => ?_)
  obtain rfl := pb_cidI hK9
  have hP : va_P D vwCl [(m0, .inr (1, [.int 0, .int 0, .ref q1, .null, .null, .null, .null])), (q1, .inl (cI, 1001, .inl (fun _ => 0))), (q2, .inl (cI, 1001, .inl (fun _ => 0)))] H := hP
  have hD : va_D A [(m0, .inr (1, [.int 0, .int 0, .ref q1, .null, .null, .null, .null])), (q1, .inl (cI, 1001, .inl (fun _ => 0))), (q2, .inl (cI, 1001, .inl (fun _ => 0)))] := hD
  refine va_putF (D := D) (ci := 1) (v := .ref q2) (ty := .array .int) (C := RX1) (T := TX1) (N := 7) hx hb hts hinX1 tyX1 tyX1_ok nmX1 hown hK hP hD hS 0 rfl rfl 3 (by decide) (hts (.fieldLink RX1 13 "PrefixBenchModel" "length" "[I") (by decide +kernel)) (fun _ h9 => h9) rfl (hin9 rfl) rfl (by decide +kernel) rfl rfl (Nat.le_of_ble_eq_true rfl) dX1_init_19 (fun H locs hP hD hS => ?_)
  have hP : va_P D vwCl [(m0, .inr (1, [.int 0, .int 0, .ref q1, .ref q2, .null, .null, .null])), (q1, .inl (cI, 1001, .inl (fun _ => 0))), (q2, .inl (cI, 1001, .inl (fun _ => 0)))] H := hP
  have hD : va_D A [(m0, .inr (1, [.int 0, .int 0, .ref q1, .ref q2, .null, .null, .null])), (q1, .inl (cI, 1001, .inl (fun _ => 0))), (q2, .inl (cI, 1001, .inl (fun _ => 0)))] := hD
  refine lv_aload_n hx hb dX1_init_22 rfl (lv_at hl 0 rfl) ?_
  refine lv_sipush (v := 1001) hx hb dX1_init_23 (by decide) ?_
  refine va_newa (atype := .int) (ty := .int) (N' := 1001) (a0 := (1001, .inl (fun _ => 0))) hx hb (hts (.arrayClass .int) (by decide +kernel)) rfl hK hP hD hS hA (fun cA => rfl) (by decide) (by decide) (by decide) (Nat.le_of_ble_eq_true rfl) (Nat.le_of_ble_eq_true rfl) dX1_init_26 (fun q3 cA H hK9 hP hD hS => ?_)
  obtain rfl := pb_cidI hK9
  have hP : va_P D vwCl [(m0, .inr (1, [.int 0, .int 0, .ref q1, .ref q2, .null, .null, .null])), (q1, .inl (cI, 1001, .inl (fun _ => 0))), (q2, .inl (cI, 1001, .inl (fun _ => 0))), (q3, .inl (cI, 1001, .inl (fun _ => 0)))] H := hP
  have hD : va_D A [(m0, .inr (1, [.int 0, .int 0, .ref q1, .ref q2, .null, .null, .null])), (q1, .inl (cI, 1001, .inl (fun _ => 0))), (q2, .inl (cI, 1001, .inl (fun _ => 0))), (q3, .inl (cI, 1001, .inl (fun _ => 0)))] := hD
  refine va_putF (D := D) (ci := 1) (v := .ref q3) (ty := .array .int) (C := RX1) (T := TX1) (N := 7) hx hb hts hinX1 tyX1 tyX1_ok nmX1 hown hK hP hD hS 0 rfl rfl 4 (by decide) (hts (.fieldLink RX1 16 "PrefixBenchModel" "origin" "[I") (by decide +kernel)) (fun _ h9 => h9) rfl (hin9 rfl) rfl (by decide +kernel) rfl rfl (Nat.le_of_ble_eq_true rfl) dX1_init_28 (fun H locs hP hD hS => ?_)
  have hP : va_P D vwCl [(m0, .inr (1, [.int 0, .int 0, .ref q1, .ref q2, .ref q3, .null, .null])), (q1, .inl (cI, 1001, .inl (fun _ => 0))), (q2, .inl (cI, 1001, .inl (fun _ => 0))), (q3, .inl (cI, 1001, .inl (fun _ => 0)))] H := hP
  have hD : va_D A [(m0, .inr (1, [.int 0, .int 0, .ref q1, .ref q2, .ref q3, .null, .null])), (q1, .inl (cI, 1001, .inl (fun _ => 0))), (q2, .inl (cI, 1001, .inl (fun _ => 0))), (q3, .inl (cI, 1001, .inl (fun _ => 0)))] := hD
  refine lv_aload_n hx hb dX1_init_31 rfl (lv_at hl 0 rfl) ?_
  refine lv_sipush (v := 1001) hx hb dX1_init_32 (by decide) ?_
  refine va_newa (atype := .int) (ty := .int) (N' := 1001) (a0 := (1001, .inl (fun _ => 0))) hx hb (hts (.arrayClass .int) (by decide +kernel)) rfl hK hP hD hS hA (fun cA => rfl) (by decide) (by decide) (by decide) (Nat.le_of_ble_eq_true rfl) (Nat.le_of_ble_eq_true rfl) dX1_init_35 (fun q4 cA H hK9 hP hD hS => ?_)
  obtain rfl := pb_cidI hK9
  have hP : va_P D vwCl [(m0, .inr (1, [.int 0, .int 0, .ref q1, .ref q2, .ref q3, .null, .null])), (q1, .inl (cI, 1001, .inl (fun _ => 0))), (q2, .inl (cI, 1001, .inl (fun _ => 0))), (q3, .inl (cI, 1001, .inl (fun _ => 0))), (q4, .inl (cI, 1001, .inl (fun _ => 0)))] H := hP
  have hD : va_D A [(m0, .inr (1, [.int 0, .int 0, .ref q1, .ref q2, .ref q3, .null, .null])), (q1, .inl (cI, 1001, .inl (fun _ => 0))), (q2, .inl (cI, 1001, .inl (fun _ => 0))), (q3, .inl (cI, 1001, .inl (fun _ => 0))), (q4, .inl (cI, 1001, .inl (fun _ => 0)))] := hD
  refine va_putF (D := D) (ci := 1) (v := .ref q4) (ty := .array .int) (C := RX1) (T := TX1) (N := 7) hx hb hts hinX1 tyX1 tyX1_ok nmX1 hown hK hP hD hS 0 rfl rfl 5 (by decide) (hts (.fieldLink RX1 19 "PrefixBenchModel" "cost" "[I") (by decide +kernel)) (fun _ h9 => h9) rfl (hin9 rfl) rfl (by decide +kernel) rfl rfl (Nat.le_of_ble_eq_true rfl) dX1_init_37 (fun H locs hP hD hS => ?_)
  have hP : va_P D vwCl [(m0, .inr (1, [.int 0, .int 0, .ref q1, .ref q2, .ref q3, .ref q4, .null])), (q1, .inl (cI, 1001, .inl (fun _ => 0))), (q2, .inl (cI, 1001, .inl (fun _ => 0))), (q3, .inl (cI, 1001, .inl (fun _ => 0))), (q4, .inl (cI, 1001, .inl (fun _ => 0)))] H := hP
  have hD : va_D A [(m0, .inr (1, [.int 0, .int 0, .ref q1, .ref q2, .ref q3, .ref q4, .null])), (q1, .inl (cI, 1001, .inl (fun _ => 0))), (q2, .inl (cI, 1001, .inl (fun _ => 0))), (q3, .inl (cI, 1001, .inl (fun _ => 0))), (q4, .inl (cI, 1001, .inl (fun _ => 0)))] := hD
  refine lv_aload_n hx hb dX1_init_40 rfl (lv_at hl 0 rfl) ?_
  refine lv_sipush (v := 1001) hx hb dX1_init_41 (by decide) ?_
  refine va_newa (atype := .long) (ty := .long) (N' := 1001) (a0 := (1001, .inr (.inl (fun _ => 0)))) hx hb (hts (.arrayClass .long) (by decide +kernel)) rfl hK hP hD hS hA (fun cA => rfl) (by decide) (by decide) (by decide) (Nat.le_of_ble_eq_true rfl) (Nat.le_of_ble_eq_true rfl) dX1_init_44 (fun q5 cA H hK9 hP hD hS => ?_)
  obtain rfl := pb_cidJ hK9
  have hP : va_P D vwCl [(m0, .inr (1, [.int 0, .int 0, .ref q1, .ref q2, .ref q3, .ref q4, .null])), (q1, .inl (cI, 1001, .inl (fun _ => 0))), (q2, .inl (cI, 1001, .inl (fun _ => 0))), (q3, .inl (cI, 1001, .inl (fun _ => 0))), (q4, .inl (cI, 1001, .inl (fun _ => 0))), (q5, .inl (cJ, 1001, .inr (.inl (fun _ => 0))))] H := hP
  have hD : va_D A [(m0, .inr (1, [.int 0, .int 0, .ref q1, .ref q2, .ref q3, .ref q4, .null])), (q1, .inl (cI, 1001, .inl (fun _ => 0))), (q2, .inl (cI, 1001, .inl (fun _ => 0))), (q3, .inl (cI, 1001, .inl (fun _ => 0))), (q4, .inl (cI, 1001, .inl (fun _ => 0))), (q5, .inl (cJ, 1001, .inr (.inl (fun _ => 0))))] := hD
  refine va_putF (D := D) (ci := 1) (v := .ref q5) (ty := .array .long) (C := RX1) (T := TX1) (N := 7) hx hb hts hinX1 tyX1 tyX1_ok nmX1 hown hK hP hD hS 0 rfl rfl 6 (by decide) (hts (.fieldLink RX1 22 "PrefixBenchModel" "hops" "[J") (by decide +kernel)) (fun _ h9 => h9) rfl (hin9 rfl) rfl (by decide +kernel) rfl rfl (Nat.le_of_ble_eq_true rfl) dX1_init_46 (fun H locs hP hD hS => ?_)
  have hP : va_P D vwCl [(m0, .inr (1, [.int 0, .int 0, .ref q1, .ref q2, .ref q3, .ref q4, .ref q5])), (q1, .inl (cI, 1001, .inl (fun _ => 0))), (q2, .inl (cI, 1001, .inl (fun _ => 0))), (q3, .inl (cI, 1001, .inl (fun _ => 0))), (q4, .inl (cI, 1001, .inl (fun _ => 0))), (q5, .inl (cJ, 1001, .inr (.inl (fun _ => 0))))] H := hP
  have hD : va_D A [(m0, .inr (1, [.int 0, .int 0, .ref q1, .ref q2, .ref q3, .ref q4, .ref q5])), (q1, .inl (cI, 1001, .inl (fun _ => 0))), (q2, .inl (cI, 1001, .inl (fun _ => 0))), (q3, .inl (cI, 1001, .inl (fun _ => 0))), (q4, .inl (cI, 1001, .inl (fun _ => 0))), (q5, .inl (cJ, 1001, .inr (.inl (fun _ => 0))))] := hD
  exact pb_wv hx hb hr hlocks hS dX1_init_49 (fun t ht hW => ⟨q1, q2, q3, q4, q5, _, _, _, _, _, (fun j r hj => by simp at hj), pb_B_of hP hK hD t ht hW⟩)

end PB11
