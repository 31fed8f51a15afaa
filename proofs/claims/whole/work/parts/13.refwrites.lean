/-! WRITES of the reference: copy, sweep, its public changes (laid by wip/gen/p13.py) -/
section PB10
/-- behind a change of the reference: its rows hold T', its code is co -/
def pb_BM (D : va_G) (cI cJ : ClassId) (m0 a1 l1 o1 c1 h1 : Nat) (T : List pb_Rt) (co : Int32) : (Nat → Prop) → State → Prop := fun A t => ∃ (A9 L9 O9 C9 : Nat → Int32) (H9 : Nat → Int64), pb_repM T A9 L9 O9 C9 H9 ∧ pb_B D (pb_ty cI cJ) (pb_wM cI cJ m0 a1 l1 o1 c1 h1 A9 L9 O9 C9 H9 co (nI T.length)) A t
/-- an argument is a small number -/
def pb_vi (x : Int32) (n : Nat) : Prop := ∃ j : Nat, j < n ∧ x = nI j
theorem pb_repM_fm {T : List pb_Rt} {Ax Lx Ox Cx : Nat → Int32} {Hx : Nat → Int64} {g : pb_Rt → Option pb_Rt} {k : Nat} {r : pb_Rt} (hk : T[k]? = some r) (hg : g r = some r) (h : pb_repM ((T.take k).filterMap g) Ax Lx Ox Cx Hx) (e1 : Ax k = nI (r.1 / 512)) (e2 : Lx k = nI (r.1 / 8 % 64)) (e3 : Ox k = nI (r.1 % 8)) (e4 : Cx k = r.2.1) (e5 : Hx k = r.2.2) : pb_repM ((T.take (k + 1)).filterMap g) (va_up Ax ((T.take k).filterMap g).length (Ax k)) (va_up Lx ((T.take k).filterMap g).length (Lx k)) (va_up Ox ((T.take k).filterMap g).length (Ox k)) (va_up Cx ((T.take k).filterMap g).length (Cx k)) (va_up Hx ((T.take k).filterMap g).length (Hx k)) := by
  rw [pb_fm_s g hk, hg, e1, e2, e3, e4, e5]
  exact pb_repM_push h r
theorem pb_fm_t {T : List pb_Rt} {g : pb_Rt → Option pb_Rt} {k : Nat} {r x : pb_Rt} (hk : T[k]? = some r) (hg : g r = some x) : ((T.take (k + 1)).filterMap g).length = ((T.take k).filterMap g).length + 1 := by
  rw [pb_fm_s g hk, hg, List.length_append]; rfl
theorem pb_fm_f {T : List pb_Rt} {g : pb_Rt → Option pb_Rt} {k : Nat} {r : pb_Rt} (hk : T[k]? = some r) (hg : g r = none) : (T.take (k + 1)).filterMap g = (T.take k).filterMap g := by
  rw [pb_fm_s g hk, hg, Option.toList_none, List.append_nil]
theorem pb_up_ge {α : Type} {F : Nat → α} {i x : Nat} {v : α} (h : i < x) : va_up F i v x = F x := if_neg (by omega)
/-- new hops for every route -/
def pb_mp (f : pb_Rt → Int64) (r : pb_Rt) : pb_Rt := (r.1, r.2.1, f r)
theorem pb_repM_mp {T : List pb_Rt} {Af Lf Of Cf : Nat → Int32} {Hf Hx : Nat → Int64} {f : pb_Rt → Int64} (h : pb_repM T Af Lf Of Cf Hf) (hh : ∀ (x : Nat) (r : pb_Rt), T[x]? = some r → Hx x = f r) : pb_repM (T.map (pb_mp f)) Af Lf Of Cf Hx := by
  intro j r hj
  rw [List.getElem?_map] at hj
  cases hd : T[j]? with
  | none => rw [hd] at hj; cases hj
  | some x =>
    rw [hd] at hj
    cases hj
    obtain ⟨e1, e2, e3, e4, -⟩ := h j x hd
    exact ⟨e1, e2, e3, e4, hh j x hd⟩
variable {l : Launch} {D : va_G} {cI cJ : ClassId} {m0 a1 l1 o1 c1 h1 sz : Nat} {Af Lf Of Cf : Nat → Int32} {Hf : Nat → Int64} {co : Int32}
set_option maxHeartbeats 4000000 in
set_option maxRecDepth 100000 in
theorem c_X1_copy (n9 : Int32) (i j : Nat) (hi : i < 1001) (hj : j < 1001) : pb_Wq l yX1_copy wsX1_copy 0 0 0 0 [.ref m0, .int (nI i), .int (nI j)] D (pb_ty cI cJ) (pb_wM cI cJ m0 a1 l1 o1 c1 h1 Af Lf Of Cf Hf co n9) sz (none) (pb_B D (pb_ty cI cJ) (pb_wM cI cJ m0 a1 l1 o1 c1 h1 (va_up Af j (Af i)) (va_up Lf j (Lf i)) (va_up Of j (Of i)) (va_up Cf j (Cf i)) (va_up Hf j (Hf i)) co n9)) := by
  refine pb_ofW RX1 (by decide) rfl rfl (Nat.le_of_ble_eq_true rfl) (fun p e s m args below meth c ls A hx hb hml hr hlocks hown hts hP hK hD hS hA hl hin9 => ?_)
  have hinX1 : ∀ w ∈ wsX10, w ∈ wsX1_copy := by decide +kernel
  have hl : lv_has ls 3 [(0, .ref m0), (1, .int (nI i)), (2, .int (nI j))] := hl
  have hP : va_P D vwCl (pb_wM cI cJ m0 a1 l1 o1 c1 h1 Af Lf Of Cf Hf co n9) s.heap := hP
  have hD : va_D A (pb_wM cI cJ m0 a1 l1 o1 c1 h1 Af Lf Of Cf Hf co n9) := hD
  refine lv_aload_n hx hb dX1_copy_0 rfl (lv_at hl 0 rfl) ?_
  refine va_get (D := D) (ci := 1) (v := .ref a1) (C := RX1) (T := TX1) (N := 7) hx hb hts hinX1 hown hK hP 0 rfl rfl 2 (by decide) (hts (.fieldLink RX1 7 "PrefixBenchModel" "address" "[I") (by decide +kernel)) (fun _ h9 => h9) rfl dX1_copy_1 ?_
  refine lv_iload_n hx hb dX1_copy_4 rfl (lv_at hl 2 rfl) ?_
  refine lv_aload_n hx hb dX1_copy_5 rfl (lv_at hl 0 rfl) ?_
  refine va_get (D := D) (ci := 1) (v := .ref a1) (C := RX1) (T := TX1) (N := 7) hx hb hts hinX1 hown hK hP 0 rfl rfl 2 (by decide) (hts (.fieldLink RX1 7 "PrefixBenchModel" "address" "[I") (by decide +kernel)) (fun _ h9 => h9) rfl dX1_copy_6 ?_
  refine lv_iload_n hx hb dX1_copy_9 rfl (lv_at hl 1 rfl) ?_
  refine pb_iald hx hb hK hP 1 1 rfl rfl i (rfl) (⟨by omega, by decide⟩) dX1_copy_10 ?_
  refine pb_iast hx hb hK hP hD hS 1 1 rfl rfl j (rfl) (⟨by omega, by decide⟩) dX1_copy_11 (fun H locs hP hD hS => ?_)
  have hP : va_P D vwCl (pb_wM cI cJ m0 a1 l1 o1 c1 h1 (va_up Af j (Af i)) Lf Of Cf Hf co n9) H := hP
  have hD : va_D A (pb_wM cI cJ m0 a1 l1 o1 c1 h1 (va_up Af j (Af i)) Lf Of Cf Hf co n9) := hD
  refine lv_aload_n hx hb dX1_copy_12 rfl (lv_at hl 0 rfl) ?_
  refine va_get (D := D) (ci := 1) (v := .ref l1) (C := RX1) (T := TX1) (N := 7) hx hb hts hinX1 hown hK hP 0 rfl rfl 3 (by decide) (hts (.fieldLink RX1 13 "PrefixBenchModel" "length" "[I") (by decide +kernel)) (fun _ h9 => h9) rfl dX1_copy_13 ?_
  refine lv_iload_n hx hb dX1_copy_16 rfl (lv_at hl 2 rfl) ?_
  refine lv_aload_n hx hb dX1_copy_17 rfl (lv_at hl 0 rfl) ?_
  refine va_get (D := D) (ci := 1) (v := .ref l1) (C := RX1) (T := TX1) (N := 7) hx hb hts hinX1 hown hK hP 0 rfl rfl 3 (by decide) (hts (.fieldLink RX1 13 "PrefixBenchModel" "length" "[I") (by decide +kernel)) (fun _ h9 => h9) rfl dX1_copy_18 ?_
  refine lv_iload_n hx hb dX1_copy_21 rfl (lv_at hl 1 rfl) ?_
  refine pb_iald hx hb hK hP 2 1 rfl rfl i (rfl) (⟨by omega, by decide⟩) dX1_copy_22 ?_
  refine pb_iast hx hb hK hP hD hS 2 1 rfl rfl j (rfl) (⟨by omega, by decide⟩) dX1_copy_23 (fun H locs hP hD hS => ?_)
  have hP : va_P D vwCl (pb_wM cI cJ m0 a1 l1 o1 c1 h1 (va_up Af j (Af i)) (va_up Lf j (Lf i)) Of Cf Hf co n9) H := hP
  have hD : va_D A (pb_wM cI cJ m0 a1 l1 o1 c1 h1 (va_up Af j (Af i)) (va_up Lf j (Lf i)) Of Cf Hf co n9) := hD
  refine lv_aload_n hx hb dX1_copy_24 rfl (lv_at hl 0 rfl) ?_
  refine va_get (D := D) (ci := 1) (v := .ref o1) (C := RX1) (T := TX1) (N := 7) hx hb hts hinX1 hown hK hP 0 rfl rfl 4 (by decide) (hts (.fieldLink RX1 16 "PrefixBenchModel" "origin" "[I") (by decide +kernel)) (fun _ h9 => h9) rfl dX1_copy_25 ?_
  refine lv_iload_n hx hb dX1_copy_28 rfl (lv_at hl 2 rfl) ?_
  refine lv_aload_n hx hb dX1_copy_29 rfl (lv_at hl 0 rfl) ?_
  refine va_get (D := D) (ci := 1) (v := .ref o1) (C := RX1) (T := TX1) (N := 7) hx hb hts hinX1 hown hK hP 0 rfl rfl 4 (by decide) (hts (.fieldLink RX1 16 "PrefixBenchModel" "origin" "[I") (by decide +kernel)) (fun _ h9 => h9) rfl dX1_copy_30 ?_
  refine lv_iload_n hx hb dX1_copy_33 rfl (lv_at hl 1 rfl) ?_
  refine pb_iald hx hb hK hP 3 1 rfl rfl i (rfl) (⟨by omega, by decide⟩) dX1_copy_34 ?_
  refine pb_iast hx hb hK hP hD hS 3 1 rfl rfl j (rfl) (⟨by omega, by decide⟩) dX1_copy_35 (fun H locs hP hD hS => ?_)
  have hP : va_P D vwCl (pb_wM cI cJ m0 a1 l1 o1 c1 h1 (va_up Af j (Af i)) (va_up Lf j (Lf i)) (va_up Of j (Of i)) Cf Hf co n9) H := hP
  have hD : va_D A (pb_wM cI cJ m0 a1 l1 o1 c1 h1 (va_up Af j (Af i)) (va_up Lf j (Lf i)) (va_up Of j (Of i)) Cf Hf co n9) := hD
  refine lv_aload_n hx hb dX1_copy_36 rfl (lv_at hl 0 rfl) ?_
  refine va_get (D := D) (ci := 1) (v := .ref c1) (C := RX1) (T := TX1) (N := 7) hx hb hts hinX1 hown hK hP 0 rfl rfl 5 (by decide) (hts (.fieldLink RX1 19 "PrefixBenchModel" "cost" "[I") (by decide +kernel)) (fun _ h9 => h9) rfl dX1_copy_37 ?_
  refine lv_iload_n hx hb dX1_copy_40 rfl (lv_at hl 2 rfl) ?_
  refine lv_aload_n hx hb dX1_copy_41 rfl (lv_at hl 0 rfl) ?_
  refine va_get (D := D) (ci := 1) (v := .ref c1) (C := RX1) (T := TX1) (N := 7) hx hb hts hinX1 hown hK hP 0 rfl rfl 5 (by decide) (hts (.fieldLink RX1 19 "PrefixBenchModel" "cost" "[I") (by decide +kernel)) (fun _ h9 => h9) rfl dX1_copy_42 ?_
  refine lv_iload_n hx hb dX1_copy_45 rfl (lv_at hl 1 rfl) ?_
  refine pb_iald hx hb hK hP 4 1 rfl rfl i (rfl) (⟨by omega, by decide⟩) dX1_copy_46 ?_
  refine pb_iast hx hb hK hP hD hS 4 1 rfl rfl j (rfl) (⟨by omega, by decide⟩) dX1_copy_47 (fun H locs hP hD hS => ?_)
  have hP : va_P D vwCl (pb_wM cI cJ m0 a1 l1 o1 c1 h1 (va_up Af j (Af i)) (va_up Lf j (Lf i)) (va_up Of j (Of i)) (va_up Cf j (Cf i)) Hf co n9) H := hP
  have hD : va_D A (pb_wM cI cJ m0 a1 l1 o1 c1 h1 (va_up Af j (Af i)) (va_up Lf j (Lf i)) (va_up Of j (Of i)) (va_up Cf j (Cf i)) Hf co n9) := hD
  refine lv_aload_n hx hb dX1_copy_48 rfl (lv_at hl 0 rfl) ?_
  refine va_get (D := D) (ci := 1) (v := .ref h1) (C := RX1) (T := TX1) (N := 7) hx hb hts hinX1 hown hK hP 0 rfl rfl 6 (by decide) (hts (.fieldLink RX1 22 "PrefixBenchModel" "hops" "[J") (by decide +kernel)) (fun _ h9 => h9) rfl dX1_copy_49 ?_
  refine lv_iload_n hx hb dX1_copy_52 rfl (lv_at hl 2 rfl) ?_
  refine lv_aload_n hx hb dX1_copy_53 rfl (lv_at hl 0 rfl) ?_
  refine va_get (D := D) (ci := 1) (v := .ref h1) (C := RX1) (T := TX1) (N := 7) hx hb hts hinX1 hown hK hP 0 rfl rfl 6 (by decide) (hts (.fieldLink RX1 22 "PrefixBenchModel" "hops" "[J") (by decide +kernel)) (fun _ h9 => h9) rfl dX1_copy_54 ?_
  refine lv_iload_n hx hb dX1_copy_57 rfl (lv_at hl 1 rfl) ?_
  refine pb_lald hx hb hK hP 5 0 rfl rfl i (rfl) (⟨by omega, by decide⟩) dX1_copy_58 ?_
  refine pb_last hx hb hK hP hD hS 5 0 rfl rfl j (rfl) (⟨by omega, by decide⟩) dX1_copy_59 (fun H locs hP hD hS => ?_)
  have hP : va_P D vwCl (pb_wM cI cJ m0 a1 l1 o1 c1 h1 (va_up Af j (Af i)) (va_up Lf j (Lf i)) (va_up Of j (Of i)) (va_up Cf j (Cf i)) (va_up Hf j (Hf i)) co n9) H := hP
  have hD : va_D A (pb_wM cI cJ m0 a1 l1 o1 c1 h1 (va_up Af j (Af i)) (va_up Lf j (Lf i)) (va_up Of j (Of i)) (va_up Cf j (Cf i)) (va_up Hf j (Hf i)) co n9) := hD
  exact pb_wv hx hb hr hlocks hS dX1_copy_60 (pb_B_of hP hK hD)

set_option maxHeartbeats 4000000 in
set_option maxRecDepth 100000 in
theorem c_X1_sweep {T : List pb_Rt} (hn : T.length ≤ 1000) (hR : pb_repM T Af Lf Of Cf Hf) : pb_Wq l yX1_sweep wsX1_sweep 1 0 0 22 [.ref m0] D (pb_ty cI cJ) (pb_wM cI cJ m0 a1 l1 o1 c1 h1 Af Lf Of Cf Hf co (nI T.length)) sz (some (.int (nI (T.length - (T.filterMap pb_gz).length)))) (pb_BM D cI cJ m0 a1 l1 o1 c1 h1 (T.filterMap pb_gz) co) := by
  refine pb_ofW RX1 (by decide) rfl rfl (Nat.le_of_ble_eq_true rfl) (fun p e s m args below meth c ls A hx hb hml hr hlocks hown hts hP hK hD hS hA hl hin9 => ?_)
  have hinX1 : ∀ w ∈ wsX10, w ∈ wsX1_sweep := by decide +kernel
  have hl : lv_has ls 3 [(0, .ref m0)] := hl
  have hP : va_P D vwCl (pb_wM cI cJ m0 a1 l1 o1 c1 h1 Af Lf Of Cf Hf co (nI T.length)) s.heap := hP
  have hD : va_D A (pb_wM cI cJ m0 a1 l1 o1 c1 h1 Af Lf Of Cf Hf co (nI T.length)) := hD
  refine lv_iconst (v := 0) hx hb dX1_sweep_0 (by decide) ?_
  refine lv_istore_n (lv' := [(1, .int 0), (0, .ref m0)]) hx hb dX1_sweep_1 rfl hl (by decide) rfl (fun ls hl => ?_)
  refine lv_iconst (v := 0) hx hb dX1_sweep_2 (by decide) ?_
  refine lv_istore_n (lv' := [(2, .int 0), (1, .int 0), (0, .ref m0)]) hx hb dX1_sweep_3 rfl hl (by decide) rfl (fun ls hl => ?_)
  refine pb_loopH (fun kk H locs ls => ∃ (k : Nat) (Ax Lx Ox Cx : Nat → Int32) (Hx : Nat → Int64), (k ≤ T.length ∧ T.length - k = kk) ∧ pb_repM ((T.take k).filterMap pb_gz) Ax Lx Ox Cx Hx ∧ (∀ x, k ≤ x → Ax x = Af x ∧ Lx x = Lf x ∧ Ox x = Of x ∧ Cx x = Cf x ∧ Hx x = Hf x) ∧ va_P D vwCl (pb_wM cI cJ m0 a1 l1 o1 c1 h1 Ax Lx Ox Cx Hx co (nI T.length)) H ∧ va_D A (pb_wM cI cJ m0 a1 l1 o1 c1 h1 Ax Lx Ox Cx Hx co (nI T.length)) ∧ va_S A s.heap H locs ∧ lv_has ls 3 [(2, .int (nI k)), (1, .int (nI ((T.take k).filterMap pb_gz).length)), (0, .ref m0)]) 4 [] (fun kk H locs ls hI ih => ?_) (fun hL => ?_)
  · obtain ⟨k, Ax, Lx, Ox, Cx, Hx, ⟨hk, rfl⟩, hrep, hold, hP, hD, hS, hl⟩ := hI
    have hle := pb_fm_le T pb_gz k
    refine lv_iload_n hx hb dX1_sweep_4 rfl (lv_at hl 0 rfl) ?_
    refine lv_aload_n hx hb dX1_sweep_5 rfl (lv_at hl 2 rfl) ?_
    refine va_get (D := D) (ci := 1) (v := .int (nI T.length)) (C := RX1) (T := TX1) (N := 7) hx hb hts hinX1 hown hK hP 0 rfl rfl 1 (by decide) (hts (.fieldLink RX1 48 "PrefixBenchModel" "count" "I") (by decide +kernel)) (fun _ h9 => h9) rfl dX1_sweep_6 ?_
    refine lv_icmp_ge (tgt := 38) hx hb dX1_sweep_9 (by decide) (fun q9 => ?_) (fun q9 => ?_)
    · have hw := (nI_leI (a := T.length) (b := k) (by omega) (by omega)).mp q9
      rw [show k = T.length by omega, pb_fm_all] at hrep hl
      have hlen : (T.filterMap pb_gz).length ≤ T.length := List.length_filterMap_le _ _
      refine lv_aload_n hx hb dX1_sweep_38 rfl (lv_at hl 2 rfl) ?_
      refine va_get (D := D) (ci := 1) (v := .int (nI T.length)) (C := RX1) (T := TX1) (N := 7) hx hb hts hinX1 hown hK hP 0 rfl rfl 1 (by decide) (hts (.fieldLink RX1 48 "PrefixBenchModel" "count" "I") (by decide +kernel)) (fun _ h9 => h9) rfl dX1_sweep_39 ?_
      refine lv_iload_n hx hb dX1_sweep_42 rfl (lv_at hl 1 rfl) ?_
      refine lv_isub hx hb dX1_sweep_43 ?_
      refine pb_topi (z := nI (T.length - (T.filterMap pb_gz).length)) (pk_sub hlen) ?_
      refine lv_istore_n (lv' := [(2, .int (nI (T.length - (T.filterMap pb_gz).length))), (1, .int (nI (T.filterMap pb_gz).length)), (0, .ref m0)]) hx hb dX1_sweep_44 rfl hl (by decide) rfl (fun ls hl => ?_)
      refine lv_aload_n hx hb dX1_sweep_45 rfl (lv_at hl 2 rfl) ?_
      refine lv_iload_n hx hb dX1_sweep_46 rfl (lv_at hl 1 rfl) ?_
      refine va_put (D := D) (ci := 1) (v := .int (nI (T.filterMap pb_gz).length)) (ty := .int) (C := RX1) (T := TX1) (N := 7) hx hb hts hinX1 tyX1 tyX1_ok nmX1 hown hK hP hD hS 0 rfl rfl 1 (by decide) (hts (.fieldLink RX1 48 "PrefixBenchModel" "count" "I") (by decide +kernel)) (fun _ h9 => h9) rfl (by decide +kernel) rfl rfl (Nat.le_of_ble_eq_true rfl) dX1_sweep_47 (fun H locs hP hD hS => ?_)
      have hP : va_P D vwCl (pb_wM cI cJ m0 a1 l1 o1 c1 h1 Ax Lx Ox Cx Hx co (nI (T.filterMap pb_gz).length)) H := hP
      have hD : va_D A (pb_wM cI cJ m0 a1 l1 o1 c1 h1 Ax Lx Ox Cx Hx co (nI (T.filterMap pb_gz).length)) := hD
      refine lv_iload_n hx hb dX1_sweep_50 rfl (lv_at hl 0 rfl) ?_
      exact pb_wi hx hb hr hlocks hS dX1_sweep_51 (rfl) (fun t ht hW => ⟨Ax, Lx, Ox, Cx, Hx, hrep, pb_B_of hP hK hD t ht hW⟩)
    · have hw := mt (nI_leI (a := T.length) (b := k) (by omega) (by omega)).mpr q9
      obtain ⟨r, hr1, mr1⟩ := pb_get (T := T) (j := k) (by omega)
      refine lv_aload_n hx hb dX1_sweep_12 rfl (lv_at hl 2 rfl) ?_
      refine va_get (D := D) (ci := 1) (v := .ref h1) (C := RX1) (T := TX1) (N := 7) hx hb hts hinX1 hown hK hP 0 rfl rfl 6 (by decide) (hts (.fieldLink RX1 22 "PrefixBenchModel" "hops" "[J") (by decide +kernel)) (fun _ h9 => h9) rfl dX1_sweep_13 ?_
      refine lv_iload_n hx hb dX1_sweep_16 rfl (lv_at hl 0 rfl) ?_
      refine pb_lald hx hb hK hP 5 0 rfl rfl k (rfl) (⟨by omega, by decide⟩) dX1_sweep_17 ?_
      refine pb_topl (z := r.2.2) (by rw [(hold k (Nat.le_refl _)).2.2.2.2]; exact (hR k r hr1).2.2.2.2) ?_
      refine lv_lconst (v := 0) hx hb dX1_sweep_18 (by decide) ?_
      refine W.lcmp hx hb dX1_sweep_19 ?_
      refine lv_if_eq (tgt := 32) hx hb dX1_sweep_20 (by decide) (fun q20 => ?_) (fun q20 => ?_)
      · have q20 := (lg_cmp_eq _ _).mp q20
        have hg : pb_gz r = none := if_pos q20
        refine lv_iinc (v := nI (k + 1)) (lv' := [(2, .int (nI (k + 1))), (1, .int (nI ((T.take k).filterMap pb_gz).length)), (0, .ref m0)]) hx hb dX1_sweep_32 hl (k := 0) rfl (nI_1 _) (by decide) rfl (fun ls hl => ?_)
        refine lv_goto (tgt := 4) hx hb dX1_sweep_35 (by decide) ?_
        exact ih _ _ _ _ (by omega) ⟨k + 1, Ax, Lx, Ox, Cx, Hx, ⟨by omega, rfl⟩, by rw [pb_fm_f hr1 hg]; exact hrep, fun x hx9 => hold x (by omega), hP, hD, hS, by rw [pb_fm_f hr1 hg]; exact lv_sub hl [0, 1, 2] rfl⟩
      · have q20 := mt (lg_cmp_eq _ _).mpr q20
        have hg : pb_gz r = some r := if_neg q20
        refine lv_aload_n hx hb dX1_sweep_23 rfl (lv_at hl 2 rfl) ?_
        refine lv_iload_n hx hb dX1_sweep_24 rfl (lv_at hl 0 rfl) ?_
        refine lv_iload_n hx hb dX1_sweep_25 rfl (lv_at hl 1 rfl) ?_
        refine pb_callWv (As := [.int (nI k), .int (nI ((T.take k).filterMap pb_gz).length)]) (rest := []) ⟨hx, hb, hml, hown, hts⟩ (c_X1_copy (nI T.length) k ((T.take k).filterMap pb_gz).length (by omega) (by omega)) (cwV 2 hts gX1_sweep_X1_copy rfl rfl rfl (by decide +kernel) ⟨Nat.le_of_ble_eq_true rfl, Nat.le_of_ble_eq_true rfl⟩) hP hK hD hS hA (va_recv hK hP (ci := 1) (q0 := 0) rfl rfl) rfl rfl hl (Nat.le_of_ble_eq_true rfl) dX1_sweep_26 ⟨Nat.le_of_ble_eq_true rfl, Nat.le_of_ble_eq_true rfl⟩ (fun t9 H locs ht hvm hB hsub hS => ?_)
        obtain ⟨hP, hD⟩ := pb_back (wd' := (pb_wM cI cJ m0 a1 l1 o1 c1 h1 (va_up Ax (((T.take k).filterMap pb_gz).length) (Ax k)) (va_up Lx (((T.take k).filterMap pb_gz).length) (Lx k)) (va_up Ox (((T.take k).filterMap pb_gz).length) (Ox k)) (va_up Cx (((T.take k).filterMap pb_gz).length) (Cx k)) (va_up Hx (((T.take k).filterMap pb_gz).length) (Hx k)) co (nI T.length))) ht hB hsub
        refine lv_iinc (v := nI (((T.take k).filterMap pb_gz).length + 1)) (lv' := [(1, .int (nI (((T.take k).filterMap pb_gz).length + 1))), (2, .int (nI k)), (0, .ref m0)]) hx hb dX1_sweep_29 hl (k := 1) rfl (nI_1 _) (by decide) rfl (fun ls hl => ?_)
        refine lv_iinc (v := nI (k + 1)) (lv' := [(2, .int (nI (k + 1))), (1, .int (nI (((T.take k).filterMap pb_gz).length + 1))), (0, .ref m0)]) hx hb dX1_sweep_32 hl (k := 1) rfl (nI_1 _) (by decide) rfl (fun ls hl => ?_)
        refine lv_goto (tgt := 4) hx hb dX1_sweep_35 (by decide) ?_
        exact ih _ _ _ _ (by omega) ⟨k + 1, (va_up Ax (((T.take k).filterMap pb_gz).length) (Ax k)), (va_up Lx (((T.take k).filterMap pb_gz).length) (Lx k)), (va_up Ox (((T.take k).filterMap pb_gz).length) (Ox k)), (va_up Cx (((T.take k).filterMap pb_gz).length) (Cx k)), (va_up Hx (((T.take k).filterMap pb_gz).length) (Hx k)), ⟨by omega, rfl⟩, pb_repM_fm hr1 hg hrep (by rw [(hold k (Nat.le_refl _)).1]; exact (hR k r hr1).1) (by rw [(hold k (Nat.le_refl _)).2.1]; exact (hR k r hr1).2.1) (by rw [(hold k (Nat.le_refl _)).2.2.1]; exact (hR k r hr1).2.2.1) (by rw [(hold k (Nat.le_refl _)).2.2.2.1]; exact (hR k r hr1).2.2.2.1) (by rw [(hold k (Nat.le_refl _)).2.2.2.2]; exact (hR k r hr1).2.2.2.2), fun x hx9 => by rw [pb_up_ge (by omega), pb_up_ge (by omega), pb_up_ge (by omega), pb_up_ge (by omega), pb_up_ge (by omega)]; exact hold x (by omega), hP, hD, hS, by rw [pb_fm_t hr1 hg]; exact lv_sub hl [0, 1, 2] rfl⟩
  · exact hL _ _ _ _ ⟨0, Af, Lf, Of, Cf, Hf, ⟨Nat.zero_le _, rfl⟩, by intro j r hj; simp at hj, fun _ _ => ⟨rfl, rfl, rfl, rfl, rfl⟩, hP, hD, hS, lv_sub hl [0, 1, 2] rfl⟩

set_option maxHeartbeats 4000000 in
set_option maxRecDepth 100000 in
theorem c_X1_drop {T : List pb_Rt} (hR : pb_rM T Af Lf Of Cf Hf) (o : Nat) (ho : o < 8) : pb_Wq l yX1_drop wsX1_drop 2 0 0 44 [.ref m0, .int (nI o)] D (pb_ty cI cJ) (pb_wM cI cJ m0 a1 l1 o1 c1 h1 Af Lf Of Cf Hf co (nI T.length)) sz (some (.int (nI (T.length - ((T.map (pb_mp (fun r : pb_Rt => if r.1 % 8 = o then 0 else r.2.2))).filterMap pb_gz).length)))) (pb_BM D cI cJ m0 a1 l1 o1 c1 h1 ((T.map (pb_mp (fun r : pb_Rt => if r.1 % 8 = o then 0 else r.2.2))).filterMap pb_gz) 0) := by
  refine pb_ofW RX1 (by decide) rfl rfl (Nat.le_of_ble_eq_true rfl) (fun p e s m args below meth c ls A hx hb hml hr hlocks hown hts hP hK hD hS hA hl hin9 => ?_)
  have hinX1 : ∀ w ∈ wsX10, w ∈ wsX1_drop := by decide +kernel
  have hl : lv_has ls 3 [(0, .ref m0), (1, .int (nI o))] := hl
  have hP : va_P D vwCl (pb_wM cI cJ m0 a1 l1 o1 c1 h1 Af Lf Of Cf Hf co (nI T.length)) s.heap := hP
  have hD : va_D A (pb_wM cI cJ m0 a1 l1 o1 c1 h1 Af Lf Of Cf Hf co (nI T.length)) := hD
  have hcap := hR.1
  refine lv_aload_n hx hb dX1_drop_0 rfl (lv_at hl 0 rfl) ?_
  refine lv_iload_n hx hb dX1_drop_1 rfl (lv_at hl 1 rfl) ?_
  refine lv_if_lt (tgt := 11) hx hb dX1_drop_2 (by decide) (fun q2 => absurd q2 (nI_pos (by omega))) (fun q2 => ?_)
  refine lv_iload_n hx hb dX1_drop_5 rfl (lv_at hl 1 rfl) ?_
  refine lv_bipush (v := 7) hx hb dX1_drop_6 (by decide) ?_
  refine lv_icmp_le (tgt := 15) hx hb dX1_drop_8 (by decide) (fun q8 => ?_) (fun q8 => absurd ((nI_leI (a := o) (b := 7) (by omega) (by decide)).mpr (by omega)) q8)
  refine lv_iconst (v := 0) hx hb dX1_drop_15 (by decide) ?_
  refine va_put (D := D) (ci := 1) (v := .int 0) (ty := .int) (C := RX1) (T := TX1) (N := 7) hx hb hts hinX1 tyX1 tyX1_ok nmX1 hown hK hP hD hS 0 rfl rfl 0 (by decide) (hts (.fieldLink RX1 26 "PrefixBenchModel" "code" "I") (by decide +kernel)) (fun _ h9 => h9) rfl (by decide +kernel) rfl rfl (Nat.le_of_ble_eq_true rfl) dX1_drop_16 (fun H locs hP hD hS => ?_)
  have hP : va_P D vwCl (pb_wM cI cJ m0 a1 l1 o1 c1 h1 Af Lf Of Cf Hf 0 (nI T.length)) H := hP
  have hD : va_D A (pb_wM cI cJ m0 a1 l1 o1 c1 h1 Af Lf Of Cf Hf 0 (nI T.length)) := hD
  refine lv_aload_n hx hb dX1_drop_19 rfl (lv_at hl 0 rfl) ?_
  refine va_get (D := D) (ci := 1) (v := .int 0) (C := RX1) (T := TX1) (N := 7) hx hb hts hinX1 hown hK hP 0 rfl rfl 0 (by decide) (hts (.fieldLink RX1 26 "PrefixBenchModel" "code" "I") (by decide +kernel)) (fun _ h9 => h9) rfl dX1_drop_20 ?_
  refine lv_if_le (tgt := 28) hx hb dX1_drop_23 (by decide) (fun q23 => ?_) (fun q23 => absurd (by decide) q23)
  refine lv_iconst (v := 0) hx hb dX1_drop_28 (by decide) ?_
  refine lv_istore_n (lv' := [(2, .int 0), (0, .ref m0), (1, .int (nI o))]) hx hb dX1_drop_29 rfl hl (by decide) rfl (fun ls hl => ?_)
  refine pb_loopH (fun kk H locs ls => ∃ (k : Nat) (Hx : Nat → Int64), (k ≤ T.length ∧ T.length - k = kk) ∧ (∀ (x : Nat) (r : pb_Rt), T[x]? = some r → Hx x = if x < k then (fun r : pb_Rt => if r.1 % 8 = o then 0 else r.2.2) r else r.2.2) ∧ va_P D vwCl (pb_wM cI cJ m0 a1 l1 o1 c1 h1 Af Lf Of Cf Hx 0 (nI T.length)) H ∧ va_D A (pb_wM cI cJ m0 a1 l1 o1 c1 h1 Af Lf Of Cf Hx 0 (nI T.length)) ∧ va_S A s.heap H locs ∧ lv_has ls 3 [(2, .int (nI k)), (0, .ref m0), (1, .int (nI o))]) 30 [] (fun kk H locs ls hI ih => ?_) (fun hL => ?_)
  · obtain ⟨k, Hx, ⟨hk, rfl⟩, hhx, hP, hD, hS, hl⟩ := hI
    refine lv_iload_n hx hb dX1_drop_30 rfl (lv_at hl 0 rfl) ?_
    refine lv_aload_n hx hb dX1_drop_31 rfl (lv_at hl 1 rfl) ?_
    refine va_get (D := D) (ci := 1) (v := .int (nI T.length)) (C := RX1) (T := TX1) (N := 7) hx hb hts hinX1 hown hK hP 0 rfl rfl 1 (by decide) (hts (.fieldLink RX1 48 "PrefixBenchModel" "count" "I") (by decide +kernel)) (fun _ h9 => h9) rfl dX1_drop_32 ?_
    refine lv_icmp_ge (tgt := 70) hx hb dX1_drop_35 (by decide) (fun q35 => ?_) (fun q35 => ?_)
    · have hw := (nI_leI (a := T.length) (b := k) (by omega) (by omega)).mp q35
      have hrm : pb_repM (T.map (pb_mp (fun r : pb_Rt => if r.1 % 8 = o then 0 else r.2.2))) Af Lf Of Cf Hx := pb_repM_mp hR.2 (fun x r9 hx9 => by rw [hhx x r9 hx9, if_pos (by have := (List.getElem?_eq_some_iff.mp hx9).1; omega)])
      have hTl : (T.map (pb_mp (fun r : pb_Rt => if r.1 % 8 = o then 0 else r.2.2))).length = T.length := List.length_map _
      rw [← hTl] at hP hD
      refine lv_aload_n hx hb dX1_drop_70 rfl (lv_at hl 1 rfl) ?_
      refine pb_callW (As := []) (rest := []) ⟨hx, hb, hml, hown, hts⟩ (c_X1_sweep (T := (T.map (pb_mp (fun r : pb_Rt => if r.1 % 8 = o then 0 else r.2.2)))) (by omega) hrm) (cwV 0 hts gX1_drop_X1_sweep rfl rfl rfl (by decide +kernel) ⟨Nat.le_of_ble_eq_true rfl, Nat.le_of_ble_eq_true rfl⟩) hP hK hD hS hA (va_recv hK hP (ci := 1) (q0 := 0) rfl rfl) rfl rfl hl (Nat.le_of_ble_eq_true rfl) dX1_drop_71 ⟨Nat.le_of_ble_eq_true rfl, Nat.le_of_ble_eq_true rfl⟩ (fun t9 H locs ht hvm hB hsub hS => ?_)
      have hB9 : ∀ t : State, t.heap = H → s.WarmedH t.vm → pb_BM D cI cJ m0 a1 l1 o1 c1 h1 ((T.map (pb_mp (fun r : pb_Rt => if r.1 % 8 = o then 0 else r.2.2))).filterMap pb_gz) 0 A t := fun t ht2 hW2 => by
        obtain ⟨A9, L9, O9, C9, H9, e1, e2, e3, e4⟩ := hB
        exact ⟨A9, L9, O9, C9, H9, e1, by rw [ht2, ← ht]; exact e2, va_K.moved hW2.alike hK, e4.weaken (fun _ q _ h => hsub q.1 h)⟩
      exact pb_wi hx hb hr hlocks hS dX1_drop_74 (by rw [hTl]) (hB9)
    · have hw := mt (nI_leI (a := T.length) (b := k) (by omega) (by omega)).mpr q35
      obtain ⟨r, hr1, mr1⟩ := pb_get (T := T) (j := k) (by omega)
      have hhk : Hx k = r.2.2 := by rw [hhx k r hr1, if_neg (Nat.lt_irrefl _)]
      refine lv_aload_n hx hb dX1_drop_38 rfl (lv_at hl 1 rfl) ?_
      refine va_get (D := D) (ci := 1) (v := .ref h1) (C := RX1) (T := TX1) (N := 7) hx hb hts hinX1 hown hK hP 0 rfl rfl 6 (by decide) (hts (.fieldLink RX1 22 "PrefixBenchModel" "hops" "[J") (by decide +kernel)) (fun _ h9 => h9) rfl dX1_drop_39 ?_
      refine lv_iload_n hx hb dX1_drop_42 rfl (lv_at hl 0 rfl) ?_
      refine lv_aload_n hx hb dX1_drop_43 rfl (lv_at hl 1 rfl) ?_
      refine va_get (D := D) (ci := 1) (v := .ref o1) (C := RX1) (T := TX1) (N := 7) hx hb hts hinX1 hown hK hP 0 rfl rfl 4 (by decide) (hts (.fieldLink RX1 16 "PrefixBenchModel" "origin" "[I") (by decide +kernel)) (fun _ h9 => h9) rfl dX1_drop_44 ?_
      refine lv_iload_n hx hb dX1_drop_47 rfl (lv_at hl 0 rfl) ?_
      refine pb_iald hx hb hK hP 3 1 rfl rfl k (rfl) (⟨by omega, by decide⟩) dX1_drop_48 ?_
      refine pb_topi (z := nI (r.1 % 8)) ((hR.2 k r hr1).2.2.1) ?_
      refine lv_iload_n hx hb dX1_drop_49 rfl (lv_at hl 2 rfl) ?_
      refine lv_icmp_ne (tgt := 57) hx hb dX1_drop_50 (by decide) (fun q50 => ?_) (fun q50 => ?_)
      · have ho9 : ¬ r.1 % 8 = o := fun z => q50 (by rw [z])
        refine lv_aload_n hx hb dX1_drop_57 rfl (lv_at hl 1 rfl) ?_
        refine va_get (D := D) (ci := 1) (v := .ref h1) (C := RX1) (T := TX1) (N := 7) hx hb hts hinX1 hown hK hP 0 rfl rfl 6 (by decide) (hts (.fieldLink RX1 22 "PrefixBenchModel" "hops" "[J") (by decide +kernel)) (fun _ h9 => h9) rfl dX1_drop_58 ?_
        refine lv_iload_n hx hb dX1_drop_61 rfl (lv_at hl 0 rfl) ?_
        refine pb_lald hx hb hK hP 5 0 rfl rfl k (rfl) (⟨by omega, by decide⟩) dX1_drop_62 ?_
        refine pb_topl (z := r.2.2) (hhk) ?_
        refine pb_last hx hb hK hP hD hS 5 0 rfl rfl k (rfl) (⟨by omega, by decide⟩) dX1_drop_63 (fun H locs hP hD hS => ?_)
        have hP : va_P D vwCl (pb_wM cI cJ m0 a1 l1 o1 c1 h1 Af Lf Of Cf (va_up Hx k r.2.2) 0 (nI T.length)) H := hP
        have hD : va_D A (pb_wM cI cJ m0 a1 l1 o1 c1 h1 Af Lf Of Cf (va_up Hx k r.2.2) 0 (nI T.length)) := hD
        refine lv_iinc (v := nI (k + 1)) (lv' := [(2, .int (nI (k + 1))), (0, .ref m0), (1, .int (nI o))]) hx hb dX1_drop_64 hl (k := 0) rfl (nI_1 _) (by decide) rfl (fun ls hl => ?_)
        refine lv_goto (tgt := 30) hx hb dX1_drop_67 (by decide) ?_
        exact ih _ _ _ _ (by omega) ⟨k + 1, _, ⟨by omega, rfl⟩, fun x r9 hx9 => by
          unfold va_up
          by_cases hxk : x = k
          · subst hxk
            rw [if_pos rfl, if_pos (Nat.lt_succ_self _)]
            rw [hr1] at hx9
            cases hx9
            exact (if_neg ho9).symm
          · rw [if_neg hxk, hhx x r9 hx9]
            by_cases h3 : x < k
            · rw [if_pos h3, if_pos (by omega)]
            · rw [if_neg h3, if_neg (by omega)], hP, hD, hS, lv_sub hl [0, 1, 2] rfl⟩
      · have ho9 : r.1 % 8 = o := (pb_nI_inj (by omega) (by omega)).mp q50
        refine lv_lconst (v := 0) hx hb dX1_drop_53 (by decide) ?_
        refine lv_goto (tgt := 63) hx hb dX1_drop_54 (by decide) ?_
        refine pb_last hx hb hK hP hD hS 5 0 rfl rfl k (rfl) (⟨by omega, by decide⟩) dX1_drop_63 (fun H locs hP hD hS => ?_)
        have hP : va_P D vwCl (pb_wM cI cJ m0 a1 l1 o1 c1 h1 Af Lf Of Cf (va_up Hx k 0) 0 (nI T.length)) H := hP
        have hD : va_D A (pb_wM cI cJ m0 a1 l1 o1 c1 h1 Af Lf Of Cf (va_up Hx k 0) 0 (nI T.length)) := hD
        refine lv_iinc (v := nI (k + 1)) (lv' := [(2, .int (nI (k + 1))), (0, .ref m0), (1, .int (nI o))]) hx hb dX1_drop_64 hl (k := 0) rfl (nI_1 _) (by decide) rfl (fun ls hl => ?_)
        refine lv_goto (tgt := 30) hx hb dX1_drop_67 (by decide) ?_
        exact ih _ _ _ _ (by omega) ⟨k + 1, _, ⟨by omega, rfl⟩, fun x r9 hx9 => by
          unfold va_up
          by_cases hxk : x = k
          · subst hxk
            rw [if_pos rfl, if_pos (Nat.lt_succ_self _)]
            rw [hr1] at hx9
            cases hx9
            exact (if_pos ho9).symm
          · rw [if_neg hxk, hhx x r9 hx9]
            by_cases h3 : x < k
            · rw [if_pos h3, if_pos (by omega)]
            · rw [if_neg h3, if_neg (by omega)], hP, hD, hS, lv_sub hl [0, 1, 2] rfl⟩
  · exact hL _ _ _ _ ⟨0, Hf, ⟨Nat.zero_le _, rfl⟩, fun x r9 hx9 => by rw [if_neg (Nat.not_lt_zero _)]; exact (hR.2 x r9 hx9).2.2.2.2, hP, hD, hS, lv_sub hl [0, 1, 2] rfl⟩

set_option maxHeartbeats 4000000 in
set_option maxRecDepth 100000 in
theorem c_X1_drop_bad (n9 xo : Int32) (hbad : ¬ pb_vi xo 8) : pb_Wq l yX1_drop wsX1_drop 2 0 0 44 [.ref m0, .int xo] D (pb_ty cI cJ) (pb_wM cI cJ m0 a1 l1 o1 c1 h1 Af Lf Of Cf Hf co n9) sz (some (.int 0)) (pb_B D (pb_ty cI cJ) (pb_wM cI cJ m0 a1 l1 o1 c1 h1 Af Lf Of Cf Hf 1 n9)) := by
  refine pb_ofW RX1 (by decide) rfl rfl (Nat.le_of_ble_eq_true rfl) (fun p e s m args below meth c ls A hx hb hml hr hlocks hown hts hP hK hD hS hA hl hin9 => ?_)
  have hinX1 : ∀ w ∈ wsX10, w ∈ wsX1_drop := by decide +kernel
  have hl : lv_has ls 3 [(0, .ref m0), (1, .int xo)] := hl
  have hP : va_P D vwCl (pb_wM cI cJ m0 a1 l1 o1 c1 h1 Af Lf Of Cf Hf co n9) s.heap := hP
  have hD : va_D A (pb_wM cI cJ m0 a1 l1 o1 c1 h1 Af Lf Of Cf Hf co n9) := hD
  refine lv_aload_n hx hb dX1_drop_0 rfl (lv_at hl 0 rfl) ?_
  refine lv_iload_n hx hb dX1_drop_1 rfl (lv_at hl 1 rfl) ?_
  refine lv_if_lt (tgt := 11) hx hb dX1_drop_2 (by decide) (fun q2 => ?_) (fun q2 => ?_)
  · refine lv_iconst (v := 1) hx hb dX1_drop_11 (by decide) ?_
    refine lv_goto (tgt := 16) hx hb dX1_drop_12 (by decide) ?_
    refine va_put (D := D) (ci := 1) (v := .int 1) (ty := .int) (C := RX1) (T := TX1) (N := 7) hx hb hts hinX1 tyX1 tyX1_ok nmX1 hown hK hP hD hS 0 rfl rfl 0 (by decide) (hts (.fieldLink RX1 26 "PrefixBenchModel" "code" "I") (by decide +kernel)) (fun _ h9 => h9) rfl (by decide +kernel) rfl rfl (Nat.le_of_ble_eq_true rfl) dX1_drop_16 (fun H locs hP hD hS => ?_)
    have hP : va_P D vwCl (pb_wM cI cJ m0 a1 l1 o1 c1 h1 Af Lf Of Cf Hf 1 n9) H := hP
    have hD : va_D A (pb_wM cI cJ m0 a1 l1 o1 c1 h1 Af Lf Of Cf Hf 1 n9) := hD
    refine lv_aload_n hx hb dX1_drop_19 rfl (lv_at hl 0 rfl) ?_
    refine va_get (D := D) (ci := 1) (v := .int 1) (C := RX1) (T := TX1) (N := 7) hx hb hts hinX1 hown hK hP 0 rfl rfl 0 (by decide) (hts (.fieldLink RX1 26 "PrefixBenchModel" "code" "I") (by decide +kernel)) (fun _ h9 => h9) rfl dX1_drop_20 ?_
    refine lv_if_le (tgt := 28) hx hb dX1_drop_23 (by decide) (fun q23 => absurd q23 (by decide)) (fun q23 => ?_)
    refine lv_iconst (v := 0) hx hb dX1_drop_26 (by decide) ?_
    exact pb_wi hx hb hr hlocks hS dX1_drop_27 (rfl) (pb_B_of hP hK hD)
  · refine lv_iload_n hx hb dX1_drop_5 rfl (lv_at hl 1 rfl) ?_
    refine lv_bipush (v := 7) hx hb dX1_drop_6 (by decide) ?_
    refine lv_icmp_le (tgt := 15) hx hb dX1_drop_8 (by decide) (fun q8 => ?_) (fun q8 => ?_)
    · obtain ⟨j, hj, rfl⟩ := nI_of2 (M := 7) (n := 7) (by decide) q2 q8
      exact absurd ⟨j, by omega, rfl⟩ hbad
    · refine lv_iconst (v := 1) hx hb dX1_drop_11 (by decide) ?_
      refine lv_goto (tgt := 16) hx hb dX1_drop_12 (by decide) ?_
      refine va_put (D := D) (ci := 1) (v := .int 1) (ty := .int) (C := RX1) (T := TX1) (N := 7) hx hb hts hinX1 tyX1 tyX1_ok nmX1 hown hK hP hD hS 0 rfl rfl 0 (by decide) (hts (.fieldLink RX1 26 "PrefixBenchModel" "code" "I") (by decide +kernel)) (fun _ h9 => h9) rfl (by decide +kernel) rfl rfl (Nat.le_of_ble_eq_true rfl) dX1_drop_16 (fun H locs hP hD hS => ?_)
      have hP : va_P D vwCl (pb_wM cI cJ m0 a1 l1 o1 c1 h1 Af Lf Of Cf Hf 1 n9) H := hP
      have hD : va_D A (pb_wM cI cJ m0 a1 l1 o1 c1 h1 Af Lf Of Cf Hf 1 n9) := hD
      refine lv_aload_n hx hb dX1_drop_19 rfl (lv_at hl 0 rfl) ?_
      refine va_get (D := D) (ci := 1) (v := .int 1) (C := RX1) (T := TX1) (N := 7) hx hb hts hinX1 hown hK hP 0 rfl rfl 0 (by decide) (hts (.fieldLink RX1 26 "PrefixBenchModel" "code" "I") (by decide +kernel)) (fun _ h9 => h9) rfl dX1_drop_20 ?_
      refine lv_if_le (tgt := 28) hx hb dX1_drop_23 (by decide) (fun q23 => absurd q23 (by decide)) (fun q23 => ?_)
      refine lv_iconst (v := 0) hx hb dX1_drop_26 (by decide) ?_
      exact pb_wi hx hb hr hlocks hS dX1_drop_27 (rfl) (pb_B_of hP hK hD)

set_option maxHeartbeats 4000000 in
set_option maxRecDepth 100000 in
theorem c_X1_cut {T : List pb_Rt} (hR : pb_rM T Af Lf Of Cf Hf) (o : Nat) (ho : o < 64) : pb_Wq l yX1_cut wsX1_cut 2 0 0 44 [.ref m0, .int (nI o)] D (pb_ty cI cJ) (pb_wM cI cJ m0 a1 l1 o1 c1 h1 Af Lf Of Cf Hf co (nI T.length)) sz (some (.int (nI (T.length - ((T.map (pb_mp (fun r : pb_Rt => r.2.2 &&& (((1 : Int64) <<< ((nI o).toInt64 &&& 63)) ^^^ (-1))))).filterMap pb_gz).length)))) (pb_BM D cI cJ m0 a1 l1 o1 c1 h1 ((T.map (pb_mp (fun r : pb_Rt => r.2.2 &&& (((1 : Int64) <<< ((nI o).toInt64 &&& 63)) ^^^ (-1))))).filterMap pb_gz) 0) := by
  refine pb_ofW RX1 (by decide) rfl rfl (Nat.le_of_ble_eq_true rfl) (fun p e s m args below meth c ls A hx hb hml hr hlocks hown hts hP hK hD hS hA hl hin9 => ?_)
  have hinX1 : ∀ w ∈ wsX10, w ∈ wsX1_cut := by decide +kernel
  have hl : lv_has ls 3 [(0, .ref m0), (1, .int (nI o))] := hl
  have hP : va_P D vwCl (pb_wM cI cJ m0 a1 l1 o1 c1 h1 Af Lf Of Cf Hf co (nI T.length)) s.heap := hP
  have hD : va_D A (pb_wM cI cJ m0 a1 l1 o1 c1 h1 Af Lf Of Cf Hf co (nI T.length)) := hD
  have hcap := hR.1
  refine lv_aload_n hx hb dX1_cut_0 rfl (lv_at hl 0 rfl) ?_
  refine lv_iload_n hx hb dX1_cut_1 rfl (lv_at hl 1 rfl) ?_
  refine lv_if_lt (tgt := 11) hx hb dX1_cut_2 (by decide) (fun q2 => absurd q2 (nI_pos (by omega))) (fun q2 => ?_)
  refine lv_iload_n hx hb dX1_cut_5 rfl (lv_at hl 1 rfl) ?_
  refine lv_bipush (v := 63) hx hb dX1_cut_6 (by decide) ?_
  refine lv_icmp_le (tgt := 15) hx hb dX1_cut_8 (by decide) (fun q8 => ?_) (fun q8 => absurd ((nI_leI (a := o) (b := 63) (by omega) (by decide)).mpr (by omega)) q8)
  refine lv_iconst (v := 0) hx hb dX1_cut_15 (by decide) ?_
  refine va_put (D := D) (ci := 1) (v := .int 0) (ty := .int) (C := RX1) (T := TX1) (N := 7) hx hb hts hinX1 tyX1 tyX1_ok nmX1 hown hK hP hD hS 0 rfl rfl 0 (by decide) (hts (.fieldLink RX1 26 "PrefixBenchModel" "code" "I") (by decide +kernel)) (fun _ h9 => h9) rfl (by decide +kernel) rfl rfl (Nat.le_of_ble_eq_true rfl) dX1_cut_16 (fun H locs hP hD hS => ?_)
  have hP : va_P D vwCl (pb_wM cI cJ m0 a1 l1 o1 c1 h1 Af Lf Of Cf Hf 0 (nI T.length)) H := hP
  have hD : va_D A (pb_wM cI cJ m0 a1 l1 o1 c1 h1 Af Lf Of Cf Hf 0 (nI T.length)) := hD
  refine lv_aload_n hx hb dX1_cut_19 rfl (lv_at hl 0 rfl) ?_
  refine va_get (D := D) (ci := 1) (v := .int 0) (C := RX1) (T := TX1) (N := 7) hx hb hts hinX1 hown hK hP 0 rfl rfl 0 (by decide) (hts (.fieldLink RX1 26 "PrefixBenchModel" "code" "I") (by decide +kernel)) (fun _ h9 => h9) rfl dX1_cut_20 ?_
  refine lv_if_le (tgt := 28) hx hb dX1_cut_23 (by decide) (fun q23 => ?_) (fun q23 => absurd (by decide) q23)
  refine lv_iconst (v := 0) hx hb dX1_cut_28 (by decide) ?_
  refine lv_istore_n (lv' := [(2, .int 0), (0, .ref m0), (1, .int (nI o))]) hx hb dX1_cut_29 rfl hl (by decide) rfl (fun ls hl => ?_)
  refine pb_loopH (fun kk H locs ls => ∃ (k : Nat) (Hx : Nat → Int64), (k ≤ T.length ∧ T.length - k = kk) ∧ (∀ (x : Nat) (r : pb_Rt), T[x]? = some r → Hx x = if x < k then (fun r : pb_Rt => r.2.2 &&& (((1 : Int64) <<< ((nI o).toInt64 &&& 63)) ^^^ (-1))) r else r.2.2) ∧ va_P D vwCl (pb_wM cI cJ m0 a1 l1 o1 c1 h1 Af Lf Of Cf Hx 0 (nI T.length)) H ∧ va_D A (pb_wM cI cJ m0 a1 l1 o1 c1 h1 Af Lf Of Cf Hx 0 (nI T.length)) ∧ va_S A s.heap H locs ∧ lv_has ls 3 [(2, .int (nI k)), (0, .ref m0), (1, .int (nI o))]) 30 [] (fun kk H locs ls hI ih => ?_) (fun hL => ?_)
  · obtain ⟨k, Hx, ⟨hk, rfl⟩, hhx, hP, hD, hS, hl⟩ := hI
    refine lv_iload_n hx hb dX1_cut_30 rfl (lv_at hl 0 rfl) ?_
    refine lv_aload_n hx hb dX1_cut_31 rfl (lv_at hl 1 rfl) ?_
    refine va_get (D := D) (ci := 1) (v := .int (nI T.length)) (C := RX1) (T := TX1) (N := 7) hx hb hts hinX1 hown hK hP 0 rfl rfl 1 (by decide) (hts (.fieldLink RX1 48 "PrefixBenchModel" "count" "I") (by decide +kernel)) (fun _ h9 => h9) rfl dX1_cut_32 ?_
    refine lv_icmp_ge (tgt := 64) hx hb dX1_cut_35 (by decide) (fun q35 => ?_) (fun q35 => ?_)
    · have hw := (nI_leI (a := T.length) (b := k) (by omega) (by omega)).mp q35
      have hrm : pb_repM (T.map (pb_mp (fun r : pb_Rt => r.2.2 &&& (((1 : Int64) <<< ((nI o).toInt64 &&& 63)) ^^^ (-1))))) Af Lf Of Cf Hx := pb_repM_mp hR.2 (fun x r9 hx9 => by rw [hhx x r9 hx9, if_pos (by have := (List.getElem?_eq_some_iff.mp hx9).1; omega)])
      have hTl : (T.map (pb_mp (fun r : pb_Rt => r.2.2 &&& (((1 : Int64) <<< ((nI o).toInt64 &&& 63)) ^^^ (-1))))).length = T.length := List.length_map _
      rw [← hTl] at hP hD
      refine lv_aload_n hx hb dX1_cut_64 rfl (lv_at hl 1 rfl) ?_
      refine pb_callW (As := []) (rest := []) ⟨hx, hb, hml, hown, hts⟩ (c_X1_sweep (T := (T.map (pb_mp (fun r : pb_Rt => r.2.2 &&& (((1 : Int64) <<< ((nI o).toInt64 &&& 63)) ^^^ (-1)))))) (by omega) hrm) (cwV 0 hts gX1_cut_X1_sweep rfl rfl rfl (by decide +kernel) ⟨Nat.le_of_ble_eq_true rfl, Nat.le_of_ble_eq_true rfl⟩) hP hK hD hS hA (va_recv hK hP (ci := 1) (q0 := 0) rfl rfl) rfl rfl hl (Nat.le_of_ble_eq_true rfl) dX1_cut_65 ⟨Nat.le_of_ble_eq_true rfl, Nat.le_of_ble_eq_true rfl⟩ (fun t9 H locs ht hvm hB hsub hS => ?_)
      have hB9 : ∀ t : State, t.heap = H → s.WarmedH t.vm → pb_BM D cI cJ m0 a1 l1 o1 c1 h1 ((T.map (pb_mp (fun r : pb_Rt => r.2.2 &&& (((1 : Int64) <<< ((nI o).toInt64 &&& 63)) ^^^ (-1))))).filterMap pb_gz) 0 A t := fun t ht2 hW2 => by
        obtain ⟨A9, L9, O9, C9, H9, e1, e2, e3, e4⟩ := hB
        exact ⟨A9, L9, O9, C9, H9, e1, by rw [ht2, ← ht]; exact e2, va_K.moved hW2.alike hK, e4.weaken (fun _ q _ h => hsub q.1 h)⟩
      exact pb_wi hx hb hr hlocks hS dX1_cut_68 (by rw [hTl]) (hB9)
    · have hw := mt (nI_leI (a := T.length) (b := k) (by omega) (by omega)).mpr q35
      obtain ⟨r, hr1, mr1⟩ := pb_get (T := T) (j := k) (by omega)
      have hhk : Hx k = r.2.2 := by rw [hhx k r hr1, if_neg (Nat.lt_irrefl _)]
      refine lv_aload_n hx hb dX1_cut_38 rfl (lv_at hl 1 rfl) ?_
      refine va_get (D := D) (ci := 1) (v := .ref h1) (C := RX1) (T := TX1) (N := 7) hx hb hts hinX1 hown hK hP 0 rfl rfl 6 (by decide) (hts (.fieldLink RX1 22 "PrefixBenchModel" "hops" "[J") (by decide +kernel)) (fun _ h9 => h9) rfl dX1_cut_39 ?_
      refine lv_iload_n hx hb dX1_cut_42 rfl (lv_at hl 0 rfl) ?_
      refine lv_aload_n hx hb dX1_cut_43 rfl (lv_at hl 1 rfl) ?_
      refine va_get (D := D) (ci := 1) (v := .ref h1) (C := RX1) (T := TX1) (N := 7) hx hb hts hinX1 hown hK hP 0 rfl rfl 6 (by decide) (hts (.fieldLink RX1 22 "PrefixBenchModel" "hops" "[J") (by decide +kernel)) (fun _ h9 => h9) rfl dX1_cut_44 ?_
      refine lv_iload_n hx hb dX1_cut_47 rfl (lv_at hl 0 rfl) ?_
      refine pb_lald hx hb hK hP 5 0 rfl rfl k (rfl) (⟨by omega, by decide⟩) dX1_cut_48 ?_
      refine pb_topl (z := r.2.2) (hhk) ?_
      refine lv_lconst (v := 1) hx hb dX1_cut_49 (by decide) ?_
      refine lv_iload_n hx hb dX1_cut_50 rfl (lv_at hl 2 rfl) ?_
      refine lv_lshl hx hb dX1_cut_51 rfl ?_
      refine lv_ldc2 (v := (-1)) hx hb hown (hts (.constantLong RX1 75 (-1)) (by decide +kernel)) dX1_cut_52 ?_
      refine lv_lxor hx hb dX1_cut_55 ?_
      refine lv_land hx hb dX1_cut_56 ?_
      refine pb_last hx hb hK hP hD hS 5 0 rfl rfl k (rfl) (⟨by omega, by decide⟩) dX1_cut_57 (fun H locs hP hD hS => ?_)
      have hP : va_P D vwCl (pb_wM cI cJ m0 a1 l1 o1 c1 h1 Af Lf Of Cf (va_up Hx k (r.2.2 &&& ((1 <<< ((nI o : Int32).toInt64 &&& 63)) ^^^ (-1)))) 0 (nI T.length)) H := hP
      have hD : va_D A (pb_wM cI cJ m0 a1 l1 o1 c1 h1 Af Lf Of Cf (va_up Hx k (r.2.2 &&& ((1 <<< ((nI o : Int32).toInt64 &&& 63)) ^^^ (-1)))) 0 (nI T.length)) := hD
      refine lv_iinc (v := nI (k + 1)) (lv' := [(2, .int (nI (k + 1))), (0, .ref m0), (1, .int (nI o))]) hx hb dX1_cut_58 hl (k := 0) rfl (nI_1 _) (by decide) rfl (fun ls hl => ?_)
      refine lv_goto (tgt := 30) hx hb dX1_cut_61 (by decide) ?_
      exact ih _ _ _ _ (by omega) ⟨k + 1, _, ⟨by omega, rfl⟩, fun x r9 hx9 => by
        unfold va_up
        by_cases hxk : x = k
        · subst hxk
          rw [if_pos rfl, if_pos (Nat.lt_succ_self _)]
          rw [hr1] at hx9
          cases hx9
          rfl
        · rw [if_neg hxk, hhx x r9 hx9]
          by_cases h3 : x < k
          · rw [if_pos h3, if_pos (by omega)]
          · rw [if_neg h3, if_neg (by omega)], hP, hD, hS, lv_sub hl [0, 1, 2] rfl⟩
  · exact hL _ _ _ _ ⟨0, Hf, ⟨Nat.zero_le _, rfl⟩, fun x r9 hx9 => by rw [if_neg (Nat.not_lt_zero _)]; exact (hR.2 x r9 hx9).2.2.2.2, hP, hD, hS, lv_sub hl [0, 1, 2] rfl⟩

set_option maxHeartbeats 4000000 in
set_option maxRecDepth 100000 in
theorem c_X1_cut_bad (n9 xo : Int32) (hbad : ¬ pb_vi xo 64) : pb_Wq l yX1_cut wsX1_cut 2 0 0 44 [.ref m0, .int xo] D (pb_ty cI cJ) (pb_wM cI cJ m0 a1 l1 o1 c1 h1 Af Lf Of Cf Hf co n9) sz (some (.int 0)) (pb_B D (pb_ty cI cJ) (pb_wM cI cJ m0 a1 l1 o1 c1 h1 Af Lf Of Cf Hf 1 n9)) := by
  refine pb_ofW RX1 (by decide) rfl rfl (Nat.le_of_ble_eq_true rfl) (fun p e s m args below meth c ls A hx hb hml hr hlocks hown hts hP hK hD hS hA hl hin9 => ?_)
  have hinX1 : ∀ w ∈ wsX10, w ∈ wsX1_cut := by decide +kernel
  have hl : lv_has ls 3 [(0, .ref m0), (1, .int xo)] := hl
  have hP : va_P D vwCl (pb_wM cI cJ m0 a1 l1 o1 c1 h1 Af Lf Of Cf Hf co n9) s.heap := hP
  have hD : va_D A (pb_wM cI cJ m0 a1 l1 o1 c1 h1 Af Lf Of Cf Hf co n9) := hD
  refine lv_aload_n hx hb dX1_cut_0 rfl (lv_at hl 0 rfl) ?_
  refine lv_iload_n hx hb dX1_cut_1 rfl (lv_at hl 1 rfl) ?_
  refine lv_if_lt (tgt := 11) hx hb dX1_cut_2 (by decide) (fun q2 => ?_) (fun q2 => ?_)
  · refine lv_iconst (v := 1) hx hb dX1_cut_11 (by decide) ?_
    refine lv_goto (tgt := 16) hx hb dX1_cut_12 (by decide) ?_
    refine va_put (D := D) (ci := 1) (v := .int 1) (ty := .int) (C := RX1) (T := TX1) (N := 7) hx hb hts hinX1 tyX1 tyX1_ok nmX1 hown hK hP hD hS 0 rfl rfl 0 (by decide) (hts (.fieldLink RX1 26 "PrefixBenchModel" "code" "I") (by decide +kernel)) (fun _ h9 => h9) rfl (by decide +kernel) rfl rfl (Nat.le_of_ble_eq_true rfl) dX1_cut_16 (fun H locs hP hD hS => ?_)
    have hP : va_P D vwCl (pb_wM cI cJ m0 a1 l1 o1 c1 h1 Af Lf Of Cf Hf 1 n9) H := hP
    have hD : va_D A (pb_wM cI cJ m0 a1 l1 o1 c1 h1 Af Lf Of Cf Hf 1 n9) := hD
    refine lv_aload_n hx hb dX1_cut_19 rfl (lv_at hl 0 rfl) ?_
    refine va_get (D := D) (ci := 1) (v := .int 1) (C := RX1) (T := TX1) (N := 7) hx hb hts hinX1 hown hK hP 0 rfl rfl 0 (by decide) (hts (.fieldLink RX1 26 "PrefixBenchModel" "code" "I") (by decide +kernel)) (fun _ h9 => h9) rfl dX1_cut_20 ?_
    refine lv_if_le (tgt := 28) hx hb dX1_cut_23 (by decide) (fun q23 => absurd q23 (by decide)) (fun q23 => ?_)
    refine lv_iconst (v := 0) hx hb dX1_cut_26 (by decide) ?_
    exact pb_wi hx hb hr hlocks hS dX1_cut_27 (rfl) (pb_B_of hP hK hD)
  · refine lv_iload_n hx hb dX1_cut_5 rfl (lv_at hl 1 rfl) ?_
    refine lv_bipush (v := 63) hx hb dX1_cut_6 (by decide) ?_
    refine lv_icmp_le (tgt := 15) hx hb dX1_cut_8 (by decide) (fun q8 => ?_) (fun q8 => ?_)
    · obtain ⟨j, hj, rfl⟩ := nI_of2 (M := 63) (n := 63) (by decide) q2 q8
      exact absurd ⟨j, by omega, rfl⟩ hbad
    · refine lv_iconst (v := 1) hx hb dX1_cut_11 (by decide) ?_
      refine lv_goto (tgt := 16) hx hb dX1_cut_12 (by decide) ?_
      refine va_put (D := D) (ci := 1) (v := .int 1) (ty := .int) (C := RX1) (T := TX1) (N := 7) hx hb hts hinX1 tyX1 tyX1_ok nmX1 hown hK hP hD hS 0 rfl rfl 0 (by decide) (hts (.fieldLink RX1 26 "PrefixBenchModel" "code" "I") (by decide +kernel)) (fun _ h9 => h9) rfl (by decide +kernel) rfl rfl (Nat.le_of_ble_eq_true rfl) dX1_cut_16 (fun H locs hP hD hS => ?_)
      have hP : va_P D vwCl (pb_wM cI cJ m0 a1 l1 o1 c1 h1 Af Lf Of Cf Hf 1 n9) H := hP
      have hD : va_D A (pb_wM cI cJ m0 a1 l1 o1 c1 h1 Af Lf Of Cf Hf 1 n9) := hD
      refine lv_aload_n hx hb dX1_cut_19 rfl (lv_at hl 0 rfl) ?_
      refine va_get (D := D) (ci := 1) (v := .int 1) (C := RX1) (T := TX1) (N := 7) hx hb hts hinX1 hown hK hP 0 rfl rfl 0 (by decide) (hts (.fieldLink RX1 26 "PrefixBenchModel" "code" "I") (by decide +kernel)) (fun _ h9 => h9) rfl dX1_cut_20 ?_
      refine lv_if_le (tgt := 28) hx hb dX1_cut_23 (by decide) (fun q23 => absurd q23 (by decide)) (fun q23 => ?_)
      refine lv_iconst (v := 0) hx hb dX1_cut_26 (by decide) ?_
      exact pb_wi hx hb hr hlocks hS dX1_cut_27 (rfl) (pb_B_of hP hK hD)

end PB10
