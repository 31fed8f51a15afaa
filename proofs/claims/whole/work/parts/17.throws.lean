/-! REFUSED CALLS of PrefixBench: what throws (laid by wip/gen/p17.py) -/
section PB14
def pb_txts : List (Nat × String) := [(143, "the length is not 0 .. 32"), (145, "the address has bits behind the length"), (147, "the origin is not 0 .. 7"), (150, "the cost is not 0 .. 65535"), (152, "there are no hops"), (154, "the hop is not 0 .. 63"), (156, "what is not 0 .. 2"), (118, "the length is not 0 .. 33")]
def pb_at : List Cond := vx_atS RX0 120 "java/lang/IllegalArgumentException" ["java/lang/RuntimeException", "java/lang/Exception"]
/-- the words of a throw that are on the tables alone, but move by another lemma -/
def pb_ngl : List Cond := pb_at.filter (fun w => !goodWord w)
theorem pb_ngl_t : ∀ w ∈ pb_ngl, w.tabsOnly = true := by decide +kernel
/-- what a throw needs of the state: where Throwable's two statics lie, the texts -/
def pb_E (U : State) : Prop := vx_Zq Bundle.tN "UNASSIGNED_STACK" Bundle.steD pb_No U U.heap ∧ vx_Zq Bundle.tN "SUPPRESSED_SENTINEL" Bundle.listD pb_No U U.heap ∧ (∀ q ∈ pb_txts, ∃ sa : Nat, vk_R RX0 q.1 q.2 sa U) ∧ ∀ (a : Array Value), ∀ w ∈ pb_ngl, w.before a U = true
theorem pb_E_calling {U : State} {g : JFrame} {mk : MethodId} {a : Array Value} (h : pb_E U) : pb_E (U.calling g mk a) := by
  refine ⟨vx_Zq.moved (u := U) (U := U.calling g mk a) (Vm.Alike.refl U.vm) h.1, vx_Zq.moved (u := U) (U := U.calling g mk a) (Vm.Alike.refl U.vm) h.2.1, fun q hq => ?_, fun z w hw => ?_⟩
  · obtain ⟨sa, h1⟩ := h.2.2.1 q hq
    exact ⟨sa, vk_R.same (u := U) (U := U.calling g mk a) rfl h1⟩
  · exact Cond.tabsOnly_warm (T := U.calling g mk a) (State.WarmedH.refl U) w (pb_ngl_t w hw) (h.2.2.2 z w hw)
theorem pb_E_warm {s U : State} (hU : U.heap = s.heap) (hW : s.WarmedH U.vm) (h : pb_E s) : pb_E U := by
  refine ⟨by rw [hU]; exact vx_Zq.moved hW.alike h.1, by rw [hU]; exact vx_Zq.moved hW.alike h.2.1, fun q hq => ?_, fun z w hw => ?_⟩
  · obtain ⟨sa, h1⟩ := h.2.2.1 q hq
    exact ⟨sa, vk_R.warm hW h1⟩
  · exact Cond.tabsOnly_warm (T := U) hW w (pb_ngl_t w hw) (h.2.2.2 z w hw)
def pb_XE (av : List Value) : Array Value → State → Prop := va_Pc av pb_E
theorem pb_XE_blind {av : List Value} : FrameBlind (pb_XE av) := fun a U g mk q => ⟨q.1, pb_E_calling q.2⟩
theorem pb_XE_pre {av : List Value} {s : State} (h : pb_E s) : ∀ U : State, U.heap = s.heap → s.WarmedH U.vm → pb_XE av av.toArray U := fun U hU hW => ⟨rfl, pb_E_warm hU hW h⟩
abbrev pb_Th : String → State → State → Prop := vx_X (fun _ : Unit => True) (fun E _ _ => E = "java/lang/IllegalArgumentException") pb_No
abbrev pb_Nv : Array Value → State → Outcome → State → Prop := va_Qv (fun _ : Unit => False) (fun _ _ => True) pb_No
abbrev pb_Ni : Array Value → State → Outcome → State → Prop := va_Qi (fun (_ : Int32) (_ : Unit) => False) (fun _ _ => True) pb_No
abbrev pb_Nl : Array Value → State → Outcome → State → Prop := va_Ql (fun (_ : Int64) (_ : Unit) => False) (fun _ _ => True) pb_No
abbrev pb_RT (fr lo : Nat) : Room := { frames := fr, cells := 1, slots := 6, locals := lo }
theorem pb_ofT {l : Launch} {y : MethodName} {ws ws' : List Cond} {rm : Room} {Qc : Array Value → State → Outcome → State → Prop} {av : List Value} {cc : ByteArray} {maxL : Nat} {ret : Option FieldType} (own : String) (hy : plainName y.cls = true) (hw : ws = Cond.code y cc maxL ret :: ws') (ho : y.cls = own) (hlen : (lg_sl av).length ≤ maxL)
    (body : ∀ (p : Program) (e : Env) (s : State) (m : MethodId) (args : Array Value) (below : List Frame) (meth : Method) (c : Code) (ls : Array Slot), p.tables.exec = Jvm.exec → c.code = cc → c.maxLocals = maxL → meth.sig.returnType = ret → meth.locks = false → s.vm.findClass own = some m.cls → (∀ w ∈ ws, w.before args s = true) → (∀ x ∈ c.exceptionTable.toList, False) → pb_E s → lv_has ls maxL (lv_args 0 av) →
      W p l e rm s m args below meth c s.heap [] 0 0 (vx_MQ below Qc pb_Th args s 1 6 pb_No) (F0 m 0 ls [])) : vx_Met l y ws rm (pb_XE av) Qc pb_Th 1 6 pb_No := by
  refine vx_ofW (cc := cc) (maxL := maxL) (ret := ret) hy hw ?_
  intro p e s m args below meth c s₁ B hml hex hv
  obtain ⟨rfl, hE⟩ := hv
  rw [lg_entry_eq]
  exact body p e s m _ below meth c _ B.exec B.bytes hml B.returns B.notSynchronized (by rw [← ho]; exact findClass_of_methodNamed B.named) (atoms_spec (ws := ws) B.pre) hex hE (lv_entry av hlen)
section
variable {p : Program} {l : Launch} {e : Env} {R : Room} {s : State} {m : MethodId} {args : Array Value} {below : List Frame} {meth : Method} {c : Code}
variable {pc : Nat} {ls : Array Slot} {rest st0 : List Value} {cc bytes : ByteArray} {nL maxL index n : Nat} {own : String} {y : MethodName} {ret : Option FieldType} {ws Ts : List Cond} {rm : Room} {As : List Value} {lv : List (Nat × Value)} {Qc : Array Value → State → Outcome → State → Prop}
/-- a static check that throws, in a method without a table: it goes on to the caller -/
theorem pb_thS (S : CallFix p m c cc nL s args Ts own) (hM : vx_Met l y ws rm (pb_XE As) pb_Nv pb_Th 1 6 pb_No) (cw : CallB R s args own index y bytes maxL ret ws rm 1 6 n ∧ (Cond.static y).before args s = true) (hE : pb_E s) (hex : ∀ x ∈ c.exceptionTable.toList, False) (hlocks : meth.locks = false)
    (hst : st0 = As.reverse ++ rest) (hn : As.length = n) (hl : lv_has ls nL lv) (hW : (rest.map fun v => v.category).sum ≤ 8) (hdg : decode cc pc = .ok (.invokestatic index, 3)) (hf : 0 + 1 ≤ R.cells ∧ 0 + 6 ≤ R.slots) :
    W p l e R s m args below meth c s.heap [] 0 0 (vx_MQ below Qc pb_Th args s 1 6 pb_No) (F0 m pc ls st0) := by
  refine vx_callv (vx_runS (g := F0 m pc ls st0) S hM cw ⟨pb_XE_blind, pb_XE_pre hE⟩ rfl hn hl.1 hst (lv_room hW) hdg hf) (A0 := pb_No) va_S.rf (fun q _ h => h) (fun q h => h) (fun q _ h => h) (fun E ce q9 u t H1 locs1 ht hvm hpx hBX hz hk hS hce hcv hcl => ?_) (fun u t H1 locs1 ht hvm hf9 => hf9.elim)
  exact vx_out (fun x hx => (hex x hx).elim) hlocks hce hcv hcl (fun t2 ht2 hvm2 => ⟨(), trivial, hBX, by rw [ht2]; exact hS.1, fun q h1 h2 => by rw [ht2]; exact hS.2.1 q h1 h2⟩) hS.2.2 (Nat.le_refl _) (Nat.le_refl _)
end
theorem pb_atX {args : Array Value} {s : State} (h1 : ∀ w ∈ pb_at.filter goodWord, w.before args s = true) (h : pb_E s) : ∀ w ∈ pb_at, w.before args s = true := vx_hat h1 (fun _ h => h) (h.2.2.2 args)
theorem pb_at_ot : ∀ w ∈ vx_atS RX0 120 "java/lang/IllegalArgumentException" ["java/lang/RuntimeException", "java/lang/Exception"], vx_ot w = true := by decide +kernel
variable {l : Launch}
set_option maxHeartbeats 4000000 in
set_option maxRecDepth 100000 in
theorem b_X0_checkPrefix (hst0 : l.stackTraces = false) (xa xl : Int32) (hbad : ¬ pb_vp xa xl) : vx_Met l yX0_checkPrefix wsX0_checkPrefix (pb_RT 6 82) (pb_XE [.int xa, .int xl]) pb_Nv pb_Th 1 6 pb_No := by
  refine pb_ofT RX0 (by decide) rfl rfl (Nat.le_of_ble_eq_true rfl) (fun p e s m args below meth c ls hx hb hml hr hlocks hown hts hex hE hl => ?_)
  have hl : lv_has ls 2 [(0, .int xa), (1, .int xl)] := hl
  refine lv_iload_n hx hb dX0_checkPrefix_0 rfl (lv_at hl 1 rfl) ?_
  refine lv_if_lt (tgt := 10) hx hb dX0_checkPrefix_1 (by decide) (fun q1 => ?_) (fun q1 => ?_)
  · obtain ⟨sa, hsa⟩ := hE.2.2.1 (143, "the length is not 0 .. 32") (List.mem_of_getElem? (i := 0) rfl)
    exact vx_throwS (own := RX0) (cls := "java/lang/IllegalArgumentException") (text := "the length is not 0 .. 32") (names := ["java/lang/RuntimeException", "java/lang/Exception"]) (ik := 116) (is := 143) (ic := 120) (sa := sa) (A := pb_No) hx hb hst0 hown (by decide +kernel) (by decide +kernel) (hts (.classLink RX0 116 "java/lang/IllegalArgumentException") (by decide +kernel)) (hts (.initialized "java/lang/IllegalArgumentException") (by decide +kernel)) hsa (pb_atX (fun w hw => hts w (List.mem_cons_of_mem _ (List.mem_append_right _ hw))) hE) (List.forall_mem_cons.mpr ⟨by decide +kernel, List.forall_mem_cons.mpr ⟨by decide +kernel, pb_at_ot⟩⟩) hE.1 hE.2.1 va_S.rf (hl.1.trans hml.symm) dX0_checkPrefix_10 dX0_checkPrefix_13 dX0_checkPrefix_14 dX0_checkPrefix_16 dX0_checkPrefix_19 (fun x hx => (hex x hx).elim) (by decide) (by decide) (Nat.le_refl _) (Nat.le_refl _) hlocks (fun t hvm hz hk => ⟨(), trivial, rfl, hz, fun q h1 _ => hk q h1⟩) (fun _ h => nomatch h) (Nat.le_refl _) (Nat.le_refl _)
  · obtain ⟨kz, hk31, rfl⟩ := nI_of q1
    refine lv_iload_n hx hb dX0_checkPrefix_4 rfl (lv_at hl 1 rfl) ?_
    refine lv_bipush (v := 32) hx hb dX0_checkPrefix_5 (by decide) ?_
    refine lv_icmp_le (tgt := 20) hx hb dX0_checkPrefix_7 (by decide) (fun q7 => ?_) (fun q7 => ?_)
    · have hw := (nI_leI (a := kz) (b := 32) hk31 (by decide)).mp q7
      refine lv_iload_n hx hb dX0_checkPrefix_20 rfl (lv_at hl 0 rfl) ?_
      refine lv_iload_n hx hb dX0_checkPrefix_21 rfl (lv_at hl 1 rfl) ?_
      refine pb_callS (As := [.int (nI kz)]) (rest := [.int xa]) ⟨hx, hb, hml, hown, hts⟩ (c_X0_mask kz hk31) (va_cwS 1 hts gX0_checkPrefix_X0_mask rfl rfl rfl (by decide +kernel) ⟨Nat.le_of_ble_eq_true rfl, Nat.le_of_ble_eq_true rfl⟩) rfl rfl hl (Nat.le_of_ble_eq_true rfl) dX0_checkPrefix_22 ⟨Nat.zero_le _, Nat.zero_le _⟩ ?_
      refine lv_iconst (v := (-1)) hx hb dX0_checkPrefix_25 (by decide) ?_
      refine lv_ixor hx hb dX0_checkPrefix_26 ?_
      refine lv_iand hx hb dX0_checkPrefix_27 ?_
      refine lv_if_eq (tgt := 41) hx hb dX0_checkPrefix_28 (by decide) (fun q28 => ?_) (fun q28 => ?_)
      · exact absurd ⟨pb_u xa, kz, (pb_u_nI xa).symm, rfl, pb_u_lt xa, by omega, (pb_mk_bad (by omega)).mp (by rw [pb_u_nI]; exact q28)⟩ hbad
      · obtain ⟨sa, hsa⟩ := hE.2.2.1 (145, "the address has bits behind the length") (List.mem_of_getElem? (i := 1) rfl)
        exact vx_throwS (own := RX0) (cls := "java/lang/IllegalArgumentException") (text := "the address has bits behind the length") (names := ["java/lang/RuntimeException", "java/lang/Exception"]) (ik := 116) (is := 145) (ic := 120) (sa := sa) (A := pb_No) hx hb hst0 hown (by decide +kernel) (by decide +kernel) (hts (.classLink RX0 116 "java/lang/IllegalArgumentException") (by decide +kernel)) (hts (.initialized "java/lang/IllegalArgumentException") (by decide +kernel)) hsa (pb_atX (fun w hw => hts w (List.mem_cons_of_mem _ (List.mem_append_right _ hw))) hE) (List.forall_mem_cons.mpr ⟨by decide +kernel, List.forall_mem_cons.mpr ⟨by decide +kernel, pb_at_ot⟩⟩) hE.1 hE.2.1 va_S.rf (hl.1.trans hml.symm) dX0_checkPrefix_31 dX0_checkPrefix_34 dX0_checkPrefix_35 dX0_checkPrefix_37 dX0_checkPrefix_40 (fun x hx => (hex x hx).elim) (by decide) (by decide) (Nat.le_refl _) (Nat.le_refl _) hlocks (fun t hvm hz hk => ⟨(), trivial, rfl, hz, fun q h1 _ => hk q h1⟩) (fun _ h => nomatch h) (Nat.le_refl _) (Nat.le_refl _)
    · obtain ⟨sa, hsa⟩ := hE.2.2.1 (143, "the length is not 0 .. 32") (List.mem_of_getElem? (i := 0) rfl)
      exact vx_throwS (own := RX0) (cls := "java/lang/IllegalArgumentException") (text := "the length is not 0 .. 32") (names := ["java/lang/RuntimeException", "java/lang/Exception"]) (ik := 116) (is := 143) (ic := 120) (sa := sa) (A := pb_No) hx hb hst0 hown (by decide +kernel) (by decide +kernel) (hts (.classLink RX0 116 "java/lang/IllegalArgumentException") (by decide +kernel)) (hts (.initialized "java/lang/IllegalArgumentException") (by decide +kernel)) hsa (pb_atX (fun w hw => hts w (List.mem_cons_of_mem _ (List.mem_append_right _ hw))) hE) (List.forall_mem_cons.mpr ⟨by decide +kernel, List.forall_mem_cons.mpr ⟨by decide +kernel, pb_at_ot⟩⟩) hE.1 hE.2.1 va_S.rf (hl.1.trans hml.symm) dX0_checkPrefix_10 dX0_checkPrefix_13 dX0_checkPrefix_14 dX0_checkPrefix_16 dX0_checkPrefix_19 (fun x hx => (hex x hx).elim) (by decide) (by decide) (Nat.le_refl _) (Nat.le_refl _) hlocks (fun t hvm hz hk => ⟨(), trivial, rfl, hz, fun q h1 _ => hk q h1⟩) (fun _ h => nomatch h) (Nat.le_refl _) (Nat.le_refl _)

set_option maxHeartbeats 4000000 in
set_option maxRecDepth 100000 in
theorem b_X0_checkOrigin (hst0 : l.stackTraces = false) (xo : Int32) (hbad : ¬ pb_vi xo 8) : vx_Met l yX0_checkOrigin wsX0_checkOrigin (pb_RT 6 82) (pb_XE [.int xo]) pb_Nv pb_Th 1 6 pb_No := by
  refine pb_ofT RX0 (by decide) rfl rfl (Nat.le_of_ble_eq_true rfl) (fun p e s m args below meth c ls hx hb hml hr hlocks hown hts hex hE hl => ?_)
  have hl : lv_has ls 1 [(0, .int xo)] := hl
  refine lv_iload_n hx hb dX0_checkOrigin_0 rfl (lv_at hl 0 rfl) ?_
  refine lv_if_lt (tgt := 10) hx hb dX0_checkOrigin_1 (by decide) (fun q1 => ?_) (fun q1 => ?_)
  · obtain ⟨sa, hsa⟩ := hE.2.2.1 (147, "the origin is not 0 .. 7") (List.mem_of_getElem? (i := 2) rfl)
    exact vx_throwS (own := RX0) (cls := "java/lang/IllegalArgumentException") (text := "the origin is not 0 .. 7") (names := ["java/lang/RuntimeException", "java/lang/Exception"]) (ik := 116) (is := 147) (ic := 120) (sa := sa) (A := pb_No) hx hb hst0 hown (by decide +kernel) (by decide +kernel) (hts (.classLink RX0 116 "java/lang/IllegalArgumentException") (by decide +kernel)) (hts (.initialized "java/lang/IllegalArgumentException") (by decide +kernel)) hsa (pb_atX (fun w hw => hts w (List.mem_cons_of_mem _ (List.mem_append_right _ hw))) hE) (List.forall_mem_cons.mpr ⟨by decide +kernel, List.forall_mem_cons.mpr ⟨by decide +kernel, pb_at_ot⟩⟩) hE.1 hE.2.1 va_S.rf (hl.1.trans hml.symm) dX0_checkOrigin_10 dX0_checkOrigin_13 dX0_checkOrigin_14 dX0_checkOrigin_16 dX0_checkOrigin_19 (fun x hx => (hex x hx).elim) (by decide) (by decide) (Nat.le_refl _) (Nat.le_refl _) hlocks (fun t hvm hz hk => ⟨(), trivial, rfl, hz, fun q h1 _ => hk q h1⟩) (fun _ h => nomatch h) (Nat.le_refl _) (Nat.le_refl _)
  · refine lv_iload_n hx hb dX0_checkOrigin_4 rfl (lv_at hl 0 rfl) ?_
    refine lv_bipush (v := 7) hx hb dX0_checkOrigin_5 (by decide) ?_
    refine lv_icmp_le (tgt := 20) hx hb dX0_checkOrigin_7 (by decide) (fun q7 => ?_) (fun q7 => ?_)
    · obtain ⟨j, hj, rfl⟩ := nI_of2 (M := 7) (n := 7) (by decide) q1 q7
      exact absurd ⟨j, by omega, rfl⟩ hbad
    · obtain ⟨sa, hsa⟩ := hE.2.2.1 (147, "the origin is not 0 .. 7") (List.mem_of_getElem? (i := 2) rfl)
      exact vx_throwS (own := RX0) (cls := "java/lang/IllegalArgumentException") (text := "the origin is not 0 .. 7") (names := ["java/lang/RuntimeException", "java/lang/Exception"]) (ik := 116) (is := 147) (ic := 120) (sa := sa) (A := pb_No) hx hb hst0 hown (by decide +kernel) (by decide +kernel) (hts (.classLink RX0 116 "java/lang/IllegalArgumentException") (by decide +kernel)) (hts (.initialized "java/lang/IllegalArgumentException") (by decide +kernel)) hsa (pb_atX (fun w hw => hts w (List.mem_cons_of_mem _ (List.mem_append_right _ hw))) hE) (List.forall_mem_cons.mpr ⟨by decide +kernel, List.forall_mem_cons.mpr ⟨by decide +kernel, pb_at_ot⟩⟩) hE.1 hE.2.1 va_S.rf (hl.1.trans hml.symm) dX0_checkOrigin_10 dX0_checkOrigin_13 dX0_checkOrigin_14 dX0_checkOrigin_16 dX0_checkOrigin_19 (fun x hx => (hex x hx).elim) (by decide) (by decide) (Nat.le_refl _) (Nat.le_refl _) hlocks (fun t hvm hz hk => ⟨(), trivial, rfl, hz, fun q h1 _ => hk q h1⟩) (fun _ h => nomatch h) (Nat.le_refl _) (Nat.le_refl _)

set_option maxHeartbeats 4000000 in
set_option maxRecDepth 100000 in
theorem b_X0_checkHop (hst0 : l.stackTraces = false) (xo : Int32) (hbad : ¬ pb_vi xo 64) : vx_Met l yX0_checkHop wsX0_checkHop (pb_RT 6 82) (pb_XE [.int xo]) pb_Nv pb_Th 1 6 pb_No := by
  refine pb_ofT RX0 (by decide) rfl rfl (Nat.le_of_ble_eq_true rfl) (fun p e s m args below meth c ls hx hb hml hr hlocks hown hts hex hE hl => ?_)
  have hl : lv_has ls 1 [(0, .int xo)] := hl
  refine lv_iload_n hx hb dX0_checkHop_0 rfl (lv_at hl 0 rfl) ?_
  refine lv_if_lt (tgt := 10) hx hb dX0_checkHop_1 (by decide) (fun q1 => ?_) (fun q1 => ?_)
  · obtain ⟨sa, hsa⟩ := hE.2.2.1 (154, "the hop is not 0 .. 63") (List.mem_of_getElem? (i := 5) rfl)
    exact vx_throwS (own := RX0) (cls := "java/lang/IllegalArgumentException") (text := "the hop is not 0 .. 63") (names := ["java/lang/RuntimeException", "java/lang/Exception"]) (ik := 116) (is := 154) (ic := 120) (sa := sa) (A := pb_No) hx hb hst0 hown (by decide +kernel) (by decide +kernel) (hts (.classLink RX0 116 "java/lang/IllegalArgumentException") (by decide +kernel)) (hts (.initialized "java/lang/IllegalArgumentException") (by decide +kernel)) hsa (pb_atX (fun w hw => hts w (List.mem_cons_of_mem _ (List.mem_append_right _ hw))) hE) (List.forall_mem_cons.mpr ⟨by decide +kernel, List.forall_mem_cons.mpr ⟨by decide +kernel, pb_at_ot⟩⟩) hE.1 hE.2.1 va_S.rf (hl.1.trans hml.symm) dX0_checkHop_10 dX0_checkHop_13 dX0_checkHop_14 dX0_checkHop_16 dX0_checkHop_19 (fun x hx => (hex x hx).elim) (by decide) (by decide) (Nat.le_refl _) (Nat.le_refl _) hlocks (fun t hvm hz hk => ⟨(), trivial, rfl, hz, fun q h1 _ => hk q h1⟩) (fun _ h => nomatch h) (Nat.le_refl _) (Nat.le_refl _)
  · refine lv_iload_n hx hb dX0_checkHop_4 rfl (lv_at hl 0 rfl) ?_
    refine lv_bipush (v := 63) hx hb dX0_checkHop_5 (by decide) ?_
    refine lv_icmp_le (tgt := 20) hx hb dX0_checkHop_7 (by decide) (fun q7 => ?_) (fun q7 => ?_)
    · obtain ⟨j, hj, rfl⟩ := nI_of2 (M := 63) (n := 63) (by decide) q1 q7
      exact absurd ⟨j, by omega, rfl⟩ hbad
    · obtain ⟨sa, hsa⟩ := hE.2.2.1 (154, "the hop is not 0 .. 63") (List.mem_of_getElem? (i := 5) rfl)
      exact vx_throwS (own := RX0) (cls := "java/lang/IllegalArgumentException") (text := "the hop is not 0 .. 63") (names := ["java/lang/RuntimeException", "java/lang/Exception"]) (ik := 116) (is := 154) (ic := 120) (sa := sa) (A := pb_No) hx hb hst0 hown (by decide +kernel) (by decide +kernel) (hts (.classLink RX0 116 "java/lang/IllegalArgumentException") (by decide +kernel)) (hts (.initialized "java/lang/IllegalArgumentException") (by decide +kernel)) hsa (pb_atX (fun w hw => hts w (List.mem_cons_of_mem _ (List.mem_append_right _ hw))) hE) (List.forall_mem_cons.mpr ⟨by decide +kernel, List.forall_mem_cons.mpr ⟨by decide +kernel, pb_at_ot⟩⟩) hE.1 hE.2.1 va_S.rf (hl.1.trans hml.symm) dX0_checkHop_10 dX0_checkHop_13 dX0_checkHop_14 dX0_checkHop_16 dX0_checkHop_19 (fun x hx => (hex x hx).elim) (by decide) (by decide) (Nat.le_refl _) (Nat.le_refl _) hlocks (fun t hvm hz hk => ⟨(), trivial, rfl, hz, fun q h1 _ => hk q h1⟩) (fun _ h => nomatch h) (Nat.le_refl _) (Nat.le_refl _)

set_option maxHeartbeats 4000000 in
set_option maxRecDepth 100000 in
theorem b_X0_checkWhat (hst0 : l.stackTraces = false) (xo : Int32) (hbad : ¬ pb_vi xo 3) : vx_Met l yX0_checkWhat wsX0_checkWhat (pb_RT 6 82) (pb_XE [.int xo]) pb_Nv pb_Th 1 6 pb_No := by
  refine pb_ofT RX0 (by decide) rfl rfl (Nat.le_of_ble_eq_true rfl) (fun p e s m args below meth c ls hx hb hml hr hlocks hown hts hex hE hl => ?_)
  have hl : lv_has ls 1 [(0, .int xo)] := hl
  refine lv_iload_n hx hb dX0_checkWhat_0 rfl (lv_at hl 0 rfl) ?_
  refine lv_if_lt (tgt := 9) hx hb dX0_checkWhat_1 (by decide) (fun q1 => ?_) (fun q1 => ?_)
  · obtain ⟨sa, hsa⟩ := hE.2.2.1 (156, "what is not 0 .. 2") (List.mem_of_getElem? (i := 6) rfl)
    exact vx_throwS (own := RX0) (cls := "java/lang/IllegalArgumentException") (text := "what is not 0 .. 2") (names := ["java/lang/RuntimeException", "java/lang/Exception"]) (ik := 116) (is := 156) (ic := 120) (sa := sa) (A := pb_No) hx hb hst0 hown (by decide +kernel) (by decide +kernel) (hts (.classLink RX0 116 "java/lang/IllegalArgumentException") (by decide +kernel)) (hts (.initialized "java/lang/IllegalArgumentException") (by decide +kernel)) hsa (pb_atX (fun w hw => hts w (List.mem_cons_of_mem _ (List.mem_append_right _ hw))) hE) (List.forall_mem_cons.mpr ⟨by decide +kernel, List.forall_mem_cons.mpr ⟨by decide +kernel, pb_at_ot⟩⟩) hE.1 hE.2.1 va_S.rf (hl.1.trans hml.symm) dX0_checkWhat_9 dX0_checkWhat_12 dX0_checkWhat_13 dX0_checkWhat_15 dX0_checkWhat_18 (fun x hx => (hex x hx).elim) (by decide) (by decide) (Nat.le_refl _) (Nat.le_refl _) hlocks (fun t hvm hz hk => ⟨(), trivial, rfl, hz, fun q h1 _ => hk q h1⟩) (fun _ h => nomatch h) (Nat.le_refl _) (Nat.le_refl _)
  · refine lv_iload_n hx hb dX0_checkWhat_4 rfl (lv_at hl 0 rfl) ?_
    refine lv_iconst (v := 2) hx hb dX0_checkWhat_5 (by decide) ?_
    refine lv_icmp_le (tgt := 19) hx hb dX0_checkWhat_6 (by decide) (fun q6 => ?_) (fun q6 => ?_)
    · obtain ⟨j, hj, rfl⟩ := nI_of2 (M := 2) (n := 2) (by decide) q1 q6
      exact absurd ⟨j, by omega, rfl⟩ hbad
    · obtain ⟨sa, hsa⟩ := hE.2.2.1 (156, "what is not 0 .. 2") (List.mem_of_getElem? (i := 6) rfl)
      exact vx_throwS (own := RX0) (cls := "java/lang/IllegalArgumentException") (text := "what is not 0 .. 2") (names := ["java/lang/RuntimeException", "java/lang/Exception"]) (ik := 116) (is := 156) (ic := 120) (sa := sa) (A := pb_No) hx hb hst0 hown (by decide +kernel) (by decide +kernel) (hts (.classLink RX0 116 "java/lang/IllegalArgumentException") (by decide +kernel)) (hts (.initialized "java/lang/IllegalArgumentException") (by decide +kernel)) hsa (pb_atX (fun w hw => hts w (List.mem_cons_of_mem _ (List.mem_append_right _ hw))) hE) (List.forall_mem_cons.mpr ⟨by decide +kernel, List.forall_mem_cons.mpr ⟨by decide +kernel, pb_at_ot⟩⟩) hE.1 hE.2.1 va_S.rf (hl.1.trans hml.symm) dX0_checkWhat_9 dX0_checkWhat_12 dX0_checkWhat_13 dX0_checkWhat_15 dX0_checkWhat_18 (fun x hx => (hex x hx).elim) (by decide) (by decide) (Nat.le_refl _) (Nat.le_refl _) hlocks (fun t hvm hz hk => ⟨(), trivial, rfl, hz, fun q h1 _ => hk q h1⟩) (fun _ h => nomatch h) (Nat.le_refl _) (Nat.le_refl _)

set_option maxHeartbeats 4000000 in
set_option maxRecDepth 100000 in
theorem b_X0_checkCostAndHops (hst0 : l.stackTraces = false) (xc : Int32) (hz : Int64) (hbad : ¬ (pb_vi xc 65536 ∧ hz ≠ 0)) : vx_Met l yX0_checkCostAndHops wsX0_checkCostAndHops (pb_RT 6 82) (pb_XE [.int xc, .long hz]) pb_Nv pb_Th 1 6 pb_No := by
  refine pb_ofT RX0 (by decide) rfl rfl (Nat.le_of_ble_eq_true rfl) (fun p e s m args below meth c ls hx hb hml hr hlocks hown hts hex hE hl => ?_)
  have hl : lv_has ls 3 [(0, .int xc), (1, .long hz)] := hl
  refine lv_iload_n hx hb dX0_checkCostAndHops_0 rfl (lv_at hl 0 rfl) ?_
  refine lv_if_lt (tgt := 10) hx hb dX0_checkCostAndHops_1 (by decide) (fun q1 => ?_) (fun q1 => ?_)
  · obtain ⟨sa, hsa⟩ := hE.2.2.1 (150, "the cost is not 0 .. 65535") (List.mem_of_getElem? (i := 3) rfl)
    exact vx_throwS (own := RX0) (cls := "java/lang/IllegalArgumentException") (text := "the cost is not 0 .. 65535") (names := ["java/lang/RuntimeException", "java/lang/Exception"]) (ik := 116) (is := 150) (ic := 120) (sa := sa) (A := pb_No) hx hb hst0 hown (by decide +kernel) (by decide +kernel) (hts (.classLink RX0 116 "java/lang/IllegalArgumentException") (by decide +kernel)) (hts (.initialized "java/lang/IllegalArgumentException") (by decide +kernel)) hsa (pb_atX (fun w hw => hts w (List.mem_cons_of_mem _ (List.mem_append_right _ hw))) hE) (List.forall_mem_cons.mpr ⟨by decide +kernel, List.forall_mem_cons.mpr ⟨by decide +kernel, pb_at_ot⟩⟩) hE.1 hE.2.1 va_S.rf (hl.1.trans hml.symm) dX0_checkCostAndHops_10 dX0_checkCostAndHops_13 dX0_checkCostAndHops_14 dX0_checkCostAndHops_16 dX0_checkCostAndHops_19 (fun x hx => (hex x hx).elim) (by decide) (by decide) (Nat.le_refl _) (Nat.le_refl _) hlocks (fun t hvm hz hk => ⟨(), trivial, rfl, hz, fun q h1 _ => hk q h1⟩) (fun _ h => nomatch h) (Nat.le_refl _) (Nat.le_refl _)
  · refine lv_iload_n hx hb dX0_checkCostAndHops_4 rfl (lv_at hl 0 rfl) ?_
    refine lv_ldc (v := 65535) hx hb hown (hts (.constant RX0 149 65535) (by decide +kernel)) dX0_checkCostAndHops_5 ?_
    refine lv_icmp_le (tgt := 20) hx hb dX0_checkCostAndHops_7 (by decide) (fun q7 => ?_) (fun q7 => ?_)
    · obtain ⟨j, hj, hje⟩ := nI_of2 (M := 65535) (n := 65535) (by decide) q1 q7
      refine lv_lload_n hx hb dX0_checkCostAndHops_20 rfl (lv_at hl 1 rfl) ?_
      refine lv_lconst (v := 0) hx hb dX0_checkCostAndHops_21 (by decide) ?_
      refine W.lcmp hx hb dX0_checkCostAndHops_22 ?_
      refine lv_if_ne (tgt := 36) hx hb dX0_checkCostAndHops_23 (by decide) (fun q23 => ?_) (fun q23 => ?_)
      · have q23 := mt (lg_cmp_eq _ _).mpr q23
        exact absurd ⟨⟨j, by omega, hje⟩, q23⟩ hbad
      · have q23 := (lg_cmp_eq _ _).mp q23
        obtain ⟨sa, hsa⟩ := hE.2.2.1 (152, "there are no hops") (List.mem_of_getElem? (i := 4) rfl)
        exact vx_throwS (own := RX0) (cls := "java/lang/IllegalArgumentException") (text := "there are no hops") (names := ["java/lang/RuntimeException", "java/lang/Exception"]) (ik := 116) (is := 152) (ic := 120) (sa := sa) (A := pb_No) hx hb hst0 hown (by decide +kernel) (by decide +kernel) (hts (.classLink RX0 116 "java/lang/IllegalArgumentException") (by decide +kernel)) (hts (.initialized "java/lang/IllegalArgumentException") (by decide +kernel)) hsa (pb_atX (fun w hw => hts w (List.mem_cons_of_mem _ (List.mem_append_right _ hw))) hE) (List.forall_mem_cons.mpr ⟨by decide +kernel, List.forall_mem_cons.mpr ⟨by decide +kernel, pb_at_ot⟩⟩) hE.1 hE.2.1 va_S.rf (hl.1.trans hml.symm) dX0_checkCostAndHops_26 dX0_checkCostAndHops_29 dX0_checkCostAndHops_30 dX0_checkCostAndHops_32 dX0_checkCostAndHops_35 (fun x hx => (hex x hx).elim) (by decide) (by decide) (Nat.le_refl _) (Nat.le_refl _) hlocks (fun t hvm hz hk => ⟨(), trivial, rfl, hz, fun q h1 _ => hk q h1⟩) (fun _ h => nomatch h) (Nat.le_refl _) (Nat.le_refl _)
    · obtain ⟨sa, hsa⟩ := hE.2.2.1 (150, "the cost is not 0 .. 65535") (List.mem_of_getElem? (i := 3) rfl)
      exact vx_throwS (own := RX0) (cls := "java/lang/IllegalArgumentException") (text := "the cost is not 0 .. 65535") (names := ["java/lang/RuntimeException", "java/lang/Exception"]) (ik := 116) (is := 150) (ic := 120) (sa := sa) (A := pb_No) hx hb hst0 hown (by decide +kernel) (by decide +kernel) (hts (.classLink RX0 116 "java/lang/IllegalArgumentException") (by decide +kernel)) (hts (.initialized "java/lang/IllegalArgumentException") (by decide +kernel)) hsa (pb_atX (fun w hw => hts w (List.mem_cons_of_mem _ (List.mem_append_right _ hw))) hE) (List.forall_mem_cons.mpr ⟨by decide +kernel, List.forall_mem_cons.mpr ⟨by decide +kernel, pb_at_ot⟩⟩) hE.1 hE.2.1 va_S.rf (hl.1.trans hml.symm) dX0_checkCostAndHops_10 dX0_checkCostAndHops_13 dX0_checkCostAndHops_14 dX0_checkCostAndHops_16 dX0_checkCostAndHops_19 (fun x hx => (hex x hx).elim) (by decide) (by decide) (Nat.le_refl _) (Nat.le_refl _) hlocks (fun t hvm hz hk => ⟨(), trivial, rfl, hz, fun q h1 _ => hk q h1⟩) (fun _ h => nomatch h) (Nat.le_refl _) (Nat.le_refl _)

set_option maxHeartbeats 4000000 in
set_option maxRecDepth 100000 in
theorem b_X0_put (hst0 : l.stackTraces = false) {h0 : Nat} (xa xl xo xc : Int32) (hz : Int64) (hbad : ¬ (pb_vp xa xl ∧ pb_vi xo 8 ∧ pb_vi xc 65536 ∧ hz ≠ 0)) : vx_Met l yX0_put wsX0_put (pb_RT 7 104) (pb_XE [.ref h0, .int xa, .int xl, .int xo, .int xc, .long hz]) pb_Ni pb_Th 1 6 pb_No := by
  refine pb_ofT RX0 (by decide) rfl rfl (Nat.le_of_ble_eq_true rfl) (fun p e s m args below meth c ls hx hb hml hr hlocks hown hts hex hE hl => ?_)
  have hl : lv_has ls 10 [(0, .ref h0), (1, .int xa), (2, .int xl), (3, .int xo), (4, .int xc), (5, .long hz)] := hl
  refine lv_iload_n hx hb dX0_put_0 rfl (lv_at hl 1 rfl) ?_
  refine lv_iload_n hx hb dX0_put_1 rfl (lv_at hl 2 rfl) ?_
  rcases Classical.em (pb_vp xa xl) with hvp | hvp
  · obtain ⟨a, k, rfl, rfl, ha, hk, hg⟩ := id hvp
    refine pb_callSv (As := [.int (nI a), .int (nI k)]) (rest := []) ⟨hx, hb, hml, hown, hts⟩ (c_X0_checkPrefix a k ha hk hg) (va_cwS 2 hts gX0_put_X0_checkPrefix rfl rfl rfl (by decide +kernel) ⟨Nat.le_of_ble_eq_true rfl, Nat.le_of_ble_eq_true rfl⟩) rfl rfl hl (Nat.le_of_ble_eq_true rfl) dX0_put_2 ⟨Nat.zero_le _, Nat.zero_le _⟩ ?_
    refine lv_iload_n hx hb dX0_put_5 rfl (lv_at hl 3 rfl) ?_
    rcases Classical.em (pb_vi xo 8) with hvo | hvo
    · obtain ⟨o, ho, rfl⟩ := id hvo
      refine pb_callSv (As := [.int (nI o)]) (rest := []) ⟨hx, hb, hml, hown, hts⟩ (c_X0_checkOrigin o ho) (va_cwS 1 hts gX0_put_X0_checkOrigin rfl rfl rfl (by decide +kernel) ⟨Nat.le_of_ble_eq_true rfl, Nat.le_of_ble_eq_true rfl⟩) rfl rfl hl (Nat.le_of_ble_eq_true rfl) dX0_put_6 ⟨Nat.zero_le _, Nat.zero_le _⟩ ?_
      refine lv_iload hx hb dX0_put_9 (lv_at hl 4 rfl) ?_
      refine lv_lload hx hb dX0_put_11 (lv_at hl 5 rfl) ?_
      exact pb_thS (As := [.int xc, .long hz]) (rest := []) ⟨hx, hb, hml, hown, hts⟩ (b_X0_checkCostAndHops hst0 xc hz (fun z => hbad ⟨hvp, hvo, z.1, z.2⟩)) (va_cwS 2 hts gX0_put_X0_checkCostAndHops rfl rfl rfl (by decide +kernel) ⟨Nat.le_of_ble_eq_true rfl, Nat.le_of_ble_eq_true rfl⟩) hE hex hlocks rfl rfl hl (Nat.le_of_ble_eq_true rfl) dX0_put_13 ⟨Nat.le_of_ble_eq_true rfl, Nat.le_of_ble_eq_true rfl⟩
    · exact pb_thS (As := [.int xo]) (rest := []) ⟨hx, hb, hml, hown, hts⟩ (b_X0_checkOrigin hst0 xo hvo) (va_cwS 1 hts gX0_put_X0_checkOrigin rfl rfl rfl (by decide +kernel) ⟨Nat.le_of_ble_eq_true rfl, Nat.le_of_ble_eq_true rfl⟩) hE hex hlocks rfl rfl hl (Nat.le_of_ble_eq_true rfl) dX0_put_6 ⟨Nat.le_of_ble_eq_true rfl, Nat.le_of_ble_eq_true rfl⟩
  · exact pb_thS (As := [.int xa, .int xl]) (rest := []) ⟨hx, hb, hml, hown, hts⟩ (b_X0_checkPrefix hst0 xa xl hvp) (va_cwS 2 hts gX0_put_X0_checkPrefix rfl rfl rfl (by decide +kernel) ⟨Nat.le_of_ble_eq_true rfl, Nat.le_of_ble_eq_true rfl⟩) hE hex hlocks rfl rfl hl (Nat.le_of_ble_eq_true rfl) dX0_put_2 ⟨Nat.le_of_ble_eq_true rfl, Nat.le_of_ble_eq_true rfl⟩

set_option maxHeartbeats 4000000 in
set_option maxRecDepth 100000 in
theorem b_X0_take (hst0 : l.stackTraces = false) {h0 : Nat} (xa xl xo : Int32) (hbad : ¬ (pb_vp xa xl ∧ pb_vi xo 8)) : vx_Met l yX0_take wsX0_take (pb_RT 7 103) (pb_XE [.ref h0, .int xa, .int xl, .int xo]) pb_Ni pb_Th 1 6 pb_No := by
  refine pb_ofT RX0 (by decide) rfl rfl (Nat.le_of_ble_eq_true rfl) (fun p e s m args below meth c ls hx hb hml hr hlocks hown hts hex hE hl => ?_)
  have hl : lv_has ls 5 [(0, .ref h0), (1, .int xa), (2, .int xl), (3, .int xo)] := hl
  refine lv_iload_n hx hb dX0_take_0 rfl (lv_at hl 1 rfl) ?_
  refine lv_iload_n hx hb dX0_take_1 rfl (lv_at hl 2 rfl) ?_
  rcases Classical.em (pb_vp xa xl) with hvp | hvp
  · obtain ⟨a, k, rfl, rfl, ha, hk, hg⟩ := id hvp
    refine pb_callSv (As := [.int (nI a), .int (nI k)]) (rest := []) ⟨hx, hb, hml, hown, hts⟩ (c_X0_checkPrefix a k ha hk hg) (va_cwS 2 hts gX0_take_X0_checkPrefix rfl rfl rfl (by decide +kernel) ⟨Nat.le_of_ble_eq_true rfl, Nat.le_of_ble_eq_true rfl⟩) rfl rfl hl (Nat.le_of_ble_eq_true rfl) dX0_take_2 ⟨Nat.zero_le _, Nat.zero_le _⟩ ?_
    refine lv_iload_n hx hb dX0_take_5 rfl (lv_at hl 3 rfl) ?_
    exact pb_thS (As := [.int xo]) (rest := []) ⟨hx, hb, hml, hown, hts⟩ (b_X0_checkOrigin hst0 xo (fun z => hbad ⟨hvp, z⟩)) (va_cwS 1 hts gX0_take_X0_checkOrigin rfl rfl rfl (by decide +kernel) ⟨Nat.le_of_ble_eq_true rfl, Nat.le_of_ble_eq_true rfl⟩) hE hex hlocks rfl rfl hl (Nat.le_of_ble_eq_true rfl) dX0_take_6 ⟨Nat.le_of_ble_eq_true rfl, Nat.le_of_ble_eq_true rfl⟩
  · exact pb_thS (As := [.int xa, .int xl]) (rest := []) ⟨hx, hb, hml, hown, hts⟩ (b_X0_checkPrefix hst0 xa xl hvp) (va_cwS 2 hts gX0_take_X0_checkPrefix rfl rfl rfl (by decide +kernel) ⟨Nat.le_of_ble_eq_true rfl, Nat.le_of_ble_eq_true rfl⟩) hE hex hlocks rfl rfl hl (Nat.le_of_ble_eq_true rfl) dX0_take_2 ⟨Nat.le_of_ble_eq_true rfl, Nat.le_of_ble_eq_true rfl⟩

set_option maxHeartbeats 4000000 in
set_option maxRecDepth 100000 in
theorem b_X0_drop (hst0 : l.stackTraces = false) {h0 : Nat} (xo : Int32) (hbad : ¬ pb_vi xo 8) : vx_Met l yX0_drop wsX0_drop (pb_RT 7 102) (pb_XE [.ref h0, .int xo]) pb_Ni pb_Th 1 6 pb_No := by
  refine pb_ofT RX0 (by decide) rfl rfl (Nat.le_of_ble_eq_true rfl) (fun p e s m args below meth c ls hx hb hml hr hlocks hown hts hex hE hl => ?_)
  have hl : lv_has ls 4 [(0, .ref h0), (1, .int xo)] := hl
  refine lv_iload_n hx hb dX0_drop_0 rfl (lv_at hl 1 rfl) ?_
  exact pb_thS (As := [.int xo]) (rest := []) ⟨hx, hb, hml, hown, hts⟩ (b_X0_checkOrigin hst0 xo hbad) (va_cwS 1 hts gX0_drop_X0_checkOrigin rfl rfl rfl (by decide +kernel) ⟨Nat.le_of_ble_eq_true rfl, Nat.le_of_ble_eq_true rfl⟩) hE hex hlocks rfl rfl hl (Nat.le_of_ble_eq_true rfl) dX0_drop_1 ⟨Nat.le_of_ble_eq_true rfl, Nat.le_of_ble_eq_true rfl⟩

set_option maxHeartbeats 4000000 in
set_option maxRecDepth 100000 in
theorem b_X0_cut (hst0 : l.stackTraces = false) {h0 : Nat} (xo : Int32) (hbad : ¬ pb_vi xo 64) : vx_Met l yX0_cut wsX0_cut (pb_RT 7 102) (pb_XE [.ref h0, .int xo]) pb_Ni pb_Th 1 6 pb_No := by
  refine pb_ofT RX0 (by decide) rfl rfl (Nat.le_of_ble_eq_true rfl) (fun p e s m args below meth c ls hx hb hml hr hlocks hown hts hex hE hl => ?_)
  have hl : lv_has ls 8 [(0, .ref h0), (1, .int xo)] := hl
  refine lv_iload_n hx hb dX0_cut_0 rfl (lv_at hl 1 rfl) ?_
  exact pb_thS (As := [.int xo]) (rest := []) ⟨hx, hb, hml, hown, hts⟩ (b_X0_checkHop hst0 xo hbad) (va_cwS 1 hts gX0_cut_X0_checkHop rfl rfl rfl (by decide +kernel) ⟨Nat.le_of_ble_eq_true rfl, Nat.le_of_ble_eq_true rfl⟩) hE hex hlocks rfl rfl hl (Nat.le_of_ble_eq_true rfl) dX0_cut_1 ⟨Nat.le_of_ble_eq_true rfl, Nat.le_of_ble_eq_true rfl⟩

set_option maxHeartbeats 4000000 in
set_option maxRecDepth 100000 in
theorem b_X0_route (hst0 : l.stackTraces = false) {h0 : Nat} (xa xl xo xw : Int32) (hbad : ¬ (pb_vp xa xl ∧ (xo = -1 ∨ pb_vi xo 8) ∧ pb_vi xw 3)) : vx_Met l yX0_route wsX0_route (pb_RT 7 103) (pb_XE [.ref h0, .int xa, .int xl, .int xo, .int xw]) pb_Ni pb_Th 1 6 pb_No := by
  refine pb_ofT RX0 (by decide) rfl rfl (Nat.le_of_ble_eq_true rfl) (fun p e s m args below meth c ls hx hb hml hr hlocks hown hts hex hE hl => ?_)
  have hl : lv_has ls 8 [(0, .ref h0), (1, .int xa), (2, .int xl), (3, .int xo), (4, .int xw)] := hl
  refine lv_iload_n hx hb dX0_route_0 rfl (lv_at hl 1 rfl) ?_
  refine lv_iload_n hx hb dX0_route_1 rfl (lv_at hl 2 rfl) ?_
  rcases Classical.em (pb_vp xa xl) with hvp | hvp
  · obtain ⟨a, k, rfl, rfl, ha, hk, hg⟩ := id hvp
    refine pb_callSv (As := [.int (nI a), .int (nI k)]) (rest := []) ⟨hx, hb, hml, hown, hts⟩ (c_X0_checkPrefix a k ha hk hg) (va_cwS 2 hts gX0_route_X0_checkPrefix rfl rfl rfl (by decide +kernel) ⟨Nat.le_of_ble_eq_true rfl, Nat.le_of_ble_eq_true rfl⟩) rfl rfl hl (Nat.le_of_ble_eq_true rfl) dX0_route_2 ⟨Nat.zero_le _, Nat.zero_le _⟩ ?_
    refine lv_iload_n hx hb dX0_route_5 rfl (lv_at hl 3 rfl) ?_
    refine lv_iconst (v := (-1)) hx hb dX0_route_6 (by decide) ?_
    refine lv_icmp_eq (tgt := 14) hx hb dX0_route_7 (by decide) (fun q7 => ?_) (fun q7 => ?_)
    · refine lv_iload hx hb dX0_route_14 (lv_at hl 4 rfl) ?_
      exact pb_thS (As := [.int xw]) (rest := []) ⟨hx, hb, hml, hown, hts⟩ (b_X0_checkWhat hst0 xw (fun z => hbad ⟨hvp, Or.inl q7, z⟩)) (va_cwS 1 hts gX0_route_X0_checkWhat rfl rfl rfl (by decide +kernel) ⟨Nat.le_of_ble_eq_true rfl, Nat.le_of_ble_eq_true rfl⟩) hE hex hlocks rfl rfl hl (Nat.le_of_ble_eq_true rfl) dX0_route_16 ⟨Nat.le_of_ble_eq_true rfl, Nat.le_of_ble_eq_true rfl⟩
    · refine lv_iload_n hx hb dX0_route_10 rfl (lv_at hl 3 rfl) ?_
      rcases Classical.em (pb_vi xo 8) with hvo | hvo
      · obtain ⟨o, ho, rfl⟩ := id hvo
        refine pb_callSv (As := [.int (nI o)]) (rest := []) ⟨hx, hb, hml, hown, hts⟩ (c_X0_checkOrigin o ho) (va_cwS 1 hts gX0_route_X0_checkOrigin rfl rfl rfl (by decide +kernel) ⟨Nat.le_of_ble_eq_true rfl, Nat.le_of_ble_eq_true rfl⟩) rfl rfl hl (Nat.le_of_ble_eq_true rfl) dX0_route_11 ⟨Nat.zero_le _, Nat.zero_le _⟩ ?_
        refine lv_iload hx hb dX0_route_14 (lv_at hl 4 rfl) ?_
        exact pb_thS (As := [.int xw]) (rest := []) ⟨hx, hb, hml, hown, hts⟩ (b_X0_checkWhat hst0 xw (fun z => hbad ⟨hvp, Or.inr hvo, z⟩)) (va_cwS 1 hts gX0_route_X0_checkWhat rfl rfl rfl (by decide +kernel) ⟨Nat.le_of_ble_eq_true rfl, Nat.le_of_ble_eq_true rfl⟩) hE hex hlocks rfl rfl hl (Nat.le_of_ble_eq_true rfl) dX0_route_16 ⟨Nat.le_of_ble_eq_true rfl, Nat.le_of_ble_eq_true rfl⟩
      · exact pb_thS (As := [.int xo]) (rest := []) ⟨hx, hb, hml, hown, hts⟩ (b_X0_checkOrigin hst0 xo hvo) (va_cwS 1 hts gX0_route_X0_checkOrigin rfl rfl rfl (by decide +kernel) ⟨Nat.le_of_ble_eq_true rfl, Nat.le_of_ble_eq_true rfl⟩) hE hex hlocks rfl rfl hl (Nat.le_of_ble_eq_true rfl) dX0_route_11 ⟨Nat.le_of_ble_eq_true rfl, Nat.le_of_ble_eq_true rfl⟩
  · exact pb_thS (As := [.int xa, .int xl]) (rest := []) ⟨hx, hb, hml, hown, hts⟩ (b_X0_checkPrefix hst0 xa xl hvp) (va_cwS 2 hts gX0_route_X0_checkPrefix rfl rfl rfl (by decide +kernel) ⟨Nat.le_of_ble_eq_true rfl, Nat.le_of_ble_eq_true rfl⟩) hE hex hlocks rfl rfl hl (Nat.le_of_ble_eq_true rfl) dX0_route_2 ⟨Nat.le_of_ble_eq_true rfl, Nat.le_of_ble_eq_true rfl⟩

set_option maxHeartbeats 4000000 in
set_option maxRecDepth 100000 in
theorem b_X0_shorter (hst0 : l.stackTraces = false) {h0 : Nat} (xa xl : Int32) (hbad : ¬ pb_vi xl 34) : vx_Met l yX0_shorter wsX0_shorter (pb_RT 6 82) (pb_XE [.ref h0, .int xa, .int xl]) pb_Ni pb_Th 1 6 pb_No := by
  refine pb_ofT RX0 (by decide) rfl rfl (Nat.le_of_ble_eq_true rfl) (fun p e s m args below meth c ls hx hb hml hr hlocks hown hts hex hE hl => ?_)
  have hl : lv_has ls 3 [(0, .ref h0), (1, .int xa), (2, .int xl)] := hl
  refine lv_iload_n hx hb dX0_shorter_0 rfl (lv_at hl 2 rfl) ?_
  refine lv_if_lt (tgt := 10) hx hb dX0_shorter_1 (by decide) (fun q1 => ?_) (fun q1 => ?_)
  · obtain ⟨sa, hsa⟩ := hE.2.2.1 (118, "the length is not 0 .. 33") (List.mem_of_getElem? (i := 7) rfl)
    exact vx_throwS (own := RX0) (cls := "java/lang/IllegalArgumentException") (text := "the length is not 0 .. 33") (names := ["java/lang/RuntimeException", "java/lang/Exception"]) (ik := 116) (is := 118) (ic := 120) (sa := sa) (A := pb_No) hx hb hst0 hown (by decide +kernel) (by decide +kernel) (hts (.classLink RX0 116 "java/lang/IllegalArgumentException") (by decide +kernel)) (hts (.initialized "java/lang/IllegalArgumentException") (by decide +kernel)) hsa (pb_atX (fun w hw => hts w (List.mem_cons_of_mem _ (List.mem_append_right _ hw))) hE) (List.forall_mem_cons.mpr ⟨by decide +kernel, List.forall_mem_cons.mpr ⟨by decide +kernel, pb_at_ot⟩⟩) hE.1 hE.2.1 va_S.rf (hl.1.trans hml.symm) dX0_shorter_10 dX0_shorter_13 dX0_shorter_14 dX0_shorter_16 dX0_shorter_19 (fun x hx => (hex x hx).elim) (by decide) (by decide) (Nat.le_refl _) (Nat.le_refl _) hlocks (fun t hvm hz hk => ⟨(), trivial, rfl, hz, fun q h1 _ => hk q h1⟩) (fun _ h => nomatch h) (Nat.le_refl _) (Nat.le_refl _)
  · refine lv_iload_n hx hb dX0_shorter_4 rfl (lv_at hl 2 rfl) ?_
    refine lv_bipush (v := 33) hx hb dX0_shorter_5 (by decide) ?_
    refine lv_icmp_le (tgt := 20) hx hb dX0_shorter_7 (by decide) (fun q7 => ?_) (fun q7 => ?_)
    · obtain ⟨j, hj, rfl⟩ := nI_of2 (M := 33) (n := 33) (by decide) q1 q7
      exact absurd ⟨j, by omega, rfl⟩ hbad
    · obtain ⟨sa, hsa⟩ := hE.2.2.1 (118, "the length is not 0 .. 33") (List.mem_of_getElem? (i := 7) rfl)
      exact vx_throwS (own := RX0) (cls := "java/lang/IllegalArgumentException") (text := "the length is not 0 .. 33") (names := ["java/lang/RuntimeException", "java/lang/Exception"]) (ik := 116) (is := 118) (ic := 120) (sa := sa) (A := pb_No) hx hb hst0 hown (by decide +kernel) (by decide +kernel) (hts (.classLink RX0 116 "java/lang/IllegalArgumentException") (by decide +kernel)) (hts (.initialized "java/lang/IllegalArgumentException") (by decide +kernel)) hsa (pb_atX (fun w hw => hts w (List.mem_cons_of_mem _ (List.mem_append_right _ hw))) hE) (List.forall_mem_cons.mpr ⟨by decide +kernel, List.forall_mem_cons.mpr ⟨by decide +kernel, pb_at_ot⟩⟩) hE.1 hE.2.1 va_S.rf (hl.1.trans hml.symm) dX0_shorter_10 dX0_shorter_13 dX0_shorter_14 dX0_shorter_16 dX0_shorter_19 (fun x hx => (hex x hx).elim) (by decide) (by decide) (Nat.le_refl _) (Nat.le_refl _) hlocks (fun t hvm hz hk => ⟨(), trivial, rfl, hz, fun q h1 _ => hk q h1⟩) (fun _ h => nomatch h) (Nat.le_refl _) (Nat.le_refl _)

set_option maxHeartbeats 4000000 in
set_option maxRecDepth 100000 in
theorem b_X0_after (hst0 : l.stackTraces = false) {h0 : Nat} (xa xl : Int32) (hvp : ¬ pb_vp xa xl) : vx_Met l yX0_after wsX0_after (pb_RT 7 103) (pb_XE [.ref h0, .int xa, .int xl]) pb_Nl pb_Th 1 6 pb_No := by
  refine pb_ofT RX0 (by decide) rfl rfl (Nat.le_of_ble_eq_true rfl) (fun p e s m args below meth c ls hx hb hml hr hlocks hown hts hex hE hl => ?_)
  have hl : lv_has ls 3 [(0, .ref h0), (1, .int xa), (2, .int xl)] := hl
  refine lv_iload_n hx hb dX0_after_0 rfl (lv_at hl 1 rfl) ?_
  refine lv_iload_n hx hb dX0_after_1 rfl (lv_at hl 2 rfl) ?_
  exact pb_thS (As := [.int xa, .int xl]) (rest := []) ⟨hx, hb, hml, hown, hts⟩ (b_X0_checkPrefix hst0 xa xl hvp) (va_cwS 2 hts gX0_after_X0_checkPrefix rfl rfl rfl (by decide +kernel) ⟨Nat.le_of_ble_eq_true rfl, Nat.le_of_ble_eq_true rfl⟩) hE hex hlocks rfl rfl hl (Nat.le_of_ble_eq_true rfl) dX0_after_2 ⟨Nat.le_of_ble_eq_true rfl, Nat.le_of_ble_eq_true rfl⟩

set_option maxHeartbeats 4000000 in
set_option maxRecDepth 100000 in
theorem b_X0_within (hst0 : l.stackTraces = false) {h0 : Nat} (xa xl : Int32) (hvp : ¬ pb_vp xa xl) : vx_Met l yX0_within wsX0_within (pb_RT 7 103) (pb_XE [.ref h0, .int xa, .int xl]) pb_Ni pb_Th 1 6 pb_No := by
  refine pb_ofT RX0 (by decide) rfl rfl (Nat.le_of_ble_eq_true rfl) (fun p e s m args below meth c ls hx hb hml hr hlocks hown hts hex hE hl => ?_)
  have hl : lv_has ls 7 [(0, .ref h0), (1, .int xa), (2, .int xl)] := hl
  refine lv_iload_n hx hb dX0_within_0 rfl (lv_at hl 1 rfl) ?_
  refine lv_iload_n hx hb dX0_within_1 rfl (lv_at hl 2 rfl) ?_
  exact pb_thS (As := [.int xa, .int xl]) (rest := []) ⟨hx, hb, hml, hown, hts⟩ (b_X0_checkPrefix hst0 xa xl hvp) (va_cwS 2 hts gX0_within_X0_checkPrefix rfl rfl rfl (by decide +kernel) ⟨Nat.le_of_ble_eq_true rfl, Nat.le_of_ble_eq_true rfl⟩) hE hex hlocks rfl rfl hl (Nat.le_of_ble_eq_true rfl) dX0_within_2 ⟨Nat.le_of_ble_eq_true rfl, Nat.le_of_ble_eq_true rfl⟩

end PB14
