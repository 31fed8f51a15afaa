/-! THE LAW'S WRAPPERS: a call that may be refused, its answer in a long[1] (laid by wip/gen/p18.py) -/
section PB15
abbrev pb_wXo (cI cJ : ClassId) (h0 k1 c1 h1 cap : Nat) (Kf : Nat → Int64) (Cf : Nat → Int32) (Hf : Nat → Int64) (n : Int32) (ob : Nat) (Og : Nat → Int64) : va_W := [(h0, .inr (0, [.ref k1, .ref c1, .ref h1, .int n])), (k1, .inl (cJ, cap, .inr (.inl Kf))), (c1, .inl (cI, cap, .inl Cf)), (h1, .inl (cJ, cap, .inr (.inl Hf))), (ob, .inl (cJ, 1, .inr (.inl Og)))]
def pb_BO (D : va_G) (cI cJ : ClassId) (h0 ob : Nat) (T : List pb_Rt) (P : Int64 → Prop) : (Nat → Prop) → State → Prop := fun A t => ∃ (k9 c9 h9 cap9 : Nat) (K9 : Nat → Int64) (C9 : Nat → Int32) (H9 : Nat → Int64) (Og : Nat → Int64), (pb_rX T cap9 K9 C9 H9 ∧ cap9 ≤ 1024) ∧ P (Og 0) ∧ pb_B D (pb_ty cI cJ) (pb_wXo cI cJ h0 k9 c9 h9 cap9 K9 C9 H9 (nI T.length) ob Og) A t
def pb_XDE (av : List Value) (D : va_G) (tys : List (ClassId × FieldType)) (wd : va_W) (sz : Nat) : Array Value → State → Prop := va_Pc av (fun U => (U.heap.size = sz ∧ va_P D vwCl wd U.heap ∧ va_K D vwCl tys U ∧ va_D (fun _ => True) wd) ∧ pb_E U)
theorem pb_XDE_blind {av : List Value} {D : va_G} {tys : List (ClassId × FieldType)} {wd : va_W} {sz : Nat} : FrameBlind (pb_XDE av D tys wd sz) := fun a U g mk q => ⟨q.1, ⟨q.2.1.1, q.2.1.2.1, va_K.moved (u := U) (U := U.calling g mk a) (Vm.Alike.refl U.vm) q.2.1.2.2.1, q.2.1.2.2.2⟩, pb_E_calling q.2.2⟩
theorem pb_XDE_pre {av : List Value} {D : va_G} {tys : List (ClassId × FieldType)} {wd : va_W} {s : State} {H : Heap} {A : Nat → Prop} (hP : va_P D vwCl wd H) (hK : va_K D vwCl tys s) (hD : va_D A wd) (hE : ∀ U : State, U.heap = H → s.WarmedH U.vm → pb_E U) : ∀ U : State, U.heap = H → s.WarmedH U.vm → pb_XDE av D tys wd H.size av.toArray U := fun U hU hW => ⟨rfl, ⟨by rw [hU], by rw [hU]; exact hP, va_K.moved hW.alike hK, hD.weaken (fun _ _ _ _ => trivial)⟩, hE U hU hW⟩
abbrev pb_RW : Room := { frames := 8, cells := 3, slots := 3072, locals := 170 }
abbrev pb_WqE (l : Launch) (y : MethodName) (ws : List Cond) (av : List Value) (D : va_G) (tys : List (ClassId × FieldType)) (wd : va_W) (sz : Nat) (r : Int32) (B : (Nat → Prop) → State → Prop) : Prop := Met l y ws pb_RW (pb_XDE av D tys wd sz) (pb_QB (.returned (some (.int r))) B (pb_A (wd.map Prod.fst) sz)) 3 3072 (pb_A (wd.map Prod.fst) sz)
theorem pb_A_va {wd : va_W} {n q : Nat} : pb_A (wd.map Prod.fst) n q ↔ va_A wd n q := by
  constructor
  · rintro (h | h)
    · obtain ⟨w, hw, rfl⟩ := List.mem_map.mp h
      obtain ⟨k, hk⟩ := List.getElem?_of_mem hw
      exact Or.inl ⟨k, w.2, hk⟩
    · exact Or.inr h
  · rintro (⟨k, e, h⟩ | h)
    · exact Or.inl (List.mem_map.mpr ⟨(q, e), List.mem_of_getElem? h, rfl⟩)
    · exact Or.inr h
theorem pb_A_eq {wd : va_W} {n : Nat} : pb_A (wd.map Prod.fst) n = va_A wd n := funext fun _ => propext pb_A_va
theorem pb_ofWH {l : Launch} {y : MethodName} {ws ws' : List Cond} {rm : Room} {av : List Value} {D : va_G} {tys : List (ClassId × FieldType)} {wd : va_W} {sz mc ms : Nat} {o : Outcome} {B : (Nat → Prop) → State → Prop} {cc : ByteArray} {maxL : Nat} {ret : Option FieldType} {hh : List (Nat × Nat × Nat × Nat)} (own : String) (hy : plainName y.cls = true) (hw : ws = Cond.codeWith y cc maxL ret hh :: ws') (ho : y.cls = own) (hlen : (lg_sl av).length ≤ maxL)
    (body : ∀ (p : Program) (e : Env) (s : State) (m : MethodId) (args : Array Value) (below : List Frame) (meth : Method) (c : Code) (ls : Array Slot) (A : Nat → Prop), p.tables.exec = Jvm.exec → c.code = cc → c.maxLocals = maxL → meth.sig.returnType = ret → meth.locks = false → s.vm.findClass own = some m.cls → (∀ w ∈ ws, w.before args s = true) → c.exceptionTable.toList = tableOf hh → va_P D vwCl wd s.heap → va_K D vwCl tys s → va_D A wd → va_S A s.heap s.heap [] → (∀ q : Nat, s.heap.size ≤ q → A q) → pb_E s → lv_has ls maxL (lv_args 0 av) →
      W p l e rm s m args below meth c s.heap [] 0 0 (MQ below (pb_QB o B A) args s mc ms A) (F0 m 0 ls [])) : Met l y ws rm (pb_XDE av D tys wd sz) (pb_QB o B (pb_A (wd.map Prod.fst) sz)) mc ms (pb_A (wd.map Prod.fst) sz) := by
  refine va_MetW (cc := cc) (maxL := maxL) (ret := ret) (hh := hh) hy hw ?_
  intro p e s m args below meth c s₁ Bd hml hv
  obtain ⟨rfl, ⟨hsz, hP, hK, hD0⟩, hE⟩ := hv
  subst hsz
  rw [lg_entry_eq]
  have hws := atoms_spec (ws := ws) Bd.pre
  exact body p e s m _ below meth c _ _ Bd.exec Bd.bytes hml Bd.returns Bd.notSynchronized (by rw [← ho]; exact findClass_of_methodNamed Bd.named) hws (vx_table (x := y) Bd (hws _ (by rw [hw]; exact List.mem_cons_self))) hP hK (hD0.weaken (fun k q hk _ => Or.inl (List.mem_map.mpr ⟨q, List.mem_of_getElem? hk, rfl⟩))) va_S.rf (fun q h => Or.inr h) hE (lv_entry av hlen)
section
variable {p : Program} {l : Launch} {e : Env} {R : Room} {s : State} {m : MethodId} {args : Array Value} {below : List Frame} {meth : Method} {c : Code} {H : Heap} {locs : List Loc} {cells slots mc ms : Nat} {Q : State → Prop}
variable {pc : Nat} {ls : Array Slot} {rest st0 : List Value} {cc bytes : ByteArray} {nL maxL index n : Nat} {own C : String} {y : MethodName} {ret : Option FieldType} {ws Ts : List Cond} {rm : Room} {av As : List Value} {b : Addr} {v : Option Value} {D : va_G} {tys : List (ClassId × FieldType)} {wd wc wr : va_W} {lv : List (Nat × Value)} {A : Nat → Prop} {B : (Nat → Prop) → State → Prop}
/-- a call of a method that writes, over a part of the world -/
theorem pb_callWj (S : CallFix p m c cc nL s args Ts own) (hM : Met l y ws rm (pb_XD (.ref b :: As) D tys wc H.size) (pb_QB (.returned v) B (pb_A (wc.map Prod.fst) H.size)) mc ms (pb_A (wc.map Prod.fst) H.size)) (cw : CallW R s args own C index y bytes maxL ret ws rm mc ms n) (hP : va_P D vwCl wd H) (hK : va_K D vwCl tys s) (hD : va_D A wd) (hS : va_S A s.heap H locs) (hA : ∀ q : Nat, s.heap.size ≤ q → A q)
    (isC isR : List Nat) (hCs : isC.filterMap (fun i => wd[i]?) = wc) (hC : isC.map (fun i => wd[i]?) = wc.map some) (hR : isR.map (fun i => wd[i]?) = wr.map some) (hnC : va_nd isC = true) (hn9 : va_nd isR = true) (hdis : ∀ i ∈ isR, i ∉ isC)
    (hr : ∃ cellB : Cell, H[b]? = some cellB ∧ cellB.vm.isStatics = false ∧ s.vm.findClass C = some cellB.cls) (hst : st0 = As.reverse ++ .ref b :: rest) (hn : As.length = n) (hl : lv_has ls nL lv) (hW : (rest.map fun v => v.category).sum ≤ 8) (hdg : decode cc pc = .ok (.invokevirtual index, 3)) (hf : cells + mc ≤ R.cells ∧ slots + ms ≤ R.slots)
    (kk : ∀ (t : State) (H1 : Heap) (locs1 : List Loc), B (pb_A (wc.map Prod.fst) H.size) t → (∀ w1 : va_W, pb_B D tys w1 (pb_A (wc.map Prod.fst) H.size) t → va_P D vwCl (wr ++ w1) H1 ∧ va_D A (wr ++ w1)) → va_S A s.heap H1 locs1 → W p l e R s m args below meth c H1 locs1 (cells + mc) (slots + ms) Q (F0 m (pc + 3) ls (v.toList ++ rest))) : W p l e R s m args below meth c H locs cells slots Q (F0 m pc ls st0) := by
  intro T hT X
  obtain ⟨v9, st₀, t, T', L, h0, X', hL, e1, e2, ⟨hv, hB, hz, hk⟩, st⟩ := va_runV (g := F0 m pc ls st0) S hM cw ⟨pb_XD_blind, hr, pb_XD_pre (hP.sub isC hCs) hK (hD.sub isC hnC hC)⟩ rfl hn hl.1 hst (lv_room hW) hdg hf T hT X
  cases hv
  have hsub := pb_sub (hD.sub isC hnC hC) hS hA
  rw [h0] at hz hk
  rw [pb_A_eq] at hk
  obtain ⟨t2, a1, b1⟩ := kk t T'.heap (locs ++ L) hB (fun w1 h1 => by
    rw [pb_A_eq] at h1 hsub
    obtain ⟨q1, q2, q3⟩ := h1
    rw [← e1] at q1
    exact va_join hP hD isC isR hC hR hn9 hdis (fun q h h2 => by rw [e1]; exact hk q h h2) hsub q1 q3) ⟨Nat.le_trans hS.1 (by rw [e1]; exact hz), fun q h1 h2 => by rw [e1, hk q (Nat.lt_of_lt_of_le h1 hS.1) (fun z => h2 (hsub q (pb_A_va.mpr z)))]; exact hS.2.1 q h1 h2, fun q hq => by
    rcases List.mem_append.mp hq with h | h
    · exact hS.2.2 q h
    · exact hsub _ (hL q h)⟩ T' rfl X'
  exact ⟨t2, st t2 a1, b1⟩
/-- .. of a static method with a table of its own -/
theorem pb_callSj {r : Int32} {hh : List (Nat × Nat × Nat × Nat)} (S : CallFix p m c cc nL s args Ts own) (hM : pb_WqE l y ws As D tys wc H.size r B) (cw : vx_CSW R s args own index y bytes maxL ret hh ws pb_RW 3 3072 n) (hP : va_P D vwCl wd H) (hK : va_K D vwCl tys s) (hE : ∀ U : State, U.heap = H → s.WarmedH U.vm → pb_E U) (hD : va_D A wd) (hS : va_S A s.heap H locs) (hA : ∀ q : Nat, s.heap.size ≤ q → A q)
    (isC isR : List Nat) (hCs : isC.filterMap (fun i => wd[i]?) = wc) (hC : isC.map (fun i => wd[i]?) = wc.map some) (hR : isR.map (fun i => wd[i]?) = wr.map some) (hnC : va_nd isC = true) (hn9 : va_nd isR = true) (hdis : ∀ i ∈ isR, i ∉ isC)
    (hst : st0 = As.reverse ++ rest) (hn : As.length = n) (hl : lv_has ls nL lv) (hW : (rest.map fun v => v.category).sum ≤ 8) (hdg : decode cc pc = .ok (.invokestatic index, 3)) (hf : cells + 3 ≤ R.cells ∧ slots + 3072 ≤ R.slots)
    (kk : ∀ (t : State) (H1 : Heap) (locs1 : List Loc), B (pb_A (wc.map Prod.fst) H.size) t → (∀ w1 : va_W, pb_B D tys w1 (pb_A (wc.map Prod.fst) H.size) t → va_P D vwCl (wr ++ w1) H1 ∧ va_D A (wr ++ w1)) → va_S A s.heap H1 locs1 → W p l e R s m args below meth c H1 locs1 (cells + 3) (slots + 3072) Q (F0 m (pc + 3) ls (.int r :: rest))) : W p l e R s m args below meth c H locs cells slots Q (F0 m pc ls st0) := by
  intro T hT X
  obtain ⟨v9, st₀, t, T', L, h0, X', hL, e1, e2, ⟨hv, hB, hz, hk⟩, st⟩ := vx_runSW (g := F0 m pc ls st0) S hM cw ⟨pb_XDE_blind, pb_XDE_pre (hP.sub isC hCs) hK (hD.sub isC hnC hC) hE⟩ rfl hn hl.1 hst (lv_room hW) hdg hf T hT X
  cases hv
  have hsub := pb_sub (hD.sub isC hnC hC) hS hA
  rw [h0] at hz hk
  rw [pb_A_eq] at hk
  obtain ⟨t2, a1, b1⟩ := kk t T'.heap (locs ++ L) hB (fun w1 h1 => by
    rw [pb_A_eq] at h1 hsub
    obtain ⟨q1, q2, q3⟩ := h1
    rw [← e1] at q1
    exact va_join hP hD isC isR hC hR hn9 hdis (fun q h h2 => by rw [e1]; exact hk q h h2) hsub q1 q3) ⟨Nat.le_trans hS.1 (by rw [e1]; exact hz), fun q h1 h2 => by rw [e1, hk q (Nat.lt_of_lt_of_le h1 hS.1) (fun z => h2 (hsub q (pb_A_va.mpr z)))]; exact hS.2.1 q h1 h2, fun q hq => by
    rcases List.mem_append.mp hq with h | h
    · exact hS.2.2 q h
    · exact hsub _ (hL q h)⟩ T' rfl X'
  exact ⟨t2, st t2 a1, b1⟩
end
theorem pb_castw : Cond.castable "java/lang/IllegalArgumentException" "java/lang/IllegalArgumentException" ∈ pb_ngl := by decide +kernel
variable {l : Launch} {D : va_G} {cI cJ : ClassId} {h0 k1 c1 h1 cap ob sz : Nat} {Kf Hf Og : Nat → Int64} {Cf : Nat → Int32}
set_option maxHeartbeats 4000000 in
set_option maxRecDepth 100000 in
theorem w_put_g {T' : List pb_Rt} {n : Int32} {v : Int32} (xa : Int32) (xl : Int32) (xo : Int32) (xc : Int32) (hz : Int64) (hX : ∀ sz, pb_Wq l yX0_put wsX0_put 4 3 3072 125 [.ref h0, .int xa, .int xl, .int xo, .int xc, .long hz] D (pb_ty cI cJ) (pb_wX cI cJ h0 k1 c1 h1 cap Kf Cf Hf n) sz (some (.int v)) (pb_BX D cI cJ h0 T')) : pb_WqE l yL_put wsL_put [.ref h0, .int xa, .int xl, .int xo, .int xc, .long hz, .ref ob] D (pb_ty cI cJ) (pb_wXo cI cJ h0 k1 c1 h1 cap Kf Cf Hf n ob Og) sz 0 (pb_BO D cI cJ h0 ob T' (fun z => z = v.toInt64)) := by
  refine pb_ofWH RL (by decide) rfl rfl (Nat.le_of_ble_eq_true rfl) (fun p e s m args below meth c ls A hx hb hml hr hlocks hown hts htab hP hK hD hS hA hE hl => ?_)
  have hl : lv_has ls 9 [(0, .ref h0), (1, .int xa), (2, .int xl), (3, .int xo), (4, .int xc), (5, .long hz), (7, .ref ob)] := hl
  refine lv_aload hx hb dL_put_0 (lv_at hl 6 rfl) ?_
  refine lv_iconst (v := 0) hx hb dL_put_2 (by decide) ?_
  refine lv_aload_n hx hb dL_put_3 rfl (lv_at hl 0 rfl) ?_
  refine lv_iload_n hx hb dL_put_4 rfl (lv_at hl 1 rfl) ?_
  refine lv_iload_n hx hb dL_put_5 rfl (lv_at hl 2 rfl) ?_
  refine lv_iload_n hx hb dL_put_6 rfl (lv_at hl 3 rfl) ?_
  refine lv_iload hx hb dL_put_7 (lv_at hl 4 rfl) ?_
  refine lv_lload hx hb dL_put_9 (lv_at hl 5 rfl) ?_
  refine pb_callWj (As := [.int xa, .int xl, .int xo, .int xc, .long hz]) (rest := [.int 0, .ref ob]) (wr := [(ob, .inl (cJ, 1, .inr (.inl Og)))]) ⟨hx, hb, hml, hown, hts⟩ (hX _) (cwV 5 hts gL_put_X0_put rfl rfl rfl (by decide +kernel) ⟨Nat.le_of_ble_eq_true rfl, Nat.le_of_ble_eq_true rfl⟩) hP hK hD hS hA [0, 1, 2, 3] [4] rfl rfl rfl (by decide) (by decide) (by decide) (va_recv hK hP (ci := 0) (q0 := 0) rfl rfl) rfl rfl hl (Nat.le_of_ble_eq_true rfl) dL_put_11 ⟨Nat.le_of_ble_eq_true rfl, Nat.le_of_ble_eq_true rfl⟩ (fun t9 H locs hB hj hS => ?_)
  obtain ⟨k9, c9, h9, cap9, K9, C9, H9, hR9, hB9⟩ := hB
  obtain ⟨hP, hD⟩ := hj _ hB9
  have hP := hP.sub (ws' := (pb_wXo cI cJ h0 k9 c9 h9 cap9 K9 C9 H9 (nI T'.length) ob Og)) [1, 2, 3, 4, 0] rfl
  have hD := hD.sub (ws' := (pb_wXo cI cJ h0 k9 c9 h9 cap9 K9 C9 H9 (nI T'.length) ob Og)) [1, 2, 3, 4, 0] (by decide) rfl
  refine lv_i2l hx hb dL_put_14 rfl ?_
  refine pb_last hx hb hK hP hD hS 4 0 rfl rfl 0 (rfl) (by decide) dL_put_15 (fun H locs hP hD hS => ?_)
  have hP : va_P D vwCl (pb_wXo cI cJ h0 k9 c9 h9 cap9 K9 C9 H9 (nI T'.length) ob (va_up Og 0 ((v : Int32).toInt64))) H := hP
  have hD : va_D A (pb_wXo cI cJ h0 k9 c9 h9 cap9 K9 C9 H9 (nI T'.length) ob (va_up Og 0 ((v : Int32).toInt64))) := hD
  refine lv_goto (tgt := 27) hx hb dL_put_16 (by decide) ?_
  refine lv_iconst (v := 0) hx hb dL_put_27 (by decide) ?_
  refine W.widen (k := 3) (n := 3072) (Nat.le_of_ble_eq_true rfl) (Nat.le_of_ble_eq_true rfl) ?_
  exact pb_wi hx hb hr hlocks hS dL_put_28 (rfl) (fun t ht hW => ⟨_, _, _, _, _, _, _, _, hR9, va_up_self _ _ _, pb_B_of hP hK hD t ht hW⟩)

set_option maxHeartbeats 4000000 in
set_option maxRecDepth 100000 in
theorem w_put_b (hst0 : l.stackTraces = false) {T : List pb_Rt} (xa : Int32) (xl : Int32) (xo : Int32) (xc : Int32) (hz : Int64) (hR9 : pb_rX T cap Kf Cf Hf ∧ cap ≤ 1024) (hbad : ¬ (pb_vp xa xl ∧ pb_vi xo 8 ∧ pb_vi xc 65536 ∧ hz ≠ 0)) : pb_WqE l yL_put wsL_put [.ref h0, .int xa, .int xl, .int xo, .int xc, .long hz, .ref ob] D (pb_ty cI cJ) (pb_wXo cI cJ h0 k1 c1 h1 cap Kf Cf Hf (nI T.length) ob Og) sz 1 (pb_BO D cI cJ h0 ob T (fun _ => True)) := by
  refine pb_ofWH RL (by decide) rfl rfl (Nat.le_of_ble_eq_true rfl) (fun p e s m args below meth c ls A hx hb hml hr hlocks hown hts htab hP hK hD hS hA hE hl => ?_)
  have hl : lv_has ls 9 [(0, .ref h0), (1, .int xa), (2, .int xl), (3, .int xo), (4, .int xc), (5, .long hz), (7, .ref ob)] := hl
  refine lv_aload hx hb dL_put_0 (lv_at hl 6 rfl) ?_
  refine lv_iconst (v := 0) hx hb dL_put_2 (by decide) ?_
  refine lv_aload_n hx hb dL_put_3 rfl (lv_at hl 0 rfl) ?_
  refine lv_iload_n hx hb dL_put_4 rfl (lv_at hl 1 rfl) ?_
  refine lv_iload_n hx hb dL_put_5 rfl (lv_at hl 2 rfl) ?_
  refine lv_iload_n hx hb dL_put_6 rfl (lv_at hl 3 rfl) ?_
  refine lv_iload hx hb dL_put_7 (lv_at hl 4 rfl) ?_
  refine lv_lload hx hb dL_put_9 (lv_at hl 5 rfl) ?_
  refine vx_calli (vx_runV (g := F0 m 11 ls [.long hz, .int xc, .int xo, .int xl, .int xa, .ref h0, .int 0, .ref ob]) (As := [.int xa, .int xl, .int xo, .int xc, .long hz]) (rest := [.int 0, .ref ob]) ⟨hx, hb, hml, hown, hts⟩ (b_X0_put hst0 xa xl xo xc hz hbad) (cwV 5 hts gL_put_X0_put rfl rfl rfl (by decide +kernel) ⟨Nat.le_of_ble_eq_true rfl, Nat.le_of_ble_eq_true rfl⟩) ⟨pb_XE_blind, (va_recv hK hP (ci := 0) (q0 := 0) rfl rfl), pb_XE_pre hE⟩ rfl rfl hl.1 rfl (lv_room (Nat.le_of_ble_eq_true rfl)) dL_put_11 ⟨Nat.le_of_ble_eq_true rfl, Nat.le_of_ble_eq_true rfl⟩) (A0 := A) hS (fun q _ h => h.elim) (fun q h => h.elim) (fun q _ h => h.elim) (fun E ce q9 u t H locs ht hvm hpx hBX hz9 hk hS hce hcv hcl => ?_) (fun r u t H1 locs1 ht hvm hpost => hpost.elim)
  have hP : va_P D vwCl (pb_wXo cI cJ h0 k1 c1 h1 cap Kf Cf Hf (nI T.length) ob Og) H := hP.kept (fun k x hx => hk x.1 (vx_lt hP hx) (fun h => h))
  obtain rfl : E = "java/lang/IllegalArgumentException" := hBX
  refine vx_catch (own := RL) (name := "java/lang/IllegalArgumentException") hown [] ⟨0, 16, 19, 13⟩ [⟨0, 16, 23, 15⟩] htab (fun z hz => nomatch hz) (by decide) (by decide) (hts (.classLink RL 13 "java/lang/IllegalArgumentException") (by decide +kernel)) (hE.2.2.2 args _ pb_castw) hce hcv hcl ?_
  refine lv_astore (lv' := [(8, .ref q9), (0, .ref h0), (1, .int xa), (2, .int xl), (3, .int xo), (4, .int xc), (5, .long hz), (7, .ref ob)]) hx hb dL_put_19 hl (by decide) rfl (fun ls hl => ?_)
  refine lv_iconst (v := 1) hx hb dL_put_21 (by decide) ?_
  refine W.widen (k := 3) (n := 3072) (Nat.le_of_ble_eq_true rfl) (Nat.le_of_ble_eq_true rfl) ?_
  exact pb_wi hx hb hr hlocks hS dL_put_22 (rfl) (fun t ht hW => ⟨_, _, _, _, _, _, _, _, hR9, trivial, pb_B_of hP hK hD t ht hW⟩)

set_option maxHeartbeats 4000000 in
set_option maxRecDepth 100000 in
theorem w_take_g {T' : List pb_Rt} {n : Int32} {v : Int32} (xa : Int32) (xl : Int32) (xo : Int32) (hX : ∀ sz, pb_Wq l yX0_take wsX0_take 4 0 0 94 [.ref h0, .int xa, .int xl, .int xo] D (pb_ty cI cJ) (pb_wX cI cJ h0 k1 c1 h1 cap Kf Cf Hf n) sz (some (.int v)) (pb_BX D cI cJ h0 T')) : pb_WqE l yL_take wsL_take [.ref h0, .int xa, .int xl, .int xo, .ref ob] D (pb_ty cI cJ) (pb_wXo cI cJ h0 k1 c1 h1 cap Kf Cf Hf n ob Og) sz 0 (pb_BO D cI cJ h0 ob T' (fun z => z = if v = 0 then 0 else 1)) := by
  refine pb_ofWH RL (by decide) rfl rfl (Nat.le_of_ble_eq_true rfl) (fun p e s m args below meth c ls A hx hb hml hr hlocks hown hts htab hP hK hD hS hA hE hl => ?_)
  have hl : lv_has ls 6 [(0, .ref h0), (1, .int xa), (2, .int xl), (3, .int xo), (4, .ref ob)] := hl
  refine lv_aload hx hb dL_take_0 (lv_at hl 4 rfl) ?_
  refine lv_iconst (v := 0) hx hb dL_take_2 (by decide) ?_
  refine lv_aload_n hx hb dL_take_3 rfl (lv_at hl 0 rfl) ?_
  refine lv_iload_n hx hb dL_take_4 rfl (lv_at hl 1 rfl) ?_
  refine lv_iload_n hx hb dL_take_5 rfl (lv_at hl 2 rfl) ?_
  refine lv_iload_n hx hb dL_take_6 rfl (lv_at hl 3 rfl) ?_
  refine pb_callWj (As := [.int xa, .int xl, .int xo]) (rest := [.int 0, .ref ob]) (wr := [(ob, .inl (cJ, 1, .inr (.inl Og)))]) ⟨hx, hb, hml, hown, hts⟩ (hX _) (cwV 3 hts gL_take_X0_take rfl rfl rfl (by decide +kernel) ⟨Nat.le_of_ble_eq_true rfl, Nat.le_of_ble_eq_true rfl⟩) hP hK hD hS hA [0, 1, 2, 3] [4] rfl rfl rfl (by decide) (by decide) (by decide) (va_recv hK hP (ci := 0) (q0 := 0) rfl rfl) rfl rfl hl (Nat.le_of_ble_eq_true rfl) dL_take_7 ⟨Nat.le_of_ble_eq_true rfl, Nat.le_of_ble_eq_true rfl⟩ (fun t9 H locs hB hj hS => ?_)
  obtain ⟨k9, c9, h9, cap9, K9, C9, H9, hR9, hB9⟩ := hB
  obtain ⟨hP, hD⟩ := hj _ hB9
  have hP := hP.sub (ws' := (pb_wXo cI cJ h0 k9 c9 h9 cap9 K9 C9 H9 (nI T'.length) ob Og)) [1, 2, 3, 4, 0] rfl
  have hD := hD.sub (ws' := (pb_wXo cI cJ h0 k9 c9 h9 cap9 K9 C9 H9 (nI T'.length) ob Og)) [1, 2, 3, 4, 0] (by decide) rfl
  refine lv_if_eq (tgt := 17) hx hb dL_take_10 (by decide) (fun q10 => ?_) (fun q10 => ?_)
  · refine lv_lconst (v := 0) hx hb dL_take_17 (by decide) ?_
    refine pb_last hx hb hK hP hD hS 4 0 rfl rfl 0 (rfl) (by decide) dL_take_18 (fun H locs hP hD hS => ?_)
    have hP : va_P D vwCl (pb_wXo cI cJ h0 k9 c9 h9 cap9 K9 C9 H9 (nI T'.length) ob (va_up Og 0 0)) H := hP
    have hD : va_D A (pb_wXo cI cJ h0 k9 c9 h9 cap9 K9 C9 H9 (nI T'.length) ob (va_up Og 0 0)) := hD
    refine lv_goto (tgt := 26) hx hb dL_take_19 (by decide) ?_
    refine lv_iconst (v := 0) hx hb dL_take_26 (by decide) ?_
    refine W.widen (k := 3) (n := 3072) (Nat.le_of_ble_eq_true rfl) (Nat.le_of_ble_eq_true rfl) ?_
    exact pb_wi hx hb hr hlocks hS dL_take_27 (rfl) (fun t ht hW => ⟨_, _, _, _, _, _, _, _, hR9, by rw [va_up_self]; simp [q10], pb_B_of hP hK hD t ht hW⟩)
  · refine lv_lconst (v := 1) hx hb dL_take_13 (by decide) ?_
    refine lv_goto (tgt := 18) hx hb dL_take_14 (by decide) ?_
    refine pb_last hx hb hK hP hD hS 4 0 rfl rfl 0 (rfl) (by decide) dL_take_18 (fun H locs hP hD hS => ?_)
    have hP : va_P D vwCl (pb_wXo cI cJ h0 k9 c9 h9 cap9 K9 C9 H9 (nI T'.length) ob (va_up Og 0 1)) H := hP
    have hD : va_D A (pb_wXo cI cJ h0 k9 c9 h9 cap9 K9 C9 H9 (nI T'.length) ob (va_up Og 0 1)) := hD
    refine lv_goto (tgt := 26) hx hb dL_take_19 (by decide) ?_
    refine lv_iconst (v := 0) hx hb dL_take_26 (by decide) ?_
    refine W.widen (k := 3) (n := 3072) (Nat.le_of_ble_eq_true rfl) (Nat.le_of_ble_eq_true rfl) ?_
    exact pb_wi hx hb hr hlocks hS dL_take_27 (rfl) (fun t ht hW => ⟨_, _, _, _, _, _, _, _, hR9, by rw [va_up_self]; simp [q10], pb_B_of hP hK hD t ht hW⟩)

set_option maxHeartbeats 4000000 in
set_option maxRecDepth 100000 in
theorem w_take_b (hst0 : l.stackTraces = false) {T : List pb_Rt} (xa : Int32) (xl : Int32) (xo : Int32) (hR9 : pb_rX T cap Kf Cf Hf ∧ cap ≤ 1024) (hbad : ¬ (pb_vp xa xl ∧ pb_vi xo 8)) : pb_WqE l yL_take wsL_take [.ref h0, .int xa, .int xl, .int xo, .ref ob] D (pb_ty cI cJ) (pb_wXo cI cJ h0 k1 c1 h1 cap Kf Cf Hf (nI T.length) ob Og) sz 1 (pb_BO D cI cJ h0 ob T (fun _ => True)) := by
  refine pb_ofWH RL (by decide) rfl rfl (Nat.le_of_ble_eq_true rfl) (fun p e s m args below meth c ls A hx hb hml hr hlocks hown hts htab hP hK hD hS hA hE hl => ?_)
  have hl : lv_has ls 6 [(0, .ref h0), (1, .int xa), (2, .int xl), (3, .int xo), (4, .ref ob)] := hl
  refine lv_aload hx hb dL_take_0 (lv_at hl 4 rfl) ?_
  refine lv_iconst (v := 0) hx hb dL_take_2 (by decide) ?_
  refine lv_aload_n hx hb dL_take_3 rfl (lv_at hl 0 rfl) ?_
  refine lv_iload_n hx hb dL_take_4 rfl (lv_at hl 1 rfl) ?_
  refine lv_iload_n hx hb dL_take_5 rfl (lv_at hl 2 rfl) ?_
  refine lv_iload_n hx hb dL_take_6 rfl (lv_at hl 3 rfl) ?_
  refine vx_calli (vx_runV (g := F0 m 7 ls [.int xo, .int xl, .int xa, .ref h0, .int 0, .ref ob]) (As := [.int xa, .int xl, .int xo]) (rest := [.int 0, .ref ob]) ⟨hx, hb, hml, hown, hts⟩ (b_X0_take hst0 xa xl xo hbad) (cwV 3 hts gL_take_X0_take rfl rfl rfl (by decide +kernel) ⟨Nat.le_of_ble_eq_true rfl, Nat.le_of_ble_eq_true rfl⟩) ⟨pb_XE_blind, (va_recv hK hP (ci := 0) (q0 := 0) rfl rfl), pb_XE_pre hE⟩ rfl rfl hl.1 rfl (lv_room (Nat.le_of_ble_eq_true rfl)) dL_take_7 ⟨Nat.le_of_ble_eq_true rfl, Nat.le_of_ble_eq_true rfl⟩) (A0 := A) hS (fun q _ h => h.elim) (fun q h => h.elim) (fun q _ h => h.elim) (fun E ce q9 u t H locs ht hvm hpx hBX hz9 hk hS hce hcv hcl => ?_) (fun r u t H1 locs1 ht hvm hpost => hpost.elim)
  have hP : va_P D vwCl (pb_wXo cI cJ h0 k1 c1 h1 cap Kf Cf Hf (nI T.length) ob Og) H := hP.kept (fun k x hx => hk x.1 (vx_lt hP hx) (fun h => h))
  obtain rfl : E = "java/lang/IllegalArgumentException" := hBX
  refine vx_catch (own := RL) (name := "java/lang/IllegalArgumentException") hown [] ⟨0, 19, 22, 13⟩ [] htab (fun z hz => nomatch hz) (by decide) (by decide) (hts (.classLink RL 13 "java/lang/IllegalArgumentException") (by decide +kernel)) (hE.2.2.2 args _ pb_castw) hce hcv hcl ?_
  refine lv_astore (lv' := [(5, .ref q9), (0, .ref h0), (1, .int xa), (2, .int xl), (3, .int xo), (4, .ref ob)]) hx hb dL_take_22 hl (by decide) rfl (fun ls hl => ?_)
  refine lv_iconst (v := 1) hx hb dL_take_24 (by decide) ?_
  refine W.widen (k := 3) (n := 3072) (Nat.le_of_ble_eq_true rfl) (Nat.le_of_ble_eq_true rfl) ?_
  exact pb_wi hx hb hr hlocks hS dL_take_25 (rfl) (fun t ht hW => ⟨_, _, _, _, _, _, _, _, hR9, trivial, pb_B_of hP hK hD t ht hW⟩)

set_option maxHeartbeats 4000000 in
set_option maxRecDepth 100000 in
theorem w_drop_g {T' : List pb_Rt} {n : Int32} {v : Int32} (xo : Int32) (hX : ∀ sz, pb_Wq l yX0_drop wsX0_drop 3 0 0 69 [.ref h0, .int xo] D (pb_ty cI cJ) (pb_wX cI cJ h0 k1 c1 h1 cap Kf Cf Hf n) sz (some (.int v)) (pb_BX D cI cJ h0 T')) : pb_WqE l yL_drop wsL_drop [.ref h0, .int xo, .ref ob] D (pb_ty cI cJ) (pb_wXo cI cJ h0 k1 c1 h1 cap Kf Cf Hf n ob Og) sz 0 (pb_BO D cI cJ h0 ob T' (fun z => z = v.toInt64)) := by
  refine pb_ofWH RL (by decide) rfl rfl (Nat.le_of_ble_eq_true rfl) (fun p e s m args below meth c ls A hx hb hml hr hlocks hown hts htab hP hK hD hS hA hE hl => ?_)
  have hl : lv_has ls 4 [(0, .ref h0), (1, .int xo), (2, .ref ob)] := hl
  refine lv_aload_n hx hb dL_drop_0 rfl (lv_at hl 2 rfl) ?_
  refine lv_iconst (v := 0) hx hb dL_drop_1 (by decide) ?_
  refine lv_aload_n hx hb dL_drop_2 rfl (lv_at hl 0 rfl) ?_
  refine lv_iload_n hx hb dL_drop_3 rfl (lv_at hl 1 rfl) ?_
  refine pb_callWj (As := [.int xo]) (rest := [.int 0, .ref ob]) (wr := [(ob, .inl (cJ, 1, .inr (.inl Og)))]) ⟨hx, hb, hml, hown, hts⟩ (hX _) (cwV 1 hts gL_drop_X0_drop rfl rfl rfl (by decide +kernel) ⟨Nat.le_of_ble_eq_true rfl, Nat.le_of_ble_eq_true rfl⟩) hP hK hD hS hA [0, 1, 2, 3] [4] rfl rfl rfl (by decide) (by decide) (by decide) (va_recv hK hP (ci := 0) (q0 := 0) rfl rfl) rfl rfl hl (Nat.le_of_ble_eq_true rfl) dL_drop_4 ⟨Nat.le_of_ble_eq_true rfl, Nat.le_of_ble_eq_true rfl⟩ (fun t9 H locs hB hj hS => ?_)
  obtain ⟨k9, c9, h9, cap9, K9, C9, H9, hR9, hB9⟩ := hB
  obtain ⟨hP, hD⟩ := hj _ hB9
  have hP := hP.sub (ws' := (pb_wXo cI cJ h0 k9 c9 h9 cap9 K9 C9 H9 (nI T'.length) ob Og)) [1, 2, 3, 4, 0] rfl
  have hD := hD.sub (ws' := (pb_wXo cI cJ h0 k9 c9 h9 cap9 K9 C9 H9 (nI T'.length) ob Og)) [1, 2, 3, 4, 0] (by decide) rfl
  refine lv_i2l hx hb dL_drop_7 rfl ?_
  refine pb_last hx hb hK hP hD hS 4 0 rfl rfl 0 (rfl) (by decide) dL_drop_8 (fun H locs hP hD hS => ?_)
  have hP : va_P D vwCl (pb_wXo cI cJ h0 k9 c9 h9 cap9 K9 C9 H9 (nI T'.length) ob (va_up Og 0 ((v : Int32).toInt64))) H := hP
  have hD : va_D A (pb_wXo cI cJ h0 k9 c9 h9 cap9 K9 C9 H9 (nI T'.length) ob (va_up Og 0 ((v : Int32).toInt64))) := hD
  refine lv_goto (tgt := 15) hx hb dL_drop_9 (by decide) ?_
  refine lv_iconst (v := 0) hx hb dL_drop_15 (by decide) ?_
  refine W.widen (k := 3) (n := 3072) (Nat.le_of_ble_eq_true rfl) (Nat.le_of_ble_eq_true rfl) ?_
  exact pb_wi hx hb hr hlocks hS dL_drop_16 (rfl) (fun t ht hW => ⟨_, _, _, _, _, _, _, _, hR9, va_up_self _ _ _, pb_B_of hP hK hD t ht hW⟩)

set_option maxHeartbeats 4000000 in
set_option maxRecDepth 100000 in
theorem w_drop_b (hst0 : l.stackTraces = false) {T : List pb_Rt} (xo : Int32) (hR9 : pb_rX T cap Kf Cf Hf ∧ cap ≤ 1024) (hbad : ¬ pb_vi xo 8) : pb_WqE l yL_drop wsL_drop [.ref h0, .int xo, .ref ob] D (pb_ty cI cJ) (pb_wXo cI cJ h0 k1 c1 h1 cap Kf Cf Hf (nI T.length) ob Og) sz 1 (pb_BO D cI cJ h0 ob T (fun _ => True)) := by
  refine pb_ofWH RL (by decide) rfl rfl (Nat.le_of_ble_eq_true rfl) (fun p e s m args below meth c ls A hx hb hml hr hlocks hown hts htab hP hK hD hS hA hE hl => ?_)
  have hl : lv_has ls 4 [(0, .ref h0), (1, .int xo), (2, .ref ob)] := hl
  refine lv_aload_n hx hb dL_drop_0 rfl (lv_at hl 2 rfl) ?_
  refine lv_iconst (v := 0) hx hb dL_drop_1 (by decide) ?_
  refine lv_aload_n hx hb dL_drop_2 rfl (lv_at hl 0 rfl) ?_
  refine lv_iload_n hx hb dL_drop_3 rfl (lv_at hl 1 rfl) ?_
  refine vx_calli (vx_runV (g := F0 m 4 ls [.int xo, .ref h0, .int 0, .ref ob]) (As := [.int xo]) (rest := [.int 0, .ref ob]) ⟨hx, hb, hml, hown, hts⟩ (b_X0_drop hst0 xo hbad) (cwV 1 hts gL_drop_X0_drop rfl rfl rfl (by decide +kernel) ⟨Nat.le_of_ble_eq_true rfl, Nat.le_of_ble_eq_true rfl⟩) ⟨pb_XE_blind, (va_recv hK hP (ci := 0) (q0 := 0) rfl rfl), pb_XE_pre hE⟩ rfl rfl hl.1 rfl (lv_room (Nat.le_of_ble_eq_true rfl)) dL_drop_4 ⟨Nat.le_of_ble_eq_true rfl, Nat.le_of_ble_eq_true rfl⟩) (A0 := A) hS (fun q _ h => h.elim) (fun q h => h.elim) (fun q _ h => h.elim) (fun E ce q9 u t H locs ht hvm hpx hBX hz9 hk hS hce hcv hcl => ?_) (fun r u t H1 locs1 ht hvm hpost => hpost.elim)
  have hP : va_P D vwCl (pb_wXo cI cJ h0 k1 c1 h1 cap Kf Cf Hf (nI T.length) ob Og) H := hP.kept (fun k x hx => hk x.1 (vx_lt hP hx) (fun h => h))
  obtain rfl : E = "java/lang/IllegalArgumentException" := hBX
  refine vx_catch (own := RL) (name := "java/lang/IllegalArgumentException") hown [] ⟨0, 9, 12, 13⟩ [] htab (fun z hz => nomatch hz) (by decide) (by decide) (hts (.classLink RL 13 "java/lang/IllegalArgumentException") (by decide +kernel)) (hE.2.2.2 args _ pb_castw) hce hcv hcl ?_
  refine lv_astore_n (lv' := [(3, .ref q9), (0, .ref h0), (1, .int xo), (2, .ref ob)]) hx hb dL_drop_12 rfl hl (by decide) rfl (fun ls hl => ?_)
  refine lv_iconst (v := 1) hx hb dL_drop_13 (by decide) ?_
  refine W.widen (k := 3) (n := 3072) (Nat.le_of_ble_eq_true rfl) (Nat.le_of_ble_eq_true rfl) ?_
  exact pb_wi hx hb hr hlocks hS dL_drop_14 (rfl) (fun t ht hW => ⟨_, _, _, _, _, _, _, _, hR9, trivial, pb_B_of hP hK hD t ht hW⟩)

set_option maxHeartbeats 4000000 in
set_option maxRecDepth 100000 in
theorem w_cut_g {T' : List pb_Rt} {n : Int32} {v : Int32} (xo : Int32) (hX : ∀ sz, pb_Wq l yX0_cut wsX0_cut 2 0 0 47 [.ref h0, .int xo] D (pb_ty cI cJ) (pb_wX cI cJ h0 k1 c1 h1 cap Kf Cf Hf n) sz (some (.int v)) (pb_BX D cI cJ h0 T')) : pb_WqE l yL_cut wsL_cut [.ref h0, .int xo, .ref ob] D (pb_ty cI cJ) (pb_wXo cI cJ h0 k1 c1 h1 cap Kf Cf Hf n ob Og) sz 0 (pb_BO D cI cJ h0 ob T' (fun z => z = v.toInt64)) := by
  refine pb_ofWH RL (by decide) rfl rfl (Nat.le_of_ble_eq_true rfl) (fun p e s m args below meth c ls A hx hb hml hr hlocks hown hts htab hP hK hD hS hA hE hl => ?_)
  have hl : lv_has ls 4 [(0, .ref h0), (1, .int xo), (2, .ref ob)] := hl
  refine lv_aload_n hx hb dL_cut_0 rfl (lv_at hl 2 rfl) ?_
  refine lv_iconst (v := 0) hx hb dL_cut_1 (by decide) ?_
  refine lv_aload_n hx hb dL_cut_2 rfl (lv_at hl 0 rfl) ?_
  refine lv_iload_n hx hb dL_cut_3 rfl (lv_at hl 1 rfl) ?_
  refine pb_callWj (As := [.int xo]) (rest := [.int 0, .ref ob]) (wr := [(ob, .inl (cJ, 1, .inr (.inl Og)))]) ⟨hx, hb, hml, hown, hts⟩ (hX _) (cwV 1 hts gL_cut_X0_cut rfl rfl rfl (by decide +kernel) ⟨Nat.le_of_ble_eq_true rfl, Nat.le_of_ble_eq_true rfl⟩) hP hK hD hS hA [0, 1, 2, 3] [4] rfl rfl rfl (by decide) (by decide) (by decide) (va_recv hK hP (ci := 0) (q0 := 0) rfl rfl) rfl rfl hl (Nat.le_of_ble_eq_true rfl) dL_cut_4 ⟨Nat.le_of_ble_eq_true rfl, Nat.le_of_ble_eq_true rfl⟩ (fun t9 H locs hB hj hS => ?_)
  obtain ⟨k9, c9, h9, cap9, K9, C9, H9, hR9, hB9⟩ := hB
  obtain ⟨hP, hD⟩ := hj _ hB9
  have hP := hP.sub (ws' := (pb_wXo cI cJ h0 k9 c9 h9 cap9 K9 C9 H9 (nI T'.length) ob Og)) [1, 2, 3, 4, 0] rfl
  have hD := hD.sub (ws' := (pb_wXo cI cJ h0 k9 c9 h9 cap9 K9 C9 H9 (nI T'.length) ob Og)) [1, 2, 3, 4, 0] (by decide) rfl
  refine lv_i2l hx hb dL_cut_7 rfl ?_
  refine pb_last hx hb hK hP hD hS 4 0 rfl rfl 0 (rfl) (by decide) dL_cut_8 (fun H locs hP hD hS => ?_)
  have hP : va_P D vwCl (pb_wXo cI cJ h0 k9 c9 h9 cap9 K9 C9 H9 (nI T'.length) ob (va_up Og 0 ((v : Int32).toInt64))) H := hP
  have hD : va_D A (pb_wXo cI cJ h0 k9 c9 h9 cap9 K9 C9 H9 (nI T'.length) ob (va_up Og 0 ((v : Int32).toInt64))) := hD
  refine lv_goto (tgt := 15) hx hb dL_cut_9 (by decide) ?_
  refine lv_iconst (v := 0) hx hb dL_cut_15 (by decide) ?_
  refine W.widen (k := 3) (n := 3072) (Nat.le_of_ble_eq_true rfl) (Nat.le_of_ble_eq_true rfl) ?_
  exact pb_wi hx hb hr hlocks hS dL_cut_16 (rfl) (fun t ht hW => ⟨_, _, _, _, _, _, _, _, hR9, va_up_self _ _ _, pb_B_of hP hK hD t ht hW⟩)

set_option maxHeartbeats 4000000 in
set_option maxRecDepth 100000 in
theorem w_cut_b (hst0 : l.stackTraces = false) {T : List pb_Rt} (xo : Int32) (hR9 : pb_rX T cap Kf Cf Hf ∧ cap ≤ 1024) (hbad : ¬ pb_vi xo 64) : pb_WqE l yL_cut wsL_cut [.ref h0, .int xo, .ref ob] D (pb_ty cI cJ) (pb_wXo cI cJ h0 k1 c1 h1 cap Kf Cf Hf (nI T.length) ob Og) sz 1 (pb_BO D cI cJ h0 ob T (fun _ => True)) := by
  refine pb_ofWH RL (by decide) rfl rfl (Nat.le_of_ble_eq_true rfl) (fun p e s m args below meth c ls A hx hb hml hr hlocks hown hts htab hP hK hD hS hA hE hl => ?_)
  have hl : lv_has ls 4 [(0, .ref h0), (1, .int xo), (2, .ref ob)] := hl
  refine lv_aload_n hx hb dL_cut_0 rfl (lv_at hl 2 rfl) ?_
  refine lv_iconst (v := 0) hx hb dL_cut_1 (by decide) ?_
  refine lv_aload_n hx hb dL_cut_2 rfl (lv_at hl 0 rfl) ?_
  refine lv_iload_n hx hb dL_cut_3 rfl (lv_at hl 1 rfl) ?_
  refine vx_calli (vx_runV (g := F0 m 4 ls [.int xo, .ref h0, .int 0, .ref ob]) (As := [.int xo]) (rest := [.int 0, .ref ob]) ⟨hx, hb, hml, hown, hts⟩ (b_X0_cut hst0 xo hbad) (cwV 1 hts gL_cut_X0_cut rfl rfl rfl (by decide +kernel) ⟨Nat.le_of_ble_eq_true rfl, Nat.le_of_ble_eq_true rfl⟩) ⟨pb_XE_blind, (va_recv hK hP (ci := 0) (q0 := 0) rfl rfl), pb_XE_pre hE⟩ rfl rfl hl.1 rfl (lv_room (Nat.le_of_ble_eq_true rfl)) dL_cut_4 ⟨Nat.le_of_ble_eq_true rfl, Nat.le_of_ble_eq_true rfl⟩) (A0 := A) hS (fun q _ h => h.elim) (fun q h => h.elim) (fun q _ h => h.elim) (fun E ce q9 u t H locs ht hvm hpx hBX hz9 hk hS hce hcv hcl => ?_) (fun r u t H1 locs1 ht hvm hpost => hpost.elim)
  have hP : va_P D vwCl (pb_wXo cI cJ h0 k1 c1 h1 cap Kf Cf Hf (nI T.length) ob Og) H := hP.kept (fun k x hx => hk x.1 (vx_lt hP hx) (fun h => h))
  obtain rfl : E = "java/lang/IllegalArgumentException" := hBX
  refine vx_catch (own := RL) (name := "java/lang/IllegalArgumentException") hown [] ⟨0, 9, 12, 13⟩ [] htab (fun z hz => nomatch hz) (by decide) (by decide) (hts (.classLink RL 13 "java/lang/IllegalArgumentException") (by decide +kernel)) (hE.2.2.2 args _ pb_castw) hce hcv hcl ?_
  refine lv_astore_n (lv' := [(3, .ref q9), (0, .ref h0), (1, .int xo), (2, .ref ob)]) hx hb dL_cut_12 rfl hl (by decide) rfl (fun ls hl => ?_)
  refine lv_iconst (v := 1) hx hb dL_cut_13 (by decide) ?_
  refine W.widen (k := 3) (n := 3072) (Nat.le_of_ble_eq_true rfl) (Nat.le_of_ble_eq_true rfl) ?_
  exact pb_wi hx hb hr hlocks hS dL_cut_14 (rfl) (fun t ht hW => ⟨_, _, _, _, _, _, _, _, hR9, trivial, pb_B_of hP hK hD t ht hW⟩)

set_option maxHeartbeats 4000000 in
set_option maxRecDepth 100000 in
theorem w_route_g {T' : List pb_Rt} {v : Int32} (xa : Int32) (xl : Int32) (xo : Int32) (xw : Int32) (hR9 : pb_rX T' cap Kf Cf Hf ∧ cap ≤ 1024) (hX : pb_Rd l yX0_route wsX0_route 5 113 (pb_X [.ref h0, .int xa, .int xl, .int xo, .int xw] D (pb_ty cI cJ) (pb_wX cI cJ h0 k1 c1 h1 cap Kf Cf Hf (nI T'.length))) (.int v)) : pb_WqE l yL_route wsL_route [.ref h0, .int xa, .int xl, .int xo, .int xw, .ref ob] D (pb_ty cI cJ) (pb_wXo cI cJ h0 k1 c1 h1 cap Kf Cf Hf (nI T'.length) ob Og) sz 0 (pb_BO D cI cJ h0 ob T' (fun z => z = v.toInt64)) := by
  refine pb_ofWH RL (by decide) rfl rfl (Nat.le_of_ble_eq_true rfl) (fun p e s m args below meth c ls A hx hb hml hr hlocks hown hts htab hP hK hD hS hA hE hl => ?_)
  have hl : lv_has ls 7 [(0, .ref h0), (1, .int xa), (2, .int xl), (3, .int xo), (4, .int xw), (5, .ref ob)] := hl
  refine lv_aload hx hb dL_route_0 (lv_at hl 5 rfl) ?_
  refine lv_iconst (v := 0) hx hb dL_route_2 (by decide) ?_
  refine lv_aload_n hx hb dL_route_3 rfl (lv_at hl 0 rfl) ?_
  refine lv_iload_n hx hb dL_route_4 rfl (lv_at hl 1 rfl) ?_
  refine lv_iload_n hx hb dL_route_5 rfl (lv_at hl 2 rfl) ?_
  refine lv_iload_n hx hb dL_route_6 rfl (lv_at hl 3 rfl) ?_
  refine lv_iload hx hb dL_route_7 (lv_at hl 4 rfl) ?_
  refine pb_callV (As := [.int xa, .int xl, .int xo, .int xw]) (rest := [.int 0, .ref ob]) ⟨hx, hb, hml, hown, hts⟩ hX (cwV 4 hts gL_route_X0_route rfl rfl rfl (by decide +kernel) ⟨Nat.le_of_ble_eq_true rfl, Nat.le_of_ble_eq_true rfl⟩) (hP.sub (ws' := (pb_wX cI cJ h0 k1 c1 h1 cap Kf Cf Hf (nI T'.length))) [0, 1, 2, 3] rfl) hK (va_recv hK hP (ci := 0) (q0 := 0) rfl rfl) rfl rfl hl (Nat.le_of_ble_eq_true rfl) dL_route_9 ⟨Nat.le_of_ble_eq_true rfl, Nat.le_of_ble_eq_true rfl⟩ ?_
  refine lv_i2l hx hb dL_route_12 rfl ?_
  refine pb_last hx hb hK hP hD hS 4 0 rfl rfl 0 (rfl) (by decide) dL_route_13 (fun H locs hP hD hS => ?_)
  have hP : va_P D vwCl (pb_wXo cI cJ h0 k1 c1 h1 cap Kf Cf Hf (nI T'.length) ob (va_up Og 0 ((v : Int32).toInt64))) H := hP
  have hD : va_D A (pb_wXo cI cJ h0 k1 c1 h1 cap Kf Cf Hf (nI T'.length) ob (va_up Og 0 ((v : Int32).toInt64))) := hD
  refine lv_goto (tgt := 21) hx hb dL_route_14 (by decide) ?_
  refine lv_iconst (v := 0) hx hb dL_route_21 (by decide) ?_
  refine W.widen (k := 3) (n := 3072) (Nat.le_of_ble_eq_true rfl) (Nat.le_of_ble_eq_true rfl) ?_
  exact pb_wi hx hb hr hlocks hS dL_route_22 (rfl) (fun t ht hW => ⟨_, _, _, _, _, _, _, _, hR9, va_up_self _ _ _, pb_B_of hP hK hD t ht hW⟩)

set_option maxHeartbeats 4000000 in
set_option maxRecDepth 100000 in
theorem w_route_b (hst0 : l.stackTraces = false) {T : List pb_Rt} (xa : Int32) (xl : Int32) (xo : Int32) (xw : Int32) (hR9 : pb_rX T cap Kf Cf Hf ∧ cap ≤ 1024) (hbad : ¬ (pb_vp xa xl ∧ (xo = -1 ∨ pb_vi xo 8) ∧ pb_vi xw 3)) : pb_WqE l yL_route wsL_route [.ref h0, .int xa, .int xl, .int xo, .int xw, .ref ob] D (pb_ty cI cJ) (pb_wXo cI cJ h0 k1 c1 h1 cap Kf Cf Hf (nI T.length) ob Og) sz 1 (pb_BO D cI cJ h0 ob T (fun _ => True)) := by
  refine pb_ofWH RL (by decide) rfl rfl (Nat.le_of_ble_eq_true rfl) (fun p e s m args below meth c ls A hx hb hml hr hlocks hown hts htab hP hK hD hS hA hE hl => ?_)
  have hl : lv_has ls 7 [(0, .ref h0), (1, .int xa), (2, .int xl), (3, .int xo), (4, .int xw), (5, .ref ob)] := hl
  refine lv_aload hx hb dL_route_0 (lv_at hl 5 rfl) ?_
  refine lv_iconst (v := 0) hx hb dL_route_2 (by decide) ?_
  refine lv_aload_n hx hb dL_route_3 rfl (lv_at hl 0 rfl) ?_
  refine lv_iload_n hx hb dL_route_4 rfl (lv_at hl 1 rfl) ?_
  refine lv_iload_n hx hb dL_route_5 rfl (lv_at hl 2 rfl) ?_
  refine lv_iload_n hx hb dL_route_6 rfl (lv_at hl 3 rfl) ?_
  refine lv_iload hx hb dL_route_7 (lv_at hl 4 rfl) ?_
  refine vx_calli (vx_runV (g := F0 m 9 ls [.int xw, .int xo, .int xl, .int xa, .ref h0, .int 0, .ref ob]) (As := [.int xa, .int xl, .int xo, .int xw]) (rest := [.int 0, .ref ob]) ⟨hx, hb, hml, hown, hts⟩ (b_X0_route hst0 xa xl xo xw hbad) (cwV 4 hts gL_route_X0_route rfl rfl rfl (by decide +kernel) ⟨Nat.le_of_ble_eq_true rfl, Nat.le_of_ble_eq_true rfl⟩) ⟨pb_XE_blind, (va_recv hK hP (ci := 0) (q0 := 0) rfl rfl), pb_XE_pre hE⟩ rfl rfl hl.1 rfl (lv_room (Nat.le_of_ble_eq_true rfl)) dL_route_9 ⟨Nat.le_of_ble_eq_true rfl, Nat.le_of_ble_eq_true rfl⟩) (A0 := A) hS (fun q _ h => h.elim) (fun q h => h.elim) (fun q _ h => h.elim) (fun E ce q9 u t H locs ht hvm hpx hBX hz9 hk hS hce hcv hcl => ?_) (fun r u t H1 locs1 ht hvm hpost => hpost.elim)
  have hP : va_P D vwCl (pb_wXo cI cJ h0 k1 c1 h1 cap Kf Cf Hf (nI T.length) ob Og) H := hP.kept (fun k x hx => hk x.1 (vx_lt hP hx) (fun h => h))
  obtain rfl : E = "java/lang/IllegalArgumentException" := hBX
  refine vx_catch (own := RL) (name := "java/lang/IllegalArgumentException") hown [] ⟨0, 14, 17, 13⟩ [] htab (fun z hz => nomatch hz) (by decide) (by decide) (hts (.classLink RL 13 "java/lang/IllegalArgumentException") (by decide +kernel)) (hE.2.2.2 args _ pb_castw) hce hcv hcl ?_
  refine lv_astore (lv' := [(6, .ref q9), (0, .ref h0), (1, .int xa), (2, .int xl), (3, .int xo), (4, .int xw), (5, .ref ob)]) hx hb dL_route_17 hl (by decide) rfl (fun ls hl => ?_)
  refine lv_iconst (v := 1) hx hb dL_route_19 (by decide) ?_
  refine W.widen (k := 3) (n := 3072) (Nat.le_of_ble_eq_true rfl) (Nat.le_of_ble_eq_true rfl) ?_
  exact pb_wi hx hb hr hlocks hS dL_route_20 (rfl) (fun t ht hW => ⟨_, _, _, _, _, _, _, _, hR9, trivial, pb_B_of hP hK hD t ht hW⟩)

set_option maxHeartbeats 4000000 in
set_option maxRecDepth 100000 in
theorem w_shorter_g {T' : List pb_Rt} {v : Int32} (xa : Int32) (xl : Int32) (hR9 : pb_rX T' cap Kf Cf Hf ∧ cap ≤ 1024) (hX : pb_Rd l yX0_shorter wsX0_shorter 6 137 (pb_X [.ref h0, .int xa, .int xl] D (pb_ty cI cJ) (pb_wX cI cJ h0 k1 c1 h1 cap Kf Cf Hf (nI T'.length))) (.int v)) : pb_WqE l yL_shorter wsL_shorter [.ref h0, .int xa, .int xl, .ref ob] D (pb_ty cI cJ) (pb_wXo cI cJ h0 k1 c1 h1 cap Kf Cf Hf (nI T'.length) ob Og) sz 0 (pb_BO D cI cJ h0 ob T' (fun z => z = v.toInt64)) := by
  refine pb_ofWH RL (by decide) rfl rfl (Nat.le_of_ble_eq_true rfl) (fun p e s m args below meth c ls A hx hb hml hr hlocks hown hts htab hP hK hD hS hA hE hl => ?_)
  have hl : lv_has ls 5 [(0, .ref h0), (1, .int xa), (2, .int xl), (3, .ref ob)] := hl
  refine lv_aload_n hx hb dL_shorter_0 rfl (lv_at hl 3 rfl) ?_
  refine lv_iconst (v := 0) hx hb dL_shorter_1 (by decide) ?_
  refine lv_aload_n hx hb dL_shorter_2 rfl (lv_at hl 0 rfl) ?_
  refine lv_iload_n hx hb dL_shorter_3 rfl (lv_at hl 1 rfl) ?_
  refine lv_iload_n hx hb dL_shorter_4 rfl (lv_at hl 2 rfl) ?_
  refine pb_callV (As := [.int xa, .int xl]) (rest := [.int 0, .ref ob]) ⟨hx, hb, hml, hown, hts⟩ hX (cwV 2 hts gL_shorter_X0_shorter rfl rfl rfl (by decide +kernel) ⟨Nat.le_of_ble_eq_true rfl, Nat.le_of_ble_eq_true rfl⟩) (hP.sub (ws' := (pb_wX cI cJ h0 k1 c1 h1 cap Kf Cf Hf (nI T'.length))) [0, 1, 2, 3] rfl) hK (va_recv hK hP (ci := 0) (q0 := 0) rfl rfl) rfl rfl hl (Nat.le_of_ble_eq_true rfl) dL_shorter_5 ⟨Nat.le_of_ble_eq_true rfl, Nat.le_of_ble_eq_true rfl⟩ ?_
  refine lv_i2l hx hb dL_shorter_8 rfl ?_
  refine pb_last hx hb hK hP hD hS 4 0 rfl rfl 0 (rfl) (by decide) dL_shorter_9 (fun H locs hP hD hS => ?_)
  have hP : va_P D vwCl (pb_wXo cI cJ h0 k1 c1 h1 cap Kf Cf Hf (nI T'.length) ob (va_up Og 0 ((v : Int32).toInt64))) H := hP
  have hD : va_D A (pb_wXo cI cJ h0 k1 c1 h1 cap Kf Cf Hf (nI T'.length) ob (va_up Og 0 ((v : Int32).toInt64))) := hD
  refine lv_goto (tgt := 17) hx hb dL_shorter_10 (by decide) ?_
  refine lv_iconst (v := 0) hx hb dL_shorter_17 (by decide) ?_
  refine W.widen (k := 3) (n := 3072) (Nat.le_of_ble_eq_true rfl) (Nat.le_of_ble_eq_true rfl) ?_
  exact pb_wi hx hb hr hlocks hS dL_shorter_18 (rfl) (fun t ht hW => ⟨_, _, _, _, _, _, _, _, hR9, va_up_self _ _ _, pb_B_of hP hK hD t ht hW⟩)

set_option maxHeartbeats 4000000 in
set_option maxRecDepth 100000 in
theorem w_shorter_b (hst0 : l.stackTraces = false) {T : List pb_Rt} (xa : Int32) (xl : Int32) (hR9 : pb_rX T cap Kf Cf Hf ∧ cap ≤ 1024) (hbad : ¬ pb_vi xl 34) : pb_WqE l yL_shorter wsL_shorter [.ref h0, .int xa, .int xl, .ref ob] D (pb_ty cI cJ) (pb_wXo cI cJ h0 k1 c1 h1 cap Kf Cf Hf (nI T.length) ob Og) sz 1 (pb_BO D cI cJ h0 ob T (fun _ => True)) := by
  refine pb_ofWH RL (by decide) rfl rfl (Nat.le_of_ble_eq_true rfl) (fun p e s m args below meth c ls A hx hb hml hr hlocks hown hts htab hP hK hD hS hA hE hl => ?_)
  have hl : lv_has ls 5 [(0, .ref h0), (1, .int xa), (2, .int xl), (3, .ref ob)] := hl
  refine lv_aload_n hx hb dL_shorter_0 rfl (lv_at hl 3 rfl) ?_
  refine lv_iconst (v := 0) hx hb dL_shorter_1 (by decide) ?_
  refine lv_aload_n hx hb dL_shorter_2 rfl (lv_at hl 0 rfl) ?_
  refine lv_iload_n hx hb dL_shorter_3 rfl (lv_at hl 1 rfl) ?_
  refine lv_iload_n hx hb dL_shorter_4 rfl (lv_at hl 2 rfl) ?_
  refine vx_calli (vx_runV (g := F0 m 5 ls [.int xl, .int xa, .ref h0, .int 0, .ref ob]) (As := [.int xa, .int xl]) (rest := [.int 0, .ref ob]) ⟨hx, hb, hml, hown, hts⟩ (b_X0_shorter hst0 xa xl hbad) (cwV 2 hts gL_shorter_X0_shorter rfl rfl rfl (by decide +kernel) ⟨Nat.le_of_ble_eq_true rfl, Nat.le_of_ble_eq_true rfl⟩) ⟨pb_XE_blind, (va_recv hK hP (ci := 0) (q0 := 0) rfl rfl), pb_XE_pre hE⟩ rfl rfl hl.1 rfl (lv_room (Nat.le_of_ble_eq_true rfl)) dL_shorter_5 ⟨Nat.le_of_ble_eq_true rfl, Nat.le_of_ble_eq_true rfl⟩) (A0 := A) hS (fun q _ h => h.elim) (fun q h => h.elim) (fun q _ h => h.elim) (fun E ce q9 u t H locs ht hvm hpx hBX hz9 hk hS hce hcv hcl => ?_) (fun r u t H1 locs1 ht hvm hpost => hpost.elim)
  have hP : va_P D vwCl (pb_wXo cI cJ h0 k1 c1 h1 cap Kf Cf Hf (nI T.length) ob Og) H := hP.kept (fun k x hx => hk x.1 (vx_lt hP hx) (fun h => h))
  obtain rfl : E = "java/lang/IllegalArgumentException" := hBX
  refine vx_catch (own := RL) (name := "java/lang/IllegalArgumentException") hown [] ⟨0, 10, 13, 13⟩ [] htab (fun z hz => nomatch hz) (by decide) (by decide) (hts (.classLink RL 13 "java/lang/IllegalArgumentException") (by decide +kernel)) (hE.2.2.2 args _ pb_castw) hce hcv hcl ?_
  refine lv_astore (lv' := [(4, .ref q9), (0, .ref h0), (1, .int xa), (2, .int xl), (3, .ref ob)]) hx hb dL_shorter_13 hl (by decide) rfl (fun ls hl => ?_)
  refine lv_iconst (v := 1) hx hb dL_shorter_15 (by decide) ?_
  refine W.widen (k := 3) (n := 3072) (Nat.le_of_ble_eq_true rfl) (Nat.le_of_ble_eq_true rfl) ?_
  exact pb_wi hx hb hr hlocks hS dL_shorter_16 (rfl) (fun t ht hW => ⟨_, _, _, _, _, _, _, _, hR9, trivial, pb_B_of hP hK hD t ht hW⟩)

set_option maxHeartbeats 4000000 in
set_option maxRecDepth 100000 in
theorem w_after_g {T' : List pb_Rt} {v : Int64} (xa : Int32) (xl : Int32) (hR9 : pb_rX T' cap Kf Cf Hf ∧ cap ≤ 1024) (hX : pb_Rd l yX0_after wsX0_after 4 90 (pb_X [.ref h0, .int xa, .int xl] D (pb_ty cI cJ) (pb_wX cI cJ h0 k1 c1 h1 cap Kf Cf Hf (nI T'.length))) (.long v)) : pb_WqE l yL_after wsL_after [.ref h0, .int xa, .int xl, .ref ob] D (pb_ty cI cJ) (pb_wXo cI cJ h0 k1 c1 h1 cap Kf Cf Hf (nI T'.length) ob Og) sz 0 (pb_BO D cI cJ h0 ob T' (fun z => z = v)) := by
  refine pb_ofWH RL (by decide) rfl rfl (Nat.le_of_ble_eq_true rfl) (fun p e s m args below meth c ls A hx hb hml hr hlocks hown hts htab hP hK hD hS hA hE hl => ?_)
  have hl : lv_has ls 5 [(0, .ref h0), (1, .int xa), (2, .int xl), (3, .ref ob)] := hl
  refine lv_aload_n hx hb dL_after_0 rfl (lv_at hl 3 rfl) ?_
  refine lv_iconst (v := 0) hx hb dL_after_1 (by decide) ?_
  refine lv_aload_n hx hb dL_after_2 rfl (lv_at hl 0 rfl) ?_
  refine lv_iload_n hx hb dL_after_3 rfl (lv_at hl 1 rfl) ?_
  refine lv_iload_n hx hb dL_after_4 rfl (lv_at hl 2 rfl) ?_
  refine pb_callV (As := [.int xa, .int xl]) (rest := [.int 0, .ref ob]) ⟨hx, hb, hml, hown, hts⟩ hX (cwV 2 hts gL_after_X0_after rfl rfl rfl (by decide +kernel) ⟨Nat.le_of_ble_eq_true rfl, Nat.le_of_ble_eq_true rfl⟩) (hP.sub (ws' := (pb_wX cI cJ h0 k1 c1 h1 cap Kf Cf Hf (nI T'.length))) [0, 1, 2, 3] rfl) hK (va_recv hK hP (ci := 0) (q0 := 0) rfl rfl) rfl rfl hl (Nat.le_of_ble_eq_true rfl) dL_after_5 ⟨Nat.le_of_ble_eq_true rfl, Nat.le_of_ble_eq_true rfl⟩ ?_
  refine pb_last hx hb hK hP hD hS 4 0 rfl rfl 0 (rfl) (by decide) dL_after_8 (fun H locs hP hD hS => ?_)
  have hP : va_P D vwCl (pb_wXo cI cJ h0 k1 c1 h1 cap Kf Cf Hf (nI T'.length) ob (va_up Og 0 v)) H := hP
  have hD : va_D A (pb_wXo cI cJ h0 k1 c1 h1 cap Kf Cf Hf (nI T'.length) ob (va_up Og 0 v)) := hD
  refine lv_goto (tgt := 16) hx hb dL_after_9 (by decide) ?_
  refine lv_iconst (v := 0) hx hb dL_after_16 (by decide) ?_
  refine W.widen (k := 3) (n := 3072) (Nat.le_of_ble_eq_true rfl) (Nat.le_of_ble_eq_true rfl) ?_
  exact pb_wi hx hb hr hlocks hS dL_after_17 (rfl) (fun t ht hW => ⟨_, _, _, _, _, _, _, _, hR9, va_up_self _ _ _, pb_B_of hP hK hD t ht hW⟩)

set_option maxHeartbeats 4000000 in
set_option maxRecDepth 100000 in
theorem w_after_b (hst0 : l.stackTraces = false) {T : List pb_Rt} (xa : Int32) (xl : Int32) (hR9 : pb_rX T cap Kf Cf Hf ∧ cap ≤ 1024) (hbad : ¬ pb_vp xa xl) : pb_WqE l yL_after wsL_after [.ref h0, .int xa, .int xl, .ref ob] D (pb_ty cI cJ) (pb_wXo cI cJ h0 k1 c1 h1 cap Kf Cf Hf (nI T.length) ob Og) sz 1 (pb_BO D cI cJ h0 ob T (fun _ => True)) := by
  refine pb_ofWH RL (by decide) rfl rfl (Nat.le_of_ble_eq_true rfl) (fun p e s m args below meth c ls A hx hb hml hr hlocks hown hts htab hP hK hD hS hA hE hl => ?_)
  have hl : lv_has ls 5 [(0, .ref h0), (1, .int xa), (2, .int xl), (3, .ref ob)] := hl
  refine lv_aload_n hx hb dL_after_0 rfl (lv_at hl 3 rfl) ?_
  refine lv_iconst (v := 0) hx hb dL_after_1 (by decide) ?_
  refine lv_aload_n hx hb dL_after_2 rfl (lv_at hl 0 rfl) ?_
  refine lv_iload_n hx hb dL_after_3 rfl (lv_at hl 1 rfl) ?_
  refine lv_iload_n hx hb dL_after_4 rfl (lv_at hl 2 rfl) ?_
  refine vx_calll (vx_runV (g := F0 m 5 ls [.int xl, .int xa, .ref h0, .int 0, .ref ob]) (As := [.int xa, .int xl]) (rest := [.int 0, .ref ob]) ⟨hx, hb, hml, hown, hts⟩ (b_X0_after hst0 xa xl hbad) (cwV 2 hts gL_after_X0_after rfl rfl rfl (by decide +kernel) ⟨Nat.le_of_ble_eq_true rfl, Nat.le_of_ble_eq_true rfl⟩) ⟨pb_XE_blind, (va_recv hK hP (ci := 0) (q0 := 0) rfl rfl), pb_XE_pre hE⟩ rfl rfl hl.1 rfl (lv_room (Nat.le_of_ble_eq_true rfl)) dL_after_5 ⟨Nat.le_of_ble_eq_true rfl, Nat.le_of_ble_eq_true rfl⟩) (A0 := A) hS (fun q _ h => h.elim) (fun q h => h.elim) (fun q _ h => h.elim) (fun E ce q9 u t H locs ht hvm hpx hBX hz9 hk hS hce hcv hcl => ?_) (fun r u t H1 locs1 ht hvm hpost => hpost.elim)
  have hP : va_P D vwCl (pb_wXo cI cJ h0 k1 c1 h1 cap Kf Cf Hf (nI T.length) ob Og) H := hP.kept (fun k x hx => hk x.1 (vx_lt hP hx) (fun h => h))
  obtain rfl : E = "java/lang/IllegalArgumentException" := hBX
  refine vx_catch (own := RL) (name := "java/lang/IllegalArgumentException") hown [] ⟨0, 9, 12, 13⟩ [] htab (fun z hz => nomatch hz) (by decide) (by decide) (hts (.classLink RL 13 "java/lang/IllegalArgumentException") (by decide +kernel)) (hE.2.2.2 args _ pb_castw) hce hcv hcl ?_
  refine lv_astore (lv' := [(4, .ref q9), (0, .ref h0), (1, .int xa), (2, .int xl), (3, .ref ob)]) hx hb dL_after_12 hl (by decide) rfl (fun ls hl => ?_)
  refine lv_iconst (v := 1) hx hb dL_after_14 (by decide) ?_
  refine W.widen (k := 3) (n := 3072) (Nat.le_of_ble_eq_true rfl) (Nat.le_of_ble_eq_true rfl) ?_
  exact pb_wi hx hb hr hlocks hS dL_after_15 (rfl) (fun t ht hW => ⟨_, _, _, _, _, _, _, _, hR9, trivial, pb_B_of hP hK hD t ht hW⟩)

set_option maxHeartbeats 4000000 in
set_option maxRecDepth 100000 in
theorem w_within_g {T' : List pb_Rt} {v : Int32} (xa : Int32) (xl : Int32) (hR9 : pb_rX T' cap Kf Cf Hf ∧ cap ≤ 1024) (hX : pb_Rd l yX0_within wsX0_within 5 108 (pb_X [.ref h0, .int xa, .int xl] D (pb_ty cI cJ) (pb_wX cI cJ h0 k1 c1 h1 cap Kf Cf Hf (nI T'.length))) (.int v)) : pb_WqE l yL_within wsL_within [.ref h0, .int xa, .int xl, .ref ob] D (pb_ty cI cJ) (pb_wXo cI cJ h0 k1 c1 h1 cap Kf Cf Hf (nI T'.length) ob Og) sz 0 (pb_BO D cI cJ h0 ob T' (fun z => z = v.toInt64)) := by
  refine pb_ofWH RL (by decide) rfl rfl (Nat.le_of_ble_eq_true rfl) (fun p e s m args below meth c ls A hx hb hml hr hlocks hown hts htab hP hK hD hS hA hE hl => ?_)
  have hl : lv_has ls 5 [(0, .ref h0), (1, .int xa), (2, .int xl), (3, .ref ob)] := hl
  refine lv_aload_n hx hb dL_within_0 rfl (lv_at hl 3 rfl) ?_
  refine lv_iconst (v := 0) hx hb dL_within_1 (by decide) ?_
  refine lv_aload_n hx hb dL_within_2 rfl (lv_at hl 0 rfl) ?_
  refine lv_iload_n hx hb dL_within_3 rfl (lv_at hl 1 rfl) ?_
  refine lv_iload_n hx hb dL_within_4 rfl (lv_at hl 2 rfl) ?_
  refine pb_callV (As := [.int xa, .int xl]) (rest := [.int 0, .ref ob]) ⟨hx, hb, hml, hown, hts⟩ hX (cwV 2 hts gL_within_X0_within rfl rfl rfl (by decide +kernel) ⟨Nat.le_of_ble_eq_true rfl, Nat.le_of_ble_eq_true rfl⟩) (hP.sub (ws' := (pb_wX cI cJ h0 k1 c1 h1 cap Kf Cf Hf (nI T'.length))) [0, 1, 2, 3] rfl) hK (va_recv hK hP (ci := 0) (q0 := 0) rfl rfl) rfl rfl hl (Nat.le_of_ble_eq_true rfl) dL_within_5 ⟨Nat.le_of_ble_eq_true rfl, Nat.le_of_ble_eq_true rfl⟩ ?_
  refine lv_i2l hx hb dL_within_8 rfl ?_
  refine pb_last hx hb hK hP hD hS 4 0 rfl rfl 0 (rfl) (by decide) dL_within_9 (fun H locs hP hD hS => ?_)
  have hP : va_P D vwCl (pb_wXo cI cJ h0 k1 c1 h1 cap Kf Cf Hf (nI T'.length) ob (va_up Og 0 ((v : Int32).toInt64))) H := hP
  have hD : va_D A (pb_wXo cI cJ h0 k1 c1 h1 cap Kf Cf Hf (nI T'.length) ob (va_up Og 0 ((v : Int32).toInt64))) := hD
  refine lv_goto (tgt := 17) hx hb dL_within_10 (by decide) ?_
  refine lv_iconst (v := 0) hx hb dL_within_17 (by decide) ?_
  refine W.widen (k := 3) (n := 3072) (Nat.le_of_ble_eq_true rfl) (Nat.le_of_ble_eq_true rfl) ?_
  exact pb_wi hx hb hr hlocks hS dL_within_18 (rfl) (fun t ht hW => ⟨_, _, _, _, _, _, _, _, hR9, va_up_self _ _ _, pb_B_of hP hK hD t ht hW⟩)

set_option maxHeartbeats 4000000 in
set_option maxRecDepth 100000 in
theorem w_within_b (hst0 : l.stackTraces = false) {T : List pb_Rt} (xa : Int32) (xl : Int32) (hR9 : pb_rX T cap Kf Cf Hf ∧ cap ≤ 1024) (hbad : ¬ pb_vp xa xl) : pb_WqE l yL_within wsL_within [.ref h0, .int xa, .int xl, .ref ob] D (pb_ty cI cJ) (pb_wXo cI cJ h0 k1 c1 h1 cap Kf Cf Hf (nI T.length) ob Og) sz 1 (pb_BO D cI cJ h0 ob T (fun _ => True)) := by
  refine pb_ofWH RL (by decide) rfl rfl (Nat.le_of_ble_eq_true rfl) (fun p e s m args below meth c ls A hx hb hml hr hlocks hown hts htab hP hK hD hS hA hE hl => ?_)
  have hl : lv_has ls 5 [(0, .ref h0), (1, .int xa), (2, .int xl), (3, .ref ob)] := hl
  refine lv_aload_n hx hb dL_within_0 rfl (lv_at hl 3 rfl) ?_
  refine lv_iconst (v := 0) hx hb dL_within_1 (by decide) ?_
  refine lv_aload_n hx hb dL_within_2 rfl (lv_at hl 0 rfl) ?_
  refine lv_iload_n hx hb dL_within_3 rfl (lv_at hl 1 rfl) ?_
  refine lv_iload_n hx hb dL_within_4 rfl (lv_at hl 2 rfl) ?_
  refine vx_calli (vx_runV (g := F0 m 5 ls [.int xl, .int xa, .ref h0, .int 0, .ref ob]) (As := [.int xa, .int xl]) (rest := [.int 0, .ref ob]) ⟨hx, hb, hml, hown, hts⟩ (b_X0_within hst0 xa xl hbad) (cwV 2 hts gL_within_X0_within rfl rfl rfl (by decide +kernel) ⟨Nat.le_of_ble_eq_true rfl, Nat.le_of_ble_eq_true rfl⟩) ⟨pb_XE_blind, (va_recv hK hP (ci := 0) (q0 := 0) rfl rfl), pb_XE_pre hE⟩ rfl rfl hl.1 rfl (lv_room (Nat.le_of_ble_eq_true rfl)) dL_within_5 ⟨Nat.le_of_ble_eq_true rfl, Nat.le_of_ble_eq_true rfl⟩) (A0 := A) hS (fun q _ h => h.elim) (fun q h => h.elim) (fun q _ h => h.elim) (fun E ce q9 u t H locs ht hvm hpx hBX hz9 hk hS hce hcv hcl => ?_) (fun r u t H1 locs1 ht hvm hpost => hpost.elim)
  have hP : va_P D vwCl (pb_wXo cI cJ h0 k1 c1 h1 cap Kf Cf Hf (nI T.length) ob Og) H := hP.kept (fun k x hx => hk x.1 (vx_lt hP hx) (fun h => h))
  obtain rfl : E = "java/lang/IllegalArgumentException" := hBX
  refine vx_catch (own := RL) (name := "java/lang/IllegalArgumentException") hown [] ⟨0, 10, 13, 13⟩ [] htab (fun z hz => nomatch hz) (by decide) (by decide) (hts (.classLink RL 13 "java/lang/IllegalArgumentException") (by decide +kernel)) (hE.2.2.2 args _ pb_castw) hce hcv hcl ?_
  refine lv_astore (lv' := [(4, .ref q9), (0, .ref h0), (1, .int xa), (2, .int xl), (3, .ref ob)]) hx hb dL_within_13 hl (by decide) rfl (fun ls hl => ?_)
  refine lv_iconst (v := 1) hx hb dL_within_15 (by decide) ?_
  refine W.widen (k := 3) (n := 3072) (Nat.le_of_ble_eq_true rfl) (Nat.le_of_ble_eq_true rfl) ?_
  exact pb_wi hx hb hr hlocks hS dL_within_16 (rfl) (fun t ht hW => ⟨_, _, _, _, _, _, _, _, hR9, trivial, pb_B_of hP hK hD t ht hW⟩)

end PB15
