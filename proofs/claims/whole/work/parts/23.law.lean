/-! THE CLAIM OUT OF ONE WALK OF THE LAW'S BODY. Your part is whole_start (and what it stands on); all else here is the same for every law, but numbers. -/
def R_law : String := "PrefixBenchLaw"
def lw_P (b : Addr) (xs : List Int32) (args : Array Value) (s : State) : Prop := args = #[.ref b] ∧ s.IntsAt b xs ∧ xs.length ≤ 3584 ∧ (Jvm.Cond.and given_1 narrow_1).before args s = true
def lw_Q (_ : Array Value) (s : State) (o : Outcome) (t : State) : Prop := o = .returned (some (.int 1)) ∧ Framed s o t [] 601024 7293034
def lw_Z (below : List Frame) (a : Array Value) (s : State) : State → Prop := fun t => ∃ o, t.status = .running ∧ Ended t below o ∧ lw_Q a s o t
/-- the law's own end, with 1 on the stack, nothing written that was there before, its room as the claim has it -/
theorem lw_ret {p : Program} {l : Launch} {e : Env} {s : State} {m : MethodId} {below : List Frame} {meth : Method} {c : Code} {b : Nat} (hx : p.tables.exec = Jvm.exec) (hb : c.code = code) (hr : meth.sig.returnType = ret) (hlocks : meth.locks = false) {pc : Nat} {H : Heap} {ls : Array Slot} (hdg : decode code pc = .ok (.ireturn, 1)) : W p l e room_1 s m #[Value.ref b] below meth c H [] 601024 7293034 (lw_Z below #[Value.ref b] s) (F0 m pc ls [.int 1]) := by
  intro T hT X
  obtain ⟨fs, hret, hrun, hended, hW, hframe⟩ := X.leave (v := some (.int 1)) (hlocks := hlocks) (fun h => by rw [hr] at h; cases h)
  have hmeth' : T.vm.method? m = some meth := X.method'
  refine ⟨T.setFrames fs, ?_, .returned (some (.int 1)), hrun, hended, rfl, ⟨_, rfl⟩, hW, hframe⟩
  jvm_step X.here [X.here.top, hx, hb, hdg, hmeth', hr, ret, narrow_b1]
  (try refine ⟨rfl, ?_⟩); (try refine ⟨rfl, ?_⟩)
  first | (intro acts; rw [hret _ acts rfl rfl rfl]) | rw [hret _ _ rfl rfl rfl]
  exact Steps.refl _
/-- what holds at the law's entry: the machine, the code, the tables' words (any of lw_tbl by 'hts w (by decide +kernel)'), the script of L ints xs at the cell b, what the Statement gives of the start (any of its parts by flat_of_before) -/
def lw_At (p : Program) (s : State) (m : MethodId) (meth : Method) (c : Code) (b L : Nat) (xs : Nat → Int32) : Prop :=
  p.tables.exec = Jvm.exec ∧ c.code = code ∧ meth.sig.returnType = ret ∧ c.maxLocals = 8 ∧ s.vm.findClass R_law = some m.cls ∧ (∀ w ∈ lw_tbl, w.before #[Value.ref b] s = true) ∧ va_X b L xs s s.heap ∧ b < s.heap.size ∧ meth.locks = false ∧ (Jvm.Cond.and given_1 narrow_1).before #[Value.ref b] s = true
-- ===== YOUR PART BEGINS =====
section
variable {p : Program} {l : Launch} {e : Env} {R : Room} {s : State} {m : MethodId} {args : Array Value} {below : List Frame} {meth : Method} {c : Code} {H : Heap} {locs : List Loc} {cells slots mc ms : Nat} {Q : State → Prop}
variable {pc : Nat} {ls : Array Slot} {rest st0 : List Value} {cc bytes : ByteArray} {nL maxL index n : Nat} {own : String} {y : MethodName} {ws Ts : List Cond} {rm : Room} {As : List Value} {b : Addr} {D : va_G} {tys : List (ClassId × FieldType)} {wd wc wr : va_W} {lv : List (Nat × Value)} {A : Nat → Prop} {B : (Nat → Prop) → State → Prop}
/-- a constructor's call, over a part of the world -/
theorem pb_callIj (S : CallFix p m c cc nL s args Ts own) (hM : Met l y ws rm (pb_XD (.ref b :: As) D tys wc H.size) (pb_QB (.returned none) B (pb_A (wc.map Prod.fst) H.size)) mc ms (pb_A (wc.map Prod.fst) H.size)) (cw : CallB R s args own index y bytes maxL none ws rm mc ms n ∧ y.name = "<init>" ∧ (Cond.instanceMethod y).before args s = true) (hP : va_P D vwCl wd H) (hK : va_K D vwCl tys s) (hD : va_D A wd) (hS : va_S A s.heap H locs) (hA : ∀ q : Nat, s.heap.size ≤ q → A q)
    (isC isR : List Nat) (hCs : isC.filterMap (fun i => wd[i]?) = wc) (hC : isC.map (fun i => wd[i]?) = wc.map some) (hR : isR.map (fun i => wd[i]?) = wr.map some) (hnC : va_nd isC = true) (hn9 : va_nd isR = true) (hdis : ∀ i ∈ isR, i ∉ isC)
    (hst : st0 = As.reverse ++ .ref b :: rest) (hn : As.length = n) (hl : lv_has ls nL lv) (hW : (rest.map fun v => v.category).sum ≤ 8) (hdg : decode cc pc = .ok (.invokespecial index, 3)) (hf : cells + mc ≤ R.cells ∧ slots + ms ≤ R.slots)
    (kk : ∀ (t : State) (H1 : Heap) (locs1 : List Loc), B (pb_A (wc.map Prod.fst) H.size) t → (∀ w1 : va_W, pb_B D tys w1 (pb_A (wc.map Prod.fst) H.size) t → va_P D vwCl (wr ++ w1) H1 ∧ va_D A (wr ++ w1)) → va_S A s.heap H1 locs1 → W p l e R s m args below meth c H1 locs1 (cells + mc) (slots + ms) Q (F0 m (pc + 3) ls rest)) : W p l e R s m args below meth c H locs cells slots Q (F0 m pc ls st0) := by
  intro T hT X
  obtain ⟨v9, st₀, t, T', L, h0, X', hL, e1, e2, ⟨hv, hB, hz, hk⟩, st⟩ := va_runI (g := F0 m pc ls st0) S hM cw ⟨pb_XD_blind, pb_XD_pre (hP.sub isC hCs) hK (hD.sub isC hnC hC)⟩ rfl hn hl.1 hst (lv_room hW) hdg hf T hT X
  cases hv
  have hsub := pb_sub (hD.sub isC hnC hC) hS hA
  rw [h0] at hz hk
  rw [pb_A_eq] at hk
  obtain ⟨t2, a1, b1⟩ := kk t T'.heap (locs ++ L) hB (fun w1 h1 => by
    rw [pb_A_eq] at h1 hsub
    obtain ⟨q1, q2, q3⟩ := h1
    rw [← e1] at q1
    exact va_join hP hD isC isR hC hR hn9 hdis (fun q h h2 => by rw [e1]; exact hk q h h2) hsub q1 q3) ⟨Nat.le_trans hS.1 (by rw [e1]; exact hz), fun q h1 h2 => by rw [e1, hk q (Nat.lt_of_lt_of_le h1 hS.1) (fun z => h2 (hsub q (pb_A_va.mpr z)))]; exact hS.2.1 q h1 h2, fun q hq => by
    rcases List.mem_append.mp hq with h | h
    · exact hS.2.2 q h
    · exact hsub _ (hL q h)⟩ T' rfl X'
  exact ⟨t2, st t2 a1, b1⟩
end
set_option maxHeartbeats 4000000 in
set_option maxRecDepth 100000 in
/-- THE LAW'S LOOP: at its head, j calls done, the class's object and the reference's hold the same routes -/
theorem law_loop {p : Program} {l : Launch} {e : Env} {s : State} {m : MethodId} {below : List Frame} {meth : Method} {c : Code} {D : va_G} {cI cJ : ClassId} {b L : Nat} {xs : Nat → Int32} {h0 m0 a1 l1 o1 c2 h2 ob : Nat} (C0 : pb_LC p l s m #[Value.ref b] c D cI cJ b L xs) (hr : meth.sig.returnType = ret) (hlocks : meth.locks = false) :
    ∀ (n j : Nat), 7 * j ≤ L → L + 1 ≤ 7 * j + n → ∀ (T : List pb_Rt) (co : Int32) (H : Heap) (locs : List Loc) (ls : Array Slot), pb_ok T → T.length ≤ j → pb_LI D cI cJ (fun q : Nat => s.heap.size ≤ q) h0 m0 a1 l1 o1 c2 h2 ob T T co (fun _ => True) H → va_S (fun q : Nat => s.heap.size ≤ q) s.heap H locs → lv_has ls 8 [(4, .int (nI (7 * j))), (0, .ref b), (1, .ref h0), (2, .ref m0), (3, .ref ob)] → W p l e room_1 s m #[Value.ref b] below meth c H locs (16 + 3 * j) (6000 + 3072 * j) (lw_Z below #[Value.ref b] s) (F0 m 23 ls []) := by
  obtain ⟨hx, hb, hml, hown, hts, hX, hbl, hK, hE, hst0, hL⟩ := id C0
  have hA : ∀ q : Nat, s.heap.size ≤ q → (fun q : Nat => s.heap.size ≤ q) q := fun _ h => h
  have hbA : ¬ (fun q : Nat => s.heap.size ≤ q) b := Nat.not_le.mpr hbl
  intro n
  induction n with
  | zero => intro j h1 h2; exact absurd h2 (by omega)
  | succ n ih =>
    intro j hj hn T co H locs ls hT hTl hI hS hl
    refine lv_iload hx hb dL_law_23 (lv_at hl 0 rfl) ?_
    refine lv_aload_n hx hb dL_law_25 rfl (lv_at hl 1 rfl) ?_
    refine va_slen hx hb hX hbl hbA hS dL_law_26 ?_
    refine lv_bipush (v := 7) hx hb dL_law_27 (by decide) ?_
    refine lv_isub hx hb dL_law_29 ?_
    refine lv_icmp_gt (tgt := 877) hx hb dL_law_30 (by decide) (fun q30 => ?_) (fun q30 => ?_)
    · refine lv_iconst (v := 1) hx hb dL_law_877 (by decide) ?_
      refine va_forget (fun q hq => hS.2.2 q hq) ?_
      refine W.widen (k := 601024) (n := 7293034) (by omega) (by omega) ?_
      exact lw_ret hx hb hr hlocks dL_law_878
    · have hj7 : 7 * j + 7 ≤ L := by
        have := mt (pb_lend hL hj).mpr q30
        omega
      refine lv_aload_n hx hb dL_law_33 rfl (lv_at hl 1 rfl) ?_
      refine lv_iload hx hb dL_law_34 (lv_at hl 0 rfl) ?_
      refine pb_sld hx hb hX hbl hbA hS hL (7 * j) rfl (by omega) dL_law_36 ?_
      refine lv_bipush (v := 15) hx hb dL_law_37 (by decide) ?_
      refine lv_iand hx hb dL_law_39 ?_
      obtain ⟨w, hw, ew⟩ := pb_and15 (xs (7 * j))
      refine pb_topi (z := nI w) ew ?_
      have kk : ∀ (T' : List pb_Rt) (co' : Int32) (H1 : Heap) (locs1 : List Loc) (ls1 : Array Slot), pb_ok T' → T'.length ≤ j + 1 → pb_LI D cI cJ (fun q : Nat => s.heap.size ≤ q) h0 m0 a1 l1 o1 c2 h2 ob T' T' co' (fun _ => True) H1 → va_S (fun q : Nat => s.heap.size ≤ q) s.heap H1 locs1 → lv_has ls1 8 [(4, .int (nI (7 * j))), (0, .ref b), (1, .ref h0), (2, .ref m0), (3, .ref ob)] → W p l e room_1 s m #[Value.ref b] below meth c H1 locs1 (16 + 3 * (j + 1)) (6000 + 3072 * (j + 1)) (lw_Z below #[Value.ref b] s) (F0 m 871 ls1 []) := by
        intro T' co' H1 locs1 ls1 hT9 hl9 hI9 hS9 hls
        refine lv_iinc (v := nI (7 * (j + 1))) (lv' := [(4, .int (nI (7 * (j + 1)))), (0, .ref b), (1, .ref h0), (2, .ref m0), (3, .ref ob)]) hx hb dL_law_871 hls (k := 0) rfl (nI_add (7 * j) 7) (by decide) rfl (fun ls hl => ?_)
        refine lv_goto (tgt := 23) hx hb dL_law_874 (by decide) ?_
        exact ih (j + 1) (by omega) (by omega) T' co' H1 locs1 ls hT9 hl9 hI9 hS9 hl
      rcases (show w = 0 ∨ w = 1 ∨ w = 2 ∨ w = 3 ∨ w = 4 ∨ w = 5 ∨ w = 6 ∨ w = 7 ∨ w = 8 ∨ w = 9 ∨ w = 10 ∨ w = 11 ∨ w = 12 ∨ w = 13 ∨ w = 14 ∨ w = 15 by omega) with rfl | rfl | rfl | rfl | rfl | rfl | rfl | rfl | rfl | rfl | rfl | rfl | rfl | rfl | rfl | rfl
      · exact lv_tableIn (off := 72) (tgt := 112) hx hb dL_law_40 (by decide) (by decide) (by decide) (by decide) (law_w0 C0 hT hTl hj7 hI hS hl kk)
      · exact lv_tableIn (off := 210) (tgt := 250) hx hb dL_law_40 (by decide) (by decide) (by decide) (by decide) (law_w1 C0 hT hTl hj7 hI hS hl kk)
      · exact lv_tableIn (off := 297) (tgt := 337) hx hb dL_law_40 (by decide) (by decide) (by decide) (by decide) (law_w2 C0 hT hTl hj7 hI hS hl kk)
      · exact lv_tableIn (off := 353) (tgt := 393) hx hb dL_law_40 (by decide) (by decide) (by decide) (by decide) (law_w3 C0 hT hTl hj7 hI hS hl kk)
      · exact lv_tableIn (off := 409) (tgt := 449) hx hb dL_law_40 (by decide) (by decide) (by decide) (by decide) (law_w4 C0 hT hTl hj7 hI hS hl kk)
      · exact lv_tableIn (off := 501) (tgt := 541) hx hb dL_law_40 (by decide) (by decide) (by decide) (by decide) (law_w5 C0 hT hTl hj7 hI hS hl kk)
      · exact lv_tableIn (off := 526) (tgt := 566) hx hb dL_law_40 (by decide) (by decide) (by decide) (by decide) (law_w6 C0 hT hTl hj7 hI hS hl kk)
      · exact lv_tableIn (off := 552) (tgt := 592) hx hb dL_law_40 (by decide) (by decide) (by decide) (by decide) (law_w7 C0 hT hTl hj7 hI hS hl kk)
      · exact lv_tableIn (off := 589) (tgt := 629) hx hb dL_law_40 (by decide) (by decide) (by decide) (by decide) (law_w8 C0 hT hTl hj7 hI hS hl kk)
      · exact lv_tableIn (off := 657) (tgt := 697) hx hb dL_law_40 (by decide) (by decide) (by decide) (by decide) (law_w9 C0 hT hTl hj7 hI hS hl kk)
      · exact lv_tableIn (off := 724) (tgt := 764) hx hb dL_law_40 (by decide) (by decide) (by decide) (by decide) (law_w10 C0 hT hTl hj7 hI hS hl kk)
      · exact lv_tableIn (off := 792) (tgt := 832) hx hb dL_law_40 (by decide) (by decide) (by decide) (by decide) (law_w11 C0 hT hTl hj7 hI hS hl kk)
      · exact lv_tableIn (off := 805) (tgt := 845) hx hb dL_law_40 (by decide) (by decide) (by decide) (by decide) (law_w12 C0 hT hTl hj7 hI hS hl kk)
      · exact lv_tableIn (off := 818) (tgt := 858) hx hb dL_law_40 (by decide) (by decide) (by decide) (by decide) (law_w13 C0 hT hTl hj7 hI hS hl kk)
      · refine lv_tableOut (tgt := 871) hx hb dL_law_40 (Or.inr (by decide)) (by decide) ?_
        refine W.widen (k := 16 + 3 * (j + 1)) (n := 6000 + 3072 * (j + 1)) (by omega) (by omega) ?_
        exact kk _ _ _ _ _ hT (by omega) hI hS hl
      · refine lv_tableOut (tgt := 871) hx hb dL_law_40 (Or.inr (by decide)) (by decide) ?_
        refine W.widen (k := 16 + 3 * (j + 1)) (n := 6000 + 3072 * (j + 1)) (by omega) (by omega) ?_
        exact kk _ _ _ _ _ hT (by omega) hI hS hl
theorem pb_ngl_in : ∀ w ∈ pb_ngl, w ∈ lw_tbl := by decide +kernel
theorem pb_txts_in : ∀ q ∈ pb_txts, Cond.stringRef RX0 q.1 q.2 ∈ lw_tbl := by decide +kernel
theorem pb_txts_ex : ∀ q ∈ pb_txts, Cond.exactly (Term.string RX0 q.1) "java/lang/String" ∈ flatC (Jvm.Cond.and given_1 narrow_1) := by decide +kernel
set_option maxHeartbeats 4000000 in
set_option maxRecDepth 100000 in
/-- YOUR PART: from the entry, for every script of at most 3584 ints, the law comes to its end with true ('hflags': the launch's flags, for a law that throws: no stack traces) -/
theorem whole_start {p : Program} {e : Env} {s : State} {m : MethodId} {below : List Frame} {meth : Method} {c : Code} (l : Launch) (hflags : l.flags = flags0) {b L : Nat} {xs : Nat → Int32} (hL : L ≤ 3584) (C0 : lw_At p s m meth c b L xs) : W p l e room_1 s m #[Value.ref b] below meth c s.heap [] 0 0 (lw_Z below #[Value.ref b] s) (entryFrame m ([Value.ref b] : List Value).toArray 8) := by
  obtain ⟨hx, hb, hr, hml, hown, hts0, hX, hbl, hlocks, hgv⟩ := id C0
  have hb : c.code = cL_law := hb
  have hown : s.vm.findClass RL = some m.cls := hown
  have hst0 : l.stackTraces = false := by unfold Launch.stackTraces; rw [hflags]; decide +kernel
  have hts : ∀ w ∈ wsL_law, w.before #[Value.ref b] s = true := fun w h => hts0 w (wsL_law_in w h)
  have hflat := flat_of_before _ hgv
  have hA : ∀ q : Nat, s.heap.size ≤ q → (fun q : Nat => s.heap.size ≤ q) q := fun _ h => h
  have hbA : ¬ (fun q : Nat => s.heap.size ≤ q) b := Nat.not_le.mpr hbl
  have hAn : ∀ a : Nat, a < s.heap.size → ¬ (fun q : Nat => s.heap.size ≤ q) a := fun a h => Nat.not_le.mpr h
  have zU : vx_Zq Bundle.tN "UNASSIGNED_STACK" Bundle.steD (fun q : Nat => s.heap.size ≤ q) s s.heap := vx_Zqof (hts0 (.laysStatic Bundle.tN "UNASSIGNED_STACK" Bundle.steD) (by decide +kernel)) (hts0 (.initialized Bundle.tN) (by decide +kernel)) (hflat (.isRef (.static Bundle.tN "UNASSIGNED_STACK" Bundle.steD)) (by decide +kernel)) hAn
  have zN : vx_Zq Bundle.tN "SUPPRESSED_SENTINEL" Bundle.listD (fun q : Nat => s.heap.size ≤ q) s s.heap := vx_Zqof (hts0 (.laysStatic Bundle.tN "SUPPRESSED_SENTINEL" Bundle.listD) (by decide +kernel)) (hts0 (.initialized Bundle.tN) (by decide +kernel)) (hflat (.isRef (.static Bundle.tN "SUPPRESSED_SENTINEL" Bundle.listD)) (by decide +kernel)) hAn
  have hstr : ∀ q ∈ pb_txts, ∃ sa : Nat, vk_R RX0 q.1 q.2 sa s := fun q hq => by
    obtain ⟨sa, -, -, -, h1, -⟩ := Cond.exactly_spec (hflat _ (pb_txts_ex q hq))
    exact ⟨sa, vk_R.of (hts0 _ (pb_txts_in q hq)) h1⟩
  have hE : ∀ (H : Heap) (locs : List Loc), va_S (fun q : Nat => s.heap.size ≤ q) s.heap H locs → ∀ U : State, U.heap = H → s.WarmedH U.vm → pb_E U := fun H locs hS U hU hW => by
    refine ⟨by rw [hU]; exact vx_Zq.moved hW.alike ((zU.kept hS.2.1).narrow (fun _ h => h.elim)), by rw [hU]; exact vx_Zq.moved hW.alike ((zN.kept hS.2.1).narrow (fun _ h => h.elim)), fun q hq => ?_, fun z w hw => ?_⟩
    · obtain ⟨sa, h1⟩ := hstr q hq
      exact ⟨sa, vk_R.warm hW h1⟩
    · exact Cond.tabsOnly_warm (T := U) hW w (pb_ngl_t w hw) (hts0 w (pb_ngl_in w hw))
  obtain ⟨c0, iS0, hKn0⟩ := u_known (C := RX0) (T := TX0) (N := 4) (n := 4) hts0 inX0 (hts0 (.instantiable RX0 4) (by decide +kernel))
  obtain ⟨c1, iS1, hKn1⟩ := u_known (C := RX1) (T := TX1) (N := 7) (n := 7) hts0 inX1 (hts0 (.instantiable RX1 7) (by decide +kernel))
  obtain ⟨D, hKc⟩ : ∃ D : va_G, ∀ (k : Nat) (q : vw_C), vwCl[k]? = some q → u_Kn s q.1 q.2.1 q.2.2 (D.1 k) (D.2 k) := by
    refine ⟨(fun k => if k = 0 then c0 else c1, fun k => if k = 0 then iS0 else iS1), ?_⟩
    intro k q hq
    match k, hq with
    | 0, hq => cases hq; exact hKn0
    | 1, hq => cases hq; exact hKn1
    | k + 2, hq => simp [vwCl] at hq
  obtain ⟨cJ, kJ, compJ, fJ1, fJ2, fJ3⟩ := Cond.arrayClass_spec (hts0 (.arrayClass .long) (by decide +kernel))
  obtain ⟨cI, kI, compI, fI1, fI2, fI3⟩ := Cond.arrayClass_spec (hts0 (.arrayClass .int) (by decide +kernel))
  have hK : va_K D vwCl (pb_ty cI cJ) s := by
    refine ⟨hKc, fun k q h => ?_⟩
    match k, h with
    | 0, h => cases h; exact ⟨fun n z => ⟨fun k h => (by cases h), kJ, fJ2, compJ, fJ3⟩, fJ1⟩
    | 1, h => cases h; exact ⟨fun n z => ⟨fun k h => (by cases h), kI, fI2, compI, fI3⟩, fI1⟩
    | k + 2, h => simp [pb_ty] at h
  have hC9 : pb_LC p l s m #[Value.ref b] c D cI cJ b L xs := ⟨hx, hb, hml, hown, hts, hX, hbl, hK, hE, hst0, hL⟩
  have hS : va_S (fun q : Nat => s.heap.size ≤ q) s.heap s.heap [] := va_S.rf
  have hP : va_P D vwCl [] s.heap := fun k q h => by simp at h
  have hD : va_D (fun q : Nat => s.heap.size ≤ q) [] := ⟨fun i j p q h => by simp at h, fun k q h => by simp at h⟩
  have hl := lv_entry ([.ref b]) (n := 8) (Nat.le_of_ble_eq_true rfl)
  rw [lg_entry_eq]
  generalize (lg_sl ([.ref b]) ++ List.replicate (8 - (lg_sl ([.ref b])).length) Slot.unset).toArray = ls at hl ⊢
  have hl : lv_has ls 8 [(0, .ref b)] := hl
  refine va_new (D := D) (ci := 0) (fs := [.null, .null, .null, .int 0]) (C := RX0) (T := TX0) (N := 4) hx hb hts0 inX0 tyX0 tyX0_ok hown (hts0 (.classLink RL 8 RX0) (by decide +kernel)) (hts0 (.instantiable RX0 4) (by decide +kernel)) (hts0 (.initialized RX0) (by decide +kernel)) hK hP hD hS hA rfl (fun j hj => by rcases (show j = 0 ∨ j = 1 ∨ j = 2 ∨ j = 3 by omega) with rfl | rfl | rfl | rfl <;> rfl) (Nat.le_of_ble_eq_true rfl) (Nat.le_of_ble_eq_true rfl) dL_law_0 (fun h0 H hP hD hS => ?_)
  have hP : va_P D vwCl [(h0, .inr (0, [.null, .null, .null, .int 0]))] H := hP
  have hD : va_D (fun q : Nat => s.heap.size ≤ q) [(h0, .inr (0, [.null, .null, .null, .int 0]))] := hD
  refine lv_dup hx hb dL_law_3 rfl ?_
  refine pb_callIj (As := []) (rest := [.ref h0]) (wr := []) ⟨hx, hb, hml, hown, hts⟩ (c_X0_init (D := D) (cI := cI) (cJ := cJ) (h0 := h0)) (cwI 0 hts gL_law_X0_init rfl rfl rfl (hts0 (.initialized RX0) (by decide +kernel)) (hts0 (.methodLink RL 43 yX0_init) (by decide +kernel)) (hts0 (.instanceMethod yX0_init) (by decide +kernel)) rfl (by decide +kernel) ⟨Nat.le_of_ble_eq_true rfl, Nat.le_of_ble_eq_true rfl⟩) hP hK hD hS hA [0] [] rfl rfl rfl (by decide) (by decide) (by decide) rfl rfl hl (Nat.le_of_ble_eq_true rfl) dL_law_4 ⟨Nat.le_of_ble_eq_true rfl, Nat.le_of_ble_eq_true rfl⟩ (fun t9 H locs hB hj hS => ?_)
  obtain ⟨k1, c1, h1, cap, Kf, Cf, Hf, hR, hB⟩ := hB
  obtain ⟨hP, hD⟩ := hj _ hB
  have hP : va_P D vwCl (pb_wX cI cJ h0 k1 c1 h1 cap Kf Cf Hf (nI 0)) H := hP
  have hD : va_D (fun q : Nat => s.heap.size ≤ q) (pb_wX cI cJ h0 k1 c1 h1 cap Kf Cf Hf (nI 0)) := hD
  refine W.widen (k := 4) (n := 52) (by omega) (by omega) ?_
  refine lv_astore_n (lv' := [(1, .ref h0), (0, .ref b)]) hx hb dL_law_7 rfl hl (by decide) rfl (fun ls hl => ?_)
  refine va_new (D := D) (ci := 1) (fs := [.int 0, .int 0, .null, .null, .null, .null, .null]) (C := RX1) (T := TX1) (N := 7) hx hb hts0 inX1 tyX1 tyX1_ok hown (hts0 (.classLink RL 44 RX1) (by decide +kernel)) (hts0 (.instantiable RX1 7) (by decide +kernel)) (hts0 (.initialized RX1) (by decide +kernel)) hK hP hD hS hA rfl (fun j hj => by rcases (show j = 0 ∨ j = 1 ∨ j = 2 ∨ j = 3 ∨ j = 4 ∨ j = 5 ∨ j = 6 by omega) with rfl | rfl | rfl | rfl | rfl | rfl | rfl <;> rfl) (Nat.le_of_ble_eq_true rfl) (Nat.le_of_ble_eq_true rfl) dL_law_8 (fun m0 H hP hD hS => ?_)
  refine lv_dup hx hb dL_law_11 rfl ?_
  refine pb_callIj (As := []) (rest := [.ref m0]) (wr := pb_wX cI cJ h0 k1 c1 h1 cap Kf Cf Hf (nI 0)) ⟨hx, hb, hml, hown, hts⟩ (c_X1_init (D := D) (cI := cI) (cJ := cJ) (m0 := m0)) (cwI 0 hts gL_law_X1_init rfl rfl rfl (hts0 (.initialized RX1) (by decide +kernel)) (hts0 (.methodLink RL 46 yX1_init) (by decide +kernel)) (hts0 (.instanceMethod yX1_init) (by decide +kernel)) rfl (by decide +kernel) ⟨Nat.le_of_ble_eq_true rfl, Nat.le_of_ble_eq_true rfl⟩) hP hK hD hS hA [4] [0, 1, 2, 3] rfl rfl rfl (by decide) (by decide) (by decide) rfl rfl hl (Nat.le_of_ble_eq_true rfl) dL_law_12 ⟨Nat.le_of_ble_eq_true rfl, Nat.le_of_ble_eq_true rfl⟩ (fun t9 H locs hB hj hS => ?_)
  obtain ⟨a1, l1, o1, c2, h2, Af, Lf, Og, Cg, Hg, hM, hB⟩ := hB
  obtain ⟨hP, hD⟩ := hj _ hB
  refine W.widen (k := 10) (n := 5064) (by omega) (by omega) ?_
  refine lv_astore_n (lv' := [(2, .ref m0), (1, .ref h0), (0, .ref b)]) hx hb dL_law_15 rfl hl (by decide) rfl (fun ls hl => ?_)
  refine lv_iconst (v := 1) hx hb dL_law_16 (by decide) ?_
  refine va_newa (atype := .long) (ty := .long) (N' := 1) (a0 := (1, .inr (.inl (fun _ => 0)))) hx hb (hts0 (.arrayClass .long) (by decide +kernel)) rfl hK hP hD hS hA (fun cA => rfl) (by decide) (by decide) (by decide) (Nat.le_of_ble_eq_true rfl) (Nat.le_of_ble_eq_true rfl) dL_law_17 (fun ob cA H hK9 hP hD hS => ?_)
  obtain rfl := pb_cidJ hK9
  refine lv_astore_n (lv' := [(3, .ref ob), (2, .ref m0), (1, .ref h0), (0, .ref b)]) hx hb dL_law_19 rfl hl (by decide) rfl (fun ls hl => ?_)
  refine lv_iconst (v := 0) hx hb dL_law_20 (by decide) ?_
  refine lv_istore (lv' := [(4, .int 0), (3, .ref ob), (2, .ref m0), (1, .ref h0), (0, .ref b)]) hx hb dL_law_21 hl (by decide) rfl (fun ls hl => ?_)
  refine W.widen (k := 16 + 3 * 0) (n := 6000 + 3072 * 0) (by omega) (by omega) ?_
  have hl : lv_has ls 8 [(4, .int (nI (7 * 0))), (3, .ref ob), (2, .ref m0), (1, .ref h0), (0, .ref b)] := hl
  exact law_loop hC9 hr hlocks (L + 1) 0 (Nat.zero_le _) (by omega) [] 0 _ _ ls ⟨List.Pairwise.nil, fun r h => nomatch h⟩ (Nat.le_refl _) ⟨k1, c1, h1, cap, Kf, Cf, Hf, Af, Lf, Og, Cg, Hg, _, hR, ⟨Nat.zero_le _, hM⟩, trivial, hP, hD⟩ hS (lv_sub hl [0, 4, 3, 2, 1] rfl)
-- ===== YOUR PART ENDS =====
set_option maxHeartbeats 4000000 in
theorem lw_walk (l : Launch) (hflags : l.flags = flags0) (b : Addr) (xs : List Int32) : MetFree l x (headSpec (Jvm.Cond.code x code maxLocals ret :: tables_1) room_1) (lw_P b xs) (fun _ _ _ _ _ => True) lw_Q := by
  refine MetFree.of_bodyS (code := code) (maxLocals := maxLocals) (ret := ret) (by decide) ?_ ?_
  · intro args s m h hn
    obtain ⟨meth, c, h1, h2, h3, h4, h5, h6, -, -⟩ := Cond.code_spec hn (atoms_spec (ws := Jvm.Cond.code x code maxLocals ret :: tables_1) h _ List.mem_cons_self)
    exact ⟨meth, c, h1, h2, h3, h4, h5, h6⟩
  · intro p e s m args below meth c s₁ B hml0 hP _
    obtain ⟨rfl, hx, hbd, hgv⟩ := hP
    obtain ⟨scr, harrAt, hlist, hof, hsmall⟩ := hx
    obtain ⟨hcb, hkn, -, -⟩ := State.arrayAt?_spec harrAt
    have hown : s.vm.findClass R_law = some m.cls := findClass_of_methodNamed B.named
    have hts0 : ∀ c ∈ (Jvm.Cond.code x code maxLocals ret :: tables_1), c.before #[Value.ref b] s = true := atoms_spec (ws := Jvm.Cond.code x code maxLocals ret :: tables_1) B.pre
    have hts : ∀ w ∈ lw_tbl, w.before #[Value.ref b] s = true := k2_hts_sels lw_privs (fun w hw => hts0 w (List.mem_cons_of_mem _ hw)) lw_privs_ok
    have hml : c.maxLocals = 8 := B.maxLocals_eq (hts0 _ List.mem_cons_self)
    have X₀ : Stand p l e room_1 s m #[Value.ref b] below meth c s₁ [] 0 0 := Stand.of_body B
    have hh0 : s₁.heap = s.heap := by rw [B.state]; rfl
    have hsz : scr.slots.size = xs.length := by rw [← Array.length_toList, hlist, List.length_map]
    have hval : ∀ j : Nat, j < xs.length → scr.slots[j]? = some (.int (xs.getD j 0)) := fun j hj => by
      rw [← Array.getElem?_toList, hlist]
      simp [hj]
    have hbl : b < s.heap.size := (Array.getElem?_eq_some_iff.mp hcb).1
    have hX : va_X b xs.length (fun j => xs.getD j 0) s s.heap := ⟨scr, hcb, hof, hkn, hsz, hval⟩
    have K : W p l e room_1 s m #[Value.ref b] below meth c s₁.heap [] 0 0 (lw_Z below #[Value.ref b] s) (entryFrame m ([Value.ref b] : List Value).toArray 8) := by
      rw [hh0]
      exact whole_start l hflags hbd ⟨B.exec, B.bytes, B.returns, hml, hown, hts, hX, hbl, B.notSynchronized, hgv⟩
    obtain ⟨t, a1, o, b1, b2, b3⟩ := K s₁ rfl X₀
    exact ⟨t, o, a1, b1, b2, b3⟩
theorem lw_pre_spec {args : Array Value} {s : State} (h : (Jvm.Cond.and given_1 narrow_1).before args s = true) (hr : rest_1_c.before args s = true) : ∃ (b : Addr) (xs : List Int32), lw_P b xs args s := by
  have hs := flat_of_before _ h
  have hq := flat_of_before _ hr
  have hc : (Cond.count 1).before args s = true := hs _ (by decide +kernel)
  have harr : (Cond.arrayOf (.arg 0) .int).before args s = true := hs _ (by decide +kernel)
  have hle : (Cond.le (.length (.arg 0)) (.int 3584)).before args s = true := hs _ (by decide +kernel)
  have hlen : (Cond.isInt (.length (.arg 0))).before args s = true := hq _ (by decide +kernel)
  have hall : (Cond.all (.arg 0) (.isInt (.elem (.arg 0) (.index 0)))).before args s = true := hq _ (by decide +kernel)
  obtain ⟨b, xs, hb, hx⟩ := State.ints_of_pre rfl harr hlen hall
  have hsm : xs.length < 2 ^ 31 := hx.choose_spec.2.2.2
  have hev : (Term.length (.arg 0)).eval args s none [] s = some (.int xs.length.toInt32) := hx.length_eval hb
  have hv := Cond.le_ints hev (show (Term.int 3584).eval args s none [] s = some (.int 3584) from rfl)
  have hd : xs.length.toInt32 ≤ 3584 := by
    simpa [Cond.before, Cond.holds, hv] using hle
  have hN : xs.length ≤ 3584 := (Int32.ofNat_le_ofNat hsm (by decide)).mp (show Int32.ofNat xs.length ≤ Int32.ofNat 3584 from hd)
  exact ⟨b, xs, Cond.one_arg hc (show args[0]? = some (.ref b) from hb), hx, hN, h⟩
theorem lw_comes (l : Launch) (hflags : l.flags = flags0) : Comes l x (Jvm.Cond.code x code maxLocals ret :: tables_1) room_1 (fun tb e args s => Calls_1 tb e args s ∧ rest_1 tb e args s ∧ Pre_1 tb e args s)
    (fun _ _ args s o t => lw_Q args s o t) := by
  intro p e ha hc hk s m args below hf hfit hheap happ hpre
  obtain ⟨b, xs, hP⟩ := lw_pre_spec hpre.2.2 hpre.2.1
  obtain ⟨k, o, h1, h2, h3, hQ⟩ := lw_walk l hflags b xs p e ha hc hk s m args below hf ((Spec.applies_iff_loose hf).mp happ).1 hP trivial
  exact ⟨k, o, h1, h2, h3, hQ⟩
theorem lw_frame {s t : State} {o : Outcome} {args : Array Value} (h : Framed s o t [] 601024 7293034) :
    Framed s o t (fieldLocs frame_1_writes args s ++ arrayLocs frame_1_arrays args s ++ staticLocs frame_1_statics s) 601024 7293034 := h
theorem lw_limb (L : Cond) (hL : ∀ (args : Array Value) (s t : State), L.after args s (.returned (some (.int 1))) t = true) :
    ArmFor flags0 classFile x code maxLocals ret World_1 tables_1 room_1 Calls_1 rest_1 Pre_1
      (fun tb e a s o t => postC L tb e a s o t ∧ Framed s o t (fieldLocs frame_1_writes a s ++ arrayLocs frame_1_arrays a s ++ staticLocs frame_1_statics s) 601024 7293034) := by
  intro l hflags _ _ p e ha hc hk s m args below hf hfit hheap happ hpre
  obtain ⟨k, o, h1, h2, h3, rfl, hF⟩ := lw_comes l hflags p e ha hc hk s m args below hf hfit hheap happ hpre
  exact ⟨k, _, h1, h2, h3, hL args s _, lw_frame hF⟩
theorem i_vc : Claimed_1_1 ∧ Claimed_1_2 := ⟨lw_limb limb_1_1 (fun args s t => by simp [limb_1_1, Cond.after, Cond.holds, Cond.value]), lw_limb limb_1_2 (fun args s t => Cond.after_iff.mpr (by
  first | (rw [show limb_1_2 = Cond.eq .result (.int 1) from rfl, Cond.eq_ints (x := 1) (y := 1) rfl rfl]; simp; done) | (simp [limb_1_2, Cond.value, Term.eval]; done)))⟩
