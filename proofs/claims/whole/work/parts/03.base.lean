/-! BASE: contracts of methods that only read (exact answers), entry, calls, joins and loops of a walk; places of arrays by natural numbers. -/
section PB0
abbrev pb_Rt : Type := Nat × Int32 × Int64
abbrev pb_R (fr lo : Nat) : Room := { frames := fr, cells := 0, slots := 0, locals := lo }
abbrev pb_No : Addr → Prop := fun _ => False
abbrev pb_Rd (l : Launch) (y : MethodName) (ws : List Cond) (fr lo : Nat) (Pc : Array Value → State → Prop) (v : Value) : Prop := Met l y ws (pb_R fr lo) Pc (k2_QcV v) 0 0 pb_No
abbrev pb_Vd (l : Launch) (y : MethodName) (ws : List Cond) (fr lo : Nat) (Pc : Array Value → State → Prop) : Prop := Met l y ws (pb_R fr lo) Pc (va_Sv (fun _ => True)) 0 0 pb_No
def pb_X (av : List Value) (D : va_G) (tys : List (ClassId × FieldType)) (wd : va_W) : Array Value → State → Prop := va_Pc av (fun U => va_P D vwCl wd U.heap ∧ va_K D vwCl tys U)
def pb_S (av : List Value) : Array Value → State → Prop := va_Pc av (fun _ => True)
theorem pb_X_blind {av : List Value} {D : va_G} {tys : List (ClassId × FieldType)} {wd : va_W} : FrameBlind (pb_X av D tys wd) := fun a U g mk q => ⟨q.1, q.2.1, va_K.moved (u := U) (U := U.calling g mk a) (Vm.Alike.refl U.vm) q.2.2⟩
theorem pb_S_blind {av : List Value} : FrameBlind (pb_S av) := fun a U g mk q => ⟨q.1, trivial⟩
theorem pb_X_pre {av : List Value} {D : va_G} {tys : List (ClassId × FieldType)} {wd : va_W} {s : State} {H : Heap} (hP : va_P D vwCl wd H) (hK : va_K D vwCl tys s) : ∀ U : State, U.heap = H → s.WarmedH U.vm → pb_X av D tys wd av.toArray U := fun U hU hW => ⟨rfl, by rw [hU]; exact hP, va_K.moved hW.alike hK⟩
theorem pb_S_pre {av : List Value} {s : State} {H : Heap} : ∀ U : State, U.heap = H → s.WarmedH U.vm → pb_S av av.toArray U := fun _ _ _ => ⟨rfl, trivial⟩
/-- the entry of a method that reads a world -/
theorem pb_ofX {l : Launch} {y : MethodName} {ws ws' : List Cond} {rm : Room} {Qc : Array Value → State → Outcome → State → Prop} {av : List Value} {D : va_G} {tys : List (ClassId × FieldType)} {wd : va_W} {cc : ByteArray} {maxL : Nat} {ret : Option FieldType} (own : String) (hy : plainName y.cls = true) (hw : ws = Cond.code y cc maxL ret :: ws') (ho : y.cls = own) (hlen : (lg_sl av).length ≤ maxL)
    (body : ∀ (p : Program) (e : Env) (s : State) (m : MethodId) (args : Array Value) (below : List Frame) (meth : Method) (c : Code) (ls : Array Slot), p.tables.exec = Jvm.exec → c.code = cc → c.maxLocals = maxL → meth.sig.returnType = ret → meth.locks = false → s.vm.findClass own = some m.cls → (∀ w ∈ ws, w.before args s = true) → va_P D vwCl wd s.heap → va_K D vwCl tys s → lv_has ls maxL (lv_args 0 av) →
      W p l e rm s m args below meth c s.heap [] 0 0 (MQ below Qc args s 0 0 pb_No) (F0 m 0 ls [])) : Met l y ws rm (pb_X av D tys wd) Qc 0 0 pb_No := by
  refine Met.ofW (cc := cc) (maxL := maxL) (ret := ret) hy hw ?_
  intro p e s m args below meth c s₁ B hml hv
  obtain ⟨rfl, hP, hK⟩ := hv
  rw [lg_entry_eq]
  exact body p e s m _ below meth c _ B.exec B.bytes hml B.returns B.notSynchronized (by rw [← ho]; exact findClass_of_methodNamed B.named) (atoms_spec (ws := ws) B.pre) hP hK (lv_entry av hlen)
/-- the entry of a method without a world -/
theorem pb_ofS {l : Launch} {y : MethodName} {ws ws' : List Cond} {rm : Room} {Qc : Array Value → State → Outcome → State → Prop} {av : List Value} {cc : ByteArray} {maxL : Nat} {ret : Option FieldType} (own : String) (hy : plainName y.cls = true) (hw : ws = Cond.code y cc maxL ret :: ws') (ho : y.cls = own) (hlen : (lg_sl av).length ≤ maxL)
    (body : ∀ (p : Program) (e : Env) (s : State) (m : MethodId) (args : Array Value) (below : List Frame) (meth : Method) (c : Code) (ls : Array Slot), p.tables.exec = Jvm.exec → c.code = cc → c.maxLocals = maxL → meth.sig.returnType = ret → meth.locks = false → s.vm.findClass own = some m.cls → (∀ w ∈ ws, w.before args s = true) → lv_has ls maxL (lv_args 0 av) →
      W p l e rm s m args below meth c s.heap [] 0 0 (MQ below Qc args s 0 0 pb_No) (F0 m 0 ls [])) : Met l y ws rm (pb_S av) Qc 0 0 pb_No := by
  refine Met.ofW (cc := cc) (maxL := maxL) (ret := ret) hy hw ?_
  intro p e s m args below meth c s₁ B hml hv
  obtain ⟨rfl, -⟩ := hv
  rw [lg_entry_eq]
  exact body p e s m _ below meth c _ B.exec B.bytes hml B.returns B.notSynchronized (by rw [← ho]; exact findClass_of_methodNamed B.named) (atoms_spec (ws := ws) B.pre) (lv_entry av hlen)
section
variable {p : Program} {l : Launch} {e : Env} {R : Room} {s : State} {m : MethodId} {args : Array Value} {below : List Frame} {meth : Method} {c : Code} {H : Heap} {locs : List Loc} {cells slots : Nat} {Q : State → Prop}
variable {pc : Nat} {ls : Array Slot} {rest st0 : List Value} {cc bytes : ByteArray} {nL maxL index n : Nat} {own C : String} {y : MethodName} {ret : Option FieldType} {ws Ts : List Cond} {rm : Room} {Pc : Array Value → State → Prop} {av As : List Value} {b : Addr} {v : Value} {D : va_G} {cl : List vw_C} {tys : List (ClassId × FieldType)} {wd : va_W} {lv : List (Nat × Value)}
theorem pb_callV (S : CallFix p m c cc nL s args Ts own) (hM : Met l y ws rm (pb_X (.ref b :: As) D tys wd) (k2_QcV v) 0 0 pb_No) (cw : CallW R s args own C index y bytes maxL ret ws rm 0 0 n) (hP : va_P D vwCl wd H) (hK : va_K D vwCl tys s)
    (hr : ∃ cellB : Cell, H[b]? = some cellB ∧ cellB.vm.isStatics = false ∧ s.vm.findClass C = some cellB.cls) (hst : st0 = As.reverse ++ .ref b :: rest) (hn : As.length = n) (hl : lv_has ls nL lv) (hW : (rest.map fun v => v.category).sum ≤ 8) (hdg : decode cc pc = .ok (.invokevirtual index, 3)) (hf : cells ≤ R.cells ∧ slots ≤ R.slots)
    (kk : W p l e R s m args below meth c H locs cells slots Q (F0 m (pc + 3) ls (v :: rest))) : W p l e R s m args below meth c H locs cells slots Q (F0 m pc ls st0) :=
  W.callV (W.runV (g := F0 m pc ls st0) S hM cw ⟨pb_X_blind, hr, pb_X_pre hP hK⟩ rfl hn hl.1 hst (lv_room hW) hdg hf) kk
theorem pb_callS (S : CallFix p m c cc nL s args Ts own) (hM : Met l y ws rm (pb_S As) (k2_QcV v) 0 0 pb_No) (cw : CallB R s args own index y bytes maxL ret ws rm 0 0 n ∧ (Cond.static y).before args s = true)
    (hst : st0 = As.reverse ++ rest) (hn : As.length = n) (hl : lv_has ls nL lv) (hW : (rest.map fun v => v.category).sum ≤ 8) (hdg : decode cc pc = .ok (.invokestatic index, 3)) (hf : cells ≤ R.cells ∧ slots ≤ R.slots)
    (kk : W p l e R s m args below meth c H locs cells slots Q (F0 m (pc + 3) ls (v :: rest))) : W p l e R s m args below meth c H locs cells slots Q (F0 m pc ls st0) :=
  W.callV (W.runS (g := F0 m pc ls st0) S hM cw ⟨pb_S_blind, pb_S_pre⟩ rfl hn hl.1 hst (lv_room hW) hdg hf) kk
theorem pb_callSv (S : CallFix p m c cc nL s args Ts own) (hM : Met l y ws rm (pb_S As) (va_Sv (fun _ => True)) 0 0 pb_No) (cw : CallB R s args own index y bytes maxL ret ws rm 0 0 n ∧ (Cond.static y).before args s = true)
    (hst : st0 = As.reverse ++ rest) (hn : As.length = n) (hl : lv_has ls nL lv) (hW : (rest.map fun v => v.category).sum ≤ 8) (hdg : decode cc pc = .ok (.invokestatic index, 3)) (hf : cells ≤ R.cells ∧ slots ≤ R.slots)
    (kk : W p l e R s m args below meth c H locs cells slots Q (F0 m (pc + 3) ls rest)) : W p l e R s m args below meth c H locs cells slots Q (F0 m pc ls st0) :=
  va_csv (W.runS (g := F0 m pc ls st0) S hM cw ⟨pb_S_blind, pb_S_pre⟩ rfl hn hl.1 hst (lv_room hW) hdg hf) (fun _ => kk)
theorem pb_callVv (S : CallFix p m c cc nL s args Ts own) (hM : Met l y ws rm (pb_X (.ref b :: As) D tys wd) (va_Sv (fun _ => True)) 0 0 pb_No) (cw : CallW R s args own C index y bytes maxL ret ws rm 0 0 n) (hP : va_P D vwCl wd H) (hK : va_K D vwCl tys s)
    (hr : ∃ cellB : Cell, H[b]? = some cellB ∧ cellB.vm.isStatics = false ∧ s.vm.findClass C = some cellB.cls) (hst : st0 = As.reverse ++ .ref b :: rest) (hn : As.length = n) (hl : lv_has ls nL lv) (hW : (rest.map fun v => v.category).sum ≤ 8) (hdg : decode cc pc = .ok (.invokevirtual index, 3)) (hf : cells ≤ R.cells ∧ slots ≤ R.slots)
    (kk : W p l e R s m args below meth c H locs cells slots Q (F0 m (pc + 3) ls rest)) : W p l e R s m args below meth c H locs cells slots Q (F0 m pc ls st0) :=
  va_csv (W.runV (g := F0 m pc ls st0) S hM cw ⟨pb_X_blind, hr, pb_X_pre hP hK⟩ rfl hn hl.1 hst (lv_room hW) hdg hf) (fun _ => kk)
theorem pb_join {g : JFrame} (P : Array Slot → Prop) (pc2 : Nat) (st2 : List Value) (h : ∀ ls2 : Array Slot, P ls2 → W p l e R s m args below meth c H locs cells slots Q (F0 m pc2 ls2 st2))
    (k : (∀ ls2 : Array Slot, P ls2 → W p l e R s m args below meth c H locs cells slots Q (F0 m pc2 ls2 st2)) → W p l e R s m args below meth c H locs cells slots Q g) : W p l e R s m args below meth c H locs cells slots Q g := k h
/-- a loop that changes no cell: a measure falls -/
theorem pb_loop {g : JFrame} (I : Nat → Array Slot → Prop) (pc2 : Nat) (st2 : List Value)
    (h : ∀ (k : Nat) (ls2 : Array Slot), I k ls2 → (∀ (k' : Nat) (ls' : Array Slot), k' < k → I k' ls' → W p l e R s m args below meth c H locs cells slots Q (F0 m pc2 ls' st2)) → W p l e R s m args below meth c H locs cells slots Q (F0 m pc2 ls2 st2))
    (k : (∀ (k : Nat) (ls2 : Array Slot), I k ls2 → W p l e R s m args below meth c H locs cells slots Q (F0 m pc2 ls2 st2)) → W p l e R s m args below meth c H locs cells slots Q g) : W p l e R s m args below meth c H locs cells slots Q g := by
  refine k (fun k => ?_)
  induction k using Nat.strongRecOn with
  | ind k ih => exact fun ls2 hI => h k ls2 hI (fun k' ls' hk hI' => ih k' hk ls' hI')
/-- a loop that changes cells -/
theorem pb_loopH {g : JFrame} (I : Nat → Heap → List Loc → Array Slot → Prop) (pc2 : Nat) (st2 : List Value)
    (h : ∀ (k : Nat) (H2 : Heap) (locs2 : List Loc) (ls2 : Array Slot), I k H2 locs2 ls2 → (∀ (k' : Nat) (H' : Heap) (locs' : List Loc) (ls' : Array Slot), k' < k → I k' H' locs' ls' → W p l e R s m args below meth c H' locs' cells slots Q (F0 m pc2 ls' st2)) → W p l e R s m args below meth c H2 locs2 cells slots Q (F0 m pc2 ls2 st2))
    (k : (∀ (k : Nat) (H2 : Heap) (locs2 : List Loc) (ls2 : Array Slot), I k H2 locs2 ls2 → W p l e R s m args below meth c H2 locs2 cells slots Q (F0 m pc2 ls2 st2)) → W p l e R s m args below meth c H locs cells slots Q g) : W p l e R s m args below meth c H locs cells slots Q g := by
  refine k (fun k => ?_)
  induction k using Nat.strongRecOn with
  | ind k ih => exact fun H2 locs2 ls2 hI => h k H2 locs2 ls2 hI (fun k' H' locs' ls' hk hI' => ih k' hk H' locs' ls' hI')
theorem pb_topi {x z : Int32} (h : x = z) (k : W p l e R s m args below meth c H locs cells slots Q (F0 m pc ls (.int z :: rest))) : W p l e R s m args below meth c H locs cells slots Q (F0 m pc ls (.int x :: rest)) := by rw [h]; exact k
theorem pb_topl {x z : Int64} (h : x = z) (k : W p l e R s m args below meth c H locs cells slots Q (F0 m pc ls (.long z :: rest))) : W p l e R s m args below meth c H locs cells slots Q (F0 m pc ls (.long x :: rest)) := by rw [h]; exact k
theorem pb_iret {x : Int32} {A : Addr → Prop} (hx : p.tables.exec = Jvm.exec) (hb : c.code = cc) (hr : meth.sig.returnType = some .int) (hlocks : meth.locks = false) (hdg : decode cc pc = .ok (.ireturn, 1)) (hv : v = .int x) : W p l e R s m args below meth c s.heap [] 0 0 (MQ below (k2_QcV v) args s 0 0 A) (F0 m pc ls [.int x]) :=
  W.iret hx hb hr (fun t ht _ => ⟨by rw [hv], ht⟩) (fun _ h => nomatch h) hdg hlocks
theorem pb_zret {x : Int32} {A : Addr → Prop} (hx : p.tables.exec = Jvm.exec) (hb : c.code = cc) (hr : meth.sig.returnType = some .boolean) (hlocks : meth.locks = false) (hdg : decode cc pc = .ok (.ireturn, 1)) (h01 : x = 0 ∨ x = 1) (hv : v = .int x) : W p l e R s m args below meth c s.heap [] 0 0 (MQ below (k2_QcV v) args s 0 0 A) (F0 m pc ls [.int x]) :=
  W.zret hx hb hr (by rcases h01 with h | h <;> rw [h] <;> rfl) (fun t ht _ => ⟨by rw [hv], ht⟩) (fun _ h => nomatch h) hdg hlocks
theorem pb_lret {x : Int64} {A : Addr → Prop} (hx : p.tables.exec = Jvm.exec) (hb : c.code = cc) (hr : meth.sig.returnType = some .long) (hlocks : meth.locks = false) (hdg : decode cc pc = .ok (.lreturn, 1)) (hv : v = .long x) : W p l e R s m args below meth c s.heap [] 0 0 (MQ below (k2_QcV v) args s 0 0 A) (F0 m pc ls [.long x]) :=
  W.lret hx hb hr (fun t ht _ => ⟨by rw [hv], ht⟩) (fun _ h => nomatch h) hdg hlocks
theorem pb_vret {A : Addr → Prop} (hx : p.tables.exec = Jvm.exec) (hb : c.code = cc) (hr : meth.sig.returnType = none) (hlocks : meth.locks = false) (hdg : decode cc pc = .ok (.return_, 1)) : W p l e R s m args below meth c s.heap [] 0 0 (MQ below (va_Sv (fun _ => True)) args s 0 0 A) (F0 m pc ls []) :=
  W.vret hx hb hr (fun t ht _ => ⟨rfl, trivial, ht⟩) (fun _ h => nomatch h) hdg hlocks
-- arrays, by natural places
theorem pb_iald (hx : p.tables.exec = Jvm.exec) (hb : c.code = cc) (hK : va_K D cl tys s) (hP : va_P D cl wd H) (q0 t0 : Nat) {a : Nat} {cA : ClassId} {N : Nat} {f : Nat → Int32} (ha : wd[q0]? = some (a, .inl (cA, N, .inl f))) (ht : tys[t0]? = some (cA, .int)) {i : Int32} (j : Nat) (hi : i = nI j) (hj : j < N ∧ N < 2 ^ 31) (hdg : decode cc pc = .ok (.iaload, 1))
    (kk : W p l e R s m args below meth c H locs cells slots Q (F0 m (pc + 1) ls (.int (f j) :: rest))) : W p l e R s m args below meth c H locs cells slots Q (F0 m pc ls (.int i :: .ref a :: rest)) := by
  subst hi
  exact va_iald hx hb hK hP q0 t0 ha ht (vp_in_nI hj.1 hj.2) hdg (by rw [nI_clamp (Nat.lt_trans hj.1 hj.2)]; exact kk)
theorem pb_lald (hx : p.tables.exec = Jvm.exec) (hb : c.code = cc) (hK : va_K D cl tys s) (hP : va_P D cl wd H) (q0 t0 : Nat) {a : Nat} {cA : ClassId} {N : Nat} {f : Nat → Int64} (ha : wd[q0]? = some (a, .inl (cA, N, .inr (.inl f)))) (ht : tys[t0]? = some (cA, .long)) {i : Int32} (j : Nat) (hi : i = nI j) (hj : j < N ∧ N < 2 ^ 31) (hdg : decode cc pc = .ok (.laload, 1))
    (kk : W p l e R s m args below meth c H locs cells slots Q (F0 m (pc + 1) ls (.long (f j) :: rest))) : W p l e R s m args below meth c H locs cells slots Q (F0 m pc ls (.int i :: .ref a :: rest)) := by
  subst hi
  exact va_lald hx hb hK hP q0 t0 ha ht (vp_in_nI hj.1 hj.2) hdg (by rw [nI_clamp (Nat.lt_trans hj.1 hj.2)]; exact kk)
variable {A : Nat → Prop} {H0 : Heap}
theorem pb_iast (hx : p.tables.exec = Jvm.exec) (hb : c.code = cc) (hK : va_K D cl tys s) (hP : va_P D cl wd H) (hD : va_D A wd) (hS : va_S A H0 H locs) (q0 t0 : Nat) {a : Nat} {cA : ClassId} {N : Nat} {f : Nat → Int32} (ha : wd[q0]? = some (a, .inl (cA, N, .inl f))) (ht : tys[t0]? = some (cA, .int)) {i z : Int32} (j : Nat) (hi : i = nI j) (hj : j < N ∧ N < 2 ^ 31) (hdg : decode cc pc = .ok (.iastore, 1))
    (kk : ∀ (H1 : Heap) (locs1 : List Loc), va_P D cl (wd.set q0 (a, .inl (cA, N, .inl (va_up f j z)))) H1 → va_D A (wd.set q0 (a, .inl (cA, N, .inl (va_up f j z)))) → va_S A H0 H1 locs1 → W p l e R s m args below meth c H1 locs1 cells slots Q (F0 m (pc + 1) ls rest)) : W p l e R s m args below meth c H locs cells slots Q (F0 m pc ls (.int z :: .int i :: .ref a :: rest)) := by
  subst hi
  refine va_iast hx hb hK hP hD hS q0 t0 ha ht (vp_in_nI hj.1 hj.2) hdg ?_
  rw [nI_clamp (Nat.lt_trans hj.1 hj.2)]
  exact kk
theorem pb_last (hx : p.tables.exec = Jvm.exec) (hb : c.code = cc) (hK : va_K D cl tys s) (hP : va_P D cl wd H) (hD : va_D A wd) (hS : va_S A H0 H locs) (q0 t0 : Nat) {a : Nat} {cA : ClassId} {N : Nat} {f : Nat → Int64} (ha : wd[q0]? = some (a, .inl (cA, N, .inr (.inl f)))) (ht : tys[t0]? = some (cA, .long)) {i : Int32} {z : Int64} (j : Nat) (hi : i = nI j) (hj : j < N ∧ N < 2 ^ 31) (hdg : decode cc pc = .ok (.lastore, 1))
    (kk : ∀ (H1 : Heap) (locs1 : List Loc), va_P D cl (wd.set q0 (a, .inl (cA, N, .inr (.inl (va_up f j z))))) H1 → va_D A (wd.set q0 (a, .inl (cA, N, .inr (.inl (va_up f j z))))) → va_S A H0 H1 locs1 → W p l e R s m args below meth c H1 locs1 cells slots Q (F0 m (pc + 1) ls rest)) : W p l e R s m args below meth c H locs cells slots Q (F0 m pc ls (.long z :: .int i :: .ref a :: rest)) := by
  subst hi
  refine va_last hx hb hK hP hD hS q0 t0 ha ht (vp_in_nI hj.1 hj.2) hdg ?_
  rw [nI_clamp (Nat.lt_trans hj.1 hj.2)]
  exact kk
end
end PB0
