/-! BASE of the methods that write: the whole world of an object goes in and comes back changed. -/
section PB5
def pb_A (ads : List Nat) (sz : Nat) : Nat → Prop := fun q => q ∈ ads ∨ sz ≤ q
def pb_XD (av : List Value) (D : va_G) (tys : List (ClassId × FieldType)) (wd : va_W) (sz : Nat) : Array Value → State → Prop := va_Pc av (fun U => U.heap.size = sz ∧ va_P D vwCl wd U.heap ∧ va_K D vwCl tys U ∧ va_D (fun _ => True) wd)
theorem pb_XD_blind {av : List Value} {D : va_G} {tys : List (ClassId × FieldType)} {wd : va_W} {sz : Nat} : FrameBlind (pb_XD av D tys wd sz) := fun a U g mk q => ⟨q.1, q.2.1, q.2.2.1, va_K.moved (u := U) (U := U.calling g mk a) (Vm.Alike.refl U.vm) q.2.2.2.1, q.2.2.2.2⟩
theorem pb_XD_pre {av : List Value} {D : va_G} {tys : List (ClassId × FieldType)} {wd : va_W} {s : State} {H : Heap} {A : Nat → Prop} (hP : va_P D vwCl wd H) (hK : va_K D vwCl tys s) (hD : va_D A wd) : ∀ U : State, U.heap = H → s.WarmedH U.vm → pb_XD av D tys wd H.size av.toArray U := fun U hU hW => ⟨rfl, by rw [hU], by rw [hU]; exact hP, va_K.moved hW.alike hK, hD.weaken (fun _ _ _ _ => trivial)⟩
def pb_QB (o : Outcome) (B : (Nat → Prop) → State → Prop) (A : Nat → Prop) : Array Value → State → Outcome → State → Prop := fun _ st oc t => oc = o ∧ B A t ∧ va_F A st t
def pb_B (D : va_G) (tys : List (ClassId × FieldType)) (wd : va_W) : (Nat → Prop) → State → Prop := fun A t => va_P D vwCl wd t.heap ∧ va_K D vwCl tys t ∧ va_D A wd
theorem pb_B_of {D : va_G} {tys : List (ClassId × FieldType)} {wd : va_W} {A : Nat → Prop} {s : State} {H : Heap} (hP : va_P D vwCl wd H) (hK : va_K D vwCl tys s) (hD : va_D A wd) : ∀ t : State, t.heap = H → s.WarmedH t.vm → pb_B D tys wd A t := fun t ht hW => ⟨by rw [ht]; exact hP, va_K.moved hW.alike hK, hD⟩
abbrev pb_Wq (l : Launch) (y : MethodName) (ws : List Cond) (fr mc ms lo : Nat) (av : List Value) (D : va_G) (tys : List (ClassId × FieldType)) (wd : va_W) (sz : Nat) (r : Option Value) (B : (Nat → Prop) → State → Prop) : Prop := Met l y ws ({ frames := fr, cells := mc, slots := ms, locals := lo } : Room) (pb_XD av D tys wd sz) (pb_QB (.returned r) B (pb_A (wd.map Prod.fst) sz)) mc ms (pb_A (wd.map Prod.fst) sz)
theorem pb_ofW {l : Launch} {y : MethodName} {ws ws' : List Cond} {rm : Room} {av : List Value} {D : va_G} {tys : List (ClassId × FieldType)} {wd : va_W} {sz mc ms : Nat} {o : Outcome} {B : (Nat → Prop) → State → Prop} {cc : ByteArray} {maxL : Nat} {ret : Option FieldType} (own : String) (hy : plainName y.cls = true) (hw : ws = Cond.code y cc maxL ret :: ws') (ho : y.cls = own) (hlen : (lg_sl av).length ≤ maxL)
    (body : ∀ (p : Program) (e : Env) (s : State) (m : MethodId) (args : Array Value) (below : List Frame) (meth : Method) (c : Code) (ls : Array Slot) (A : Nat → Prop), p.tables.exec = Jvm.exec → c.code = cc → c.maxLocals = maxL → meth.sig.returnType = ret → meth.locks = false → s.vm.findClass own = some m.cls → (∀ w ∈ ws, w.before args s = true) → va_P D vwCl wd s.heap → va_K D vwCl tys s → va_D A wd → va_S A s.heap s.heap [] → (∀ q : Nat, s.heap.size ≤ q → A q) → lv_has ls maxL (lv_args 0 av) →
      (y.name = "<init>" → meth.name = "<init>") → W p l e rm s m args below meth c s.heap [] 0 0 (MQ below (pb_QB o B A) args s mc ms A) (F0 m 0 ls [])) : Met l y ws rm (pb_XD av D tys wd sz) (pb_QB o B (pb_A (wd.map Prod.fst) sz)) mc ms (pb_A (wd.map Prod.fst) sz) := by
  refine Met.ofW (cc := cc) (maxL := maxL) (ret := ret) hy hw ?_
  intro p e s m args below meth c s₁ Bd hml hv
  obtain ⟨rfl, hsz, hP, hK, hD0⟩ := hv
  subst hsz
  rw [lg_entry_eq]
  refine body p e s m _ below meth c _ _ Bd.exec Bd.bytes hml Bd.returns Bd.notSynchronized (by rw [← ho]; exact findClass_of_methodNamed Bd.named) (atoms_spec (ws := ws) Bd.pre) hP hK (hD0.weaken (fun k q hk _ => Or.inl (List.mem_map.mpr ⟨q, List.mem_of_getElem? hk, rfl⟩))) va_S.rf (fun q h => Or.inr h) (lv_entry av hlen) (fun hn => ?_)
  exact (name_of_methodNamed Bd.named Bd.method).1.trans hn
section
variable {p : Program} {l : Launch} {e : Env} {R : Room} {s : State} {m : MethodId} {args : Array Value} {below : List Frame} {meth : Method} {c : Code} {H : Heap} {locs : List Loc} {cells slots mc ms : Nat} {Q : State → Prop}
variable {pc : Nat} {ls : Array Slot} {rest st0 : List Value} {cc bytes : ByteArray} {nL maxL index n : Nat} {own C : String} {y : MethodName} {ret : Option FieldType} {ws Ts : List Cond} {rm : Room} {av As : List Value} {b : Addr} {v : Value} {D : va_G} {tys : List (ClassId × FieldType)} {wd wd' : va_W} {lv : List (Nat × Value)} {A : Nat → Prop} {B : (Nat → Prop) → State → Prop}
theorem pb_wi {x : Int32} (hx : p.tables.exec = Jvm.exec) (hb : c.code = cc) (hr : meth.sig.returnType = some .int) (hlocks : meth.locks = false) (hS : va_S A s.heap H locs) (hdg : decode cc pc = .ok (.ireturn, 1)) {r : Option Value} (hv : r = some (.int x)) (hB : ∀ t : State, t.heap = H → s.WarmedH t.vm → B A t) : W p l e R s m args below meth c H locs cells slots (MQ below (pb_QB (.returned r) B A) args s cells slots A) (F0 m pc ls [.int x]) :=
  W.iret hx hb hr (fun t ht hW => ⟨by rw [hv], hB t ht hW, hS.F ht⟩) hS.2.2 hdg hlocks
theorem pb_wz {x : Int32} (hx : p.tables.exec = Jvm.exec) (hb : c.code = cc) (hr : meth.sig.returnType = some .boolean) (hlocks : meth.locks = false) (hS : va_S A s.heap H locs) (hdg : decode cc pc = .ok (.ireturn, 1)) (h01 : x = 0 ∨ x = 1) {r : Option Value} (hv : r = some (.int x)) (hB : ∀ t : State, t.heap = H → s.WarmedH t.vm → B A t) : W p l e R s m args below meth c H locs cells slots (MQ below (pb_QB (.returned r) B A) args s cells slots A) (F0 m pc ls [.int x]) :=
  W.zret hx hb hr (by rcases h01 with h | h <;> rw [h] <;> rfl) (fun t ht hW => ⟨by rw [hv], hB t ht hW, hS.F ht⟩) hS.2.2 hdg hlocks
theorem pb_wl {x : Int64} (hx : p.tables.exec = Jvm.exec) (hb : c.code = cc) (hr : meth.sig.returnType = some .long) (hlocks : meth.locks = false) (hS : va_S A s.heap H locs) (hdg : decode cc pc = .ok (.lreturn, 1)) {r : Option Value} (hv : r = some (.long x)) (hB : ∀ t : State, t.heap = H → s.WarmedH t.vm → B A t) : W p l e R s m args below meth c H locs cells slots (MQ below (pb_QB (.returned r) B A) args s cells slots A) (F0 m pc ls [.long x]) :=
  W.lret hx hb hr (fun t ht hW => ⟨by rw [hv], hB t ht hW, hS.F ht⟩) hS.2.2 hdg hlocks
theorem pb_wv (hx : p.tables.exec = Jvm.exec) (hb : c.code = cc) (hr : meth.sig.returnType = none) (hlocks : meth.locks = false) (hS : va_S A s.heap H locs) (hdg : decode cc pc = .ok (.return_, 1)) (hB : ∀ t : State, t.heap = H → s.WarmedH t.vm → B A t) : W p l e R s m args below meth c H locs cells slots (MQ below (pb_QB (.returned none) B A) args s cells slots A) (F0 m pc ls []) :=
  W.vret hx hb hr (fun t ht hW => ⟨rfl, hB t ht hW, hS.F ht⟩) hS.2.2 hdg hlocks
theorem pb_sub (hD : va_D A wd) (hS : va_S A s.heap H locs) (hA : ∀ q : Nat, s.heap.size ≤ q → A q) : ∀ q, pb_A (wd.map Prod.fst) H.size q → A q := fun q h => h.elim (fun h => by
  obtain ⟨w, hw, rfl⟩ := List.mem_map.mp h
  obtain ⟨k, hk⟩ := List.getElem?_of_mem hw
  exact hD.2 k w hk) (fun h => hA q (Nat.le_trans hS.1 h))
/-- a call of a method that writes: an answer -/
theorem pb_callW (S : CallFix p m c cc nL s args Ts own) (hM : Met l y ws rm (pb_XD (.ref b :: As) D tys wd H.size) (pb_QB (.returned (some v)) B (pb_A (wd.map Prod.fst) H.size)) mc ms (pb_A (wd.map Prod.fst) H.size)) (cw : CallW R s args own C index y bytes maxL ret ws rm mc ms n) (hP : va_P D vwCl wd H) (hK : va_K D vwCl tys s) (hD : va_D A wd) (hS : va_S A s.heap H locs) (hA : ∀ q : Nat, s.heap.size ≤ q → A q)
    (hr : ∃ cellB : Cell, H[b]? = some cellB ∧ cellB.vm.isStatics = false ∧ s.vm.findClass C = some cellB.cls) (hst : st0 = As.reverse ++ .ref b :: rest) (hn : As.length = n) (hl : lv_has ls nL lv) (hW : (rest.map fun v => v.category).sum ≤ 8) (hdg : decode cc pc = .ok (.invokevirtual index, 3)) (hf : cells + mc ≤ R.cells ∧ slots + ms ≤ R.slots)
    (kk : ∀ (t : State) (H1 : Heap) (locs1 : List Loc), t.heap = H1 → s.vm.Alike t.vm → B (pb_A (wd.map Prod.fst) H.size) t → (∀ q, pb_A (wd.map Prod.fst) H.size q → A q) → va_S A s.heap H1 locs1 → W p l e R s m args below meth c H1 locs1 (cells + mc) (slots + ms) Q (F0 m (pc + 3) ls (v :: rest))) : W p l e R s m args below meth c H locs cells slots Q (F0 m pc ls st0) := by
  intro T hT X
  obtain ⟨v9, st₀, t, T', L, h0, X', hL, e1, e2, ⟨hv, hB, hz, hk⟩, st⟩ := va_runV (g := F0 m pc ls st0) S hM cw ⟨pb_XD_blind, hr, pb_XD_pre hP hK hD⟩ rfl hn hl.1 hst (lv_room hW) hdg hf T hT X
  cases hv
  have hsub := pb_sub hD hS hA
  rw [h0] at hz hk
  obtain ⟨t2, a1, b1⟩ := kk t T'.heap (locs ++ L) e1.symm (by rw [← e2]; exact X'.warmed.alike) hB hsub ⟨Nat.le_trans hS.1 (by rw [e1]; exact hz), fun q h1 h2 => by rw [e1, hk q (Nat.lt_of_lt_of_le h1 hS.1) (fun z => h2 (hsub q z))]; exact hS.2.1 q h1 h2, fun q hq => by
    rcases List.mem_append.mp hq with h | h
    · exact hS.2.2 q h
    · exact hsub _ (hL q h)⟩ T' rfl X'
  exact ⟨t2, st t2 a1, b1⟩
/-- .. none -/
theorem pb_callWv (S : CallFix p m c cc nL s args Ts own) (hM : Met l y ws rm (pb_XD (.ref b :: As) D tys wd H.size) (pb_QB (.returned none) B (pb_A (wd.map Prod.fst) H.size)) mc ms (pb_A (wd.map Prod.fst) H.size)) (cw : CallW R s args own C index y bytes maxL ret ws rm mc ms n) (hP : va_P D vwCl wd H) (hK : va_K D vwCl tys s) (hD : va_D A wd) (hS : va_S A s.heap H locs) (hA : ∀ q : Nat, s.heap.size ≤ q → A q)
    (hr : ∃ cellB : Cell, H[b]? = some cellB ∧ cellB.vm.isStatics = false ∧ s.vm.findClass C = some cellB.cls) (hst : st0 = As.reverse ++ .ref b :: rest) (hn : As.length = n) (hl : lv_has ls nL lv) (hW : (rest.map fun v => v.category).sum ≤ 8) (hdg : decode cc pc = .ok (.invokevirtual index, 3)) (hf : cells + mc ≤ R.cells ∧ slots + ms ≤ R.slots)
    (kk : ∀ (t : State) (H1 : Heap) (locs1 : List Loc), t.heap = H1 → s.vm.Alike t.vm → B (pb_A (wd.map Prod.fst) H.size) t → (∀ q, pb_A (wd.map Prod.fst) H.size q → A q) → va_S A s.heap H1 locs1 → W p l e R s m args below meth c H1 locs1 (cells + mc) (slots + ms) Q (F0 m (pc + 3) ls rest)) : W p l e R s m args below meth c H locs cells slots Q (F0 m pc ls st0) := by
  intro T hT X
  obtain ⟨v9, st₀, t, T', L, h0, X', hL, e1, e2, ⟨hv, hB, hz, hk⟩, st⟩ := va_runV (g := F0 m pc ls st0) S hM cw ⟨pb_XD_blind, hr, pb_XD_pre hP hK hD⟩ rfl hn hl.1 hst (lv_room hW) hdg hf T hT X
  cases hv
  have hsub := pb_sub hD hS hA
  rw [h0] at hz hk
  obtain ⟨t2, a1, b1⟩ := kk t T'.heap (locs ++ L) e1.symm (by rw [← e2]; exact X'.warmed.alike) hB hsub ⟨Nat.le_trans hS.1 (by rw [e1]; exact hz), fun q h1 h2 => by rw [e1, hk q (Nat.lt_of_lt_of_le h1 hS.1) (fun z => h2 (hsub q z))]; exact hS.2.1 q h1 h2, fun q hq => by
    rcases List.mem_append.mp hq with h | h
    · exact hS.2.2 q h
    · exact hsub _ (hL q h)⟩ T' rfl X'
  exact ⟨t2, st t2 a1, b1⟩
/-- behind such a call, where it keeps the addresses -/
theorem pb_back {t : State} {H1 : Heap} {A1 : Nat → Prop} (ht : t.heap = H1) (hB : pb_B D tys wd' A1 t) (hsub : ∀ q, A1 q → A q) : va_P D vwCl wd' H1 ∧ va_D A wd' := ⟨by rw [← ht]; exact hB.1, hB.2.2.weaken (fun _ q _ h => hsub q.1 h)⟩
end
end PB5
