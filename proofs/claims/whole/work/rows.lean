section
-- ===== PART A: goes FIRST, ahead of the names: the tables' words, and 'selects' of the private methods out of them =====
/-- a private method of a class that the tables say can be made, by its rows of tables_1 -/
def lw_okq (q : MethodName × Nat) : Prop := (q.1.cls ≠ "java/lang/invoke/MethodHandle" ∧ q.1.cls ≠ "java/lang/invoke/VarHandle") ∧ Cond.instantiable q.1.cls q.2 ∈ tables_1 ∧ Cond.privateMethod q.1 ∈ tables_1 ∧ Cond.instanceMethod q.1 ∈ tables_1
theorem lw_p0 : lw_okq (⟨"PrefixBench", "placeOfLongest", "(II)I"⟩, 4) := ⟨⟨by decide +kernel, by decide +kernel⟩, List.mem_of_getElem? (i := 14) (by decide +kernel), List.mem_of_getElem? (i := 41) (by decide +kernel), List.mem_of_getElem? (i := 42) (by decide +kernel)⟩
theorem lw_p1 : lw_okq (⟨"PrefixBench", "placeOfBest", "(J)I"⟩, 4) := ⟨⟨by decide +kernel, by decide +kernel⟩, List.mem_of_getElem? (i := 14) (by decide +kernel), List.mem_of_getElem? (i := 52) (by decide +kernel), List.mem_of_getElem? (i := 53) (by decide +kernel)⟩
theorem lw_p2 : lw_okq (⟨"PrefixBench", "firstOfPrefix", "(J)I"⟩, 4) := ⟨⟨by decide +kernel, by decide +kernel⟩, List.mem_of_getElem? (i := 14) (by decide +kernel), List.mem_of_getElem? (i := 56) (by decide +kernel), List.mem_of_getElem? (i := 57) (by decide +kernel)⟩
theorem lw_p3 : lw_okq (⟨"PrefixBench", "firstFrom", "(J)I"⟩, 4) := ⟨⟨by decide +kernel, by decide +kernel⟩, List.mem_of_getElem? (i := 14) (by decide +kernel), List.mem_of_getElem? (i := 63) (by decide +kernel), List.mem_of_getElem? (i := 64) (by decide +kernel)⟩
theorem lw_p4 : lw_okq (⟨"PrefixBench", "keyAt", "(I)J"⟩, 4) := ⟨⟨by decide +kernel, by decide +kernel⟩, List.mem_of_getElem? (i := 14) (by decide +kernel), List.mem_of_getElem? (i := 67) (by decide +kernel), List.mem_of_getElem? (i := 68) (by decide +kernel)⟩
theorem lw_p5 : lw_okq (⟨"PrefixBench", "isPlace", "(I)Z"⟩, 4) := ⟨⟨by decide +kernel, by decide +kernel⟩, List.mem_of_getElem? (i := 14) (by decide +kernel), List.mem_of_getElem? (i := 71) (by decide +kernel), List.mem_of_getElem? (i := 72) (by decide +kernel)⟩
theorem lw_p6 : lw_okq (⟨"PrefixBench", "prefixAt", "(I)J"⟩, 4) := ⟨⟨by decide +kernel, by decide +kernel⟩, List.mem_of_getElem? (i := 14) (by decide +kernel), List.mem_of_getElem? (i := 76) (by decide +kernel), List.mem_of_getElem? (i := 77) (by decide +kernel)⟩
theorem lw_p7 : lw_okq (⟨"PrefixBench", "lengthAt", "(I)I"⟩, 4) := ⟨⟨by decide +kernel, by decide +kernel⟩, List.mem_of_getElem? (i := 14) (by decide +kernel), List.mem_of_getElem? (i := 80) (by decide +kernel), List.mem_of_getElem? (i := 81) (by decide +kernel)⟩
theorem lw_p8 : lw_okq (⟨"PrefixBench", "hopsAt", "(I)J"⟩, 4) := ⟨⟨by decide +kernel, by decide +kernel⟩, List.mem_of_getElem? (i := 14) (by decide +kernel), List.mem_of_getElem? (i := 92) (by decide +kernel), List.mem_of_getElem? (i := 93) (by decide +kernel)⟩
theorem lw_p9 : lw_okq (⟨"PrefixBench", "prefixesBetween", "(II)I"⟩, 4) := ⟨⟨by decide +kernel, by decide +kernel⟩, List.mem_of_getElem? (i := 14) (by decide +kernel), List.mem_of_getElem? (i := 117) (by decide +kernel), List.mem_of_getElem? (i := 118) (by decide +kernel)⟩
theorem lw_p10 : lw_okq (⟨"PrefixBench", "beginsPrefix", "(I)Z"⟩, 4) := ⟨⟨by decide +kernel, by decide +kernel⟩, List.mem_of_getElem? (i := 14) (by decide +kernel), List.mem_of_getElem? (i := 121) (by decide +kernel), List.mem_of_getElem? (i := 122) (by decide +kernel)⟩
theorem lw_p11 : lw_okq (⟨"PrefixBench", "partAtUnknown", "(JJ)Z"⟩, 4) := ⟨⟨by decide +kernel, by decide +kernel⟩, List.mem_of_getElem? (i := 14) (by decide +kernel), List.mem_of_getElem? (i := 129) (by decide +kernel), List.mem_of_getElem? (i := 130) (by decide +kernel)⟩
theorem lw_p12 : lw_okq (⟨"java/lang/Throwable", "fillInStackTrace", "(I)Ljava/lang/Throwable;"⟩, 6) := ⟨⟨by decide +kernel, by decide +kernel⟩, List.mem_of_getElem? (i := 189) (by decide +kernel), List.mem_of_getElem? (i := 187) (by decide +kernel), List.mem_of_getElem? (i := 188) (by decide +kernel)⟩
theorem lw_p13 : lw_okq (⟨"PrefixBench", "checkRoom", "()V"⟩, 4) := ⟨⟨by decide +kernel, by decide +kernel⟩, List.mem_of_getElem? (i := 14) (by decide +kernel), List.mem_of_getElem? (i := 230) (by decide +kernel), List.mem_of_getElem? (i := 231) (by decide +kernel)⟩
theorem lw_p14 : lw_okq (⟨"PrefixBench", "openPlace", "(I)V"⟩, 4) := ⟨⟨by decide +kernel, by decide +kernel⟩, List.mem_of_getElem? (i := 14) (by decide +kernel), List.mem_of_getElem? (i := 250) (by decide +kernel), List.mem_of_getElem? (i := 251) (by decide +kernel)⟩
theorem lw_p15 : lw_okq (⟨"PrefixBench", "growIfFull", "()V"⟩, 4) := ⟨⟨by decide +kernel, by decide +kernel⟩, List.mem_of_getElem? (i := 14) (by decide +kernel), List.mem_of_getElem? (i := 254) (by decide +kernel), List.mem_of_getElem? (i := 255) (by decide +kernel)⟩
def lw_privs_1 : List (MethodName × Nat) := [(⟨"PrefixBench", "placeOfLongest", "(II)I"⟩, 4), (⟨"PrefixBench", "placeOfBest", "(J)I"⟩, 4), (⟨"PrefixBench", "firstOfPrefix", "(J)I"⟩, 4), (⟨"PrefixBench", "firstFrom", "(J)I"⟩, 4), (⟨"PrefixBench", "keyAt", "(I)J"⟩, 4), (⟨"PrefixBench", "isPlace", "(I)Z"⟩, 4), (⟨"PrefixBench", "prefixAt", "(I)J"⟩, 4), (⟨"PrefixBench", "lengthAt", "(I)I"⟩, 4), (⟨"PrefixBench", "hopsAt", "(I)J"⟩, 4), (⟨"PrefixBench", "prefixesBetween", "(II)I"⟩, 4), (⟨"PrefixBench", "beginsPrefix", "(I)Z"⟩, 4), (⟨"PrefixBench", "partAtUnknown", "(JJ)Z"⟩, 4), (⟨"java/lang/Throwable", "fillInStackTrace", "(I)Ljava/lang/Throwable;"⟩, 6), (⟨"PrefixBench", "checkRoom", "()V"⟩, 4), (⟨"PrefixBench", "openPlace", "(I)V"⟩, 4), (⟨"PrefixBench", "growIfFull", "()V"⟩, 4)]
theorem lw_r1 : ∀ q ∈ lw_privs_1, lw_okq q := List.forall_mem_cons.mpr ⟨lw_p0, List.forall_mem_cons.mpr ⟨lw_p1, List.forall_mem_cons.mpr ⟨lw_p2, List.forall_mem_cons.mpr ⟨lw_p3, List.forall_mem_cons.mpr ⟨lw_p4, List.forall_mem_cons.mpr ⟨lw_p5, List.forall_mem_cons.mpr ⟨lw_p6, List.forall_mem_cons.mpr ⟨lw_p7, List.forall_mem_cons.mpr ⟨lw_p8, List.forall_mem_cons.mpr ⟨lw_p9, List.forall_mem_cons.mpr ⟨lw_p10, List.forall_mem_cons.mpr ⟨lw_p11, List.forall_mem_cons.mpr ⟨lw_p12, List.forall_mem_cons.mpr ⟨lw_p13, List.forall_mem_cons.mpr ⟨lw_p14, List.forall_mem_cons.mpr ⟨lw_p15, fun _ h => absurd h List.not_mem_nil⟩⟩⟩⟩⟩⟩⟩⟩⟩⟩⟩⟩⟩⟩⟩⟩
theorem lw_p16 : lw_okq (⟨"PrefixBench", "copy", "(II)V"⟩, 4) := ⟨⟨by decide +kernel, by decide +kernel⟩, List.mem_of_getElem? (i := 14) (by decide +kernel), List.mem_of_getElem? (i := 282) (by decide +kernel), List.mem_of_getElem? (i := 283) (by decide +kernel)⟩
theorem lw_p17 : lw_okq (⟨"PrefixBench", "costAt", "(I)I"⟩, 4) := ⟨⟨by decide +kernel, by decide +kernel⟩, List.mem_of_getElem? (i := 14) (by decide +kernel), List.mem_of_getElem? (i := 286) (by decide +kernel), List.mem_of_getElem? (i := 287) (by decide +kernel)⟩
theorem lw_p18 : lw_okq (⟨"PrefixBench", "write", "(IJIJ)V"⟩, 4) := ⟨⟨by decide +kernel, by decide +kernel⟩, List.mem_of_getElem? (i := 14) (by decide +kernel), List.mem_of_getElem? (i := 290) (by decide +kernel), List.mem_of_getElem? (i := 291) (by decide +kernel)⟩
theorem lw_p19 : lw_okq (⟨"PrefixBench", "placeOfRoute", "(JI)I"⟩, 4) := ⟨⟨by decide +kernel, by decide +kernel⟩, List.mem_of_getElem? (i := 14) (by decide +kernel), List.mem_of_getElem? (i := 301) (by decide +kernel), List.mem_of_getElem? (i := 302) (by decide +kernel)⟩
theorem lw_p20 : lw_okq (⟨"PrefixBench", "closePlace", "(I)V"⟩, 4) := ⟨⟨by decide +kernel, by decide +kernel⟩, List.mem_of_getElem? (i := 14) (by decide +kernel), List.mem_of_getElem? (i := 305) (by decide +kernel), List.mem_of_getElem? (i := 306) (by decide +kernel)⟩
theorem lw_p21 : lw_okq (⟨"PrefixBench", "originAt", "(I)I"⟩, 4) := ⟨⟨by decide +kernel, by decide +kernel⟩, List.mem_of_getElem? (i := 14) (by decide +kernel), List.mem_of_getElem? (i := 316) (by decide +kernel), List.mem_of_getElem? (i := 317) (by decide +kernel)⟩
theorem lw_p22 : lw_okq (⟨"PrefixBench", "keepFirst", "(I)I"⟩, 4) := ⟨⟨by decide +kernel, by decide +kernel⟩, List.mem_of_getElem? (i := 14) (by decide +kernel), List.mem_of_getElem? (i := 321) (by decide +kernel), List.mem_of_getElem? (i := 322) (by decide +kernel)⟩
theorem lw_p23 : lw_okq (⟨"PrefixBench", "tell", "(II)I"⟩, 4) := ⟨⟨by decide +kernel, by decide +kernel⟩, List.mem_of_getElem? (i := 14) (by decide +kernel), List.mem_of_getElem? (i := 347) (by decide +kernel), List.mem_of_getElem? (i := 348) (by decide +kernel)⟩
theorem lw_p24 : lw_okq (⟨"PrefixBenchModel", "place", "(J)I"⟩, 7) := ⟨⟨by decide +kernel, by decide +kernel⟩, List.mem_of_getElem? (i := 373) (by decide +kernel), List.mem_of_getElem? (i := 425) (by decide +kernel), List.mem_of_getElem? (i := 426) (by decide +kernel)⟩
theorem lw_p25 : lw_okq (⟨"PrefixBenchModel", "rankOf", "(I)J"⟩, 7) := ⟨⟨by decide +kernel, by decide +kernel⟩, List.mem_of_getElem? (i := 373) (by decide +kernel), List.mem_of_getElem? (i := 429) (by decide +kernel), List.mem_of_getElem? (i := 430) (by decide +kernel)⟩
theorem lw_p26 : lw_okq (⟨"PrefixBenchModel", "isThere", "(IIII)Z"⟩, 7) := ⟨⟨by decide +kernel, by decide +kernel⟩, List.mem_of_getElem? (i := 373) (by decide +kernel), List.mem_of_getElem? (i := 433) (by decide +kernel), List.mem_of_getElem? (i := 434) (by decide +kernel)⟩
theorem lw_p27 : lw_okq (⟨"PrefixBenchModel", "copy", "(II)V"⟩, 7) := ⟨⟨by decide +kernel, by decide +kernel⟩, List.mem_of_getElem? (i := 373) (by decide +kernel), List.mem_of_getElem? (i := 437) (by decide +kernel), List.mem_of_getElem? (i := 438) (by decide +kernel)⟩
theorem lw_p28 : lw_okq (⟨"PrefixBenchModel", "sweep", "()I"⟩, 7) := ⟨⟨by decide +kernel, by decide +kernel⟩, List.mem_of_getElem? (i := 373) (by decide +kernel), List.mem_of_getElem? (i := 445) (by decide +kernel), List.mem_of_getElem? (i := 446) (by decide +kernel)⟩
theorem lw_p29 : lw_okq (⟨"PrefixBenchModel", "best", "(II)I"⟩, 7) := ⟨⟨by decide +kernel, by decide +kernel⟩, List.mem_of_getElem? (i := 373) (by decide +kernel), List.mem_of_getElem? (i := 469) (by decide +kernel), List.mem_of_getElem? (i := 470) (by decide +kernel)⟩
theorem lw_p30 : lw_okq (⟨"PrefixBenchModel", "isMore", "(I)Z"⟩, 7) := ⟨⟨by decide +kernel, by decide +kernel⟩, List.mem_of_getElem? (i := 373) (by decide +kernel), List.mem_of_getElem? (i := 473) (by decide +kernel), List.mem_of_getElem? (i := 474) (by decide +kernel)⟩
theorem lw_p31 : lw_okq (⟨"PrefixBenchModel", "has", "(II)Z"⟩, 7) := ⟨⟨by decide +kernel, by decide +kernel⟩, List.mem_of_getElem? (i := 373) (by decide +kernel), List.mem_of_getElem? (i := 477) (by decide +kernel), List.mem_of_getElem? (i := 478) (by decide +kernel)⟩
def lw_privs_2 : List (MethodName × Nat) := [(⟨"PrefixBench", "copy", "(II)V"⟩, 4), (⟨"PrefixBench", "costAt", "(I)I"⟩, 4), (⟨"PrefixBench", "write", "(IJIJ)V"⟩, 4), (⟨"PrefixBench", "placeOfRoute", "(JI)I"⟩, 4), (⟨"PrefixBench", "closePlace", "(I)V"⟩, 4), (⟨"PrefixBench", "originAt", "(I)I"⟩, 4), (⟨"PrefixBench", "keepFirst", "(I)I"⟩, 4), (⟨"PrefixBench", "tell", "(II)I"⟩, 4), (⟨"PrefixBenchModel", "place", "(J)I"⟩, 7), (⟨"PrefixBenchModel", "rankOf", "(I)J"⟩, 7), (⟨"PrefixBenchModel", "isThere", "(IIII)Z"⟩, 7), (⟨"PrefixBenchModel", "copy", "(II)V"⟩, 7), (⟨"PrefixBenchModel", "sweep", "()I"⟩, 7), (⟨"PrefixBenchModel", "best", "(II)I"⟩, 7), (⟨"PrefixBenchModel", "isMore", "(I)Z"⟩, 7), (⟨"PrefixBenchModel", "has", "(II)Z"⟩, 7)]
theorem lw_r2 : ∀ q ∈ lw_privs_2, lw_okq q := List.forall_mem_cons.mpr ⟨lw_p16, List.forall_mem_cons.mpr ⟨lw_p17, List.forall_mem_cons.mpr ⟨lw_p18, List.forall_mem_cons.mpr ⟨lw_p19, List.forall_mem_cons.mpr ⟨lw_p20, List.forall_mem_cons.mpr ⟨lw_p21, List.forall_mem_cons.mpr ⟨lw_p22, List.forall_mem_cons.mpr ⟨lw_p23, List.forall_mem_cons.mpr ⟨lw_p24, List.forall_mem_cons.mpr ⟨lw_p25, List.forall_mem_cons.mpr ⟨lw_p26, List.forall_mem_cons.mpr ⟨lw_p27, List.forall_mem_cons.mpr ⟨lw_p28, List.forall_mem_cons.mpr ⟨lw_p29, List.forall_mem_cons.mpr ⟨lw_p30, List.forall_mem_cons.mpr ⟨lw_p31, fun _ h => absurd h List.not_mem_nil⟩⟩⟩⟩⟩⟩⟩⟩⟩⟩⟩⟩⟩⟩⟩⟩
theorem lw_p32 : lw_okq (⟨"PrefixBenchModel", "isKnown", "(II)Z"⟩, 7) := ⟨⟨by decide +kernel, by decide +kernel⟩, List.mem_of_getElem? (i := 373) (by decide +kernel), List.mem_of_getElem? (i := 513) (by decide +kernel), List.mem_of_getElem? (i := 514) (by decide +kernel)⟩
def lw_privs_3 : List (MethodName × Nat) := [(⟨"PrefixBenchModel", "isKnown", "(II)Z"⟩, 7)]
theorem lw_r3 : ∀ q ∈ lw_privs_3, lw_okq q := List.forall_mem_cons.mpr ⟨lw_p32, fun _ h => absurd h List.not_mem_nil⟩
def lw_privs : List (MethodName × Nat) := lw_privs_1 ++ (lw_privs_2 ++ (lw_privs_3))
def lw_tbl : List Cond := k2_sels lw_privs ++ tables_1
theorem lw_privs_ok : ∀ q ∈ lw_privs, lw_okq q := by
  show ∀ q ∈ lw_privs_1 ++ (lw_privs_2 ++ (lw_privs_3)), lw_okq q
  exact List.forall_mem_append.mpr ⟨lw_r1, List.forall_mem_append.mpr ⟨lw_r2, lw_r3⟩⟩
-- ===== end of PART A; then your names; then what follows =====
end
section
/-! ===== BEGIN words of one list among another's, by their places ===== -/
theorem goodIn_r {big : List Cond} (ws : List Cond) (ps : List Nat) (hp : ws = ps.filterMap (fun i => big[i]?)) (h : ws.all goodWord = true) : GoodIn big ws := by
  intro w hw
  have h1 := List.all_eq_true.mp h w hw
  rw [hp] at hw
  obtain ⟨i, -, hi⟩ := List.mem_filterMap.mp hw
  have hm : w ∈ big := by first | exact List.mem_of_getElem? hi | exact List.getElem?_mem hi
  exact ⟨hm, good_of_word h1⟩
theorem goodIn_app {big a b : List Cond} (ha : GoodIn big a) (hb : GoodIn big b) : GoodIn big (a ++ b) := fun w h => (List.mem_append.mp h).elim (ha w) (hb w)
theorem goodIn_ca {big a b : List Cond} {c : Cond} (ha : GoodIn big (c :: a)) (hb : GoodIn big b) : GoodIn big (c :: (a ++ b)) := fun w h => (List.mem_cons.mp h).elim (fun e => ha w (List.mem_cons.mpr (Or.inl e))) (fun h => (List.mem_append.mp h).elim (fun h => ha w (List.mem_cons.mpr (Or.inr h))) (hb w))
theorem goodIn_sub {big ws : List Cond} (hm : ∀ w ∈ ws, w ∈ big) (h : ws.all goodWord = true) : GoodIn big ws := fun w hw => ⟨hm w hw, good_of_word (List.all_eq_true.mp h w hw)⟩
/-! ===== END ===== -/

/-! ===== BEGIN exceptions that leave a method, and their catching by the caller (launches without stack traces) ===== -/
section VXA
/-! The laws vx_back, vx_callV, vx_callS, vx_callSW, vx_throw0, vx_throwS follow proofs of the library, with one case more: JvmDerived/Free/Laws.lean (Back.of_free), Shelf42/LK1.lean (callV, callS), Shelf/KitTraced.lean (throwNew0V, throwNewS). -/
/-- where a method has thrown q: the class by its name, the cell, what was written, the world -/
def vx_T (XC : String → State → State → Prop) (st : State) (q : Addr) (t : State) (mc ms : Nat) (free : Addr → Prop) : Prop :=
  ∃ (E : String) (ce : Cell) (L : List Loc), XC E st t ∧ t.heap[q]? = some ce ∧ ce.vm = .none ∧ st.vm.findClass E = some ce.cls ∧ st.WarmedH t.vm ∧ st.sameButNew ({ t with vm := st.vm } : State) L mc ms ∧ ∀ z ∈ L, free z.base
def vx_Q (Qc : Array Value → State → Outcome → State → Prop) (XC : String → State → State → Prop) (mc ms : Nat) (free : Addr → Prop) : Array Value → State → Outcome → State → Prop := fun a st o t =>
  (Qc a st o t ∧ ∃ L, FrameEnd st o t L mc ms ∧ ∀ q ∈ L, free q.base) ∨ ∃ q, o = .threw q ∧ vx_T XC st q t mc ms free
/-- a callee that returns or throws -/
def vx_Met (l : Launch) (y : MethodName) (ws : List Cond) (rm : Room) (Pc : Array Value → State → Prop) (Qc : Array Value → State → Outcome → State → Prop) (XC : String → State → State → Prop) (mc ms : Nat) (free : Addr → Prop) : Prop :=
  MetFree l y (headSpec ws rm) Pc (fun _ _ _ _ _ => True) (vx_Q Qc XC mc ms free)
def vx_Post (XC : String → State → State → Prop) (mc ms : Nat) (free : Addr → Prop) : Pt → Array Value → Addr → Pt → Prop := fun A a q B =>
  ∃ (g : JFrame) (mk : MethodId) (t : State) (L : List Loc) (E : String) (ce : Cell), B.U.heap = t.heap ∧ B.U.vm = t.vm ∧ XC E (A.U.calling g mk a) t ∧ t.heap[q]? = some ce ∧ ce.vm = .none ∧ A.U.vm.findClass E = some ce.cls ∧ B.locs = A.locs ++ L ∧ (∀ z ∈ L, free z.base) ∧ B.cells = A.cells + mc ∧ B.slots = A.slots + ms
def vx_Back (l : Launch) (R : Room) (p : Program) (e : Env) (below : List Frame) (s : State) (sargs : Array Value) (y : MethodName) (len W9 : Nat)
    (Pre : Pt → Array Value → Prop) (Post : Pt → Array Value → Option Value → Pt → Prop) (PostX : Pt → Array Value → Addr → Pt → Prop) : Prop :=
  ∀ (m : MethodId) (meth : Method) (c : Code) (A : Pt) (g : JFrame) (ig : Instr) (mk : MethodId) (a : Array Value),
    Stand p l e R s m sargs below meth c A.U A.locs A.cells A.slots → g.method = m → g.locals.size = c.maxLocals → decode c.code g.pc = .ok (ig, len) →
    2 * g.monitorRoom + (g.stack.map fun v => v.category).sum ≤ W9 → A.U.methodNamed? y = some mk → Pre A a →
    (∃ (v : Option Value) (B : Pt), Stand p l e R s m sargs below meth c B.U B.locs B.cells B.slots ∧ Post A a v B ∧
      Steps p.tables e below (doInvoke e (A.U.setTop g) [] mk a).1 (B.U.setTop { g with pc := g.pc + len, stack := v.toList ++ g.stack })) ∨
    (∃ (q : Addr) (B : Pt), Stand p l e R s m sargs below meth c B.U B.locs B.cells B.slots ∧ PostX A a q B ∧
      Steps p.tables e below (doInvoke e (A.U.setTop g) [] mk a).1 ((B.U.setTop g).pushFrame (.throwing q)))
section Payer
variable {l : Launch} {R : Room} {p : Program} {e : Env} {below : List Frame} {s : State} {sargs : Array Value} {y : MethodName} {len W9 : Nat}
theorem vx_back {ws : List Cond} {rm : Room} {Pc : Array Value → State → Prop} {Qc : Array Value → State → Outcome → State → Prop} {XC : String → State → State → Prop} {mc ms : Nat} {free : Addr → Prop} {bytes : ByteArray} {maxL : Nat} {ret : Option FieldType}
    (hM : vx_Met l y ws rm Pc Qc XC mc ms free) (hblind : FrameBlind Pc) (hrc : rm.cells = mc) (hrs : rm.slots = ms)
    (hframes : rm.frames + 1 ≤ R.frames) (hlocals : W9 + (maxL + 11) + rm.locals ≤ R.locals)
    (hws : ∀ w ∈ ws, ∀ a' U, s.WarmedH U.vm → w.before a' U = true) (hcode : Cond.code y bytes maxL ret ∈ ws) (hinit : ∀ a' U, s.WarmedH U.vm → (Cond.initialized y.cls).before a' U = true) :
    vx_Back l R p e below s sargs y len W9 (PreOf R mc ms Pc) (PostOf Qc mc ms free) (vx_Post XC mc ms free) := by
  intro m meth c A g ig mk a X hg hsize hdg hW hn hp
  have h1 : (headSpec ws rm).pre.before a A.U = true := atoms_intro fun w hw => hws w hw _ _ X.warmed
  have h2 : (Cond.code y bytes maxL ret).before a A.U = true := hws _ hcode _ _ X.warmed
  have h3 : (Cond.initialized y.cls).before a A.U = true := hinit _ _ X.warmed
  have h4 : A.cells + (headSpec ws rm).room.cells ≤ R.cells := by rw [show (headSpec ws rm).room.cells = mc from hrc]; exact hp.1
  have h5 : A.slots + (headSpec ws rm).room.slots ≤ R.slots := by rw [show (headSpec ws rm).room.slots = ms from hrs]; exact hp.2.1
  have hPc : Pc a (A.U.calling g mk a) := hblind _ _ _ _ hp.2.2
  obtain ⟨U, Ls, c0, s0⟩ := A
  dsimp only [Pt.U, Pt.locs, Pt.cells, Pt.slots] at h1 h2 h3 h4 h5 X hn hPc ⊢
  obtain ⟨methY, cY, hmY, hcY, -, hlY, -, -, -, -⟩ := Cond.code_spec hn h2
  obtain ⟨kY, hkY, -⟩ := className_of_methodNamed hn
  have hinitY : kY.init = .initialized := Cond.initialized_spec (findClass_of_methodNamed hn) hkY h3
  have h : At U g.method c below := by rw [hg]; exact X.here
  have hlocals9 : W9 + (maxL + 11) + (headSpec ws rm).room.locals ≤ R.locals := hlocals
  have happ : (headSpec ws rm).appliesLoose y e.platform (U.calling g mk a) = true :=
    Spec.appliesLoose_calling (g := g) h hdg hn hkY hinitY
      (X.room_calling (g := g) (R' := (headSpec ws rm).room) hsize hmY hcY hframes (by rw [hlY]; omega) h4 h5) h1
  obtain ⟨mid, hmid⟩ := h.above
  have hfr : (U.setTop g).frames = (.java g :: mid) ++ below := by rw [State.frames_setTop' g h.top, hmid]; rfl
  obtain ⟨o, s₂, hsteps, -, hend, hq⟩ := Steps.callFree hM p X.admits X.cas X.clock (acts := []) hfr happ hPc trivial
  have hq' : vx_Q Qc XC mc ms free a (U.calling g mk a) o s₂ := hq
  rw [State.frames_setTop' g h.top] at hend
  obtain ⟨g₀, hg0⟩ := Option.isSome_iff_exists.mp h.top
  obtain ⟨r, hr⟩ := State.topJava?_eq_some.mp hg0
  have hr' : (({ U with heap := s₂.heap, slotsUsed := s₂.slotsUsed } : State).setVm s₂.vm).frames = .java g₀ :: r := hr
  rcases hq' with ⟨hqc, L, hfe, hL⟩ | ⟨q, rfl, E, ce, L, hx, hce, hcv, hcl, hW₂, hsm, hL⟩
  · obtain ⟨⟨v, rfl⟩, hW₂, e2, q2, q3, q4, q5, q6⟩ := id hfe
    have e3 : s₂ = ({ (U.calling g mk a).setFrames s₂.frames with heap := s₂.heap, slotsUsed := s₂.slotsUsed } : State).setVm s₂.vm := by
      have : s₂ = ({ s₂ with vm := (U.calling g mk a).vm } : State).setVm s₂.vm := rfl
      rw [e2] at this
      exact this
    obtain ⟨c₂, i₂, len₂, hc₂, hd₂, hf₂⟩ := hend
    have hW' : U.WarmedH s₂.vm := hW₂
    have hcc : c₂ = c := by
      have h1 : s₂.code? g.method = U.code? g.method := by
        rw [State.code?_eq, State.code?_eq, hW'.alike.method?]
      exact Option.some.inj (hc₂.symm.trans (h1.trans h.code))
    subst hcc
    have hlen : len₂ = len := by rw [hdg] at hd₂; cases hd₂; rfl
    subst hlen
    have hs₂ : s₂ = (({ U with heap := s₂.heap, slotsUsed := s₂.slotsUsed } : State).setVm s₂.vm).setTop { g with pc := g.pc + len₂, stack := v.toList ++ g.stack } := by
      refine e3.trans ?_
      rw [hf₂, State.calling_eq h.top, State.setFrames_setFrames, State.setTop_of_frames _ hr', hr]
      rfl
    have hsame : U.sameButNew ({ U with heap := s₂.heap, slotsUsed := s₂.slotsUsed } : State) L mc ms := by
      refine ⟨?_, q2, q3, q4, q5, q6⟩
      obtain ⟨t, ht, -⟩ := State.frames_cons hr
      show ({ U with heap := s₂.heap, slotsUsed := s₂.slotsUsed } : State) = { U.setFrames U.frames with heap := s₂.heap, slotsUsed := s₂.slotsUsed }
      rw [State.setFrames_self ht]
    subst hg
    refine Or.inl ⟨v, ⟨(({ U with heap := s₂.heap, slotsUsed := s₂.slotsUsed } : State).setVm s₂.vm), Ls ++ L, c0 + mc, s0 + ms⟩,
      ⟨X.admits, X.cas, X.clock, X.frames, X.room, X.hears, X.method, X.code, (X.here.setHeapUsed s₂.heap s₂.slotsUsed).setVm hW'.alike, X.tail, State.WarmedH.trans X.warmed hW', X.limits, X.bytes, X.same.trans (hsame.setVm s.vm)⟩,
      ⟨g, mk, s₂, L, rfl, rfl, hqc, rfl, hL, rfl, rfl⟩, ?_⟩
    show Steps p.tables e below _ ((({ U with heap := s₂.heap, slotsUsed := s₂.slotsUsed } : State).setVm s₂.vm).setTop { g with pc := g.pc + len₂, stack := v.toList ++ g.stack })
    rw [← hs₂]
    exact hsteps
  · obtain ⟨e2, q2, q3, q4, q5, q6⟩ := id hsm
    have e3 : s₂ = ({ (U.calling g mk a).setFrames s₂.frames with heap := s₂.heap, slotsUsed := s₂.slotsUsed } : State).setVm s₂.vm := by
      have : s₂ = ({ s₂ with vm := (U.calling g mk a).vm } : State).setVm s₂.vm := rfl
      rw [e2] at this
      exact this
    have hf₂ : s₂.frames = .throwing q :: .java g :: U.frames.tail := hend
    have hW' : U.WarmedH s₂.vm := hW₂
    have hs₂ : s₂ = ((({ U with heap := s₂.heap, slotsUsed := s₂.slotsUsed } : State).setVm s₂.vm).setTop g).pushFrame (.throwing q) := by
      refine e3.trans ?_
      rw [hf₂, State.calling_eq h.top, State.setFrames_setFrames, State.pushFrame, State.frames_setTop _ hr', State.setTop_of_frames _ hr', State.setFrames_setFrames, hr]
      rfl
    have hsame : U.sameButNew ({ U with heap := s₂.heap, slotsUsed := s₂.slotsUsed } : State) L mc ms := by
      refine ⟨?_, q2, q3, q4, q5, q6⟩
      obtain ⟨t, ht, -⟩ := State.frames_cons hr
      show ({ U with heap := s₂.heap, slotsUsed := s₂.slotsUsed } : State) = { U.setFrames U.frames with heap := s₂.heap, slotsUsed := s₂.slotsUsed }
      rw [State.setFrames_self ht]
    subst hg
    refine Or.inr ⟨q, ⟨(({ U with heap := s₂.heap, slotsUsed := s₂.slotsUsed } : State).setVm s₂.vm), Ls ++ L, c0 + mc, s0 + ms⟩,
      ⟨X.admits, X.cas, X.clock, X.frames, X.room, X.hears, X.method, X.code, (X.here.setHeapUsed s₂.heap s₂.slotsUsed).setVm hW'.alike, X.tail, State.WarmedH.trans X.warmed hW', X.limits, X.bytes, X.same.trans (hsame.setVm s.vm)⟩,
      ⟨g, mk, s₂, L, E, ce, rfl, rfl, hx, hce, hcv, hcl, rfl, hL, rfl, rfl⟩, ?_⟩
    show Steps p.tables e below _ (((({ U with heap := s₂.heap, slotsUsed := s₂.slotsUsed } : State).setVm s₂.vm).setTop g).pushFrame (.throwing q))
    rw [← hs₂]
    exact hsteps
end Payer
section Calls
variable {p : Program} {l : Launch} {e : Env} {R : Room} {s : State} {m : MethodId} {args : Array Value} {below : List Frame} {meth : Method} {c : Code} {T : State} {locs : List Loc} {cells slots : Nat}
theorem vx_callV (X : Stand p l e R s m args below meth c T locs cells slots) (hexec : p.tables.exec = Jvm.exec) {own C : String} {index : Nat} {y : MethodName} {bytes : ByteArray} {maxL : Nat} {ret : Option FieldType}
    (hown : s.vm.findClass own = some m.cls) (hlink : (Cond.methodLink own index y).before args s = true) (hinst : (Cond.instanceMethod y).before args s = true) (hsel : (Cond.selects C y y).before args s = true)
    (hcode : (Cond.code y bytes maxL ret).before args s = true) (hy : y.cls ≠ "java/lang/invoke/MethodHandle" ∧ y.cls ≠ "java/lang/invoke/VarHandle")
    {W9 : Nat} {Pre : Pt → Array Value → Prop} {Post : Pt → Array Value → Option Value → Pt → Prop} {PostX : Pt → Array Value → Addr → Pt → Prop} (hK : vx_Back l R p e below s args y 3 W9 Pre Post PostX)
    {b : Addr} {cellB : Cell} (hcell : T.heap[b]? = some cellB) (hobj : cellB.vm.isStatics = false) (hcls : s.vm.findClass C = some cellB.cls)
    {g : JFrame} (hg : g.method = m) (hsize : g.locals.size = c.maxLocals) {argsL rest : List Value} (hlen : ∀ sig, parseMethodDescriptor y.desc = some sig → argsL.length = sig.parameters.length)
    (hstack : g.stack = argsL.reverse ++ .ref b :: rest) (hW : 2 * g.monitorRoom + (rest.map fun v => v.category).sum ≤ W9) (hdg : decode c.code g.pc = .ok (.invokevirtual index, 3))
    (hpre : ∀ vm₁, s.WarmedH vm₁ → Pre ⟨T.setVm vm₁, locs, cells, slots⟩ (Value.ref b :: argsL).toArray) :
    (∃ (v : Option Value) (vm₁ : Vm) (B : Pt), s.WarmedH vm₁ ∧ Stand p l e R s m args below meth c B.U B.locs B.cells B.slots ∧ Post ⟨T.setVm vm₁, locs, cells, slots⟩ (Value.ref b :: argsL).toArray v B ∧
      ∀ target, Steps p.tables e below (B.U.setTop { g with pc := g.pc + 3, stack := v.toList ++ rest }) target → Steps p.tables e below (T.setTop g) target) ∨
    (∃ (q : Addr) (vm₁ : Vm) (B : Pt), s.WarmedH vm₁ ∧ Stand p l e R s m args below meth c B.U B.locs B.cells B.slots ∧ PostX ⟨T.setVm vm₁, locs, cells, slots⟩ (Value.ref b :: argsL).toArray q B ∧
      Steps p.tables e below (T.setTop g) ((B.U.setTop { g with stack := rest }).pushFrame (.throwing q))) := by
  obtain ⟨mk, methM, hnamed, hmethM, hstM, habM⟩ := Cond.instanceMethod_spec hinst
  obtain ⟨methM', cM, hmethM', -, -, -, -, -, -, hsigM⟩ := Cond.code_spec hnamed hcode
  cases hmethM.symm.trans hmethM'
  obtain ⟨c2, r2, m2, q1, q2, q3, q4, kP, hkP, hkPi⟩ := Cond.selects_spec hsel
  cases hcls.symm.trans q1
  cases (State.methodFound?_of_named hnamed hy).symm.trans q2
  cases hnamed.symm.trans q3
  have hselP : selectMethod e.platform s.vm cellB.cls mk = .method mk := by rw [Launch.admits_selectMethod X.admits]; exact q4
  obtain ⟨vm₁, X₁, hstep₁⟩ := X.invokevirtual hexec hown hlink hnamed hmethM hstM hkP hkPi hy (a := b) (cell := cellB) hcell
    (fun z h => by rw [h] at hobj; cases hobj) hselP hmethM habM hkP hkPi (g := g) hg (argsL := argsL) (rest := rest) (hlen _ hsigM) hstack hdg
  rcases hK m meth c ⟨T.setVm vm₁, locs, cells, slots⟩ { g with stack := rest } (.invokevirtual index) mk (Value.ref b :: argsL).toArray X₁ hg hsize hdg hW (X₁.named hnamed) (hpre vm₁ X₁.warmed) with ⟨v, B, X', hpost, hsteps⟩ | ⟨q, B, X', hpost, hsteps⟩
  · exact Or.inl ⟨v, vm₁, B, X₁.warmed, X', hpost, fun target h => hstep₁ _ fun acts => by rw [doInvoke_state]; exact hsteps.trans h⟩
  · exact Or.inr ⟨q, vm₁, B, X₁.warmed, X', hpost, hstep₁ _ fun acts => by rw [doInvoke_state]; exact hsteps⟩
theorem vx_callS (X : Stand p l e R s m args below meth c T locs cells slots) (hexec : p.tables.exec = Jvm.exec) {own : String} {index : Nat} {y : MethodName} {bytes : ByteArray} {maxL : Nat} {ret : Option FieldType}
    (hown : s.vm.findClass own = some m.cls) (hlink : (Cond.methodLink own index y).before args s = true) (hstat : (Cond.static y).before args s = true) (hinit : (Cond.initialized y.cls).before args s = true)
    (hcode : (Cond.code y bytes maxL ret).before args s = true) (hy : y.cls ≠ "java/lang/invoke/MethodHandle" ∧ y.cls ≠ "java/lang/invoke/VarHandle")
    {W9 : Nat} {Pre : Pt → Array Value → Prop} {Post : Pt → Array Value → Option Value → Pt → Prop} {PostX : Pt → Array Value → Addr → Pt → Prop} (hK : vx_Back l R p e below s args y 3 W9 Pre Post PostX)
    {g : JFrame} (hg : g.method = m) (hsize : g.locals.size = c.maxLocals) {argsL rest : List Value} (hlen : ∀ sig, parseMethodDescriptor y.desc = some sig → argsL.length = sig.parameters.length)
    (hstack : g.stack = argsL.reverse ++ rest) (hW : 2 * g.monitorRoom + (rest.map fun v => v.category).sum ≤ W9) (hdg : decode c.code g.pc = .ok (.invokestatic index, 3))
    (hpre : ∀ vm₁, s.WarmedH vm₁ → Pre ⟨T.setVm vm₁, locs, cells, slots⟩ argsL.toArray) :
    (∃ (v : Option Value) (vm₁ : Vm) (B : Pt), s.WarmedH vm₁ ∧ Stand p l e R s m args below meth c B.U B.locs B.cells B.slots ∧ Post ⟨T.setVm vm₁, locs, cells, slots⟩ argsL.toArray v B ∧
      ∀ target, Steps p.tables e below (B.U.setTop { g with pc := g.pc + 3, stack := v.toList ++ rest }) target → Steps p.tables e below (T.setTop g) target) ∨
    (∃ (q : Addr) (vm₁ : Vm) (B : Pt), s.WarmedH vm₁ ∧ Stand p l e R s m args below meth c B.U B.locs B.cells B.slots ∧ PostX ⟨T.setVm vm₁, locs, cells, slots⟩ argsL.toArray q B ∧
      Steps p.tables e below (T.setTop g) ((B.U.setTop { g with stack := rest }).pushFrame (.throwing q))) := by
  obtain ⟨mk, hnamed⟩ := Cond.code_named hcode
  obtain ⟨methM, cM, hmethM, -, -, -, -, -, -, hsigM⟩ := Cond.code_spec hnamed hcode
  have hstatic : methM.isStatic = true := Cond.static_spec hnamed hmethM hstat
  obtain ⟨kP, hkP, -⟩ := className_of_methodNamed hnamed
  have hinitP : kP.init = .initialized := Cond.initialized_spec (findClass_of_methodNamed hnamed) hkP hinit
  obtain ⟨vm₁, X₁, hstep₁⟩ := X.invokestatic hexec hown hlink hnamed hmethM hstatic hkP hinitP hy (g := g) hg (argsL := argsL) (rest := rest) (hlen _ hsigM) hstack hdg
  rcases hK m meth c ⟨T.setVm vm₁, locs, cells, slots⟩ { g with stack := rest } (.invokestatic index) mk argsL.toArray X₁ hg hsize hdg hW (X₁.named hnamed) (hpre vm₁ X₁.warmed) with ⟨v, B, X', hpost, hsteps⟩ | ⟨q, B, X', hpost, hsteps⟩
  · exact Or.inl ⟨v, vm₁, B, X₁.warmed, X', hpost, fun target h => hstep₁ _ fun acts => by rw [doInvoke_state]; exact hsteps.trans h⟩
  · exact Or.inr ⟨q, vm₁, B, X₁.warmed, X', hpost, hstep₁ _ fun acts => by rw [doInvoke_state]; exact hsteps⟩
end Calls
theorem vx_cls {s : State} {T : State} {vm₁ : Vm} {E : String} {k : ClassId} (hW : s.WarmedH vm₁) (h : (T.setVm vm₁).vm.findClass E = some k) : s.vm.findClass E = some k := by
  have h1 : vm₁.findClass E = some k := h
  rw [hW.alike.findClass] at h1
  exact h1
/-- the method's frame g, with q thrown over it -/
def vx_W (p : Program) (l : Launch) (e : Env) (R : Room) (s : State) (m : MethodId) (args : Array Value) (below : List Frame) (meth : Method) (c : Code) (H : Heap) (locs : List Loc) (cells slots : Nat) (Q : State → Prop) (g : JFrame) (q : Addr) : Prop :=
  ∀ T : State, T.heap = H → Stand p l e R s m args below meth c T locs cells slots → ∃ t, Steps p.tables e below ((T.setTop g).pushFrame (.throwing q)) t ∧ Q t
def vx_Run (p : Program) (l : Launch) (e : Env) (R : Room) (s : State) (m : MethodId) (args : Array Value) (below : List Frame) (meth : Method) (c : Code) (H : Heap) (locs : List Loc) (cells slots mc ms : Nat) (g : JFrame) (rest : List Value) (Qa : State → Outcome → State → Prop) (XC : String → State → State → Prop) (free : Addr → Prop) : Prop :=
  ∀ T : State, T.heap = H → Stand p l e R s m args below meth c T locs cells slots →
    (∃ (v : Option Value) (st₀ t T' : State) (L : List Loc), st₀.heap = H ∧ Stand p l e R s m args below meth c T' (locs ++ L) (cells + mc) (slots + ms) ∧ (∀ q ∈ L, free q.base) ∧ T'.heap = t.heap ∧ T'.vm = t.vm ∧ Qa st₀ (.returned v) t ∧
      Goes p e below T g T' { g with pc := g.pc + 3, stack := v.toList ++ rest }) ∨
    (∃ (q : Addr) (st₀ t T' : State) (L : List Loc) (E : String) (ce : Cell), st₀.heap = H ∧ Stand p l e R s m args below meth c T' (locs ++ L) (cells + mc) (slots + ms) ∧ (∀ z ∈ L, free z.base) ∧ T'.heap = t.heap ∧ T'.vm = t.vm ∧ XC E st₀ t ∧ t.heap[q]? = some ce ∧ ce.vm = .none ∧ s.vm.findClass E = some ce.cls ∧
      Steps p.tables e below (T.setTop g) ((T'.setTop { g with stack := rest }).pushFrame (.throwing q)))
def vx_X {S : Type} (px : S → Prop) (B : String → S → State → Prop) (A : Nat → Prop) : String → State → State → Prop := fun E st t => ∃ u : S, px u ∧ B E u t ∧ va_F A st t
section Runs
variable {p : Program} {l : Launch} {e : Env} {R : Room} {s : State} {m : MethodId} {args : Array Value} {below : List Frame} {meth : Method} {c : Code} {H : Heap} {locs : List Loc} {cells slots : Nat}
variable {y : MethodName} {bytes cc : ByteArray} {maxL nL mc ms n index : Nat} {ret : Option FieldType} {ws : List Cond} {rm : Room} {Pc : Array Value → State → Prop} {Qc : Array Value → State → Outcome → State → Prop} {XC : String → State → State → Prop} {free : Addr → Prop} {Ts : List Cond} {own C : String} {b : Addr} {As rest : List Value} {g : JFrame}
theorem vx_callBack (cb : CallB R s args own index y bytes maxL ret ws rm mc ms n) (hM : vx_Met l y ws rm Pc Qc XC mc ms free) (hbl : FrameBlind Pc) : vx_Back l R p e below s args y 3 8 (PreOf R mc ms Pc) (PostOf Qc mc ms free) (vx_Post XC mc ms free) := by
  obtain ⟨hrc, hrs, hfr, hlo, hws, hcw, -, hini, -⟩ := cb
  exact vx_back (bytes := bytes) (maxL := maxL) (ret := ret) hM hbl hrc hrs hfr hlo hws hcw (fun a' U hW => word_at hW (Or.inl (by first | rfl | simp [Cond.onTables, Cond.keeps, Cond.steady])) hini)
theorem vx_runV (S : CallFix p m c cc nL s args Ts own) (hM : vx_Met l y ws rm Pc Qc XC mc ms free) (cw : CallW R s args own C index y bytes maxL ret ws rm mc ms n) (hp : PreV s H C b Pc As)
    (hg : g.method = m) (hn : As.length = n) (hsize : g.locals.size = nL) (hstack : g.stack = As.reverse ++ .ref b :: rest) (hW : 2 * g.monitorRoom + (rest.map fun v => v.category).sum ≤ 8) (hdg : decode cc g.pc = .ok (.invokevirtual index, 3)) (hf : cells + mc ≤ R.cells ∧ slots + ms ≤ R.slots) :
    vx_Run p l e R s m args below meth c H locs cells slots mc ms g rest (Qc (Value.ref b :: As).toArray) XC free := by
  have hK : vx_Back l R p e below s args y 3 8 (PreOf R mc ms Pc) (PostOf Qc mc ms free) (vx_Post XC mc ms free) := vx_callBack cw.1 hM hp.1
  obtain ⟨⟨-, -, -, -, -, -, hcode, -, hy, hlen, hl⟩, hin, hse⟩ := cw
  obtain ⟨hx, hb, hml, ho, -⟩ := S
  obtain ⟨-, ⟨cellB, hcB, hoB, hclB⟩, hPc⟩ := hp
  intro T hT X
  rcases vx_callV X hx (C := C) (bytes := bytes) (maxL := maxL) (ret := ret) ho hl hin hse hcode hy hK (by rw [hT]; exact hcB) hoB hclB hg (hsize.trans hml.symm) (argsL := As) (rest := rest) (fun sig h => hn.trans (hlen sig h)) hstack hW (by rw [hb]; exact hdg)
    (fun vm₁ hW₁ => ⟨hf.1, hf.2, hPc (T.setVm vm₁) hT hW₁⟩) with ⟨v, vm₁, ⟨U', l2, c2, s2⟩, hW₁, X', ⟨g', mk, t, L, e1, e2, hq, h1, hL, h2, h3⟩, st⟩ | ⟨q, vm₁, ⟨U', l2, c2, s2⟩, hW₁, X', ⟨g', mk, t, L, E, ce, e1, e2, hq, hce, hcv, hcl, h1, hL, h2, h3⟩, st⟩
  · dsimp only [Pt.U, Pt.locs, Pt.cells, Pt.slots] at X' e1 e2 h1 h2 h3 st
    subst h1; subst h2; subst h3
    exact Or.inl ⟨v, (T.setVm vm₁).calling g' mk (Value.ref b :: As).toArray, t, U', L, hT, X', hL, e1, e2, hq, st⟩
  · dsimp only [Pt.U, Pt.locs, Pt.cells, Pt.slots] at X' e1 e2 h1 h2 h3 st hcl
    subst h1; subst h2; subst h3
    exact Or.inr ⟨q, (T.setVm vm₁).calling g' mk (Value.ref b :: As).toArray, t, U', L, E, ce, hT, X', hL, e1, e2, hq, hce, hcv, vx_cls hW₁ hcl, st⟩
theorem vx_runS (S : CallFix p m c cc nL s args Ts own) (hM : vx_Met l y ws rm Pc Qc XC mc ms free) (cw : CallB R s args own index y bytes maxL ret ws rm mc ms n ∧ (Cond.static y).before args s = true) (hp : PreS s H Pc As)
    (hg : g.method = m) (hn : As.length = n) (hsize : g.locals.size = nL) (hstack : g.stack = As.reverse ++ rest) (hW : 2 * g.monitorRoom + (rest.map fun v => v.category).sum ≤ 8) (hdg : decode cc g.pc = .ok (.invokestatic index, 3)) (hf : cells + mc ≤ R.cells ∧ slots + ms ≤ R.slots) :
    vx_Run p l e R s m args below meth c H locs cells slots mc ms g rest (Qc As.toArray) XC free := by
  have hK : vx_Back l R p e below s args y 3 8 (PreOf R mc ms Pc) (PostOf Qc mc ms free) (vx_Post XC mc ms free) := vx_callBack cw.1 hM hp.1
  obtain ⟨⟨-, -, -, -, -, -, hcode, hini, hy, hlen, hl⟩, hstt⟩ := cw
  obtain ⟨hx, hb, hml, ho, -⟩ := S
  intro T hT X
  rcases vx_callS X hx (bytes := bytes) (maxL := maxL) (ret := ret) ho hl hstt hini hcode hy hK hg (hsize.trans hml.symm) (argsL := As) (rest := rest) (fun sig h => hn.trans (hlen sig h)) hstack hW (by rw [hb]; exact hdg)
    (fun vm₁ hW₁ => ⟨hf.1, hf.2, hp.2 (T.setVm vm₁) hT hW₁⟩) with ⟨v, vm₁, ⟨U', l2, c2, s2⟩, hW₁, X', ⟨g', mk, t, L, e1, e2, hq, h1, hL, h2, h3⟩, st⟩ | ⟨q, vm₁, ⟨U', l2, c2, s2⟩, hW₁, X', ⟨g', mk, t, L, E, ce, e1, e2, hq, hce, hcv, hcl, h1, hL, h2, h3⟩, st⟩
  · dsimp only [Pt.U, Pt.locs, Pt.cells, Pt.slots] at X' e1 e2 h1 h2 h3 st
    subst h1; subst h2; subst h3
    exact Or.inl ⟨v, (T.setVm vm₁).calling g' mk As.toArray, t, U', L, hT, X', hL, e1, e2, hq, st⟩
  · dsimp only [Pt.U, Pt.locs, Pt.cells, Pt.slots] at X' e1 e2 h1 h2 h3 st hcl
    subst h1; subst h2; subst h3
    exact Or.inr ⟨q, (T.setVm vm₁).calling g' mk As.toArray, t, U', L, E, ce, hT, X', hL, e1, e2, hq, hce, hcv, vx_cls hW₁ hcl, st⟩
end Runs
section Rows
variable {p : Program} {l : Launch} {e : Env} {R : Room} {s : State} {m : MethodId} {args : Array Value} {below : List Frame} {meth : Method} {c : Code} {H : Heap} {locs : List Loc} {cells slots : Nat} {Q : State → Prop}
variable {mc ms : Nat} {free : Addr → Prop} {A0 A1 : Nat → Prop} {H0 : Heap} {a : Array Value} {pc : Nat} {ls : Array Slot} {st0 rest : List Value}
theorem vx_keep {st₀ t T' : State} {L : List Loc} (h0 : st₀.heap = H) (e1 : T'.heap = t.heap) (hS : va_S A0 H0 H locs) (hA : ∀ q, q < H.size → A1 q → A0 q) (hf : ∀ q, free q → A0 q) (hL : ∀ q ∈ L, free q.base) (hF : va_F A1 st₀ t) :
    H.size ≤ T'.heap.size ∧ (∀ q : Nat, q < H.size → ¬ A1 q → T'.heap[q]? = H[q]?) ∧ va_S A0 H0 T'.heap (locs ++ L) := by
  obtain ⟨hz, hk⟩ := hF
  rw [h0] at hz hk
  exact ⟨by rw [e1]; exact hz, fun q h1 h2 => by rw [e1]; exact hk q h1 h2,
    ⟨Nat.le_trans hS.1 (by rw [e1]; exact hz), fun q h1 h2 => by rw [e1, hk q (Nat.lt_of_lt_of_le h1 hS.1) (fun z => h2 (hA q (Nat.lt_of_lt_of_le h1 hS.1) z))]; exact hS.2.1 q h1 h2, fun q hq => by
      rcases List.mem_append.mp hq with h | h
      · exact hS.2.2 q h
      · exact hf _ (hL q h)⟩⟩
theorem vx_calli {S SX : Type} {post : Int32 → S → Prop} {px : SX → Prop} {B : S → State → Prop} {BX : String → SX → State → Prop} {AX : Nat → Prop} (hr : vx_Run p l e R s m args below meth c H locs cells slots mc ms (F0 m pc ls st0) rest (va_Qi post B A1 a) (vx_X px BX AX) free) (hS : va_S A0 H0 H locs) (hA : ∀ q, q < H.size → A1 q → A0 q) (hf : ∀ q, free q → A0 q) (hAX : ∀ q, q < H.size → AX q → A0 q)
    (kx : ∀ (E : String) (ce : Cell) (q9 : Addr) (u : SX) (t : State) (H1 : Heap) (locs1 : List Loc), t.heap = H1 → s.vm.Alike t.vm → px u → BX E u t → H.size ≤ H1.size → (∀ q : Nat, q < H.size → ¬ AX q → H1[q]? = H[q]?) → va_S A0 H0 H1 locs1 → H1[q9]? = some ce → ce.vm = .none → s.vm.findClass E = some ce.cls → vx_W p l e R s m args below meth c H1 locs1 (cells + mc) (slots + ms) Q (F0 m pc ls rest) q9)
    (kk : ∀ (r : Int32) (u : S) (t : State) (H1 : Heap) (locs1 : List Loc), t.heap = H1 → s.vm.Alike t.vm → post r u → B u t → H.size ≤ H1.size → (∀ q : Nat, q < H.size → ¬ A1 q → H1[q]? = H[q]?) → va_S A0 H0 H1 locs1 → W p l e R s m args below meth c H1 locs1 (cells + mc) (slots + ms) Q (F0 m (pc + 3) ls (.int r :: rest))) : W p l e R s m args below meth c H locs cells slots Q (F0 m pc ls st0) := by
  intro T hT X
  rcases hr T hT X with ⟨v, st₀, t, T', L, h0, X', hL, e1, e2, ⟨⟨r, u, hv, hp, hb⟩, hF⟩, st⟩ | ⟨q, st₀, t, T', L, E, ce, h0, X', hL, e1, e2, ⟨u, hp, hb, hF⟩, hce, hcv, hcl, st⟩
  · cases hv
    obtain ⟨k1, k2, k3⟩ := vx_keep h0 e1 hS hA hf hL hF
    obtain ⟨t2, a1, b1⟩ := kk r u t T'.heap (locs ++ L) e1.symm (by rw [← e2]; exact X'.warmed.alike) hp hb k1 k2 k3 T' rfl X'
    exact ⟨t2, st t2 a1, b1⟩
  · obtain ⟨k1, k2, k3⟩ := vx_keep h0 e1 hS hAX hf hL hF
    obtain ⟨t2, a1, b1⟩ := kx E ce q u t T'.heap (locs ++ L) e1.symm (by rw [← e2]; exact X'.warmed.alike) hp hb k1 k2 k3 (by rw [e1]; exact hce) hcv hcl T' rfl X'
    exact ⟨t2, st.trans a1, b1⟩
theorem vx_calll {S SX : Type} {post : Int64 → S → Prop} {px : SX → Prop} {B : S → State → Prop} {BX : String → SX → State → Prop} {AX : Nat → Prop} (hr : vx_Run p l e R s m args below meth c H locs cells slots mc ms (F0 m pc ls st0) rest (va_Ql post B A1 a) (vx_X px BX AX) free) (hS : va_S A0 H0 H locs) (hA : ∀ q, q < H.size → A1 q → A0 q) (hf : ∀ q, free q → A0 q) (hAX : ∀ q, q < H.size → AX q → A0 q)
    (kx : ∀ (E : String) (ce : Cell) (q9 : Addr) (u : SX) (t : State) (H1 : Heap) (locs1 : List Loc), t.heap = H1 → s.vm.Alike t.vm → px u → BX E u t → H.size ≤ H1.size → (∀ q : Nat, q < H.size → ¬ AX q → H1[q]? = H[q]?) → va_S A0 H0 H1 locs1 → H1[q9]? = some ce → ce.vm = .none → s.vm.findClass E = some ce.cls → vx_W p l e R s m args below meth c H1 locs1 (cells + mc) (slots + ms) Q (F0 m pc ls rest) q9)
    (kk : ∀ (r : Int64) (u : S) (t : State) (H1 : Heap) (locs1 : List Loc), t.heap = H1 → s.vm.Alike t.vm → post r u → B u t → H.size ≤ H1.size → (∀ q : Nat, q < H.size → ¬ A1 q → H1[q]? = H[q]?) → va_S A0 H0 H1 locs1 → W p l e R s m args below meth c H1 locs1 (cells + mc) (slots + ms) Q (F0 m (pc + 3) ls (.long r :: rest))) : W p l e R s m args below meth c H locs cells slots Q (F0 m pc ls st0) := by
  intro T hT X
  rcases hr T hT X with ⟨v, st₀, t, T', L, h0, X', hL, e1, e2, ⟨⟨r, u, hv, hp, hb⟩, hF⟩, st⟩ | ⟨q, st₀, t, T', L, E, ce, h0, X', hL, e1, e2, ⟨u, hp, hb, hF⟩, hce, hcv, hcl, st⟩
  · cases hv
    obtain ⟨k1, k2, k3⟩ := vx_keep h0 e1 hS hA hf hL hF
    obtain ⟨t2, a1, b1⟩ := kk r u t T'.heap (locs ++ L) e1.symm (by rw [← e2]; exact X'.warmed.alike) hp hb k1 k2 k3 T' rfl X'
    exact ⟨t2, st t2 a1, b1⟩
  · obtain ⟨k1, k2, k3⟩ := vx_keep h0 e1 hS hAX hf hL hF
    obtain ⟨t2, a1, b1⟩ := kx E ce q u t T'.heap (locs ++ L) e1.symm (by rw [← e2]; exact X'.warmed.alike) hp hb k1 k2 k3 (by rw [e1]; exact hce) hcv hcl T' rfl X'
    exact ⟨t2, st.trans a1, b1⟩
theorem vx_callf {S SX : Type} {post : UInt32 → S → Prop} {px : SX → Prop} {B : S → State → Prop} {BX : String → SX → State → Prop} {AX : Nat → Prop} (hr : vx_Run p l e R s m args below meth c H locs cells slots mc ms (F0 m pc ls st0) rest (va_Qf post B A1 a) (vx_X px BX AX) free) (hS : va_S A0 H0 H locs) (hA : ∀ q, q < H.size → A1 q → A0 q) (hf : ∀ q, free q → A0 q) (hAX : ∀ q, q < H.size → AX q → A0 q)
    (kx : ∀ (E : String) (ce : Cell) (q9 : Addr) (u : SX) (t : State) (H1 : Heap) (locs1 : List Loc), t.heap = H1 → s.vm.Alike t.vm → px u → BX E u t → H.size ≤ H1.size → (∀ q : Nat, q < H.size → ¬ AX q → H1[q]? = H[q]?) → va_S A0 H0 H1 locs1 → H1[q9]? = some ce → ce.vm = .none → s.vm.findClass E = some ce.cls → vx_W p l e R s m args below meth c H1 locs1 (cells + mc) (slots + ms) Q (F0 m pc ls rest) q9)
    (kk : ∀ (r : UInt32) (u : S) (t : State) (H1 : Heap) (locs1 : List Loc), t.heap = H1 → s.vm.Alike t.vm → post r u → B u t → H.size ≤ H1.size → (∀ q : Nat, q < H.size → ¬ A1 q → H1[q]? = H[q]?) → va_S A0 H0 H1 locs1 → W p l e R s m args below meth c H1 locs1 (cells + mc) (slots + ms) Q (F0 m (pc + 3) ls (.float r :: rest))) : W p l e R s m args below meth c H locs cells slots Q (F0 m pc ls st0) := by
  intro T hT X
  rcases hr T hT X with ⟨v, st₀, t, T', L, h0, X', hL, e1, e2, ⟨⟨r, u, hv, hp, hb⟩, hF⟩, st⟩ | ⟨q, st₀, t, T', L, E, ce, h0, X', hL, e1, e2, ⟨u, hp, hb, hF⟩, hce, hcv, hcl, st⟩
  · cases hv
    obtain ⟨k1, k2, k3⟩ := vx_keep h0 e1 hS hA hf hL hF
    obtain ⟨t2, a1, b1⟩ := kk r u t T'.heap (locs ++ L) e1.symm (by rw [← e2]; exact X'.warmed.alike) hp hb k1 k2 k3 T' rfl X'
    exact ⟨t2, st t2 a1, b1⟩
  · obtain ⟨k1, k2, k3⟩ := vx_keep h0 e1 hS hAX hf hL hF
    obtain ⟨t2, a1, b1⟩ := kx E ce q u t T'.heap (locs ++ L) e1.symm (by rw [← e2]; exact X'.warmed.alike) hp hb k1 k2 k3 (by rw [e1]; exact hce) hcv hcl T' rfl X'
    exact ⟨t2, st.trans a1, b1⟩
theorem vx_calld {S SX : Type} {post : UInt64 → S → Prop} {px : SX → Prop} {B : S → State → Prop} {BX : String → SX → State → Prop} {AX : Nat → Prop} (hr : vx_Run p l e R s m args below meth c H locs cells slots mc ms (F0 m pc ls st0) rest (va_Qd post B A1 a) (vx_X px BX AX) free) (hS : va_S A0 H0 H locs) (hA : ∀ q, q < H.size → A1 q → A0 q) (hf : ∀ q, free q → A0 q) (hAX : ∀ q, q < H.size → AX q → A0 q)
    (kx : ∀ (E : String) (ce : Cell) (q9 : Addr) (u : SX) (t : State) (H1 : Heap) (locs1 : List Loc), t.heap = H1 → s.vm.Alike t.vm → px u → BX E u t → H.size ≤ H1.size → (∀ q : Nat, q < H.size → ¬ AX q → H1[q]? = H[q]?) → va_S A0 H0 H1 locs1 → H1[q9]? = some ce → ce.vm = .none → s.vm.findClass E = some ce.cls → vx_W p l e R s m args below meth c H1 locs1 (cells + mc) (slots + ms) Q (F0 m pc ls rest) q9)
    (kk : ∀ (r : UInt64) (u : S) (t : State) (H1 : Heap) (locs1 : List Loc), t.heap = H1 → s.vm.Alike t.vm → post r u → B u t → H.size ≤ H1.size → (∀ q : Nat, q < H.size → ¬ A1 q → H1[q]? = H[q]?) → va_S A0 H0 H1 locs1 → W p l e R s m args below meth c H1 locs1 (cells + mc) (slots + ms) Q (F0 m (pc + 3) ls (.double r :: rest))) : W p l e R s m args below meth c H locs cells slots Q (F0 m pc ls st0) := by
  intro T hT X
  rcases hr T hT X with ⟨v, st₀, t, T', L, h0, X', hL, e1, e2, ⟨⟨r, u, hv, hp, hb⟩, hF⟩, st⟩ | ⟨q, st₀, t, T', L, E, ce, h0, X', hL, e1, e2, ⟨u, hp, hb, hF⟩, hce, hcv, hcl, st⟩
  · cases hv
    obtain ⟨k1, k2, k3⟩ := vx_keep h0 e1 hS hA hf hL hF
    obtain ⟨t2, a1, b1⟩ := kk r u t T'.heap (locs ++ L) e1.symm (by rw [← e2]; exact X'.warmed.alike) hp hb k1 k2 k3 T' rfl X'
    exact ⟨t2, st t2 a1, b1⟩
  · obtain ⟨k1, k2, k3⟩ := vx_keep h0 e1 hS hAX hf hL hF
    obtain ⟨t2, a1, b1⟩ := kx E ce q u t T'.heap (locs ++ L) e1.symm (by rw [← e2]; exact X'.warmed.alike) hp hb k1 k2 k3 (by rw [e1]; exact hce) hcv hcl T' rfl X'
    exact ⟨t2, st.trans a1, b1⟩
theorem vx_callv {S SX : Type} {post : S → Prop} {px : SX → Prop} {B : S → State → Prop} {BX : String → SX → State → Prop} {AX : Nat → Prop} (hr : vx_Run p l e R s m args below meth c H locs cells slots mc ms (F0 m pc ls st0) rest (va_Qv post B A1 a) (vx_X px BX AX) free) (hS : va_S A0 H0 H locs) (hA : ∀ q, q < H.size → A1 q → A0 q) (hf : ∀ q, free q → A0 q) (hAX : ∀ q, q < H.size → AX q → A0 q)
    (kx : ∀ (E : String) (ce : Cell) (q9 : Addr) (u : SX) (t : State) (H1 : Heap) (locs1 : List Loc), t.heap = H1 → s.vm.Alike t.vm → px u → BX E u t → H.size ≤ H1.size → (∀ q : Nat, q < H.size → ¬ AX q → H1[q]? = H[q]?) → va_S A0 H0 H1 locs1 → H1[q9]? = some ce → ce.vm = .none → s.vm.findClass E = some ce.cls → vx_W p l e R s m args below meth c H1 locs1 (cells + mc) (slots + ms) Q (F0 m pc ls rest) q9)
    (kk : ∀ (u : S) (t : State) (H1 : Heap) (locs1 : List Loc), t.heap = H1 → s.vm.Alike t.vm → post u → B u t → H.size ≤ H1.size → (∀ q : Nat, q < H.size → ¬ A1 q → H1[q]? = H[q]?) → va_S A0 H0 H1 locs1 → W p l e R s m args below meth c H1 locs1 (cells + mc) (slots + ms) Q (F0 m (pc + 3) ls (rest))) : W p l e R s m args below meth c H locs cells slots Q (F0 m pc ls st0) := by
  intro T hT X
  rcases hr T hT X with ⟨v, st₀, t, T', L, h0, X', hL, e1, e2, ⟨⟨u, hv, hp, hb⟩, hF⟩, st⟩ | ⟨q, st₀, t, T', L, E, ce, h0, X', hL, e1, e2, ⟨u, hp, hb, hF⟩, hce, hcv, hcl, st⟩
  · cases hv
    obtain ⟨k1, k2, k3⟩ := vx_keep h0 e1 hS hA hf hL hF
    obtain ⟨t2, a1, b1⟩ := kk u t T'.heap (locs ++ L) e1.symm (by rw [← e2]; exact X'.warmed.alike) hp hb k1 k2 k3 T' rfl X'
    exact ⟨t2, st t2 a1, b1⟩
  · obtain ⟨k1, k2, k3⟩ := vx_keep h0 e1 hS hAX hf hL hF
    obtain ⟨t2, a1, b1⟩ := kx E ce q u t T'.heap (locs ++ L) e1.symm (by rw [← e2]; exact X'.warmed.alike) hp hb k1 k2 k3 (by rw [e1]; exact hce) hcv hcl T' rfl X'
    exact ⟨t2, st.trans a1, b1⟩
/-- caught by the row x of this method's table; the rows ahead don't take it -/
theorem vx_catch {own name : String} {E : String} {ce : Cell} {q : Addr} (hown : s.vm.findClass own = some m.cls) (pre : List ExceptionTableEntry) (x : ExceptionTableEntry) (suf : List ExceptionTableEntry) (hsplit : c.exceptionTable.toList = pre ++ x :: suf)
    (hpass : ∀ z ∈ pre, covers z pc = false ∨ (z.catchType ≠ 0 ∧ ∃ nm : String, (Cond.classLink own z.catchType nm).before args s = true ∧ va_Nc E nm s)) (hx : covers x pc = true) (h0 : x.catchType ≠ 0)
    (hlink : (Cond.classLink own x.catchType name).before args s = true) (hcast : (Cond.castable E name).before args s = true) (hcell : H[q]? = some ce) (hv : ce.vm = .none) (hcl : s.vm.findClass E = some ce.cls)
    (kk : W p l e R s m args below meth c H locs cells slots Q (F0 m x.handlerPc ls [.ref q])) : vx_W p l e R s m args below meth c H locs cells slots Q (F0 m pc ls rest) q := by
  intro T hT X
  have hpl : e.platform.magicAccessors = ({} : Platform).magicAccessors := by rw [X.admits.platform]
  obtain ⟨c3, c4, hc3, hc4, hasg⟩ := Cond.castable_spec hcast
  cases Option.some.inj (hc3.symm.trans hcl)
  obtain ⟨c5, hc5, hcl5⟩ := Cond.classLink_spec hown hlink e.platform hpl
  cases Option.some.inj (hc4.symm.trans hc5)
  obtain ⟨vm', X', st⟩ := X.thenCaughtThrough q (g := F0 m pc ls rest) rfl (Steps.refl _) (by rw [hT]; exact hcell) (by rw [hv]; rfl) (by obtain ⟨k9, h9, -⟩ := Vm.findClass_spec hcl; exact ⟨k9, h9⟩) pre x suf hsplit
    (fun z hz => by
      rcases hpass z hz with h | ⟨hz0, nm, hl1, hn1⟩
      · exact Or.inl h
      · obtain ⟨c6, hc6, hcl6⟩ := Cond.classLink_spec hown hl1 e.platform hpl
        obtain ⟨a8, b8, h1, h2, h3⟩ := hn1
        cases Option.some.inj (h1.symm.trans hcl)
        cases Option.some.inj (h2.symm.trans hc6)
        exact Or.inr ⟨hz0, _, hcl6, h3⟩) hx (Or.inr ⟨h0, c4, hcl5, hasg⟩)
  obtain ⟨t, a1, b1⟩ := kk (T.setVm vm') hT X'
  exact ⟨t, st.trans a1, b1⟩
end Rows
section Ends
variable {p : Program} {l : Launch} {e : Env} {R : Room} {s : State} {m : MethodId} {args : Array Value} {below : List Frame} {meth : Method} {c : Code} {H : Heap} {locs : List Loc} {cells slots : Nat} {Q : State → Prop}
variable {mc ms : Nat} {free : Addr → Prop} {A0 A1 : Nat → Prop} {H0 : Heap} {a : Array Value} {ls : Array Slot} {st0 rest : List Value}
variable {Qc : Array Value → State → Outcome → State → Prop} {XC : String → State → State → Prop}
/-- what a body that may throw owes at its end -/
def vx_MQ (below : List Frame) (Qc : Array Value → State → Outcome → State → Prop) (XC : String → State → State → Prop) (a : Array Value) (s : State) (mc ms : Nat) (free : Addr → Prop) : State → Prop := fun t =>
  ∃ o, t.status = .running ∧ Ended t below o ∧ vx_Q Qc XC mc ms free a s o t
theorem vx_ret {g : JFrame} {mc ms : Nat} (k : W p l e R s m args below meth c H locs cells slots (MQ below Qc args s mc ms free) g) : W p l e R s m args below meth c H locs cells slots (vx_MQ below Qc XC args s mc ms free) g := by
  intro T hT X
  obtain ⟨t, a1, o, b1, b2, b3, b4⟩ := k T hT X
  exact ⟨t, a1, o, b1, b2, Or.inl ⟨b3, b4⟩⟩
/-- not caught here: it goes on to the caller -/
theorem vx_widen {g : JFrame} {q : Addr} {k n : Nat} (h1 : cells ≤ k) (h2 : slots ≤ n) (kk : vx_W p l e R s m args below meth c H locs k n Q g q) : vx_W p l e R s m args below meth c H locs cells slots Q g q := fun T hT X => kk T hT (stand_widen X h1 h2)
theorem vx_out {pc : Nat} {E : String} {ce : Cell} {q : Addr} {mc ms : Nat} (hout : ∀ x ∈ c.exceptionTable.toList, covers x pc = false) (hlocks : meth.locks = false) (hcell : H[q]? = some ce) (hv : ce.vm = .none) (hcl : s.vm.findClass E = some ce.cls)
    (hx : ∀ t : State, t.heap = H → s.vm.Alike t.vm → XC E s t) (hf : ∀ z ∈ locs, free z.base) (hc : cells ≤ mc) (hs : slots ≤ ms) :
    vx_W p l e R s m args below meth c H locs cells slots (vx_MQ below Qc XC args s mc ms free) (F0 m pc ls rest) q := by
  intro T hT X
  obtain ⟨st1, hrun, hend, hW, hsm⟩ := X.leaveThrown q (g := F0 m pc ls rest) rfl rfl rfl hout hlocks
  have hcell9 : (T.setFrames (.throwing q :: below)).heap[q]? = some ce := by
    show T.heap[q]? = some ce
    rw [hT]; exact hcell
  exact ⟨_, st1, .threw q, hrun, hend, Or.inr ⟨q, rfl, E, ce, locs, hx _ hT hW.alike, hcell9, hv, hcl, hW, hsm.mono hc hs, hf⟩⟩
theorem vx_frame {U : State} {k n : Nat} (h : s.sameButNew ({ U with vm := s.vm } : State) locs k n) : s.heap.size ≤ U.heap.size ∧ ∀ q : Nat, q < s.heap.size → (∀ z ∈ locs, z.base ≠ q) → U.heap[q]? = s.heap[q]? := by
  obtain ⟨-, h2, -, -, -, h6⟩ := h
  refine ⟨h2, fun q hq hz => ?_⟩
  obtain ⟨c9, e1, e2, e3, e4⟩ := h6 q _ (Array.getElem?_eq_getElem hq)
  have hs : c9.slots = (s.heap[q]).slots := Array.ext_getElem? fun i => e4 i fun hm => hz _ hm rfl
  have h9 : c9 = s.heap[q] := by
    rw [hs] at e2
    exact e2
  have e5 : U.heap[q]? = some c9 := e1
  rw [e5, h9, Array.getElem?_eq_getElem hq]
/-- the words of a throw but the four that speak of the heap -/
def vx_no (w : Cond) : Bool := decide (w ≠ .isRef (.static Bundle.tN "UNASSIGNED_STACK" Bundle.steD)) && decide (w ≠ .isRef (.static Bundle.tN "SUPPRESSED_SENTINEL" Bundle.listD)) && decide (w ≠ .laysStatic Bundle.tN "UNASSIGNED_STACK" Bundle.steD) && decide (w ≠ .laysStatic Bundle.tN "SUPPRESSED_SENTINEL" Bundle.listD)
def vx_at0 (own : String) (ic : Nat) (X : String) (names : List String) : List Cond := (Bundle.ownAtoms0 own ic X names).filter vx_no
def vx_atS (own : String) (ic : Nat) (X : String) (names : List String) : List Cond := (Bundle.ownAtoms own ic X names).filter vx_no
/-- a word that the tables alone decide, or a good one -/
def vx_ot (w : Cond) : Bool := w.onTables || goodWord w
theorem vx_ot_at {args a' : Array Value} {s U : State} {w : Cond} (hW : s.WarmedH U.vm) (hvm : s.vm = U.vm) (hg : vx_ot w = true) (h : w.before args s = true) : w.before a' U = true := by
  simp only [vx_ot, Bool.or_eq_true] at hg
  rcases hg with hg | hg
  · exact va_tabs hg hvm h
  · exact word_at hW (good_of_word hg) h
/-- a list's words: the good ones out of the method's own list, the others by premises of their own -/
theorem vx_hat {args : Array Value} {s : State} {L B : List Cond} (h1 : ∀ w ∈ L.filter goodWord, w.before args s = true) (h2 : ∀ w ∈ L.filter (fun w => !goodWord w), w ∈ B) (h3 : ∀ w ∈ B, w.before args s = true) : ∀ w ∈ L, w.before args s = true := by
  intro w hw
  by_cases g : goodWord w = true
  · exact h1 w (List.mem_filter.mpr ⟨hw, g⟩)
  · refine h3 w (h2 w (List.mem_filter.mpr ⟨hw, ?_⟩))
    show (!goodWord w) = true
    cases hgw : goodWord w
    · rfl
    · exact absurd hgw g
theorem vx_c {args : Array Value} {s : State} {w : Cond} {B : List Cond} (h : w.before args s = true) (t : ∀ w ∈ B, w.before args s = true) : ∀ w' ∈ w :: B, w'.before args s = true := fun w' h' => (List.mem_cons.mp h').elim (fun e => by rw [e]; exact h) (t w')
theorem vx_n {args : Array Value} {s : State} : ∀ w ∈ ([] : List Cond), w.before args s = true := fun _ h => nomatch h
theorem vx_own {args : Array Value} {s : State} {L : List Cond} (h1 : ∀ w ∈ L.filter vx_no, w.before args s = true)
    (hU : (Cond.isRef (.static Bundle.tN "UNASSIGNED_STACK" Bundle.steD)).before args s = true) (hN : (Cond.isRef (.static Bundle.tN "SUPPRESSED_SENTINEL" Bundle.listD)).before args s = true)
    (lU : (Cond.laysStatic Bundle.tN "UNASSIGNED_STACK" Bundle.steD).before args s = true) (lN : (Cond.laysStatic Bundle.tN "SUPPRESSED_SENTINEL" Bundle.listD).before args s = true) : ∀ w ∈ L, w.before args s = true := by
  intro w hw
  by_cases e1 : w = .isRef (.static Bundle.tN "UNASSIGNED_STACK" Bundle.steD)
  · rw [e1]; exact hU
  · by_cases e2 : w = .isRef (.static Bundle.tN "SUPPRESSED_SENTINEL" Bundle.listD)
    · rw [e2]; exact hN
    · by_cases e3 : w = .laysStatic Bundle.tN "UNASSIGNED_STACK" Bundle.steD
      · rw [e3]; exact lU
      · by_cases e4 : w = .laysStatic Bundle.tN "SUPPRESSED_SENTINEL" Bundle.listD
        · rw [e4]; exact lN
        · exact h1 w (List.mem_filter.mpr ⟨hw, by unfold vx_no; rw [decide_eq_true e1, decide_eq_true e2, decide_eq_true e3, decide_eq_true e4]; rfl⟩)
/-- where a static field lies, its class's statics cell in H -/
def vx_L (C n d : String) (A : Nat → Prop) (U : State) (H : Heap) : Prop := ∃ (c : ClassId) (k : Class) (i : Nat) (f : Field) (a : Nat) (cell : Cell), U.vm.findClass C = some c ∧ U.fieldFound? C n d = some (c, k, i, f) ∧ f.isStatic = true ∧ k.statics = some a ∧ H[a]? = some cell ∧ cell.vm.isStatics = true ∧ cell.cls = c ∧ f.slot < cell.slots.size ∧ k.staticTypes[f.slot]? = some f.type ∧ ¬ A a
theorem vx_L.moved {C n d : String} {A : Nat → Prop} {u U : State} {H : Heap} (hvm : u.vm.Alike U.vm) (h : vx_L C n d A u H) : vx_L C n d A U H := by
  obtain ⟨c, k, i, f, a, cell, h1, h2, h3, h4, h5, h6, h7, h8, h9, h10⟩ := h
  obtain ⟨k', hi', he⟩ := State.fieldFound?_setVm hvm h2
  exact ⟨c, k', i, f, a, cell, by rw [hvm.findClass]; exact h1, hi', h3, by rw [he]; exact h4, h5, h6, h7, h8, by rw [he]; exact h9, h10⟩
theorem vx_L.kept {C n d : String} {A : Nat → Prop} {U : State} {H H1 : Heap} (h : vx_L C n d A U H) (hq : ∀ a : Nat, a < H.size → ¬ A a → H1[a]? = H[a]?) : vx_L C n d A U H1 := by
  obtain ⟨c, k, i, f, a, cell, h1, h2, h3, h4, h5, h6, h7, h8, h9, h10⟩ := h
  exact ⟨c, k, i, f, a, cell, h1, h2, h3, h4, by rw [hq a (Array.getElem?_eq_some_iff.mp h5).1 h10]; exact h5, h6, h7, h8, h9, h10⟩
theorem vx_L.narrow {C n d : String} {A B : Nat → Prop} {U : State} {H : Heap} (h : vx_L C n d A U H) (hAB : ∀ q, B q → A q) : vx_L C n d B U H := by
  obtain ⟨c, k, i, f, a, cell, h1, h2, h3, h4, h5, h6, h7, h8, h9, h10⟩ := h
  exact ⟨c, k, i, f, a, cell, h1, h2, h3, h4, h5, h6, h7, h8, h9, fun z => h10 (hAB _ z)⟩
theorem vx_L.word {C n d : String} {A : Nat → Prop} {s : State} {args : Array Value} (h : vx_L C n d A s s.heap) : (Cond.laysStatic C n d).before args s = true := by
  obtain ⟨c, k, i, f, a, cell, h1, h2, h3, h4, h5, h6, h7, h8, h9, -⟩ := h
  show (Cond.laysStatic C n d).holds args s none s [] = true
  exact Cond.laysStatic_of h1 h2 h3 h4 h5 h6 h7 h8 h9
/-- .. and what it holds: null or some reference -/
def vx_Zq (C n d : String) (A : Nat → Prop) (U : State) (H : Heap) : Prop := va_Zq C n d A U H ∧ vx_L C n d A U H
theorem vx_Zq.moved {C n d : String} {A : Nat → Prop} {u U : State} {H : Heap} (hvm : u.vm.Alike U.vm) (h : vx_Zq C n d A u H) : vx_Zq C n d A U H := ⟨va_Zq.moved hvm h.1, vx_L.moved hvm h.2⟩
theorem vx_Zq.kept {C n d : String} {A : Nat → Prop} {U : State} {H H1 : Heap} (h : vx_Zq C n d A U H) (hq : ∀ a : Nat, a < H.size → ¬ A a → H1[a]? = H[a]?) : vx_Zq C n d A U H1 := ⟨va_Zq.kept h.1 hq, vx_L.kept h.2 hq⟩
theorem vx_Zq.narrow {C n d : String} {A B : Nat → Prop} {U : State} {H : Heap} (h : vx_Zq C n d A U H) (hAB : ∀ q, B q → A q) : vx_Zq C n d B U H := ⟨va_Zq.narrow h.1 hAB, vx_L.narrow h.2 hAB⟩
theorem vx_Zqof {args : Array Value} {s : State} {C n d : String} {A : Nat → Prop} (hl : (Cond.laysStatic C n d).before args s = true) (hini : (Cond.initialized C).before args s = true) (h : (Cond.isRef (.static C n d)).before args s = true) (hA : ∀ a : Nat, a < s.heap.size → ¬ A a) : vx_Zq C n d A s s.heap := by
  refine ⟨va_Zqof hl hini h hA, ?_⟩
  obtain ⟨c, k, i, f, a, cell, h1, h2, h3, h4, h5, h6, h7, h8, h9⟩ := Cond.laysStatic_spec hl
  exact ⟨c, k, i, f, a, cell, h1, h2, h3, h4, h5, h6, h7, h8, h9, hA a (Array.getElem?_eq_some_iff.mp h5).1⟩
theorem vx_isRef {C n d : String} {v : Value} {A : Nat → Prop} {s : State} {args : Array Value} (h : va_Z C n d v A s s.heap) (hv : v.isRef = true) : (Cond.isRef (.static C n d)).before args s = true := by
  obtain ⟨cf, kf, fi, f, a, cell, h1, h2, h3, h4, h5, h6, h7, -⟩ := h
  have he : (Term.static C n d).eval args s none [] s = some v := by
    simp [Term.eval, State.fieldNamed?, h1, h2, h4, h5, h6, h7]
  simp only [Cond.before, Cond.holds, Cond.value, he]
  cases v <;> simp_all [Value.isRef]
theorem vx_isRefq {C n d : String} {A : Nat → Prop} {s : State} {args : Array Value} (h : va_Zq C n d A s s.heap) : (Cond.isRef (.static C n d)).before args s = true := by
  rcases h with h | ⟨t, h⟩
  · exact vx_isRef h rfl
  · exact vx_isRef h rfl
/-- the same frame, seen from here: as if the method were called anew in this heap -/
theorem vx_rebase {T : State} (X : Stand p l e R s m args below meth c T locs cells slots) {R' : Room} (hf : R'.frames ≤ R.frames) (hl : R'.locals ≤ R.locals) (hc : cells + R'.cells ≤ R.cells) (hs : slots + R'.slots ≤ R.slots) :
    Stand p l e R' ((T.setVm s.vm).setFrames (.invoking m args :: below)) m args below meth c T [] 0 0 := by
  have htop : (T.setVm s.vm).topJava?.isSome := X.here.top
  have hF : ((T.setVm s.vm).setFrames (.invoking m args :: below)).frames = .invoking m args :: below := State.frames_setFrames _ (State.cur_lt_of_top htop)
  obtain ⟨g₀, hg0⟩ := Option.isSome_iff_exists.mp htop
  obtain ⟨r, hr⟩ := State.topJava?_eq_some.mp hg0
  have hl9 : e.platform.stackLimits (T.setVm s.vm).me = e.platform.stackLimits s.me := X.limits
  have hb9 : (T.setVm s.vm).me.stackBytes = s.me.stackBytes := X.bytes
  refine ⟨X.admits, X.cas, X.clock, hF, ?_, X.hears, X.method, X.code, X.here, X.tail, X.warmed, ?_, ?_, ?_⟩
  · have h := X.room
    have hU : ((T.setVm s.vm).setFrames (.invoking m args :: below)).localsInUse = s.localsInUse := by
      rw [State.localsInUse_invoking hF (meth := meth) (c := c) X.method X.code, State.localsInUse_invoking X.frames X.method X.code]
    simp only [State.hasRoom, Bool.and_eq_true, decide_eq_true_eq] at h ⊢
    obtain ⟨⟨⟨⟨h1, h2, h3, h4, h5, h6⟩, h7⟩, h8⟩, h9⟩ := h
    rw [X.frames, List.length_cons] at h2 h3
    have q1 := X.heapSize
    have q2 := X.used
    simp only [hF, hU, List.length_cons, State.stackLimits_setFrames, State.stackBytes_setFrames, hl9, hb9]
    refine ⟨⟨⟨⟨by omega, by omega, by omega, by omega, by omega, h6⟩, ?_⟩, ?_⟩, X.book⟩
    · show T.heap.size + R'.cells ≤ e.platform.maxCells
      omega
    · show T.slotsUsed + R'.slots ≤ e.platform.maxSlots
      omega
  · rw [State.stackLimits_setFrames]; rfl
  · rw [State.stackBytes_setFrames]; rfl
  · refine ⟨?_, Nat.le_refl _, Nat.le_refl _, ?_, ?_, fun a c9 h9 => ⟨c9, h9, rfl, rfl, fun _ _ => rfl⟩⟩
    · obtain ⟨t, ht, -⟩ := State.frames_cons hr
      show T.setVm s.vm = { ((T.setVm s.vm).setFrames (.invoking m args :: below)).setFrames (T.setVm s.vm).frames with heap := T.heap, slotsUsed := T.slotsUsed }
      rw [State.setFrames_setFrames, State.setFrames_self ht]
      rfl
    · show T.slotsUsed = T.slotsUsed + ((T.heap.toList.drop T.heap.size).map (·.slots.size)).sum
      rw [List.drop_eq_nil_of_le (Nat.le_of_eq Array.length_toList)]
      rfl
    · show ((T.heap.toList.drop T.heap.size).map (·.slots.size)).sum ≤ 0
      rw [List.drop_eq_nil_of_le (Nat.le_of_eq Array.length_toList)]
      exact Nat.le_refl _
/-- 'throw new E()': new; dup; invokespecial; athrow -/
theorem vx_throw0 {cc : ByteArray} {pc : Nat} (hexec : p.tables.exec = Jvm.exec) (hb : c.code = cc) (hl : l.stackTraces = false) {own cls : String} {names : List String} {ik ic mc ms : Nat} {A : Nat → Prop}
    (hown : s.vm.findClass own = some m.cls) (hcls : Bundle.fit cls = true) (hnames : ∀ n ∈ names, Bundle.fit n = true)
    (hk : (Cond.classLink own ik cls).before args s = true) (hini : (Cond.initialized cls).before args s = true) (hat : ∀ w ∈ vx_at0 own ic cls names, w.before args s = true)
    (hgood : ∀ w ∈ Cond.classLink own ik cls :: Cond.initialized cls :: vx_at0 own ic cls names, vx_ot w = true)
    (hU : vx_Zq Bundle.tN "UNASSIGNED_STACK" Bundle.steD A s s.heap) (hN : vx_Zq Bundle.tN "SUPPRESSED_SENTINEL" Bundle.listD A s s.heap) (hS : va_S A s.heap H locs) (hsize : ls.size = c.maxLocals)
    (d0 : decode cc pc = .ok (.new ik, 3)) (d3 : decode cc (pc + 3) = .ok (.dup, 1)) (d4 : decode cc (pc + 4) = .ok (.invokespecial ic, 3)) (d7 : decode cc (pc + 7) = .ok (.athrow, 1))
    (hout : ∀ x ∈ c.exceptionTable.toList, covers x (pc + 7) = false)
    (hRframes : names.length + 3 < R.frames) (hRlocals : (rest.map fun v => v.category).sum + (13 * (names.length + 1) + 42) ≤ R.locals) (hRcells : cells + 1 ≤ R.cells) (hRslots : slots + 6 ≤ R.slots) (hlocks : meth.locks = false)
    (hx : ∀ t : State, s.vm.Alike t.vm → H.size ≤ t.heap.size → (∀ q : Nat, q < H.size → t.heap[q]? = H[q]?) → XC cls s t)
    (hf : ∀ z ∈ locs, free z.base) (hc : cells + 1 ≤ mc) (hs : slots + 6 ≤ ms) :
    W p l e R s m args below meth c H locs cells slots (vx_MQ below Qc XC args s mc ms free) (F0 m pc ls rest) := by
  intro T hT X
  have htr : e.platform.stackTraces = false := (show e.platform.stackTraces = l.stackTraces by rw [X.admits.platform]).trans hl
  have Y := vx_rebase X (R' := { frames := R.frames, locals := R.locals, cells := 1, slots := 6 }) (Nat.le_refl _) (Nat.le_refl _) hRcells hRslots
  obtain ⟨s', hA⟩ : ∃ z, z = (T.setVm s.vm).setFrames (.invoking m args :: below) := ⟨_, rfl⟩
  rw [← hA] at Y
  have hvm : s'.vm = s.vm := by rw [hA]; rfl
  have hhp : s'.heap = H := by rw [hA]; exact hT
  have hW0 : s.WarmedH s'.vm := by rw [hvm]; exact State.WarmedH.refl s
  have hat' : ∀ w ∈ vx_at0 own ic cls names, w.before args s' = true := fun w hw => vx_ot_at hW0 hvm.symm (hgood w (List.mem_cons_of_mem _ (List.mem_cons_of_mem _ hw))) (hat w hw)
  have hk' : (Cond.classLink own ik cls).before args s' = true := vx_ot_at hW0 hvm.symm (hgood _ List.mem_cons_self) hk
  have hini' : (Cond.initialized cls).before args s' = true := vx_ot_at hW0 hvm.symm (hgood _ (List.mem_cons_of_mem _ List.mem_cons_self)) hini
  have hU' : vx_Zq Bundle.tN "UNASSIGNED_STACK" Bundle.steD A s' s'.heap := by rw [hhp]; exact vx_Zq.moved hW0.alike (hU.kept hS.2.1)
  have hN' : vx_Zq Bundle.tN "SUPPRESSED_SENTINEL" Bundle.listD A s' s'.heap := by rw [hhp]; exact vx_Zq.moved hW0.alike (hN.kept hS.2.1)
  have h : ∀ w ∈ Bundle.ownAtoms0 own ic cls names, w.before args s' = true := vx_own hat' (vx_isRefq hU'.1) (vx_isRefq hN'.1) hU'.2.word hN'.2.word
  have hown' : s'.vm.findClass own = some m.cls := by rw [hvm]; exact hown
  have hins : (Cond.instantiable cls 6).before args s' = true := h _ (by simp [Bundle.ownAtoms0])
  obtain ⟨vm₁, cX, kX, hfX, hkX, -, -, X₁, st1⟩ := Y.newCold hexec (own := own) (C := cls) (index := ik) (n := 6) hown' hk' hins hini'
    (g := F0 m pc ls rest) rfl (by rw [hb]; exact d0) (Nat.le_refl _) (Nat.le_refl _)
  generalize hT1 : (T.setVm vm₁).pushCell { cls := cX, slots := kX.instanceTypes.map defaultValue, vm := .none } = T1 at X₁ st1
  have hcat : (Value.ref T.heap.size).category = 1 := rfl
  have hcellA : T1.heap[T.heap.size]? = some (freshCell cX kX) := by rw [← hT1]; exact State.heap_pushCell_size _ _
  have d3' : decode c.code (pc + 3) = .ok (.dup, 1) := by rw [hb]; exact d3
  obtain ⟨U, hsteps, hrun, hend, hW, hsame, ce, hce, hO⟩ := X₁.ctorThrow0 hexec htr (own := own) (cls := cls) (names := names) (ic := ic) hown' hcls hnames h (fun x hx => nomatch hx) hfX hkX hcellA (by rw [hhp, hT]; exact Nat.le_refl _)
    (g := { method := m, pc := pc + 4, locals := ls, stack := .ref T.heap.size :: .ref T.heap.size :: rest, locked := none }) rfl hsize rfl rfl (rest := rest) rfl
    (by rw [hb]; exact d4) (by rw [hb]; exact d7) hout hRframes (by simp only [List.map_cons, List.sum_cons, hcat]; omega) hlocks
  obtain ⟨f1, f2⟩ := vx_frame hsame
  rw [hhp] at f1 f2
  have hWs : s.WarmedH U.vm := State.WarmedH.trans hW0 hW
  have hcl : s.vm.findClass cls = some ce.cls := by
    have h9 := hO.cls
    rw [hvm] at h9
    exact h9
  have hall : s.sameButNew ({ U with vm := s.vm } : State) locs mc ms := by
    subst hA
    obtain ⟨e1, e2⟩ := hsame
    rw [State.setFrames_setFrames] at e1
    have h2 : (T.setVm s.vm).sameButNew ({ U with vm := s.vm } : State) [] (0 + 1) (0 + 6) := ⟨e1, e2⟩
    have h3 := X.same.trans h2
    rw [List.append_nil] at h3
    exact h3.mono hc hs
  refine ⟨U, ?_, .threw T.heap.size, hrun, hend, Or.inr ⟨T.heap.size, rfl, cls, ce, locs, hx U hWs.alike f1 (fun q hq => f2 q hq (fun z hz => nomatch hz)), hce, hO.vm, hcl, hWs, hall, hf⟩⟩
  refine st1 _ ?_
  show Steps p.tables e below (T1.setTop { method := m, pc := pc + 3, locals := ls, stack := .ref T.heap.size :: rest, locked := none }) _
  jvm_step X₁.here [X₁.here.top, hexec, d3', Value.category]
  exact hsteps
/-- 'throw new E("text")': new; dup; ldc; invokespecial; athrow -/
theorem vx_throwS {cc : ByteArray} {pc : Nat} (hexec : p.tables.exec = Jvm.exec) (hb : c.code = cc) (hl : l.stackTraces = false) {own cls text : String} {names : List String} {ik is ic mc ms sa : Nat} {A : Nat → Prop}
    (hown : s.vm.findClass own = some m.cls) (hcls : Bundle.fit cls = true) (hnames : ∀ n ∈ names, Bundle.fit n = true)
    (hk : (Cond.classLink own ik cls).before args s = true) (hini : (Cond.initialized cls).before args s = true) (hstr : vk_R own is text sa s) (hat : ∀ w ∈ vx_atS own ic cls names, w.before args s = true)
    (hgood : ∀ w ∈ Cond.classLink own ik cls :: Cond.initialized cls :: vx_atS own ic cls names, vx_ot w = true)
    (hU : vx_Zq Bundle.tN "UNASSIGNED_STACK" Bundle.steD A s s.heap) (hN : vx_Zq Bundle.tN "SUPPRESSED_SENTINEL" Bundle.listD A s s.heap) (hS : va_S A s.heap H locs) (hsize : ls.size = c.maxLocals)
    (d0 : decode cc pc = .ok (.new ik, 3)) (d3 : decode cc (pc + 3) = .ok (.dup, 1)) (d4 : decode cc (pc + 4) = .ok (.ldc is, 2)) (d6 : decode cc (pc + 6) = .ok (.invokespecial ic, 3)) (d9 : decode cc (pc + 9) = .ok (.athrow, 1))
    (hout : ∀ x ∈ c.exceptionTable.toList, covers x (pc + 9) = false)
    (hRframes : names.length + 3 < R.frames) (hRlocals : (rest.map fun v => v.category).sum + (13 * (names.length + 1) + 43) ≤ R.locals) (hRcells : cells + 1 ≤ R.cells) (hRslots : slots + 6 ≤ R.slots) (hlocks : meth.locks = false)
    (hx : ∀ t : State, s.vm.Alike t.vm → H.size ≤ t.heap.size → (∀ q : Nat, q < H.size → t.heap[q]? = H[q]?) → XC cls s t)
    (hf : ∀ z ∈ locs, free z.base) (hc : cells + 1 ≤ mc) (hs : slots + 6 ≤ ms) :
    W p l e R s m args below meth c H locs cells slots (vx_MQ below Qc XC args s mc ms free) (F0 m pc ls rest) := by
  intro T hT X
  have htr : e.platform.stackTraces = false := (show e.platform.stackTraces = l.stackTraces by rw [X.admits.platform]).trans hl
  have Y := vx_rebase X (R' := { frames := R.frames, locals := R.locals, cells := 1, slots := 6 }) (Nat.le_refl _) (Nat.le_refl _) hRcells hRslots
  obtain ⟨s', hA⟩ : ∃ z, z = (T.setVm s.vm).setFrames (.invoking m args :: below) := ⟨_, rfl⟩
  rw [← hA] at Y
  have hvm : s'.vm = s.vm := by rw [hA]; rfl
  have hhp : s'.heap = H := by rw [hA]; exact hT
  have hW0 : s.WarmedH s'.vm := by rw [hvm]; exact State.WarmedH.refl s
  have hat' : ∀ w ∈ vx_atS own ic cls names, w.before args s' = true := fun w hw => vx_ot_at hW0 hvm.symm (hgood w (List.mem_cons_of_mem _ (List.mem_cons_of_mem _ hw))) (hat w hw)
  have hk' : (Cond.classLink own ik cls).before args s' = true := vx_ot_at hW0 hvm.symm (hgood _ List.mem_cons_self) hk
  have hini' : (Cond.initialized cls).before args s' = true := vx_ot_at hW0 hvm.symm (hgood _ (List.mem_cons_of_mem _ List.mem_cons_self)) hini
  have hU' : vx_Zq Bundle.tN "UNASSIGNED_STACK" Bundle.steD A s' s'.heap := by rw [hhp]; exact vx_Zq.moved hW0.alike (hU.kept hS.2.1)
  have hN' : vx_Zq Bundle.tN "SUPPRESSED_SENTINEL" Bundle.listD A s' s'.heap := by rw [hhp]; exact vx_Zq.moved hW0.alike (hN.kept hS.2.1)
  have h : ∀ w ∈ Bundle.ownAtoms own ic cls names, w.before args s' = true := vx_own hat' (vx_isRefq hU'.1) (vx_isRefq hN'.1) hU'.2.word hN'.2.word
  have hown' : s'.vm.findClass own = some m.cls := by rw [hvm]; exact hown
  have hins : (Cond.instantiable cls 6).before args s' = true := h _ (by simp [Bundle.ownAtoms])
  obtain ⟨vm₁, cX, kX, hfX, hkX, -, -, X₁, st1⟩ := Y.newCold hexec (own := own) (C := cls) (index := ik) (n := 6) hown' hk' hins hini'
    (g := F0 m pc ls rest) rfl (by rw [hb]; exact d0) (Nat.le_refl _) (Nat.le_refl _)
  generalize hT1 : (T.setVm vm₁).pushCell { cls := cX, slots := kX.instanceTypes.map defaultValue, vm := .none } = T1 at X₁ st1
  have hcat : (Value.ref T.heap.size).category = 1 := rfl
  have hcellA : T1.heap[T.heap.size]? = some (freshCell cX kX) := by rw [← hT1]; exact State.heap_pushCell_size _ _
  have d3' : decode c.code (pc + 3) = .ok (.dup, 1) := by rw [hb]; exact d3
  have d4' : decode c.code (pc + 4) = .ok (.ldc is, 2) := by rw [hb]; exact d4
  have hstr' : vk_R own is text sa s' := vk_R.warm hW0 hstr
  obtain ⟨U, hsteps, hrun, hend, hW, hsame, ce, hce, hO⟩ := X₁.ctorThrowS hexec htr (own := own) (cls := cls) (names := names) (ic := ic) hown' hcls hnames h (fun x hx => nomatch hx) hfX hkX hcellA (by rw [hhp, hT]; exact Nat.le_refl _) (msg := .ref sa) rfl
    (g := { method := m, pc := pc + 6, locals := ls, stack := .ref sa :: .ref T.heap.size :: .ref T.heap.size :: rest, locked := none }) rfl hsize rfl rfl (rest := rest) rfl
    (by rw [hb]; exact d6) (by rw [hb]; exact d9) hout hRframes (by simp only [List.map_cons, List.sum_cons, hcat]; omega) hlocks
  obtain ⟨f1, f2⟩ := vx_frame hsame
  rw [hhp] at f1 f2
  have hWs : s.WarmedH U.vm := State.WarmedH.trans hW0 hW
  have hcl : s.vm.findClass cls = some ce.cls := by
    have h9 := hO.cls
    rw [hvm] at h9
    exact h9
  have hall : s.sameButNew ({ U with vm := s.vm } : State) locs mc ms := by
    subst hA
    obtain ⟨e1, e2⟩ := hsame
    rw [State.setFrames_setFrames] at e1
    have h2 : (T.setVm s.vm).sameButNew ({ U with vm := s.vm } : State) [] (0 + 1) (0 + 6) := ⟨e1, e2⟩
    have h3 := X.same.trans h2
    rw [List.append_nil] at h3
    exact h3.mono hc hs
  refine ⟨U, ?_, .threw T.heap.size, hrun, hend, Or.inr ⟨T.heap.size, rfl, cls, ce, locs, hx U hWs.alike f1 (fun q hq => f2 q hq (fun z hz => nomatch hz)), hce, hO.vm, hcl, hWs, hall, hf⟩⟩
  refine st1 _ ?_
  show Steps p.tables e below (T1.setTop { method := m, pc := pc + 3, locals := ls, stack := .ref T.heap.size :: rest, locked := none }) _
  jvm_step X₁.here [X₁.here.top, hexec, d3', Value.category]
  exact X₁.ldcString hexec (own := own) (text := text) (index := is) (a := sa) hown' hstr'.1 hstr'.2
    (g := { method := m, pc := pc + 4, locals := ls, stack := .ref T.heap.size :: .ref T.heap.size :: rest, locked := none }) rfl d4' _ hsteps
/-- 'throw new E("text")', the text by a wide index -/
theorem vx_throwSW {cc : ByteArray} {pc : Nat} (hexec : p.tables.exec = Jvm.exec) (hb : c.code = cc) (hl : l.stackTraces = false) {own cls text : String} {names : List String} {ik is ic mc ms sa : Nat} {A : Nat → Prop}
    (hown : s.vm.findClass own = some m.cls) (hcls : Bundle.fit cls = true) (hnames : ∀ n ∈ names, Bundle.fit n = true)
    (hk : (Cond.classLink own ik cls).before args s = true) (hini : (Cond.initialized cls).before args s = true) (hstr : vk_R own is text sa s) (hat : ∀ w ∈ vx_atS own ic cls names, w.before args s = true)
    (hgood : ∀ w ∈ Cond.classLink own ik cls :: Cond.initialized cls :: vx_atS own ic cls names, vx_ot w = true)
    (hU : vx_Zq Bundle.tN "UNASSIGNED_STACK" Bundle.steD A s s.heap) (hN : vx_Zq Bundle.tN "SUPPRESSED_SENTINEL" Bundle.listD A s s.heap) (hS : va_S A s.heap H locs) (hsize : ls.size = c.maxLocals)
    (d0 : decode cc pc = .ok (.new ik, 3)) (d3 : decode cc (pc + 3) = .ok (.dup, 1)) (d4 : decode cc (pc + 4) = .ok (.ldc_w is, 3)) (d7 : decode cc (pc + 7) = .ok (.invokespecial ic, 3)) (d10 : decode cc (pc + 10) = .ok (.athrow, 1))
    (hout : ∀ x ∈ c.exceptionTable.toList, covers x (pc + 10) = false)
    (hRframes : names.length + 3 < R.frames) (hRlocals : (rest.map fun v => v.category).sum + (13 * (names.length + 1) + 43) ≤ R.locals) (hRcells : cells + 1 ≤ R.cells) (hRslots : slots + 6 ≤ R.slots) (hlocks : meth.locks = false)
    (hx : ∀ t : State, s.vm.Alike t.vm → H.size ≤ t.heap.size → (∀ q : Nat, q < H.size → t.heap[q]? = H[q]?) → XC cls s t)
    (hf : ∀ z ∈ locs, free z.base) (hc : cells + 1 ≤ mc) (hs : slots + 6 ≤ ms) :
    W p l e R s m args below meth c H locs cells slots (vx_MQ below Qc XC args s mc ms free) (F0 m pc ls rest) := by
  intro T hT X
  have htr : e.platform.stackTraces = false := (show e.platform.stackTraces = l.stackTraces by rw [X.admits.platform]).trans hl
  have Y := vx_rebase X (R' := { frames := R.frames, locals := R.locals, cells := 1, slots := 6 }) (Nat.le_refl _) (Nat.le_refl _) hRcells hRslots
  obtain ⟨s', hA⟩ : ∃ z, z = (T.setVm s.vm).setFrames (.invoking m args :: below) := ⟨_, rfl⟩
  rw [← hA] at Y
  have hvm : s'.vm = s.vm := by rw [hA]; rfl
  have hhp : s'.heap = H := by rw [hA]; exact hT
  have hW0 : s.WarmedH s'.vm := by rw [hvm]; exact State.WarmedH.refl s
  have hat' : ∀ w ∈ vx_atS own ic cls names, w.before args s' = true := fun w hw => vx_ot_at hW0 hvm.symm (hgood w (List.mem_cons_of_mem _ (List.mem_cons_of_mem _ hw))) (hat w hw)
  have hk' : (Cond.classLink own ik cls).before args s' = true := vx_ot_at hW0 hvm.symm (hgood _ List.mem_cons_self) hk
  have hini' : (Cond.initialized cls).before args s' = true := vx_ot_at hW0 hvm.symm (hgood _ (List.mem_cons_of_mem _ List.mem_cons_self)) hini
  have hU' : vx_Zq Bundle.tN "UNASSIGNED_STACK" Bundle.steD A s' s'.heap := by rw [hhp]; exact vx_Zq.moved hW0.alike (hU.kept hS.2.1)
  have hN' : vx_Zq Bundle.tN "SUPPRESSED_SENTINEL" Bundle.listD A s' s'.heap := by rw [hhp]; exact vx_Zq.moved hW0.alike (hN.kept hS.2.1)
  have h : ∀ w ∈ Bundle.ownAtoms own ic cls names, w.before args s' = true := vx_own hat' (vx_isRefq hU'.1) (vx_isRefq hN'.1) hU'.2.word hN'.2.word
  have hown' : s'.vm.findClass own = some m.cls := by rw [hvm]; exact hown
  have hins : (Cond.instantiable cls 6).before args s' = true := h _ (by simp [Bundle.ownAtoms])
  obtain ⟨vm₁, cX, kX, hfX, hkX, -, -, X₁, st1⟩ := Y.newCold hexec (own := own) (C := cls) (index := ik) (n := 6) hown' hk' hins hini'
    (g := F0 m pc ls rest) rfl (by rw [hb]; exact d0) (Nat.le_refl _) (Nat.le_refl _)
  generalize hT1 : (T.setVm vm₁).pushCell { cls := cX, slots := kX.instanceTypes.map defaultValue, vm := .none } = T1 at X₁ st1
  have hcat : (Value.ref T.heap.size).category = 1 := rfl
  have hcellA : T1.heap[T.heap.size]? = some (freshCell cX kX) := by rw [← hT1]; exact State.heap_pushCell_size _ _
  have d3' : decode c.code (pc + 3) = .ok (.dup, 1) := by rw [hb]; exact d3
  have d4' : decode c.code (pc + 4) = .ok (.ldc_w is, 3) := by rw [hb]; exact d4
  have hstr' : vk_R own is text sa s' := vk_R.warm hW0 hstr
  obtain ⟨U, hsteps, hrun, hend, hW, hsame, ce, hce, hO⟩ := X₁.ctorThrowS hexec htr (own := own) (cls := cls) (names := names) (ic := ic) hown' hcls hnames h (fun x hx => nomatch hx) hfX hkX hcellA (by rw [hhp, hT]; exact Nat.le_refl _) (msg := .ref sa) rfl
    (g := { method := m, pc := pc + 7, locals := ls, stack := .ref sa :: .ref T.heap.size :: .ref T.heap.size :: rest, locked := none }) rfl hsize rfl rfl (rest := rest) rfl
    (by rw [hb]; exact d7) (by rw [hb]; exact d10) hout hRframes (by simp only [List.map_cons, List.sum_cons, hcat]; omega) hlocks
  obtain ⟨f1, f2⟩ := vx_frame hsame
  rw [hhp] at f1 f2
  have hWs : s.WarmedH U.vm := State.WarmedH.trans hW0 hW
  have hcl : s.vm.findClass cls = some ce.cls := by
    have h9 := hO.cls
    rw [hvm] at h9
    exact h9
  have hall : s.sameButNew ({ U with vm := s.vm } : State) locs mc ms := by
    subst hA
    obtain ⟨e1, e2⟩ := hsame
    rw [State.setFrames_setFrames] at e1
    have h2 : (T.setVm s.vm).sameButNew ({ U with vm := s.vm } : State) [] (0 + 1) (0 + 6) := ⟨e1, e2⟩
    have h3 := X.same.trans h2
    rw [List.append_nil] at h3
    exact h3.mono hc hs
  refine ⟨U, ?_, .threw T.heap.size, hrun, hend, Or.inr ⟨T.heap.size, rfl, cls, ce, locs, hx U hWs.alike f1 (fun q hq => f2 q hq (fun z hz => nomatch hz)), hce, hO.vm, hcl, hWs, hall, hf⟩⟩
  refine st1 _ ?_
  show Steps p.tables e below (T1.setTop { method := m, pc := pc + 3, locals := ls, stack := .ref T.heap.size :: rest, locked := none }) _
  jvm_step X₁.here [X₁.here.top, hexec, d3', Value.category]
  exact X₁.ldcStringW hexec (own := own) (text := text) (index := is) (a := sa) hown' hstr'.1 hstr'.2
    (g := { method := m, pc := pc + 4, locals := ls, stack := .ref T.heap.size :: .ref T.heap.size :: rest, locked := none }) rfl d4' _ hsteps
end Ends
section Bodies
variable {l : Launch}
theorem vx_ofW {y : MethodName} {ws ws' : List Cond} {rm : Room} {Pc : Array Value → State → Prop} {Qc : Array Value → State → Outcome → State → Prop} {XC : String → State → State → Prop} {mc ms : Nat} {free : Addr → Prop} {cc : ByteArray} {maxL : Nat} {ret : Option FieldType}
    (hy : plainName y.cls = true) (hw : ws = Cond.code y cc maxL ret :: ws')
    (body : ∀ p e s m args below meth c s₁, BodyLoose p l y (headSpec ws rm) cc maxL ret e s m args below meth c s₁ → c.maxLocals = maxL → (∀ x ∈ c.exceptionTable.toList, False) → Pc args s →
      W p l e (headSpec ws rm).room s m args below meth c s.heap [] 0 0 (vx_MQ below Qc XC args s mc ms free) (entryFrame m args maxL)) : vx_Met l y ws rm Pc Qc XC mc ms free := by
  refine MetFree.of_bodyS (code := cc) (maxLocals := maxL) (ret := ret) hy ?_ ?_
  · intro args s m h hn
    obtain ⟨meth, c, h1, h2, h3, h4, h5, h6, -, -⟩ := Cond.code_spec hn (atoms_spec (ws := ws) h _ (by rw [hw]; exact List.mem_cons_self))
    exact ⟨meth, c, h1, h2, h3, h4, h5, h6⟩
  · intro p e s m args below meth c s₁ B hml hP _
    have hh0 : s₁.heap = s.heap := by rw [B.state]; rfl
    have ht : ∀ x ∈ c.exceptionTable.toList, False := by
      obtain ⟨meth9, c9, h1, h2, -, -, -, -, h7, -⟩ := Cond.code_spec B.named (atoms_spec (ws := ws) B.pre _ (by rw [hw]; exact List.mem_cons_self))
      cases Option.some.inj (h1.symm.trans B.method)
      cases Option.some.inj (h2.symm.trans (Stand.of_body B).code)
      intro x hx
      rw [Array.isEmpty_iff.mp h7] at hx
      cases hx
    obtain ⟨t, a1, o, b1, b2, b3⟩ := body p e s m args below meth c s₁ B hml ht hP s₁ hh0 (Stand.of_body B)
    exact ⟨t, o, a1, b1, b2, b3⟩
/-- the table of a body with handlers -/
theorem vx_table {p : Program} {x y : MethodName} {S : Spec} {cc bytes : ByteArray} {maxL maxL' : Nat} {ret ret' : Option FieldType} {e : Env} {s s₁ : State} {m : MethodId} {args : Array Value} {below : List Frame} {meth : Method} {c : Code} {hh : List (Nat × Nat × Nat × Nat)}
    (B : BodyLoose p l y S cc maxL ret e s m args below meth c s₁) (h : (Cond.codeWith y bytes maxL' ret' hh).before args s = true) : c.exceptionTable.toList = tableOf hh := by
  obtain ⟨m9, meth9, c9, hn9, h1, h2, -, -, h6, -⟩ := Cond.codeWith_spec h
  cases Option.some.inj (hn9.symm.trans B.named)
  cases Option.some.inj (h1.symm.trans B.method)
  cases Option.some.inj (h2.symm.trans (Stand.of_body B).code)
  rw [← h6, table_eq]
end Bodies
end VXA
/-! ===== END ===== -/
/-! ===== BEGIN a static call of a method with an exception table ===== -/
section VXS
variable {p : Program} {l : Launch} {e : Env} {R : Room} {s : State} {m : MethodId} {args : Array Value} {below : List Frame} {meth : Method} {c : Code} {T : State} {H : Heap} {locs : List Loc} {cells slots : Nat}
abbrev vx_CSW (R : Room) (s : State) (args : Array Value) (own : String) (index : Nat) (y : MethodName) (bytes : ByteArray) (maxL : Nat) (ret : Option FieldType) (hh : List (Nat × Nat × Nat × Nat)) (ws : List Cond) (rm : Room) (mc ms n : Nat) : Prop :=
  (rm.cells = mc ∧ rm.slots = ms ∧ rm.frames + 1 ≤ R.frames ∧ 8 + (maxL + 11) + rm.locals ≤ R.locals ∧ (∀ w ∈ ws, ∀ (a' : Array Value) (U : State), s.WarmedH U.vm → w.before a' U = true) ∧ Cond.codeWith y bytes maxL ret hh ∈ ws) ∧
  (Cond.codeWith y bytes maxL ret hh).before args s = true ∧ (Cond.initialized y.cls).before args s = true ∧ (y.cls ≠ "java/lang/invoke/MethodHandle" ∧ y.cls ≠ "java/lang/invoke/VarHandle") ∧
  (∀ sig, parseMethodDescriptor y.desc = some sig → n = sig.parameters.length) ∧ (Cond.methodLink own index y).before args s = true ∧ (Cond.static y).before args s = true
theorem vx_cwSW {own : String} {index maxL mc ms : Nat} {y : MethodName} {bytes : ByteArray} {ret : Option FieldType} {hh : List (Nat × Nat × Nat × Nat)} {Ts ws ws' : List Cond} {rm : Room} (n : Nat) (ht : ∀ w ∈ Ts, w.before args s = true) (hT : GoodIn Ts (va_wsS own index y ws)) (hw : ws = Cond.codeWith y bytes maxL ret hh :: ws') (hrc : rm.cells = mc) (hrs : rm.slots = ms)
    (hd : y.cls ≠ "java/lang/invoke/MethodHandle" ∧ y.cls ≠ "java/lang/invoke/VarHandle" ∧ (parseMethodDescriptor y.desc).map (fun d => d.parameters.length) = some n) (hR : rm.frames + 1 ≤ R.frames ∧ 8 + (maxL + 11) + rm.locals ≤ R.locals) :
    vx_CSW R s args own index y bytes maxL ret hh ws rm mc ms n := by
  have ok : ∀ w ∈ va_wsS own index y ws, w.before args s = true := fun w h => ht w (hT w h).1
  have hG : GoodIn Ts ws := fun w h => hT w (by unfold va_wsS; exact List.mem_append_right _ h)
  have hc : Cond.codeWith y bytes maxL ret hh ∈ ws := by rw [hw]; exact List.mem_cons_self
  refine ⟨⟨hrc, hrs, hR.1, hR.2, pay_in ht hG, hc⟩, ht _ (hG _ hc).1, ok _ (by simp [va_wsS]), ⟨hd.1, hd.2.1⟩, fun sig h => ?_, ok _ (by simp [va_wsS]), ok _ (by simp [va_wsS])⟩
  have h2 := hd.2.2
  rw [h] at h2
  exact (Option.some.inj h2).symm
theorem vx_callSW (X : Stand p l e R s m args below meth c T locs cells slots) (hexec : p.tables.exec = Jvm.exec) {own : String} {index : Nat} {y : MethodName} {bytes : ByteArray} {maxL : Nat} {ret : Option FieldType} {hh : List (Nat × Nat × Nat × Nat)}
    (hown : s.vm.findClass own = some m.cls) (hlink : (Cond.methodLink own index y).before args s = true) (hstat : (Cond.static y).before args s = true) (hinit : (Cond.initialized y.cls).before args s = true)
    (hcode : (Cond.codeWith y bytes maxL ret hh).before args s = true) (hy : y.cls ≠ "java/lang/invoke/MethodHandle" ∧ y.cls ≠ "java/lang/invoke/VarHandle")
    {W9 : Nat} {Pre : Pt → Array Value → Prop} {Post : Pt → Array Value → Option Value → Pt → Prop} (hK : Back l R p e below s args y 3 W9 Pre Post)
    {g : JFrame} (hg : g.method = m) (hsize : g.locals.size = c.maxLocals) {argsL rest : List Value} (hlen : ∀ sig, parseMethodDescriptor y.desc = some sig → argsL.length = sig.parameters.length)
    (hstack : g.stack = argsL.reverse ++ rest) (hW : 2 * g.monitorRoom + (rest.map fun v => v.category).sum ≤ W9) (hdg : decode c.code g.pc = .ok (.invokestatic index, 3))
    (hpre : ∀ vm₁, s.WarmedH vm₁ → Pre ⟨T.setVm vm₁, locs, cells, slots⟩ argsL.toArray) :
    ∃ (v : Option Value) (vm₁ : Vm) (B : Pt), s.WarmedH vm₁ ∧ Stand p l e R s m args below meth c B.U B.locs B.cells B.slots ∧ Post ⟨T.setVm vm₁, locs, cells, slots⟩ argsL.toArray v B ∧
      ∀ target, Steps p.tables e below (B.U.setTop { g with pc := g.pc + 3, stack := v.toList ++ rest }) target → Steps p.tables e below (T.setTop g) target := by
  obtain ⟨mk, methM, cM, hnamed, hmethM, -, -, -, -, -, -, hsigM⟩ := Cond.codeWith_spec hcode
  have hstatic : methM.isStatic = true := Cond.static_spec hnamed hmethM hstat
  obtain ⟨kP, hkP, -⟩ := className_of_methodNamed hnamed
  have hinitP : kP.init = .initialized := Cond.initialized_spec (findClass_of_methodNamed hnamed) hkP hinit
  obtain ⟨vm₁, X₁, hstep₁⟩ := X.invokestatic hexec hown hlink hnamed hmethM hstatic hkP hinitP hy (g := g) hg (argsL := argsL) (rest := rest) (hlen _ hsigM) hstack hdg
  obtain ⟨v, B, X', hpost, hsteps⟩ := hK m meth c ⟨T.setVm vm₁, locs, cells, slots⟩ { g with stack := rest } (.invokestatic index) mk argsL.toArray X₁ hg hsize hdg hW (X₁.named hnamed) (hpre vm₁ X₁.warmed)
  exact ⟨v, vm₁, B, X₁.warmed, X', hpost, fun target h => hstep₁ _ fun acts => by rw [doInvoke_state]; exact hsteps.trans h⟩
theorem vx_runSW {y : MethodName} {bytes cc : ByteArray} {maxL nL mc ms n index : Nat} {ret : Option FieldType} {hh : List (Nat × Nat × Nat × Nat)} {ws : List Cond} {rm : Room} {Pc : Array Value → State → Prop} {Qc : Array Value → State → Outcome → State → Prop} {free : Addr → Prop} {Ts : List Cond} {own : String} {As rest : List Value} {g : JFrame}
    (S : CallFix p m c cc nL s args Ts own) (hM : Met l y ws rm Pc Qc mc ms free) (cw : vx_CSW R s args own index y bytes maxL ret hh ws rm mc ms n) (hp : PreS s H Pc As)
    (hg : g.method = m) (hn : As.length = n) (hsize : g.locals.size = nL) (hstack : g.stack = As.reverse ++ rest) (hW : 2 * g.monitorRoom + (rest.map fun v => v.category).sum ≤ 8) (hdg : decode cc g.pc = .ok (.invokestatic index, 3)) (hf : cells + mc ≤ R.cells ∧ slots + ms ≤ R.slots) :
    va_Run p l e R s m args below meth c H locs cells slots mc ms g rest (Qc As.toArray) (free) := by
  obtain ⟨⟨hrc, hrs, hfr, hlo, hws, hcw⟩, hcode, hini, hy, hlen, hl, hstt⟩ := cw
  have hK : Back l R p e below s args y 3 8 (PreOf R mc ms Pc) (PostOf Qc mc ms free) := va_backW (hh := hh) (bytes := bytes) (maxL := maxL) (ret := ret) hM hp.1 hrc hrs hfr hlo hws hcw (fun a' U hW => word_at hW (Or.inl (by first | rfl | simp [Cond.onTables, Cond.keeps, Cond.steady])) hini)
  obtain ⟨hx, hb, hml, ho, -⟩ := S
  intro T hT X
  obtain ⟨v, vm₁, ⟨U', l2, c2, s2⟩, hW₁, X', ⟨g', mk, t, L, e1, e2, hq, h1, hL, h2, h3⟩, st⟩ := vx_callSW X hx (hh := hh) (bytes := bytes) (maxL := maxL) (ret := ret) ho hl hstt hini hcode hy hK hg (hsize.trans hml.symm) (argsL := As) (rest := rest) (fun sig h => hn.trans (hlen sig h)) hstack hW (by rw [hb]; exact hdg)
    (fun vm₁ hW₁ => ⟨hf.1, hf.2, hp.2 (T.setVm vm₁) hT hW₁⟩)
  dsimp only [Pt.U, Pt.locs, Pt.cells, Pt.slots] at X' e1 e2 h1 h2 h3 st
  subst h1; subst h2; subst h3
  exact ⟨v, (T.setVm vm₁).calling g' mk As.toArray, t, U', L, hT, X', hL, e1, e2, hq, st⟩
/-- not caught here, past rows that name other classes: it goes on to the caller -/
theorem vx_outP {p : Program} {l : Launch} {e : Env} {R : Room} {s : State} {m : MethodId} {args : Array Value} {below : List Frame} {meth : Method} {c : Code} {H : Heap} {locs : List Loc} {cells slots : Nat} {free : Addr → Prop} {ls : Array Slot} {rest : List Value} {Qc : Array Value → State → Outcome → State → Prop} {XC : String → State → State → Prop}
    {pc : Nat} {own E : String} {ce : Cell} {q : Addr} {mc ms : Nat} (hown : s.vm.findClass own = some m.cls) (hlocks : meth.locks = false)
    (hpass : ∀ z ∈ c.exceptionTable.toList, covers z pc = false ∨ (z.catchType ≠ 0 ∧ ∃ nm : String, (Cond.classLink own z.catchType nm).before args s = true ∧ va_Nc E nm s)) (hcell : H[q]? = some ce) (hv : ce.vm = .none) (hcl : s.vm.findClass E = some ce.cls)
    (hx : ∀ t : State, t.heap = H → s.vm.Alike t.vm → XC E s t) (hf : ∀ z ∈ locs, free z.base) (hc : cells ≤ mc) (hs : slots ≤ ms) :
    vx_W p l e R s m args below meth c H locs cells slots (vx_MQ below Qc XC args s mc ms free) (F0 m pc ls rest) q := by
  intro T hT X
  have hpl : e.platform.magicAccessors = ({} : Platform).magicAccessors := by rw [X.admits.platform]
  obtain ⟨vm', hW', X', st⟩ := X.outThrough hlocks q (g := F0 m pc ls rest) rfl rfl rfl (cell := ce) (by rw [hT]; exact hcell) (by rw [hv]; rfl)
    (by obtain ⟨k9, h9, -⟩ := Vm.findClass_spec hcl; exact ⟨k9, h9⟩) (fun z hz => by
      rcases hpass z hz with h | ⟨hz0, nm, hl1, hn1⟩
      · exact Or.inl h
      · obtain ⟨c6, hc6, hcl6⟩ := Cond.classLink_spec hown hl1 e.platform hpl
        obtain ⟨a8, b8, h1, h2, h3⟩ := hn1
        cases Option.some.inj (h1.symm.trans hcl)
        cases Option.some.inj (h2.symm.trans hc6)
        exact Or.inr ⟨hz0, _, hcl6, h3⟩)
  obtain ⟨g₀, hfr⟩ := X'.frames_eq
  have hcell9 : ((T.setVm vm').setFrames (.throwing q :: below)).heap[q]? = some ce := by
    show T.heap[q]? = some ce
    rw [hT]; exact hcell
  have hend : Ended ((T.setVm vm').setFrames (.throwing q :: below)) below (.threw q) := State.frames_setFrames _ (State.cur_lt_of_frames hfr)
  refine ⟨(T.setVm vm').setFrames (.throwing q :: below), ?_, .threw q, X'.here.running, hend, Or.inr ⟨q, rfl, E, ce, locs, hx _ hT (X'.ends _).1.alike, hcell9, hv, hcl, (X'.ends _).1, (X'.ends _).2.mono hc hs, hf⟩⟩
  rw [X.pushThrowing_eq]
  exact st
/-- a thing of a world lies in the heap -/
theorem vx_lt {D : va_G} {cl : List vw_C} {ws : va_W} {H1 : Heap} (h : va_P D cl ws H1) {k : Nat} {q : Nat × va_E} (hk : ws[k]? = some q) : q.1 < H1.size := (h k q hk).lt
end VXS
/-! ===== END ===== -/
/-! ===== BEGIN methods with a table of their own: called by a name, returning or throwing ===== -/
section VXH
/-! vx_backW, vx_callVX, vx_callSX, vx_callVW, vx_runVW, vx_runVX, vx_runSX, vx_ofWH follow the same proofs as their sisters above (Free/Laws.lean, Shelf42/LK1.lean); vx_outP calls Shelf42/NT130.lean (outThrough). -/
section
variable {l : Launch} {R : Room} {p : Program} {e : Env} {below : List Frame} {s : State} {sargs : Array Value} {y : MethodName} {len W9 : Nat}
theorem vx_backW {ws : List Cond} {rm : Room} {Pc : Array Value → State → Prop} {Qc : Array Value → State → Outcome → State → Prop} {XC : String → State → State → Prop} {mc ms : Nat} {free : Addr → Prop} {bytes : ByteArray} {maxL : Nat} {ret : Option FieldType} {hh : List (Nat × Nat × Nat × Nat)}
    (hM : vx_Met l y ws rm Pc Qc XC mc ms free) (hblind : FrameBlind Pc) (hrc : rm.cells = mc) (hrs : rm.slots = ms)
    (hframes : rm.frames + 1 ≤ R.frames) (hlocals : W9 + (maxL + 11) + rm.locals ≤ R.locals)
    (hws : ∀ w ∈ ws, ∀ a' U, s.WarmedH U.vm → w.before a' U = true) (hcode : Cond.codeWith y bytes maxL ret hh ∈ ws) (hinit : ∀ a' U, s.WarmedH U.vm → (Cond.initialized y.cls).before a' U = true) :
    vx_Back l R p e below s sargs y len W9 (PreOf R mc ms Pc) (PostOf Qc mc ms free) (vx_Post XC mc ms free) := by
  intro m meth c A g ig mk a X hg hsize hdg hW hn hp
  have h1 : (headSpec ws rm).pre.before a A.U = true := atoms_intro fun w hw => hws w hw _ _ X.warmed
  have h2 : (Cond.codeWith y bytes maxL ret hh).before a A.U = true := hws _ hcode _ _ X.warmed
  have h3 : (Cond.initialized y.cls).before a A.U = true := hinit _ _ X.warmed
  have h4 : A.cells + (headSpec ws rm).room.cells ≤ R.cells := by rw [show (headSpec ws rm).room.cells = mc from hrc]; exact hp.1
  have h5 : A.slots + (headSpec ws rm).room.slots ≤ R.slots := by rw [show (headSpec ws rm).room.slots = ms from hrs]; exact hp.2.1
  have hPc : Pc a (A.U.calling g mk a) := hblind _ _ _ _ hp.2.2
  obtain ⟨U, Ls, c0, s0⟩ := A
  dsimp only [Pt.U, Pt.locs, Pt.cells, Pt.slots] at h1 h2 h3 h4 h5 X hn hPc ⊢
  obtain ⟨m9, methY, cY, hn9, hmY, hcY, -, hlY, -⟩ := Cond.codeWith_spec h2
  cases Option.some.inj (hn9.symm.trans hn)
  obtain ⟨kY, hkY, -⟩ := className_of_methodNamed hn
  have hinitY : kY.init = .initialized := Cond.initialized_spec (findClass_of_methodNamed hn) hkY h3
  have h : At U g.method c below := by rw [hg]; exact X.here
  have hlocals9 : W9 + (maxL + 11) + (headSpec ws rm).room.locals ≤ R.locals := hlocals
  have happ : (headSpec ws rm).appliesLoose y e.platform (U.calling g mk a) = true :=
    Spec.appliesLoose_calling (g := g) h hdg hn hkY hinitY
      (X.room_calling (g := g) (R' := (headSpec ws rm).room) hsize hmY hcY hframes (by rw [hlY]; omega) h4 h5) h1
  obtain ⟨mid, hmid⟩ := h.above
  have hfr : (U.setTop g).frames = (.java g :: mid) ++ below := by rw [State.frames_setTop' g h.top, hmid]; rfl
  obtain ⟨o, s₂, hsteps, -, hend, hq⟩ := Steps.callFree hM p X.admits X.cas X.clock (acts := []) hfr happ hPc trivial
  have hq' : vx_Q Qc XC mc ms free a (U.calling g mk a) o s₂ := hq
  rw [State.frames_setTop' g h.top] at hend
  obtain ⟨g₀, hg0⟩ := Option.isSome_iff_exists.mp h.top
  obtain ⟨r, hr⟩ := State.topJava?_eq_some.mp hg0
  have hr' : (({ U with heap := s₂.heap, slotsUsed := s₂.slotsUsed } : State).setVm s₂.vm).frames = .java g₀ :: r := hr
  rcases hq' with ⟨hqc, L, hfe, hL⟩ | ⟨q, rfl, E, ce, L, hx, hce, hcv, hcl, hW₂, hsm, hL⟩
  · obtain ⟨⟨v, rfl⟩, hW₂, e2, q2, q3, q4, q5, q6⟩ := id hfe
    have e3 : s₂ = ({ (U.calling g mk a).setFrames s₂.frames with heap := s₂.heap, slotsUsed := s₂.slotsUsed } : State).setVm s₂.vm := by
      have : s₂ = ({ s₂ with vm := (U.calling g mk a).vm } : State).setVm s₂.vm := rfl
      rw [e2] at this
      exact this
    obtain ⟨c₂, i₂, len₂, hc₂, hd₂, hf₂⟩ := hend
    have hW' : U.WarmedH s₂.vm := hW₂
    have hcc : c₂ = c := by
      have h1 : s₂.code? g.method = U.code? g.method := by
        rw [State.code?_eq, State.code?_eq, hW'.alike.method?]
      exact Option.some.inj (hc₂.symm.trans (h1.trans h.code))
    subst hcc
    have hlen : len₂ = len := by rw [hdg] at hd₂; cases hd₂; rfl
    subst hlen
    have hs₂ : s₂ = (({ U with heap := s₂.heap, slotsUsed := s₂.slotsUsed } : State).setVm s₂.vm).setTop { g with pc := g.pc + len₂, stack := v.toList ++ g.stack } := by
      refine e3.trans ?_
      rw [hf₂, State.calling_eq h.top, State.setFrames_setFrames, State.setTop_of_frames _ hr', hr]
      rfl
    have hsame : U.sameButNew ({ U with heap := s₂.heap, slotsUsed := s₂.slotsUsed } : State) L mc ms := by
      refine ⟨?_, q2, q3, q4, q5, q6⟩
      obtain ⟨t, ht, -⟩ := State.frames_cons hr
      show ({ U with heap := s₂.heap, slotsUsed := s₂.slotsUsed } : State) = { U.setFrames U.frames with heap := s₂.heap, slotsUsed := s₂.slotsUsed }
      rw [State.setFrames_self ht]
    subst hg
    refine Or.inl ⟨v, ⟨(({ U with heap := s₂.heap, slotsUsed := s₂.slotsUsed } : State).setVm s₂.vm), Ls ++ L, c0 + mc, s0 + ms⟩,
      ⟨X.admits, X.cas, X.clock, X.frames, X.room, X.hears, X.method, X.code, (X.here.setHeapUsed s₂.heap s₂.slotsUsed).setVm hW'.alike, X.tail, State.WarmedH.trans X.warmed hW', X.limits, X.bytes, X.same.trans (hsame.setVm s.vm)⟩,
      ⟨g, mk, s₂, L, rfl, rfl, hqc, rfl, hL, rfl, rfl⟩, ?_⟩
    show Steps p.tables e below _ ((({ U with heap := s₂.heap, slotsUsed := s₂.slotsUsed } : State).setVm s₂.vm).setTop { g with pc := g.pc + len₂, stack := v.toList ++ g.stack })
    rw [← hs₂]
    exact hsteps
  · obtain ⟨e2, q2, q3, q4, q5, q6⟩ := id hsm
    have e3 : s₂ = ({ (U.calling g mk a).setFrames s₂.frames with heap := s₂.heap, slotsUsed := s₂.slotsUsed } : State).setVm s₂.vm := by
      have : s₂ = ({ s₂ with vm := (U.calling g mk a).vm } : State).setVm s₂.vm := rfl
      rw [e2] at this
      exact this
    have hf₂ : s₂.frames = .throwing q :: .java g :: U.frames.tail := hend
    have hW' : U.WarmedH s₂.vm := hW₂
    have hs₂ : s₂ = ((({ U with heap := s₂.heap, slotsUsed := s₂.slotsUsed } : State).setVm s₂.vm).setTop g).pushFrame (.throwing q) := by
      refine e3.trans ?_
      rw [hf₂, State.calling_eq h.top, State.setFrames_setFrames, State.pushFrame, State.frames_setTop _ hr', State.setTop_of_frames _ hr', State.setFrames_setFrames, hr]
      rfl
    have hsame : U.sameButNew ({ U with heap := s₂.heap, slotsUsed := s₂.slotsUsed } : State) L mc ms := by
      refine ⟨?_, q2, q3, q4, q5, q6⟩
      obtain ⟨t, ht, -⟩ := State.frames_cons hr
      show ({ U with heap := s₂.heap, slotsUsed := s₂.slotsUsed } : State) = { U.setFrames U.frames with heap := s₂.heap, slotsUsed := s₂.slotsUsed }
      rw [State.setFrames_self ht]
    subst hg
    refine Or.inr ⟨q, ⟨(({ U with heap := s₂.heap, slotsUsed := s₂.slotsUsed } : State).setVm s₂.vm), Ls ++ L, c0 + mc, s0 + ms⟩,
      ⟨X.admits, X.cas, X.clock, X.frames, X.room, X.hears, X.method, X.code, (X.here.setHeapUsed s₂.heap s₂.slotsUsed).setVm hW'.alike, X.tail, State.WarmedH.trans X.warmed hW', X.limits, X.bytes, X.same.trans (hsame.setVm s.vm)⟩,
      ⟨g, mk, s₂, L, E, ce, rfl, rfl, hx, hce, hcv, hcl, rfl, hL, rfl, rfl⟩, ?_⟩
    show Steps p.tables e below _ (((({ U with heap := s₂.heap, slotsUsed := s₂.slotsUsed } : State).setVm s₂.vm).setTop g).pushFrame (.throwing q))
    rw [← hs₂]
    exact hsteps
end
variable {p : Program} {l : Launch} {e : Env} {R : Room} {s : State} {m : MethodId} {args : Array Value} {below : List Frame} {meth : Method} {c : Code} {T : State} {H : Heap} {locs : List Loc} {cells slots : Nat}
theorem vx_callVX (X : Stand p l e R s m args below meth c T locs cells slots) (hexec : p.tables.exec = Jvm.exec) {own C : String} {index : Nat} {y : MethodName} {bytes : ByteArray} {maxL : Nat} {ret : Option FieldType} {hh : List (Nat × Nat × Nat × Nat)}
    (hown : s.vm.findClass own = some m.cls) (hlink : (Cond.methodLink own index y).before args s = true) (hinst : (Cond.instanceMethod y).before args s = true) (hsel : (Cond.selects C y y).before args s = true)
    (hcode : (Cond.codeWith y bytes maxL ret hh).before args s = true) (hy : y.cls ≠ "java/lang/invoke/MethodHandle" ∧ y.cls ≠ "java/lang/invoke/VarHandle")
    {W9 : Nat} {Pre : Pt → Array Value → Prop} {Post : Pt → Array Value → Option Value → Pt → Prop} {PostX : Pt → Array Value → Addr → Pt → Prop} (hK : vx_Back l R p e below s args y 3 W9 Pre Post PostX)
    {b : Addr} {cellB : Cell} (hcell : T.heap[b]? = some cellB) (hobj : cellB.vm.isStatics = false) (hcls : s.vm.findClass C = some cellB.cls)
    {g : JFrame} (hg : g.method = m) (hsize : g.locals.size = c.maxLocals) {argsL rest : List Value} (hlen : ∀ sig, parseMethodDescriptor y.desc = some sig → argsL.length = sig.parameters.length)
    (hstack : g.stack = argsL.reverse ++ .ref b :: rest) (hW : 2 * g.monitorRoom + (rest.map fun v => v.category).sum ≤ W9) (hdg : decode c.code g.pc = .ok (.invokevirtual index, 3))
    (hpre : ∀ vm₁, s.WarmedH vm₁ → Pre ⟨T.setVm vm₁, locs, cells, slots⟩ (Value.ref b :: argsL).toArray) :
    (∃ (v : Option Value) (vm₁ : Vm) (B : Pt), s.WarmedH vm₁ ∧ Stand p l e R s m args below meth c B.U B.locs B.cells B.slots ∧ Post ⟨T.setVm vm₁, locs, cells, slots⟩ (Value.ref b :: argsL).toArray v B ∧
      ∀ target, Steps p.tables e below (B.U.setTop { g with pc := g.pc + 3, stack := v.toList ++ rest }) target → Steps p.tables e below (T.setTop g) target) ∨
    (∃ (q : Addr) (vm₁ : Vm) (B : Pt), s.WarmedH vm₁ ∧ Stand p l e R s m args below meth c B.U B.locs B.cells B.slots ∧ PostX ⟨T.setVm vm₁, locs, cells, slots⟩ (Value.ref b :: argsL).toArray q B ∧
      Steps p.tables e below (T.setTop g) ((B.U.setTop { g with stack := rest }).pushFrame (.throwing q))) := by
  obtain ⟨mk, methM, hnamed, hmethM, hstM, habM⟩ := Cond.instanceMethod_spec hinst
  obtain ⟨m8, methM', cM, hn8, hmethM', -, -, -, -, -, -, hsigM⟩ := Cond.codeWith_spec hcode
  cases Option.some.inj (hn8.symm.trans hnamed)
  cases hmethM.symm.trans hmethM'
  obtain ⟨c2, r2, m2, q1, q2, q3, q4, kP, hkP, hkPi⟩ := Cond.selects_spec hsel
  cases hcls.symm.trans q1
  cases (State.methodFound?_of_named hnamed hy).symm.trans q2
  cases hnamed.symm.trans q3
  have hselP : selectMethod e.platform s.vm cellB.cls mk = .method mk := by rw [Launch.admits_selectMethod X.admits]; exact q4
  obtain ⟨vm₁, X₁, hstep₁⟩ := X.invokevirtual hexec hown hlink hnamed hmethM hstM hkP hkPi hy (a := b) (cell := cellB) hcell
    (fun z h => by rw [h] at hobj; cases hobj) hselP hmethM habM hkP hkPi (g := g) hg (argsL := argsL) (rest := rest) (hlen _ hsigM) hstack hdg
  rcases hK m meth c ⟨T.setVm vm₁, locs, cells, slots⟩ { g with stack := rest } (.invokevirtual index) mk (Value.ref b :: argsL).toArray X₁ hg hsize hdg hW (X₁.named hnamed) (hpre vm₁ X₁.warmed) with ⟨v, B, X', hpost, hsteps⟩ | ⟨q, B, X', hpost, hsteps⟩
  · exact Or.inl ⟨v, vm₁, B, X₁.warmed, X', hpost, fun target h => hstep₁ _ fun acts => by rw [doInvoke_state]; exact hsteps.trans h⟩
  · exact Or.inr ⟨q, vm₁, B, X₁.warmed, X', hpost, hstep₁ _ fun acts => by rw [doInvoke_state]; exact hsteps⟩
theorem vx_callSX (X : Stand p l e R s m args below meth c T locs cells slots) (hexec : p.tables.exec = Jvm.exec) {own : String} {index : Nat} {y : MethodName} {bytes : ByteArray} {maxL : Nat} {ret : Option FieldType} {hh : List (Nat × Nat × Nat × Nat)}
    (hown : s.vm.findClass own = some m.cls) (hlink : (Cond.methodLink own index y).before args s = true) (hstat : (Cond.static y).before args s = true) (hinit : (Cond.initialized y.cls).before args s = true)
    (hcode : (Cond.codeWith y bytes maxL ret hh).before args s = true) (hy : y.cls ≠ "java/lang/invoke/MethodHandle" ∧ y.cls ≠ "java/lang/invoke/VarHandle")
    {W9 : Nat} {Pre : Pt → Array Value → Prop} {Post : Pt → Array Value → Option Value → Pt → Prop} {PostX : Pt → Array Value → Addr → Pt → Prop} (hK : vx_Back l R p e below s args y 3 W9 Pre Post PostX)
    {g : JFrame} (hg : g.method = m) (hsize : g.locals.size = c.maxLocals) {argsL rest : List Value} (hlen : ∀ sig, parseMethodDescriptor y.desc = some sig → argsL.length = sig.parameters.length)
    (hstack : g.stack = argsL.reverse ++ rest) (hW : 2 * g.monitorRoom + (rest.map fun v => v.category).sum ≤ W9) (hdg : decode c.code g.pc = .ok (.invokestatic index, 3))
    (hpre : ∀ vm₁, s.WarmedH vm₁ → Pre ⟨T.setVm vm₁, locs, cells, slots⟩ argsL.toArray) :
    (∃ (v : Option Value) (vm₁ : Vm) (B : Pt), s.WarmedH vm₁ ∧ Stand p l e R s m args below meth c B.U B.locs B.cells B.slots ∧ Post ⟨T.setVm vm₁, locs, cells, slots⟩ argsL.toArray v B ∧
      ∀ target, Steps p.tables e below (B.U.setTop { g with pc := g.pc + 3, stack := v.toList ++ rest }) target → Steps p.tables e below (T.setTop g) target) ∨
    (∃ (q : Addr) (vm₁ : Vm) (B : Pt), s.WarmedH vm₁ ∧ Stand p l e R s m args below meth c B.U B.locs B.cells B.slots ∧ PostX ⟨T.setVm vm₁, locs, cells, slots⟩ argsL.toArray q B ∧
      Steps p.tables e below (T.setTop g) ((B.U.setTop { g with stack := rest }).pushFrame (.throwing q))) := by
  obtain ⟨mk, methM, cM, hnamed, hmethM, -, -, -, -, -, -, hsigM⟩ := Cond.codeWith_spec hcode
  have hstatic : methM.isStatic = true := Cond.static_spec hnamed hmethM hstat
  obtain ⟨kP, hkP, -⟩ := className_of_methodNamed hnamed
  have hinitP : kP.init = .initialized := Cond.initialized_spec (findClass_of_methodNamed hnamed) hkP hinit
  obtain ⟨vm₁, X₁, hstep₁⟩ := X.invokestatic hexec hown hlink hnamed hmethM hstatic hkP hinitP hy (g := g) hg (argsL := argsL) (rest := rest) (hlen _ hsigM) hstack hdg
  rcases hK m meth c ⟨T.setVm vm₁, locs, cells, slots⟩ { g with stack := rest } (.invokestatic index) mk argsL.toArray X₁ hg hsize hdg hW (X₁.named hnamed) (hpre vm₁ X₁.warmed) with ⟨v, B, X', hpost, hsteps⟩ | ⟨q, B, X', hpost, hsteps⟩
  · exact Or.inl ⟨v, vm₁, B, X₁.warmed, X', hpost, fun target h => hstep₁ _ fun acts => by rw [doInvoke_state]; exact hsteps.trans h⟩
  · exact Or.inr ⟨q, vm₁, B, X₁.warmed, X', hpost, hstep₁ _ fun acts => by rw [doInvoke_state]; exact hsteps⟩
theorem vx_callVW (X : Stand p l e R s m args below meth c T locs cells slots) (hexec : p.tables.exec = Jvm.exec) {own C : String} {index : Nat} {y : MethodName} {bytes : ByteArray} {maxL : Nat} {ret : Option FieldType} {hh : List (Nat × Nat × Nat × Nat)}
    (hown : s.vm.findClass own = some m.cls) (hlink : (Cond.methodLink own index y).before args s = true) (hinst : (Cond.instanceMethod y).before args s = true) (hsel : (Cond.selects C y y).before args s = true)
    (hcode : (Cond.codeWith y bytes maxL ret hh).before args s = true) (hy : y.cls ≠ "java/lang/invoke/MethodHandle" ∧ y.cls ≠ "java/lang/invoke/VarHandle")
    {W9 : Nat} {Pre : Pt → Array Value → Prop} {Post : Pt → Array Value → Option Value → Pt → Prop} (hK : Back l R p e below s args y 3 W9 Pre Post)
    {b : Addr} {cellB : Cell} (hcell : T.heap[b]? = some cellB) (hobj : cellB.vm.isStatics = false) (hcls : s.vm.findClass C = some cellB.cls)
    {g : JFrame} (hg : g.method = m) (hsize : g.locals.size = c.maxLocals) {argsL rest : List Value} (hlen : ∀ sig, parseMethodDescriptor y.desc = some sig → argsL.length = sig.parameters.length)
    (hstack : g.stack = argsL.reverse ++ .ref b :: rest) (hW : 2 * g.monitorRoom + (rest.map fun v => v.category).sum ≤ W9) (hdg : decode c.code g.pc = .ok (.invokevirtual index, 3))
    (hpre : ∀ vm₁, s.WarmedH vm₁ → Pre ⟨T.setVm vm₁, locs, cells, slots⟩ (Value.ref b :: argsL).toArray) :
    ∃ (v : Option Value) (vm₁ : Vm) (B : Pt), s.WarmedH vm₁ ∧ Stand p l e R s m args below meth c B.U B.locs B.cells B.slots ∧ Post ⟨T.setVm vm₁, locs, cells, slots⟩ (Value.ref b :: argsL).toArray v B ∧
      ∀ target, Steps p.tables e below (B.U.setTop { g with pc := g.pc + 3, stack := v.toList ++ rest }) target → Steps p.tables e below (T.setTop g) target := by
  obtain ⟨mk, methM, hnamed, hmethM, hstM, habM⟩ := Cond.instanceMethod_spec hinst
  obtain ⟨m8, methM', cM, hn8, hmethM', -, -, -, -, -, -, hsigM⟩ := Cond.codeWith_spec hcode
  cases Option.some.inj (hn8.symm.trans hnamed)
  cases hmethM.symm.trans hmethM'
  obtain ⟨c2, r2, m2, q1, q2, q3, q4, kP, hkP, hkPi⟩ := Cond.selects_spec hsel
  cases hcls.symm.trans q1
  cases (State.methodFound?_of_named hnamed hy).symm.trans q2
  cases hnamed.symm.trans q3
  have hselP : selectMethod e.platform s.vm cellB.cls mk = .method mk := by rw [Launch.admits_selectMethod X.admits]; exact q4
  obtain ⟨vm₁, X₁, hstep₁⟩ := X.invokevirtual hexec hown hlink hnamed hmethM hstM hkP hkPi hy (a := b) (cell := cellB) hcell
    (fun z h => by rw [h] at hobj; cases hobj) hselP hmethM habM hkP hkPi (g := g) hg (argsL := argsL) (rest := rest) (hlen _ hsigM) hstack hdg
  obtain ⟨v, B, X', hpost, hsteps⟩ := hK m meth c ⟨T.setVm vm₁, locs, cells, slots⟩ { g with stack := rest } (.invokevirtual index) mk (Value.ref b :: argsL).toArray X₁ hg hsize hdg hW (X₁.named hnamed) (hpre vm₁ X₁.warmed)
  exact ⟨v, vm₁, B, X₁.warmed, X', hpost, fun target h => hstep₁ _ fun acts => by rw [doInvoke_state]; exact hsteps.trans h⟩
abbrev vx_CVW (R : Room) (s : State) (args : Array Value) (own C : String) (index : Nat) (y : MethodName) (bytes : ByteArray) (maxL : Nat) (ret : Option FieldType) (hh : List (Nat × Nat × Nat × Nat)) (ws : List Cond) (rm : Room) (mc ms n : Nat) : Prop :=
  (rm.cells = mc ∧ rm.slots = ms ∧ rm.frames + 1 ≤ R.frames ∧ 8 + (maxL + 11) + rm.locals ≤ R.locals ∧ (∀ w ∈ ws, ∀ (a' : Array Value) (U : State), s.WarmedH U.vm → w.before a' U = true) ∧ Cond.codeWith y bytes maxL ret hh ∈ ws) ∧
  (Cond.codeWith y bytes maxL ret hh).before args s = true ∧ (Cond.initialized y.cls).before args s = true ∧ (y.cls ≠ "java/lang/invoke/MethodHandle" ∧ y.cls ≠ "java/lang/invoke/VarHandle") ∧
  (∀ sig, parseMethodDescriptor y.desc = some sig → n = sig.parameters.length) ∧ (Cond.methodLink own index y).before args s = true ∧ (Cond.instanceMethod y).before args s = true ∧ (Cond.selects C y y).before args s = true
theorem vx_cwVW {own C : String} {index maxL mc ms : Nat} {y : MethodName} {bytes : ByteArray} {ret : Option FieldType} {hh : List (Nat × Nat × Nat × Nat)} {Ts ws ws' : List Cond} {rm : Room} (n : Nat) (ht : ∀ w ∈ Ts, w.before args s = true) (hT : GoodIn Ts (wsV own index C y ws)) (hw : ws = Cond.codeWith y bytes maxL ret hh :: ws') (hrc : rm.cells = mc) (hrs : rm.slots = ms)
    (hd : y.cls = C ∧ y.cls ≠ "java/lang/invoke/MethodHandle" ∧ y.cls ≠ "java/lang/invoke/VarHandle" ∧ (parseMethodDescriptor y.desc).map (fun d => d.parameters.length) = some n) (hR : rm.frames + 1 ≤ R.frames ∧ 8 + (maxL + 11) + rm.locals ≤ R.locals) :
    vx_CVW R s args own C index y bytes maxL ret hh ws rm mc ms n := by
  obtain ⟨hC, hd⟩ := hd
  subst hC
  have ok : ∀ w ∈ wsV own index y.cls y ws, w.before args s = true := fun w h => ht w (hT w h).1
  have hG : GoodIn Ts ws := fun w h => hT w (by unfold wsV; exact List.mem_append_right _ h)
  have hc : Cond.codeWith y bytes maxL ret hh ∈ ws := by rw [hw]; exact List.mem_cons_self
  refine ⟨⟨hrc, hrs, hR.1, hR.2, pay_in ht hG, hc⟩, ht _ (hG _ hc).1, ok _ (by simp [wsV]), ⟨hd.1, hd.2.1⟩, fun sig h => ?_, ok _ (by simp [wsV]), ok _ (by simp [wsV]), ok _ (by simp [wsV])⟩
  have h2 := hd.2.2
  rw [h] at h2
  exact (Option.some.inj h2).symm
theorem vx_runVW {y : MethodName} {bytes cc : ByteArray} {maxL nL mc ms n index : Nat} {ret : Option FieldType} {hh : List (Nat × Nat × Nat × Nat)} {ws : List Cond} {rm : Room} {Pc : Array Value → State → Prop} {Qc : Array Value → State → Outcome → State → Prop} {free : Addr → Prop} {Ts : List Cond} {own C : String} {b : Addr} {As rest : List Value} {g : JFrame}
    (S : CallFix p m c cc nL s args Ts own) (hM : Met l y ws rm Pc Qc mc ms free) (cw : vx_CVW R s args own C index y bytes maxL ret hh ws rm mc ms n) (hp : PreV s H C b Pc As)
    (hg : g.method = m) (hn : As.length = n) (hsize : g.locals.size = nL) (hstack : g.stack = As.reverse ++ .ref b :: rest) (hW : 2 * g.monitorRoom + (rest.map fun v => v.category).sum ≤ 8) (hdg : decode cc g.pc = .ok (.invokevirtual index, 3)) (hf : cells + mc ≤ R.cells ∧ slots + ms ≤ R.slots) :
    va_Run p l e R s m args below meth c H locs cells slots mc ms g rest (Qc (Value.ref b :: As).toArray) free := by
  obtain ⟨⟨hrc, hrs, hfr, hlo, hws, hcw⟩, hcode, hini, hy, hlen, hl, hin, hse⟩ := cw
  have hK : Back l R p e below s args y 3 8 (PreOf R mc ms Pc) (PostOf Qc mc ms free) := va_backW (hh := hh) (bytes := bytes) (maxL := maxL) (ret := ret) hM hp.1 hrc hrs hfr hlo hws hcw (fun a' U hW => word_at hW (Or.inl (by first | rfl | simp [Cond.onTables, Cond.keeps, Cond.steady])) hini)
  obtain ⟨hx, hb, hml, ho, -⟩ := S
  obtain ⟨-, ⟨cellB, hcB, hoB, hclB⟩, hPc⟩ := hp
  intro T hT X
  obtain ⟨v, vm₁, ⟨U', l2, c2, s2⟩, hW₁, X', ⟨g', mk, t, L, e1, e2, hq, h1, hL, h2, h3⟩, st⟩ := vx_callVW X hx (C := C) (hh := hh) (bytes := bytes) (maxL := maxL) (ret := ret) ho hl hin hse hcode hy hK (by rw [hT]; exact hcB) hoB hclB hg (hsize.trans hml.symm) (argsL := As) (rest := rest) (fun sig h => hn.trans (hlen sig h)) hstack hW (by rw [hb]; exact hdg)
    (fun vm₁ hW₁ => ⟨hf.1, hf.2, hPc (T.setVm vm₁) hT hW₁⟩)
  dsimp only [Pt.U, Pt.locs, Pt.cells, Pt.slots] at X' e1 e2 h1 h2 h3 st
  subst h1; subst h2; subst h3
  exact ⟨v, (T.setVm vm₁).calling g' mk (Value.ref b :: As).toArray, t, U', L, hT, X', hL, e1, e2, hq, st⟩
section
variable {y : MethodName} {bytes cc : ByteArray} {maxL nL mc ms n index : Nat} {ret : Option FieldType} {ws : List Cond} {rm : Room} {Pc : Array Value → State → Prop} {Qc : Array Value → State → Outcome → State → Prop} {XC : String → State → State → Prop} {free : Addr → Prop} {Ts : List Cond} {own C : String} {b : Addr} {As rest : List Value} {g : JFrame}
theorem vx_runVX {hh : List (Nat × Nat × Nat × Nat)} (S : CallFix p m c cc nL s args Ts own) (hM : vx_Met l y ws rm Pc Qc XC mc ms free) (cw : vx_CVW R s args own C index y bytes maxL ret hh ws rm mc ms n) (hp : PreV s H C b Pc As)
    (hg : g.method = m) (hn : As.length = n) (hsize : g.locals.size = nL) (hstack : g.stack = As.reverse ++ .ref b :: rest) (hW : 2 * g.monitorRoom + (rest.map fun v => v.category).sum ≤ 8) (hdg : decode cc g.pc = .ok (.invokevirtual index, 3)) (hf : cells + mc ≤ R.cells ∧ slots + ms ≤ R.slots) :
    vx_Run p l e R s m args below meth c H locs cells slots mc ms g rest (Qc (Value.ref b :: As).toArray) XC free := by
  obtain ⟨⟨hrc, hrs, hfr, hlo, hws, hcw⟩, hcode, hini, hy, hlen, hl, hin, hse⟩ := cw
  have hK : vx_Back l R p e below s args y 3 8 (PreOf R mc ms Pc) (PostOf Qc mc ms free) (vx_Post XC mc ms free) := vx_backW (hh := hh) (bytes := bytes) (maxL := maxL) (ret := ret) hM hp.1 hrc hrs hfr hlo hws hcw (fun a' U hW => word_at hW (Or.inl (by first | rfl | simp [Cond.onTables, Cond.keeps, Cond.steady])) hini)
  obtain ⟨hx, hb, hml, ho, -⟩ := S
  obtain ⟨-, ⟨cellB, hcB, hoB, hclB⟩, hPc⟩ := hp
  intro T hT X
  rcases vx_callVX X hx (C := C) (hh := hh) (bytes := bytes) (maxL := maxL) (ret := ret) ho hl hin hse hcode hy hK (by rw [hT]; exact hcB) hoB hclB hg (hsize.trans hml.symm) (argsL := As) (rest := rest) (fun sig h => hn.trans (hlen sig h)) hstack hW (by rw [hb]; exact hdg)
    (fun vm₁ hW₁ => ⟨hf.1, hf.2, hPc (T.setVm vm₁) hT hW₁⟩) with ⟨v, vm₁, ⟨U', l2, c2, s2⟩, hW₁, X', ⟨g', mk, t, L, e1, e2, hq, h1, hL, h2, h3⟩, st⟩ | ⟨q, vm₁, ⟨U', l2, c2, s2⟩, hW₁, X', ⟨g', mk, t, L, E, ce, e1, e2, hq, hce, hcv, hcl, h1, hL, h2, h3⟩, st⟩
  · dsimp only [Pt.U, Pt.locs, Pt.cells, Pt.slots] at X' e1 e2 h1 h2 h3 st
    subst h1; subst h2; subst h3
    exact Or.inl ⟨v, (T.setVm vm₁).calling g' mk (Value.ref b :: As).toArray, t, U', L, hT, X', hL, e1, e2, hq, st⟩
  · dsimp only [Pt.U, Pt.locs, Pt.cells, Pt.slots] at X' e1 e2 h1 h2 h3 st hcl
    subst h1; subst h2; subst h3
    exact Or.inr ⟨q, (T.setVm vm₁).calling g' mk (Value.ref b :: As).toArray, t, U', L, E, ce, hT, X', hL, e1, e2, hq, hce, hcv, vx_cls hW₁ hcl, st⟩
theorem vx_runSX {hh : List (Nat × Nat × Nat × Nat)} (S : CallFix p m c cc nL s args Ts own) (hM : vx_Met l y ws rm Pc Qc XC mc ms free) (cw : vx_CSW R s args own index y bytes maxL ret hh ws rm mc ms n) (hp : PreS s H Pc As)
    (hg : g.method = m) (hn : As.length = n) (hsize : g.locals.size = nL) (hstack : g.stack = As.reverse ++ rest) (hW : 2 * g.monitorRoom + (rest.map fun v => v.category).sum ≤ 8) (hdg : decode cc g.pc = .ok (.invokestatic index, 3)) (hf : cells + mc ≤ R.cells ∧ slots + ms ≤ R.slots) :
    vx_Run p l e R s m args below meth c H locs cells slots mc ms g rest (Qc As.toArray) XC free := by
  obtain ⟨⟨hrc, hrs, hfr, hlo, hws, hcw⟩, hcode, hini, hy, hlen, hl, hstt⟩ := cw
  have hK : vx_Back l R p e below s args y 3 8 (PreOf R mc ms Pc) (PostOf Qc mc ms free) (vx_Post XC mc ms free) := vx_backW (hh := hh) (bytes := bytes) (maxL := maxL) (ret := ret) hM hp.1 hrc hrs hfr hlo hws hcw (fun a' U hW => word_at hW (Or.inl (by first | rfl | simp [Cond.onTables, Cond.keeps, Cond.steady])) hini)
  obtain ⟨hx, hb, hml, ho, -⟩ := S
  intro T hT X
  rcases vx_callSX X hx (hh := hh) (bytes := bytes) (maxL := maxL) (ret := ret) ho hl hstt hini hcode hy hK hg (hsize.trans hml.symm) (argsL := As) (rest := rest) (fun sig h => hn.trans (hlen sig h)) hstack hW (by rw [hb]; exact hdg)
    (fun vm₁ hW₁ => ⟨hf.1, hf.2, hp.2 (T.setVm vm₁) hT hW₁⟩) with ⟨v, vm₁, ⟨U', l2, c2, s2⟩, hW₁, X', ⟨g', mk, t, L, e1, e2, hq, h1, hL, h2, h3⟩, st⟩ | ⟨q, vm₁, ⟨U', l2, c2, s2⟩, hW₁, X', ⟨g', mk, t, L, E, ce, e1, e2, hq, hce, hcv, hcl, h1, hL, h2, h3⟩, st⟩
  · dsimp only [Pt.U, Pt.locs, Pt.cells, Pt.slots] at X' e1 e2 h1 h2 h3 st
    subst h1; subst h2; subst h3
    exact Or.inl ⟨v, (T.setVm vm₁).calling g' mk As.toArray, t, U', L, hT, X', hL, e1, e2, hq, st⟩
  · dsimp only [Pt.U, Pt.locs, Pt.cells, Pt.slots] at X' e1 e2 h1 h2 h3 st hcl
    subst h1; subst h2; subst h3
    exact Or.inr ⟨q, (T.setVm vm₁).calling g' mk As.toArray, t, U', L, E, ce, hT, X', hL, e1, e2, hq, hce, hcv, vx_cls hW₁ hcl, st⟩
end
end VXH
theorem vx_ofWH {l : Launch} {y : MethodName} {ws ws' : List Cond} {rm : Room} {Pc : Array Value → State → Prop} {Qc : Array Value → State → Outcome → State → Prop} {XC : String → State → State → Prop} {mc ms : Nat} {free : Addr → Prop} {cc : ByteArray} {maxL : Nat} {ret : Option FieldType} {hh : List (Nat × Nat × Nat × Nat)}
    (hy : plainName y.cls = true) (hw : ws = Cond.codeWith y cc maxL ret hh :: ws')
    (body : ∀ p e s m args below meth c s₁, BodyLoose p l y (headSpec ws rm) cc maxL ret e s m args below meth c s₁ → c.maxLocals = maxL → Pc args s →
      W p l e (headSpec ws rm).room s m args below meth c s.heap [] 0 0 (vx_MQ below Qc XC args s mc ms free) (entryFrame m args maxL)) : vx_Met l y ws rm Pc Qc XC mc ms free := by
  refine MetFree.of_bodyS (code := cc) (maxLocals := maxL) (ret := ret) hy ?_ ?_
  · intro args s m h hn
    obtain ⟨m9, meth, c, hn9, h1, h2, h3, h4, -, h5, h6, -⟩ := Cond.codeWith_spec (atoms_spec (ws := ws) h _ (by rw [hw]; exact List.mem_cons_self))
    cases hn.symm.trans hn9
    exact ⟨meth, c, h1, h2, h3, h4, h5, h6⟩
  · intro p e s m args below meth c s₁ B hml hP _
    have hh0 : s₁.heap = s.heap := by rw [B.state]; rfl
    obtain ⟨t, a1, o, b1, b2, b3⟩ := body p e s m args below meth c s₁ B hml hP s₁ hh0 (Stand.of_body B)
    exact ⟨t, o, a1, b1, b2, b3⟩
/-! ===== END ===== -/
end
section
/-! ===== BEGIN printed: names, fields, word lists, decode rows ===== -/
def RX0 : String := "PrefixBench"
def TX0 : u_T := fun k => match k with
  | 0 => ("PrefixBench", "keys", "[J", false)
  | 1 => ("PrefixBench", "costs", "[I", false)
  | 2 => ("PrefixBench", "hopSets", "[J", false)
  | _ => ("PrefixBench", "count", "I", false)
def tyX0 : Nat → FieldType := fun k => match k with
  | 0 => .array .long
  | 1 => .array .int
  | 2 => .array .long
  | _ => .int
abbrev wsX00 : List Cond := u_ws RX0 TX0 4
theorem nmX0 : ∀ a, a < 4 → ∀ b, b < 4 → a ≠ b → (TX0 a).2.1 ≠ (TX0 b).2.1 := by decide +kernel
theorem tyX0_ok : ∀ k, k < 4 → parseFieldDescriptor (TX0 k).2.2.1 = some (tyX0 k) := by decide +kernel
abbrev cX0_init : ByteArray := prog_1_method_1_code
def yX0_init : MethodName := ⟨RX0, "<init>", "()V"⟩
abbrev cX0_put : ByteArray := prog_1_method_2_code
def yX0_put : MethodName := ⟨RX0, "put", "(IIIIJ)I"⟩
abbrev cX0_take : ByteArray := prog_1_method_3_code
def yX0_take : MethodName := ⟨RX0, "take", "(III)Z"⟩
abbrev cX0_drop : ByteArray := prog_1_method_4_code
def yX0_drop : MethodName := ⟨RX0, "drop", "(I)I"⟩
abbrev cX0_cut : ByteArray := prog_1_method_5_code
def yX0_cut : MethodName := ⟨RX0, "cut", "(I)I"⟩
abbrev cX0_route : ByteArray := prog_1_method_6_code
def yX0_route : MethodName := ⟨RX0, "route", "(IIII)I"⟩
abbrev cX0_look : ByteArray := prog_1_method_7_code
def yX0_look : MethodName := ⟨RX0, "look", "(I)I"⟩
abbrev cX0_hops : ByteArray := prog_1_method_8_code
def yX0_hops : MethodName := ⟨RX0, "hops", "(I)J"⟩
abbrev cX0_hop : ByteArray := prog_1_method_9_code
def yX0_hop : MethodName := ⟨RX0, "hop", "(II)I"⟩
abbrev cX0_shorter : ByteArray := prog_1_method_10_code
def yX0_shorter : MethodName := ⟨RX0, "shorter", "(II)I"⟩
abbrev cX0_after : ByteArray := prog_1_method_11_code
def yX0_after : MethodName := ⟨RX0, "after", "(II)J"⟩
abbrev cX0_within : ByteArray := prog_1_method_12_code
def yX0_within : MethodName := ⟨RX0, "within", "(II)I"⟩
abbrev cX0_routes : ByteArray := prog_1_method_13_code
def yX0_routes : MethodName := ⟨RX0, "routes", "()I"⟩
abbrev cX0_known : ByteArray := prog_1_method_14_code
def yX0_known : MethodName := ⟨RX0, "known", "()I"⟩
abbrev cX0_nodes : ByteArray := prog_1_method_15_code
def yX0_nodes : MethodName := ⟨RX0, "nodes", "()I"⟩
abbrev cX0_checkPrefix : ByteArray := prog_1_method_16_code
def yX0_checkPrefix : MethodName := ⟨RX0, "checkPrefix", "(II)V"⟩
abbrev cX0_checkOrigin : ByteArray := prog_1_method_17_code
def yX0_checkOrigin : MethodName := ⟨RX0, "checkOrigin", "(I)V"⟩
abbrev cX0_checkCostAndHops : ByteArray := prog_1_method_18_code
def yX0_checkCostAndHops : MethodName := ⟨RX0, "checkCostAndHops", "(IJ)V"⟩
abbrev cX0_checkHop : ByteArray := prog_1_method_19_code
def yX0_checkHop : MethodName := ⟨RX0, "checkHop", "(I)V"⟩
abbrev cX0_checkWhat : ByteArray := prog_1_method_20_code
def yX0_checkWhat : MethodName := ⟨RX0, "checkWhat", "(I)V"⟩
abbrev cX0_checkRoom : ByteArray := prog_1_method_21_code
def yX0_checkRoom : MethodName := ⟨RX0, "checkRoom", "()V"⟩
abbrev cX0_mask : ByteArray := prog_1_method_22_code
def yX0_mask : MethodName := ⟨RX0, "mask", "(I)I"⟩
abbrev cX0_prefixOf : ByteArray := prog_1_method_23_code
def yX0_prefixOf : MethodName := ⟨RX0, "prefixOf", "(II)J"⟩
abbrev cX0_addressOf : ByteArray := prog_1_method_24_code
def yX0_addressOf : MethodName := ⟨RX0, "addressOf", "(J)I"⟩
abbrev cX0_lengthOf : ByteArray := prog_1_method_25_code
def yX0_lengthOf : MethodName := ⟨RX0, "lengthOf", "(J)I"⟩
abbrev cX0_routeKey : ByteArray := prog_1_method_26_code
def yX0_routeKey : MethodName := ⟨RX0, "routeKey", "(JI)J"⟩
abbrev cX0_hopOfRank : ByteArray := prog_1_method_27_code
def yX0_hopOfRank : MethodName := ⟨RX0, "hopOfRank", "(JI)I"⟩
abbrev cX0_firstFrom : ByteArray := prog_1_method_28_code
def yX0_firstFrom : MethodName := ⟨RX0, "firstFrom", "(J)I"⟩
abbrev cX0_firstOfPrefix : ByteArray := prog_1_method_29_code
def yX0_firstOfPrefix : MethodName := ⟨RX0, "firstOfPrefix", "(J)I"⟩
abbrev cX0_placeOfRoute : ByteArray := prog_1_method_30_code
def yX0_placeOfRoute : MethodName := ⟨RX0, "placeOfRoute", "(JI)I"⟩
abbrev cX0_placeOfBest : ByteArray := prog_1_method_31_code
def yX0_placeOfBest : MethodName := ⟨RX0, "placeOfBest", "(J)I"⟩
abbrev cX0_placeOfLongest : ByteArray := prog_1_method_32_code
def yX0_placeOfLongest : MethodName := ⟨RX0, "placeOfLongest", "(II)I"⟩
abbrev cX0_beginsPrefix : ByteArray := prog_1_method_33_code
def yX0_beginsPrefix : MethodName := ⟨RX0, "beginsPrefix", "(I)Z"⟩
abbrev cX0_prefixesBetween : ByteArray := prog_1_method_34_code
def yX0_prefixesBetween : MethodName := ⟨RX0, "prefixesBetween", "(II)I"⟩
abbrev cX0_partAtUnknown : ByteArray := prog_1_method_35_code
def yX0_partAtUnknown : MethodName := ⟨RX0, "partAtUnknown", "(JJ)Z"⟩
abbrev cX0_isPlace : ByteArray := prog_1_method_36_code
def yX0_isPlace : MethodName := ⟨RX0, "isPlace", "(I)Z"⟩
abbrev cX0_keyAt : ByteArray := prog_1_method_37_code
def yX0_keyAt : MethodName := ⟨RX0, "keyAt", "(I)J"⟩
abbrev cX0_prefixAt : ByteArray := prog_1_method_38_code
def yX0_prefixAt : MethodName := ⟨RX0, "prefixAt", "(I)J"⟩
abbrev cX0_lengthAt : ByteArray := prog_1_method_39_code
def yX0_lengthAt : MethodName := ⟨RX0, "lengthAt", "(I)I"⟩
abbrev cX0_originAt : ByteArray := prog_1_method_40_code
def yX0_originAt : MethodName := ⟨RX0, "originAt", "(I)I"⟩
abbrev cX0_costAt : ByteArray := prog_1_method_41_code
def yX0_costAt : MethodName := ⟨RX0, "costAt", "(I)I"⟩
abbrev cX0_hopsAt : ByteArray := prog_1_method_42_code
def yX0_hopsAt : MethodName := ⟨RX0, "hopsAt", "(I)J"⟩
abbrev cX0_tell : ByteArray := prog_1_method_43_code
def yX0_tell : MethodName := ⟨RX0, "tell", "(II)I"⟩
abbrev cX0_write : ByteArray := prog_1_method_44_code
def yX0_write : MethodName := ⟨RX0, "write", "(IJIJ)V"⟩
abbrev cX0_copy : ByteArray := prog_1_method_45_code
def yX0_copy : MethodName := ⟨RX0, "copy", "(II)V"⟩
abbrev cX0_openPlace : ByteArray := prog_1_method_46_code
def yX0_openPlace : MethodName := ⟨RX0, "openPlace", "(I)V"⟩
abbrev cX0_closePlace : ByteArray := prog_1_method_47_code
def yX0_closePlace : MethodName := ⟨RX0, "closePlace", "(I)V"⟩
abbrev cX0_keepFirst : ByteArray := prog_1_method_48_code
def yX0_keepFirst : MethodName := ⟨RX0, "keepFirst", "(I)I"⟩
abbrev cX0_growIfFull : ByteArray := prog_1_method_49_code
def yX0_growIfFull : MethodName := ⟨RX0, "growIfFull", "()V"⟩
def RX1 : String := "PrefixBenchModel"
def TX1 : u_T := fun k => match k with
  | 0 => ("PrefixBenchModel", "code", "I", false)
  | 1 => ("PrefixBenchModel", "count", "I", false)
  | 2 => ("PrefixBenchModel", "address", "[I", true)
  | 3 => ("PrefixBenchModel", "length", "[I", true)
  | 4 => ("PrefixBenchModel", "origin", "[I", true)
  | 5 => ("PrefixBenchModel", "cost", "[I", true)
  | _ => ("PrefixBenchModel", "hops", "[J", true)
def tyX1 : Nat → FieldType := fun k => match k with
  | 0 => .int
  | 1 => .int
  | 2 => .array .int
  | 3 => .array .int
  | 4 => .array .int
  | 5 => .array .int
  | _ => .array .long
abbrev wsX10 : List Cond := u_ws RX1 TX1 7
theorem nmX1 : ∀ a, a < 7 → ∀ b, b < 7 → a ≠ b → (TX1 a).2.1 ≠ (TX1 b).2.1 := by decide +kernel
theorem tyX1_ok : ∀ k, k < 7 → parseFieldDescriptor (TX1 k).2.2.1 = some (tyX1 k) := by decide +kernel
abbrev cX1_init : ByteArray := prog_3_method_1_code
def yX1_init : MethodName := ⟨RX1, "<init>", "()V"⟩
abbrev cX1_thrown : ByteArray := prog_3_method_2_code
def yX1_thrown : MethodName := ⟨RX1, "thrown", "()I"⟩
abbrev cX1_mask : ByteArray := prog_3_method_3_code
def yX1_mask : MethodName := ⟨RX1, "mask", "(I)I"⟩
abbrev cX1_unsigned : ByteArray := prog_3_method_4_code
def yX1_unsigned : MethodName := ⟨RX1, "unsigned", "(I)J"⟩
abbrev cX1_isPrefix : ByteArray := prog_3_method_5_code
def yX1_isPrefix : MethodName := ⟨RX1, "isPrefix", "(II)Z"⟩
abbrev cX1_rank : ByteArray := prog_3_method_6_code
def yX1_rank : MethodName := ⟨RX1, "rank", "(III)J"⟩
abbrev cX1_rankOf : ByteArray := prog_3_method_7_code
def yX1_rankOf : MethodName := ⟨RX1, "rankOf", "(I)J"⟩
abbrev cX1_isMore : ByteArray := prog_3_method_8_code
def yX1_isMore : MethodName := ⟨RX1, "isMore", "(I)Z"⟩
abbrev cX1_has : ByteArray := prog_3_method_9_code
def yX1_has : MethodName := ⟨RX1, "has", "(II)Z"⟩
abbrev cX1_place : ByteArray := prog_3_method_10_code
def yX1_place : MethodName := ⟨RX1, "place", "(J)I"⟩
abbrev cX1_isThere : ByteArray := prog_3_method_11_code
def yX1_isThere : MethodName := ⟨RX1, "isThere", "(IIII)Z"⟩
abbrev cX1_put : ByteArray := prog_3_method_12_code
def yX1_put : MethodName := ⟨RX1, "put", "(IIIIJ)I"⟩
abbrev cX1_copy : ByteArray := prog_3_method_13_code
def yX1_copy : MethodName := ⟨RX1, "copy", "(II)V"⟩
abbrev cX1_sweep : ByteArray := prog_3_method_14_code
def yX1_sweep : MethodName := ⟨RX1, "sweep", "()I"⟩
abbrev cX1_take : ByteArray := prog_3_method_15_code
def yX1_take : MethodName := ⟨RX1, "take", "(III)Z"⟩
abbrev cX1_drop : ByteArray := prog_3_method_16_code
def yX1_drop : MethodName := ⟨RX1, "drop", "(I)I"⟩
abbrev cX1_cut : ByteArray := prog_3_method_17_code
def yX1_cut : MethodName := ⟨RX1, "cut", "(I)I"⟩
abbrev cX1_size : ByteArray := prog_3_method_18_code
def yX1_size : MethodName := ⟨RX1, "size", "(J)I"⟩
abbrev cX1_route : ByteArray := prog_3_method_19_code
def yX1_route : MethodName := ⟨RX1, "route", "(IIII)I"⟩
abbrev cX1_best : ByteArray := prog_3_method_20_code
def yX1_best : MethodName := ⟨RX1, "best", "(II)I"⟩
abbrev cX1_look : ByteArray := prog_3_method_21_code
def yX1_look : MethodName := ⟨RX1, "look", "(I)I"⟩
abbrev cX1_hops : ByteArray := prog_3_method_22_code
def yX1_hops : MethodName := ⟨RX1, "hops", "(I)J"⟩
abbrev cX1_hop : ByteArray := prog_3_method_23_code
def yX1_hop : MethodName := ⟨RX1, "hop", "(II)I"⟩
abbrev cX1_shorter : ByteArray := prog_3_method_24_code
def yX1_shorter : MethodName := ⟨RX1, "shorter", "(II)I"⟩
abbrev cX1_after : ByteArray := prog_3_method_25_code
def yX1_after : MethodName := ⟨RX1, "after", "(II)J"⟩
abbrev cX1_within : ByteArray := prog_3_method_26_code
def yX1_within : MethodName := ⟨RX1, "within", "(II)I"⟩
abbrev cX1_routes : ByteArray := prog_3_method_27_code
def yX1_routes : MethodName := ⟨RX1, "routes", "()I"⟩
abbrev cX1_known : ByteArray := prog_3_method_28_code
def yX1_known : MethodName := ⟨RX1, "known", "()I"⟩
abbrev cX1_isKnown : ByteArray := prog_3_method_29_code
def yX1_isKnown : MethodName := ⟨RX1, "isKnown", "(II)Z"⟩
abbrev cX1_nodes : ByteArray := prog_3_method_30_code
def yX1_nodes : MethodName := ⟨RX1, "nodes", "()I"⟩
def RJx145de : String := "java/io/Serializable"
def TJx145de : u_T := fun k => match k with
  | _ => ("", "", "", false)
def tyJx145de : Nat → FieldType := fun k => match k with
  | _ => .int
abbrev wsJx145de0 : List Cond := u_ws RJx145de TJx145de 0
theorem nmJx145de : ∀ a, a < 0 → ∀ b, b < 0 → a ≠ b → (TJx145de a).2.1 ≠ (TJx145de b).2.1 := by decide +kernel
theorem tyJx145de_ok : ∀ k, k < 0 → parseFieldDescriptor (TJx145de k).2.2.1 = some (tyJx145de k) := by decide +kernel
def RJx8e188 : String := "java/lang/Cloneable"
def TJx8e188 : u_T := fun k => match k with
  | _ => ("", "", "", false)
def tyJx8e188 : Nat → FieldType := fun k => match k with
  | _ => .int
abbrev wsJx8e1880 : List Cond := u_ws RJx8e188 TJx8e188 0
theorem nmJx8e188 : ∀ a, a < 0 → ∀ b, b < 0 → a ≠ b → (TJx8e188 a).2.1 ≠ (TJx8e188 b).2.1 := by decide +kernel
theorem tyJx8e188_ok : ∀ k, k < 0 → parseFieldDescriptor (TJx8e188 k).2.2.1 = some (tyJx8e188 k) := by decide +kernel
def RJ6 : String := "java/lang/Integer"
def TJ6 : u_T := fun k => match k with
  | _ => ("", "", "", false)
def tyJ6 : Nat → FieldType := fun k => match k with
  | _ => .int
abbrev wsJ60 : List Cond := u_ws RJ6 TJ6 0
theorem nmJ6 : ∀ a, a < 0 → ∀ b, b < 0 → a ≠ b → (TJ6 a).2.1 ≠ (TJ6 b).2.1 := by decide +kernel
theorem tyJ6_ok : ∀ k, k < 0 → parseFieldDescriptor (TJ6 k).2.2.1 = some (tyJ6 k) := by decide +kernel
abbrev cJ6_numberOfLeadingZeros_0f7a4 : ByteArray := prog_8_method_47_code
def yJ6_numberOfLeadingZeros_0f7a4 : MethodName := ⟨RJ6, "numberOfLeadingZeros", "(I)I"⟩
def RJ13 : String := "java/lang/Long"
def TJ13 : u_T := fun k => match k with
  | _ => ("", "", "", false)
def tyJ13 : Nat → FieldType := fun k => match k with
  | _ => .int
abbrev wsJ130 : List Cond := u_ws RJ13 TJ13 0
theorem nmJ13 : ∀ a, a < 0 → ∀ b, b < 0 → a ≠ b → (TJ13 a).2.1 ≠ (TJ13 b).2.1 := by decide +kernel
theorem tyJ13_ok : ∀ k, k < 0 → parseFieldDescriptor (TJ13 k).2.2.1 = some (tyJ13 k) := by decide +kernel
abbrev cJ13_bitCount_95d88 : ByteArray := prog_9_method_50_code
def yJ13_bitCount_95d88 : MethodName := ⟨RJ13, "bitCount", "(J)I"⟩
def RJ9 : String := "java/lang/Math"
def TJ9 : u_T := fun k => match k with
  | _ => ("", "", "", false)
def tyJ9 : Nat → FieldType := fun k => match k with
  | _ => .int
abbrev wsJ90 : List Cond := u_ws RJ9 TJ9 0
theorem nmJ9 : ∀ a, a < 0 → ∀ b, b < 0 → a ≠ b → (TJ9 a).2.1 ≠ (TJ9 b).2.1 := by decide +kernel
theorem tyJ9_ok : ∀ k, k < 0 → parseFieldDescriptor (TJ9 k).2.2.1 = some (tyJ9 k) := by decide +kernel
abbrev cJ9_min_7cf53 : ByteArray := prog_10_method_69_code
def yJ9_min_7cf53 : MethodName := ⟨RJ9, "min", "(II)I"⟩
def RJ0 : String := "java/lang/String"
def TJ0 : u_T := fun k => match k with
  | _ => ("", "", "", false)
def tyJ0 : Nat → FieldType := fun k => match k with
  | _ => .int
abbrev wsJ00 : List Cond := u_ws RJ0 TJ0 0
theorem nmJ0 : ∀ a, a < 0 → ∀ b, b < 0 → a ≠ b → (TJ0 a).2.1 ≠ (TJ0 b).2.1 := by decide +kernel
theorem tyJ0_ok : ∀ k, k < 0 → parseFieldDescriptor (TJ0 k).2.2.1 = some (tyJ0 k) := by decide +kernel
def RJ10 : String := "java/lang/System"
def TJ10 : u_T := fun k => match k with
  | _ => ("", "", "", false)
def tyJ10 : Nat → FieldType := fun k => match k with
  | _ => .int
abbrev wsJ100 : List Cond := u_ws RJ10 TJ10 0
theorem nmJ10 : ∀ a, a < 0 → ∀ b, b < 0 → a ≠ b → (TJ10 a).2.1 ≠ (TJ10 b).2.1 := by decide +kernel
theorem tyJ10_ok : ∀ k, k < 0 → parseFieldDescriptor (TJ10 k).2.2.1 = some (tyJ10 k) := by decide +kernel
def RJ7 : String := "java/util/Arrays"
def TJ7 : u_T := fun k => match k with
  | _ => ("", "", "", false)
def tyJ7 : Nat → FieldType := fun k => match k with
  | _ => .int
abbrev wsJ70 : List Cond := u_ws RJ7 TJ7 0
theorem nmJ7 : ∀ a, a < 0 → ∀ b, b < 0 → a ≠ b → (TJ7 a).2.1 ≠ (TJ7 b).2.1 := by decide +kernel
theorem tyJ7_ok : ∀ k, k < 0 → parseFieldDescriptor (TJ7 k).2.2.1 = some (tyJ7 k) := by decide +kernel
abbrev cJ7_copyOf_59c91 : ByteArray := prog_15_method_123_code
def yJ7_copyOf_59c91 : MethodName := ⟨RJ7, "copyOf", "([II)[I"⟩
abbrev cJ7_copyOf_c38d5 : ByteArray := prog_15_method_124_code
def yJ7_copyOf_c38d5 : MethodName := ⟨RJ7, "copyOf", "([JI)[J"⟩
def RL : String := "PrefixBenchLaw"
abbrev cL_put : ByteArray := method_3_code
def yL_put : MethodName := ⟨RL, "put", "(LPrefixBench;IIIIJ[J)I"⟩
abbrev cL_take : ByteArray := method_4_code
def yL_take : MethodName := ⟨RL, "take", "(LPrefixBench;III[J)I"⟩
abbrev cL_drop : ByteArray := method_5_code
def yL_drop : MethodName := ⟨RL, "drop", "(LPrefixBench;I[J)I"⟩
abbrev cL_cut : ByteArray := method_6_code
def yL_cut : MethodName := ⟨RL, "cut", "(LPrefixBench;I[J)I"⟩
abbrev cL_route : ByteArray := method_7_code
def yL_route : MethodName := ⟨RL, "route", "(LPrefixBench;IIII[J)I"⟩
abbrev cL_shorter : ByteArray := method_8_code
def yL_shorter : MethodName := ⟨RL, "shorter", "(LPrefixBench;II[J)I"⟩
abbrev cL_after : ByteArray := method_9_code
def yL_after : MethodName := ⟨RL, "after", "(LPrefixBench;II[J)I"⟩
abbrev cL_within : ByteArray := method_10_code
def yL_within : MethodName := ⟨RL, "within", "(LPrefixBench;II[J)I"⟩
abbrev cL_law : ByteArray := code
def yL_law : MethodName := ⟨RL, "law", "([I)Z"⟩
def wsX0_init : List Cond := .code yX0_init cX0_init 1 none :: ([.methodLink RX0 1 objectInit, .instanceMethod objectInit, .code objectInit ⟨#[0xb1]⟩ 1 none, .arrayClass .long, .fieldLink RX0 9 "PrefixBench" "keys" "[J", .arrayClass .int, .fieldLink RX0 13 "PrefixBench" "costs" "[I", .fieldLink RX0 17 "PrefixBench" "hopSets" "[J", .fieldLink RX0 20 "PrefixBench" "count" "I"] ++ wsX00)
def wsX0_mask : List Cond := .code yX0_mask cX0_mask 1 (some .int) :: ([])
def wsX0_checkPrefix : List Cond := .code yX0_checkPrefix cX0_checkPrefix 2 none :: ([.classLink RX0 116 "java/lang/IllegalArgumentException", .initialized "java/lang/IllegalArgumentException", .methodLink RX0 129 yX0_mask, .static yX0_mask, .initialized RX0, .code yX0_mask cX0_mask 1 (some .int)] ++ (vx_atS RX0 120 "java/lang/IllegalArgumentException" ["java/lang/RuntimeException", "java/lang/Exception"]).filter goodWord)
def wsX0_checkOrigin : List Cond := .code yX0_checkOrigin cX0_checkOrigin 1 none :: ([.classLink RX0 116 "java/lang/IllegalArgumentException", .initialized "java/lang/IllegalArgumentException"] ++ (vx_atS RX0 120 "java/lang/IllegalArgumentException" ["java/lang/RuntimeException", "java/lang/Exception"]).filter goodWord)
def wsX0_checkCostAndHops : List Cond := .code yX0_checkCostAndHops cX0_checkCostAndHops 3 none :: ([.classLink RX0 116 "java/lang/IllegalArgumentException", .initialized "java/lang/IllegalArgumentException", .constant RX0 149 (65535)] ++ (vx_atS RX0 120 "java/lang/IllegalArgumentException" ["java/lang/RuntimeException", "java/lang/Exception"]).filter goodWord)
def wsX0_prefixOf : List Cond := .code yX0_prefixOf cX0_prefixOf 2 (some .long) :: ([.constantLong RX0 111 (4294967295)])
def wsX0_routeKey : List Cond := .code yX0_routeKey cX0_routeKey 3 (some .long) :: ([])
def wsX0_isPlace : List Cond := .code yX0_isPlace cX0_isPlace 2 (some .boolean) :: ([.fieldLink RX0 20 "PrefixBench" "count" "I", .fieldLink RX0 9 "PrefixBench" "keys" "[J", .fieldLink RX0 13 "PrefixBench" "costs" "[I", .fieldLink RX0 17 "PrefixBench" "hopSets" "[J"] ++ wsX00)
def wsX0_keyAt : List Cond := .code yX0_keyAt cX0_keyAt 2 (some .long) :: ([.fieldLink RX0 9 "PrefixBench" "keys" "[J", .constantLong RX0 82 (-1), .methodLink RX0 176 yX0_isPlace, .instanceMethod yX0_isPlace, .selects RX0 yX0_isPlace yX0_isPlace, .initialized RX0, .code yX0_isPlace cX0_isPlace 2 (some .boolean), .fieldLink RX0 20 "PrefixBench" "count" "I", .fieldLink RX0 13 "PrefixBench" "costs" "[I", .fieldLink RX0 17 "PrefixBench" "hopSets" "[J"] ++ wsX00)
def wsX0_firstFrom : List Cond := .code yX0_firstFrom cX0_firstFrom 7 (some .int) :: ([.fieldLink RX0 20 "PrefixBench" "count" "I", .methodLink RX0 48 yX0_keyAt, .instanceMethod yX0_keyAt, .selects RX0 yX0_keyAt yX0_keyAt, .initialized RX0, .code yX0_keyAt cX0_keyAt 2 (some .long), .fieldLink RX0 9 "PrefixBench" "keys" "[J", .constantLong RX0 82 (-1), .methodLink RX0 176 yX0_isPlace, .instanceMethod yX0_isPlace, .selects RX0 yX0_isPlace yX0_isPlace, .code yX0_isPlace cX0_isPlace 2 (some .boolean), .fieldLink RX0 13 "PrefixBench" "costs" "[I", .fieldLink RX0 17 "PrefixBench" "hopSets" "[J"] ++ wsX00)
def wsX0_checkRoom : List Cond := .code yX0_checkRoom cX0_checkRoom 1 none :: ([.classLink RX0 158 "java/lang/IllegalStateException", .initialized "java/lang/IllegalStateException", .fieldLink RX0 20 "PrefixBench" "count" "I"] ++ wsX00 ++ (vx_atS RX0 162 "java/lang/IllegalStateException" ["java/lang/RuntimeException", "java/lang/Exception"]).filter goodWord)
def wsJ7_copyOf_c38d5 : List Cond := .code yJ7_copyOf_c38d5 cJ7_copyOf_c38d5 3 (some (.array .long)) :: ([.methodLink RJ7 319 ⟨"[J", "clone", "()Ljava/lang/Object;"⟩, .sameMethod "[J" "java/lang/Object" "clone" "()Ljava/lang/Object;", .native ⟨"java/lang/Object", "clone", "()Ljava/lang/Object;"⟩, .instanceMethod ⟨"java/lang/Object", "clone", "()Ljava/lang/Object;"⟩, .selects "[J" ⟨"[J", "clone", "()Ljava/lang/Object;"⟩ ⟨"java/lang/Object", "clone", "()Ljava/lang/Object;"⟩, .classLink RJ7 320 "[J", .arrayClass .long, .methodLink RJ7 304 Lib.Math.min.name, .static Lib.Math.min.name, .initialized "java/lang/Math", .code Lib.Math.min.name Lib.Math.min.code 2 (some .int), .methodLink RJ7 150 arraycopyName, .native arraycopyName, .static arraycopyName, .initialized "java/lang/System"])
def wsJ7_copyOf_59c91 : List Cond := .code yJ7_copyOf_59c91 cJ7_copyOf_59c91 3 (some (.array .int)) :: ([.methodLink RJ7 316 ⟨"[I", "clone", "()Ljava/lang/Object;"⟩, .sameMethod "[I" "java/lang/Object" "clone" "()Ljava/lang/Object;", .native ⟨"java/lang/Object", "clone", "()Ljava/lang/Object;"⟩, .instanceMethod ⟨"java/lang/Object", "clone", "()Ljava/lang/Object;"⟩, .selects "[I" ⟨"[I", "clone", "()Ljava/lang/Object;"⟩ ⟨"java/lang/Object", "clone", "()Ljava/lang/Object;"⟩, .classLink RJ7 317 "[I", .arrayClass .int, .methodLink RJ7 304 Lib.Math.min.name, .static Lib.Math.min.name, .initialized "java/lang/Math", .code Lib.Math.min.name Lib.Math.min.code 2 (some .int), .methodLink RJ7 150 arraycopyName, .native arraycopyName, .static arraycopyName, .initialized "java/lang/System"])
def wsX0_growIfFull_r1 : List Cond := [Cond.fieldLink RX0 9 "PrefixBench" "keys" "[J", Cond.fieldLink RX0 20 "PrefixBench" "count" "I", Cond.fieldLink RX0 13 "PrefixBench" "costs" "[I", Cond.fieldLink RX0 17 "PrefixBench" "hopSets" "[J", Cond.methodLink RX0 184 yJ7_copyOf_c38d5, Cond.static yJ7_copyOf_c38d5, Cond.initialized RJ7, Cond.code yJ7_copyOf_c38d5 cJ7_copyOf_c38d5 3 (some (.array .long)), Cond.methodLink RJ7 319 ⟨"[J", "clone", "()Ljava/lang/Object;"⟩, Cond.sameMethod "[J" "java/lang/Object" "clone" "()Ljava/lang/Object;", Cond.native ⟨"java/lang/Object", "clone", "()Ljava/lang/Object;"⟩, Cond.instanceMethod ⟨"java/lang/Object", "clone", "()Ljava/lang/Object;"⟩, Cond.selects "[J" ⟨"[J", "clone", "()Ljava/lang/Object;"⟩ ⟨"java/lang/Object", "clone", "()Ljava/lang/Object;"⟩, Cond.classLink RJ7 320 "[J", Cond.arrayClass .long, Cond.methodLink RJ7 304 Lib.Math.min.name, Cond.static Lib.Math.min.name, Cond.initialized "java/lang/Math", Cond.code Lib.Math.min.name Lib.Math.min.code 2 (some .int), Cond.methodLink RJ7 150 arraycopyName, Cond.native arraycopyName, Cond.static arraycopyName, Cond.initialized "java/lang/System", Cond.methodLink RX0 190 yJ7_copyOf_59c91]
def wsX0_growIfFull_r2 : List Cond := [Cond.static yJ7_copyOf_59c91, Cond.code yJ7_copyOf_59c91 cJ7_copyOf_59c91 3 (some (.array .int)), Cond.methodLink RJ7 316 ⟨"[I", "clone", "()Ljava/lang/Object;"⟩, Cond.sameMethod "[I" "java/lang/Object" "clone" "()Ljava/lang/Object;", Cond.selects "[I" ⟨"[I", "clone", "()Ljava/lang/Object;"⟩ ⟨"java/lang/Object", "clone", "()Ljava/lang/Object;"⟩, Cond.classLink RJ7 317 "[I", Cond.arrayClass .int]
def wsX0_growIfFull : List Cond := .code yX0_growIfFull cX0_growIfFull 2 none :: ((wsX0_growIfFull_r1 ++ wsX0_growIfFull_r2) ++ wsX00)
def wsX0_costAt : List Cond := .code yX0_costAt cX0_costAt 2 (some .int) :: ([.fieldLink RX0 13 "PrefixBench" "costs" "[I", .methodLink RX0 176 yX0_isPlace, .instanceMethod yX0_isPlace, .selects RX0 yX0_isPlace yX0_isPlace, .initialized RX0, .code yX0_isPlace cX0_isPlace 2 (some .boolean), .fieldLink RX0 20 "PrefixBench" "count" "I", .fieldLink RX0 9 "PrefixBench" "keys" "[J", .fieldLink RX0 17 "PrefixBench" "hopSets" "[J"] ++ wsX00)
def wsX0_hopsAt : List Cond := .code yX0_hopsAt cX0_hopsAt 2 (some .long) :: ([.fieldLink RX0 17 "PrefixBench" "hopSets" "[J", .methodLink RX0 176 yX0_isPlace, .instanceMethod yX0_isPlace, .selects RX0 yX0_isPlace yX0_isPlace, .initialized RX0, .code yX0_isPlace cX0_isPlace 2 (some .boolean), .fieldLink RX0 20 "PrefixBench" "count" "I", .fieldLink RX0 9 "PrefixBench" "keys" "[J", .fieldLink RX0 13 "PrefixBench" "costs" "[I"] ++ wsX00)
def wsX0_write : List Cond := .code yX0_write cX0_write 7 none :: ([.fieldLink RX0 9 "PrefixBench" "keys" "[J", .fieldLink RX0 13 "PrefixBench" "costs" "[I", .fieldLink RX0 17 "PrefixBench" "hopSets" "[J", .methodLink RX0 176 yX0_isPlace, .instanceMethod yX0_isPlace, .selects RX0 yX0_isPlace yX0_isPlace, .initialized RX0, .code yX0_isPlace cX0_isPlace 2 (some .boolean), .fieldLink RX0 20 "PrefixBench" "count" "I"] ++ wsX00)
def wsX0_copy_r1 : List Cond := [Cond.methodLink RX0 48 yX0_keyAt, Cond.instanceMethod yX0_keyAt, Cond.selects RX0 yX0_keyAt yX0_keyAt, Cond.initialized RX0, Cond.code yX0_keyAt cX0_keyAt 2 (some .long), Cond.fieldLink RX0 9 "PrefixBench" "keys" "[J", Cond.constantLong RX0 82 (-1), Cond.methodLink RX0 176 yX0_isPlace, Cond.instanceMethod yX0_isPlace, Cond.selects RX0 yX0_isPlace yX0_isPlace, Cond.code yX0_isPlace cX0_isPlace 2 (some .boolean), Cond.fieldLink RX0 20 "PrefixBench" "count" "I", Cond.fieldLink RX0 13 "PrefixBench" "costs" "[I", Cond.fieldLink RX0 17 "PrefixBench" "hopSets" "[J", Cond.methodLink RX0 87 yX0_costAt, Cond.instanceMethod yX0_costAt, Cond.selects RX0 yX0_costAt yX0_costAt, Cond.code yX0_costAt cX0_costAt 2 (some .int), Cond.methodLink RX0 84 yX0_hopsAt, Cond.instanceMethod yX0_hopsAt, Cond.selects RX0 yX0_hopsAt yX0_hopsAt, Cond.code yX0_hopsAt cX0_hopsAt 2 (some .long), Cond.methodLink RX0 58 yX0_write, Cond.instanceMethod yX0_write]
def wsX0_copy_r2 : List Cond := [Cond.selects RX0 yX0_write yX0_write, Cond.code yX0_write cX0_write 7 none]
def wsX0_copy : List Cond := .code yX0_copy cX0_copy 3 none :: ((wsX0_copy_r1 ++ wsX0_copy_r2) ++ wsX00)
def wsX0_openPlace_r1 : List Cond := [Cond.fieldLink RX0 20 "PrefixBench" "count" "I", Cond.methodLink RX0 181 yX0_growIfFull, Cond.instanceMethod yX0_growIfFull, Cond.selects RX0 yX0_growIfFull yX0_growIfFull, Cond.initialized RX0, Cond.code yX0_growIfFull cX0_growIfFull 2 none, Cond.fieldLink RX0 9 "PrefixBench" "keys" "[J", Cond.fieldLink RX0 13 "PrefixBench" "costs" "[I", Cond.fieldLink RX0 17 "PrefixBench" "hopSets" "[J", Cond.methodLink RX0 184 yJ7_copyOf_c38d5, Cond.static yJ7_copyOf_c38d5, Cond.initialized RJ7, Cond.code yJ7_copyOf_c38d5 cJ7_copyOf_c38d5 3 (some (.array .long)), Cond.methodLink RJ7 319 ⟨"[J", "clone", "()Ljava/lang/Object;"⟩, Cond.sameMethod "[J" "java/lang/Object" "clone" "()Ljava/lang/Object;", Cond.native ⟨"java/lang/Object", "clone", "()Ljava/lang/Object;"⟩, Cond.instanceMethod ⟨"java/lang/Object", "clone", "()Ljava/lang/Object;"⟩, Cond.selects "[J" ⟨"[J", "clone", "()Ljava/lang/Object;"⟩ ⟨"java/lang/Object", "clone", "()Ljava/lang/Object;"⟩, Cond.classLink RJ7 320 "[J", Cond.arrayClass .long, Cond.methodLink RJ7 304 Lib.Math.min.name, Cond.static Lib.Math.min.name, Cond.initialized "java/lang/Math", Cond.code Lib.Math.min.name Lib.Math.min.code 2 (some .int)]
def wsX0_openPlace_r2 : List Cond := [Cond.methodLink RJ7 150 arraycopyName, Cond.native arraycopyName, Cond.static arraycopyName, Cond.initialized "java/lang/System", Cond.methodLink RX0 190 yJ7_copyOf_59c91, Cond.static yJ7_copyOf_59c91, Cond.code yJ7_copyOf_59c91 cJ7_copyOf_59c91 3 (some (.array .int)), Cond.methodLink RJ7 316 ⟨"[I", "clone", "()Ljava/lang/Object;"⟩, Cond.sameMethod "[I" "java/lang/Object" "clone" "()Ljava/lang/Object;", Cond.selects "[I" ⟨"[I", "clone", "()Ljava/lang/Object;"⟩ ⟨"java/lang/Object", "clone", "()Ljava/lang/Object;"⟩, Cond.classLink RJ7 317 "[I", Cond.arrayClass .int, Cond.methodLink RX0 73 yX0_copy, Cond.instanceMethod yX0_copy, Cond.selects RX0 yX0_copy yX0_copy, Cond.code yX0_copy cX0_copy 3 none, Cond.methodLink RX0 48 yX0_keyAt, Cond.instanceMethod yX0_keyAt, Cond.selects RX0 yX0_keyAt yX0_keyAt, Cond.code yX0_keyAt cX0_keyAt 2 (some .long), Cond.constantLong RX0 82 (-1), Cond.methodLink RX0 176 yX0_isPlace, Cond.instanceMethod yX0_isPlace, Cond.selects RX0 yX0_isPlace yX0_isPlace]
def wsX0_openPlace_r3 : List Cond := [Cond.code yX0_isPlace cX0_isPlace 2 (some .boolean), Cond.methodLink RX0 87 yX0_costAt, Cond.instanceMethod yX0_costAt, Cond.selects RX0 yX0_costAt yX0_costAt, Cond.code yX0_costAt cX0_costAt 2 (some .int), Cond.methodLink RX0 84 yX0_hopsAt, Cond.instanceMethod yX0_hopsAt, Cond.selects RX0 yX0_hopsAt yX0_hopsAt, Cond.code yX0_hopsAt cX0_hopsAt 2 (some .long), Cond.methodLink RX0 58 yX0_write, Cond.instanceMethod yX0_write, Cond.selects RX0 yX0_write yX0_write, Cond.code yX0_write cX0_write 7 none]
def wsX0_openPlace : List Cond := .code yX0_openPlace cX0_openPlace 3 none :: ((wsX0_openPlace_r1 ++ (wsX0_openPlace_r2 ++ wsX0_openPlace_r3)) ++ wsX00)
def wsX0_put_r1 : List Cond := [Cond.fieldLink RX0 20 "PrefixBench" "count" "I", Cond.methodLink RX0 24 yX0_checkPrefix, Cond.static yX0_checkPrefix, Cond.initialized RX0, Cond.code yX0_checkPrefix cX0_checkPrefix 2 none, Cond.classLink RX0 116 "java/lang/IllegalArgumentException", Cond.initialized "java/lang/IllegalArgumentException", Cond.methodLink RX0 129 yX0_mask, Cond.static yX0_mask, Cond.code yX0_mask cX0_mask 1 (some .int), Cond.methodLink RX0 28 yX0_checkOrigin, Cond.static yX0_checkOrigin, Cond.code yX0_checkOrigin cX0_checkOrigin 1 none, Cond.methodLink RX0 32 yX0_checkCostAndHops, Cond.static yX0_checkCostAndHops, Cond.code yX0_checkCostAndHops cX0_checkCostAndHops 3 none, Cond.constant RX0 149 (65535), Cond.methodLink RX0 36 yX0_prefixOf, Cond.static yX0_prefixOf, Cond.code yX0_prefixOf cX0_prefixOf 2 (some .long), Cond.constantLong RX0 111 (4294967295), Cond.methodLink RX0 40 yX0_routeKey, Cond.static yX0_routeKey, Cond.code yX0_routeKey cX0_routeKey 3 (some .long)]
def wsX0_put_r2 : List Cond := [Cond.methodLink RX0 44 yX0_firstFrom, Cond.instanceMethod yX0_firstFrom, Cond.selects RX0 yX0_firstFrom yX0_firstFrom, Cond.code yX0_firstFrom cX0_firstFrom 7 (some .int), Cond.methodLink RX0 48 yX0_keyAt, Cond.instanceMethod yX0_keyAt, Cond.selects RX0 yX0_keyAt yX0_keyAt, Cond.code yX0_keyAt cX0_keyAt 2 (some .long), Cond.fieldLink RX0 9 "PrefixBench" "keys" "[J", Cond.constantLong RX0 82 (-1), Cond.methodLink RX0 176 yX0_isPlace, Cond.instanceMethod yX0_isPlace, Cond.selects RX0 yX0_isPlace yX0_isPlace, Cond.code yX0_isPlace cX0_isPlace 2 (some .boolean), Cond.fieldLink RX0 13 "PrefixBench" "costs" "[I", Cond.fieldLink RX0 17 "PrefixBench" "hopSets" "[J", Cond.methodLink RX0 52 yX0_checkRoom, Cond.instanceMethod yX0_checkRoom, Cond.selects RX0 yX0_checkRoom yX0_checkRoom, Cond.code yX0_checkRoom cX0_checkRoom 1 none, Cond.classLink RX0 158 "java/lang/IllegalStateException", Cond.initialized "java/lang/IllegalStateException", Cond.methodLink RX0 55 yX0_openPlace, Cond.instanceMethod yX0_openPlace]
def wsX0_put_r3 : List Cond := [Cond.selects RX0 yX0_openPlace yX0_openPlace, Cond.code yX0_openPlace cX0_openPlace 3 none, Cond.methodLink RX0 181 yX0_growIfFull, Cond.instanceMethod yX0_growIfFull, Cond.selects RX0 yX0_growIfFull yX0_growIfFull, Cond.code yX0_growIfFull cX0_growIfFull 2 none, Cond.methodLink RX0 184 yJ7_copyOf_c38d5, Cond.static yJ7_copyOf_c38d5, Cond.initialized RJ7, Cond.code yJ7_copyOf_c38d5 cJ7_copyOf_c38d5 3 (some (.array .long)), Cond.methodLink RJ7 319 ⟨"[J", "clone", "()Ljava/lang/Object;"⟩, Cond.sameMethod "[J" "java/lang/Object" "clone" "()Ljava/lang/Object;", Cond.native ⟨"java/lang/Object", "clone", "()Ljava/lang/Object;"⟩, Cond.instanceMethod ⟨"java/lang/Object", "clone", "()Ljava/lang/Object;"⟩, Cond.selects "[J" ⟨"[J", "clone", "()Ljava/lang/Object;"⟩ ⟨"java/lang/Object", "clone", "()Ljava/lang/Object;"⟩, Cond.classLink RJ7 320 "[J", Cond.arrayClass .long, Cond.methodLink RJ7 304 Lib.Math.min.name, Cond.static Lib.Math.min.name, Cond.initialized "java/lang/Math", Cond.code Lib.Math.min.name Lib.Math.min.code 2 (some .int), Cond.methodLink RJ7 150 arraycopyName, Cond.native arraycopyName, Cond.static arraycopyName]
def wsX0_put_r4 : List Cond := [Cond.initialized "java/lang/System", Cond.methodLink RX0 190 yJ7_copyOf_59c91, Cond.static yJ7_copyOf_59c91, Cond.code yJ7_copyOf_59c91 cJ7_copyOf_59c91 3 (some (.array .int)), Cond.methodLink RJ7 316 ⟨"[I", "clone", "()Ljava/lang/Object;"⟩, Cond.sameMethod "[I" "java/lang/Object" "clone" "()Ljava/lang/Object;", Cond.selects "[I" ⟨"[I", "clone", "()Ljava/lang/Object;"⟩ ⟨"java/lang/Object", "clone", "()Ljava/lang/Object;"⟩, Cond.classLink RJ7 317 "[I", Cond.arrayClass .int, Cond.methodLink RX0 73 yX0_copy, Cond.instanceMethod yX0_copy, Cond.selects RX0 yX0_copy yX0_copy, Cond.code yX0_copy cX0_copy 3 none, Cond.methodLink RX0 87 yX0_costAt, Cond.instanceMethod yX0_costAt, Cond.selects RX0 yX0_costAt yX0_costAt, Cond.code yX0_costAt cX0_costAt 2 (some .int), Cond.methodLink RX0 84 yX0_hopsAt, Cond.instanceMethod yX0_hopsAt, Cond.selects RX0 yX0_hopsAt yX0_hopsAt, Cond.code yX0_hopsAt cX0_hopsAt 2 (some .long), Cond.methodLink RX0 58 yX0_write, Cond.instanceMethod yX0_write, Cond.selects RX0 yX0_write yX0_write]
def wsX0_put_r5 : List Cond := [Cond.code yX0_write cX0_write 7 none]
def wsX0_put : List Cond := .code yX0_put cX0_put 10 (some .int) :: ((wsX0_put_r1 ++ (wsX0_put_r2 ++ (wsX0_put_r3 ++ (wsX0_put_r4 ++ wsX0_put_r5)))) ++ wsX00 ++ (vx_atS RX0 120 "java/lang/IllegalArgumentException" ["java/lang/RuntimeException", "java/lang/Exception"]).filter goodWord ++ (vx_atS RX0 162 "java/lang/IllegalStateException" ["java/lang/RuntimeException", "java/lang/Exception"]).filter goodWord)
def wsX0_placeOfRoute : List Cond := .code yX0_placeOfRoute cX0_placeOfRoute 7 (some .int) :: ([.methodLink RX0 40 yX0_routeKey, .static yX0_routeKey, .initialized RX0, .code yX0_routeKey cX0_routeKey 3 (some .long), .methodLink RX0 44 yX0_firstFrom, .instanceMethod yX0_firstFrom, .selects RX0 yX0_firstFrom yX0_firstFrom, .code yX0_firstFrom cX0_firstFrom 7 (some .int), .fieldLink RX0 20 "PrefixBench" "count" "I", .methodLink RX0 48 yX0_keyAt, .instanceMethod yX0_keyAt, .selects RX0 yX0_keyAt yX0_keyAt, .code yX0_keyAt cX0_keyAt 2 (some .long), .fieldLink RX0 9 "PrefixBench" "keys" "[J", .constantLong RX0 82 (-1), .methodLink RX0 176 yX0_isPlace, .instanceMethod yX0_isPlace, .selects RX0 yX0_isPlace yX0_isPlace, .code yX0_isPlace cX0_isPlace 2 (some .boolean), .fieldLink RX0 13 "PrefixBench" "costs" "[I", .fieldLink RX0 17 "PrefixBench" "hopSets" "[J"] ++ wsX00)
def wsX0_closePlace_r1 : List Cond := [Cond.fieldLink RX0 20 "PrefixBench" "count" "I", Cond.methodLink RX0 73 yX0_copy, Cond.instanceMethod yX0_copy, Cond.selects RX0 yX0_copy yX0_copy, Cond.initialized RX0, Cond.code yX0_copy cX0_copy 3 none, Cond.methodLink RX0 48 yX0_keyAt, Cond.instanceMethod yX0_keyAt, Cond.selects RX0 yX0_keyAt yX0_keyAt, Cond.code yX0_keyAt cX0_keyAt 2 (some .long), Cond.fieldLink RX0 9 "PrefixBench" "keys" "[J", Cond.constantLong RX0 82 (-1), Cond.methodLink RX0 176 yX0_isPlace, Cond.instanceMethod yX0_isPlace, Cond.selects RX0 yX0_isPlace yX0_isPlace, Cond.code yX0_isPlace cX0_isPlace 2 (some .boolean), Cond.fieldLink RX0 13 "PrefixBench" "costs" "[I", Cond.fieldLink RX0 17 "PrefixBench" "hopSets" "[J", Cond.methodLink RX0 87 yX0_costAt, Cond.instanceMethod yX0_costAt, Cond.selects RX0 yX0_costAt yX0_costAt, Cond.code yX0_costAt cX0_costAt 2 (some .int), Cond.methodLink RX0 84 yX0_hopsAt, Cond.instanceMethod yX0_hopsAt]
def wsX0_closePlace_r2 : List Cond := [Cond.selects RX0 yX0_hopsAt yX0_hopsAt, Cond.code yX0_hopsAt cX0_hopsAt 2 (some .long), Cond.methodLink RX0 58 yX0_write, Cond.instanceMethod yX0_write, Cond.selects RX0 yX0_write yX0_write, Cond.code yX0_write cX0_write 7 none]
def wsX0_closePlace : List Cond := .code yX0_closePlace cX0_closePlace 3 none :: ((wsX0_closePlace_r1 ++ wsX0_closePlace_r2) ++ wsX00)
def wsX0_take_r1 : List Cond := [Cond.methodLink RX0 24 yX0_checkPrefix, Cond.static yX0_checkPrefix, Cond.initialized RX0, Cond.code yX0_checkPrefix cX0_checkPrefix 2 none, Cond.classLink RX0 116 "java/lang/IllegalArgumentException", Cond.initialized "java/lang/IllegalArgumentException", Cond.methodLink RX0 129 yX0_mask, Cond.static yX0_mask, Cond.code yX0_mask cX0_mask 1 (some .int), Cond.methodLink RX0 28 yX0_checkOrigin, Cond.static yX0_checkOrigin, Cond.code yX0_checkOrigin cX0_checkOrigin 1 none, Cond.methodLink RX0 36 yX0_prefixOf, Cond.static yX0_prefixOf, Cond.code yX0_prefixOf cX0_prefixOf 2 (some .long), Cond.constantLong RX0 111 (4294967295), Cond.methodLink RX0 62 yX0_placeOfRoute, Cond.instanceMethod yX0_placeOfRoute, Cond.selects RX0 yX0_placeOfRoute yX0_placeOfRoute, Cond.code yX0_placeOfRoute cX0_placeOfRoute 7 (some .int), Cond.methodLink RX0 40 yX0_routeKey, Cond.static yX0_routeKey, Cond.code yX0_routeKey cX0_routeKey 3 (some .long), Cond.methodLink RX0 44 yX0_firstFrom]
def wsX0_take_r2 : List Cond := [Cond.instanceMethod yX0_firstFrom, Cond.selects RX0 yX0_firstFrom yX0_firstFrom, Cond.code yX0_firstFrom cX0_firstFrom 7 (some .int), Cond.fieldLink RX0 20 "PrefixBench" "count" "I", Cond.methodLink RX0 48 yX0_keyAt, Cond.instanceMethod yX0_keyAt, Cond.selects RX0 yX0_keyAt yX0_keyAt, Cond.code yX0_keyAt cX0_keyAt 2 (some .long), Cond.fieldLink RX0 9 "PrefixBench" "keys" "[J", Cond.constantLong RX0 82 (-1), Cond.methodLink RX0 176 yX0_isPlace, Cond.instanceMethod yX0_isPlace, Cond.selects RX0 yX0_isPlace yX0_isPlace, Cond.code yX0_isPlace cX0_isPlace 2 (some .boolean), Cond.fieldLink RX0 13 "PrefixBench" "costs" "[I", Cond.fieldLink RX0 17 "PrefixBench" "hopSets" "[J", Cond.methodLink RX0 66 yX0_closePlace, Cond.instanceMethod yX0_closePlace, Cond.selects RX0 yX0_closePlace yX0_closePlace, Cond.code yX0_closePlace cX0_closePlace 3 none, Cond.methodLink RX0 73 yX0_copy, Cond.instanceMethod yX0_copy, Cond.selects RX0 yX0_copy yX0_copy, Cond.code yX0_copy cX0_copy 3 none]
def wsX0_take_r3 : List Cond := [Cond.methodLink RX0 87 yX0_costAt, Cond.instanceMethod yX0_costAt, Cond.selects RX0 yX0_costAt yX0_costAt, Cond.code yX0_costAt cX0_costAt 2 (some .int), Cond.methodLink RX0 84 yX0_hopsAt, Cond.instanceMethod yX0_hopsAt, Cond.selects RX0 yX0_hopsAt yX0_hopsAt, Cond.code yX0_hopsAt cX0_hopsAt 2 (some .long), Cond.methodLink RX0 58 yX0_write, Cond.instanceMethod yX0_write, Cond.selects RX0 yX0_write yX0_write, Cond.code yX0_write cX0_write 7 none]
def wsX0_take : List Cond := .code yX0_take cX0_take 5 (some .boolean) :: ((wsX0_take_r1 ++ (wsX0_take_r2 ++ wsX0_take_r3)) ++ wsX00 ++ (vx_atS RX0 120 "java/lang/IllegalArgumentException" ["java/lang/RuntimeException", "java/lang/Exception"]).filter goodWord)
def wsX0_originAt : List Cond := .code yX0_originAt cX0_originAt 2 (some .int) :: ([.constantLong RX0 179 (7), .methodLink RX0 176 yX0_isPlace, .instanceMethod yX0_isPlace, .selects RX0 yX0_isPlace yX0_isPlace, .initialized RX0, .code yX0_isPlace cX0_isPlace 2 (some .boolean), .fieldLink RX0 20 "PrefixBench" "count" "I", .fieldLink RX0 9 "PrefixBench" "keys" "[J", .fieldLink RX0 13 "PrefixBench" "costs" "[I", .fieldLink RX0 17 "PrefixBench" "hopSets" "[J", .methodLink RX0 48 yX0_keyAt, .instanceMethod yX0_keyAt, .selects RX0 yX0_keyAt yX0_keyAt, .code yX0_keyAt cX0_keyAt 2 (some .long), .constantLong RX0 82 (-1)] ++ wsX00)
def wsX0_keepFirst : List Cond := .code yX0_keepFirst cX0_keepFirst 3 (some .int) :: ([.fieldLink RX0 20 "PrefixBench" "count" "I"] ++ wsX00)
def wsX0_drop_r1 : List Cond := [Cond.fieldLink RX0 20 "PrefixBench" "count" "I", Cond.methodLink RX0 28 yX0_checkOrigin, Cond.static yX0_checkOrigin, Cond.initialized RX0, Cond.code yX0_checkOrigin cX0_checkOrigin 1 none, Cond.classLink RX0 116 "java/lang/IllegalArgumentException", Cond.initialized "java/lang/IllegalArgumentException", Cond.methodLink RX0 69 yX0_originAt, Cond.instanceMethod yX0_originAt, Cond.selects RX0 yX0_originAt yX0_originAt, Cond.code yX0_originAt cX0_originAt 2 (some .int), Cond.constantLong RX0 179 (7), Cond.methodLink RX0 176 yX0_isPlace, Cond.instanceMethod yX0_isPlace, Cond.selects RX0 yX0_isPlace yX0_isPlace, Cond.code yX0_isPlace cX0_isPlace 2 (some .boolean), Cond.fieldLink RX0 9 "PrefixBench" "keys" "[J", Cond.fieldLink RX0 13 "PrefixBench" "costs" "[I", Cond.fieldLink RX0 17 "PrefixBench" "hopSets" "[J", Cond.methodLink RX0 48 yX0_keyAt, Cond.instanceMethod yX0_keyAt, Cond.selects RX0 yX0_keyAt yX0_keyAt, Cond.code yX0_keyAt cX0_keyAt 2 (some .long), Cond.constantLong RX0 82 (-1)]
def wsX0_drop_r2 : List Cond := [Cond.methodLink RX0 73 yX0_copy, Cond.instanceMethod yX0_copy, Cond.selects RX0 yX0_copy yX0_copy, Cond.code yX0_copy cX0_copy 3 none, Cond.methodLink RX0 87 yX0_costAt, Cond.instanceMethod yX0_costAt, Cond.selects RX0 yX0_costAt yX0_costAt, Cond.code yX0_costAt cX0_costAt 2 (some .int), Cond.methodLink RX0 84 yX0_hopsAt, Cond.instanceMethod yX0_hopsAt, Cond.selects RX0 yX0_hopsAt yX0_hopsAt, Cond.code yX0_hopsAt cX0_hopsAt 2 (some .long), Cond.methodLink RX0 58 yX0_write, Cond.instanceMethod yX0_write, Cond.selects RX0 yX0_write yX0_write, Cond.code yX0_write cX0_write 7 none, Cond.methodLink RX0 76 yX0_keepFirst, Cond.instanceMethod yX0_keepFirst, Cond.selects RX0 yX0_keepFirst yX0_keepFirst, Cond.code yX0_keepFirst cX0_keepFirst 3 (some .int)]
def wsX0_drop : List Cond := .code yX0_drop cX0_drop 4 (some .int) :: ((wsX0_drop_r1 ++ wsX0_drop_r2) ++ wsX00 ++ (vx_atS RX0 120 "java/lang/IllegalArgumentException" ["java/lang/RuntimeException", "java/lang/Exception"]).filter goodWord)
def wsX0_checkHop : List Cond := .code yX0_checkHop cX0_checkHop 1 none :: ([.classLink RX0 116 "java/lang/IllegalArgumentException", .initialized "java/lang/IllegalArgumentException"] ++ (vx_atS RX0 120 "java/lang/IllegalArgumentException" ["java/lang/RuntimeException", "java/lang/Exception"]).filter goodWord)
def wsX0_cut_r1 : List Cond := [Cond.constantLong RX0 82 (-1), Cond.fieldLink RX0 20 "PrefixBench" "count" "I", Cond.methodLink RX0 79 yX0_checkHop, Cond.static yX0_checkHop, Cond.initialized RX0, Cond.code yX0_checkHop cX0_checkHop 1 none, Cond.classLink RX0 116 "java/lang/IllegalArgumentException", Cond.initialized "java/lang/IllegalArgumentException", Cond.methodLink RX0 84 yX0_hopsAt, Cond.instanceMethod yX0_hopsAt, Cond.selects RX0 yX0_hopsAt yX0_hopsAt, Cond.code yX0_hopsAt cX0_hopsAt 2 (some .long), Cond.fieldLink RX0 17 "PrefixBench" "hopSets" "[J", Cond.methodLink RX0 176 yX0_isPlace, Cond.instanceMethod yX0_isPlace, Cond.selects RX0 yX0_isPlace yX0_isPlace, Cond.code yX0_isPlace cX0_isPlace 2 (some .boolean), Cond.fieldLink RX0 9 "PrefixBench" "keys" "[J", Cond.fieldLink RX0 13 "PrefixBench" "costs" "[I", Cond.methodLink RX0 48 yX0_keyAt, Cond.instanceMethod yX0_keyAt, Cond.selects RX0 yX0_keyAt yX0_keyAt, Cond.code yX0_keyAt cX0_keyAt 2 (some .long), Cond.methodLink RX0 87 yX0_costAt]
def wsX0_cut_r2 : List Cond := [Cond.instanceMethod yX0_costAt, Cond.selects RX0 yX0_costAt yX0_costAt, Cond.code yX0_costAt cX0_costAt 2 (some .int), Cond.methodLink RX0 58 yX0_write, Cond.instanceMethod yX0_write, Cond.selects RX0 yX0_write yX0_write, Cond.code yX0_write cX0_write 7 none, Cond.methodLink RX0 76 yX0_keepFirst, Cond.instanceMethod yX0_keepFirst, Cond.selects RX0 yX0_keepFirst yX0_keepFirst, Cond.code yX0_keepFirst cX0_keepFirst 3 (some .int)]
def wsX0_cut : List Cond := .code yX0_cut cX0_cut 8 (some .int) :: ((wsX0_cut_r1 ++ wsX0_cut_r2) ++ wsX00 ++ (vx_atS RX0 120 "java/lang/IllegalArgumentException" ["java/lang/RuntimeException", "java/lang/Exception"]).filter goodWord)
def wsX0_checkWhat : List Cond := .code yX0_checkWhat cX0_checkWhat 1 none :: ([.classLink RX0 116 "java/lang/IllegalArgumentException", .initialized "java/lang/IllegalArgumentException"] ++ (vx_atS RX0 120 "java/lang/IllegalArgumentException" ["java/lang/RuntimeException", "java/lang/Exception"]).filter goodWord)
def wsX0_firstOfPrefix : List Cond := .code yX0_firstOfPrefix cX0_firstOfPrefix 3 (some .int) :: ([.methodLink RX0 40 yX0_routeKey, .static yX0_routeKey, .initialized RX0, .code yX0_routeKey cX0_routeKey 3 (some .long), .methodLink RX0 44 yX0_firstFrom, .instanceMethod yX0_firstFrom, .selects RX0 yX0_firstFrom yX0_firstFrom, .code yX0_firstFrom cX0_firstFrom 7 (some .int), .fieldLink RX0 20 "PrefixBench" "count" "I", .methodLink RX0 48 yX0_keyAt, .instanceMethod yX0_keyAt, .selects RX0 yX0_keyAt yX0_keyAt, .code yX0_keyAt cX0_keyAt 2 (some .long), .fieldLink RX0 9 "PrefixBench" "keys" "[J", .constantLong RX0 82 (-1), .methodLink RX0 176 yX0_isPlace, .instanceMethod yX0_isPlace, .selects RX0 yX0_isPlace yX0_isPlace, .code yX0_isPlace cX0_isPlace 2 (some .boolean), .fieldLink RX0 13 "PrefixBench" "costs" "[I", .fieldLink RX0 17 "PrefixBench" "hopSets" "[J"] ++ wsX00)
def wsX0_prefixAt : List Cond := .code yX0_prefixAt cX0_prefixAt 2 (some .long) :: ([.methodLink RX0 48 yX0_keyAt, .instanceMethod yX0_keyAt, .selects RX0 yX0_keyAt yX0_keyAt, .initialized RX0, .code yX0_keyAt cX0_keyAt 2 (some .long), .fieldLink RX0 9 "PrefixBench" "keys" "[J", .constantLong RX0 82 (-1), .methodLink RX0 176 yX0_isPlace, .instanceMethod yX0_isPlace, .selects RX0 yX0_isPlace yX0_isPlace, .code yX0_isPlace cX0_isPlace 2 (some .boolean), .fieldLink RX0 20 "PrefixBench" "count" "I", .fieldLink RX0 13 "PrefixBench" "costs" "[I", .fieldLink RX0 17 "PrefixBench" "hopSets" "[J"] ++ wsX00)
def wsX0_placeOfBest_r1 : List Cond := [Cond.methodLink RX0 123 yX0_firstOfPrefix, Cond.instanceMethod yX0_firstOfPrefix, Cond.selects RX0 yX0_firstOfPrefix yX0_firstOfPrefix, Cond.initialized RX0, Cond.code yX0_firstOfPrefix cX0_firstOfPrefix 3 (some .int), Cond.methodLink RX0 40 yX0_routeKey, Cond.static yX0_routeKey, Cond.code yX0_routeKey cX0_routeKey 3 (some .long), Cond.methodLink RX0 44 yX0_firstFrom, Cond.instanceMethod yX0_firstFrom, Cond.selects RX0 yX0_firstFrom yX0_firstFrom, Cond.code yX0_firstFrom cX0_firstFrom 7 (some .int), Cond.fieldLink RX0 20 "PrefixBench" "count" "I", Cond.methodLink RX0 48 yX0_keyAt, Cond.instanceMethod yX0_keyAt, Cond.selects RX0 yX0_keyAt yX0_keyAt, Cond.code yX0_keyAt cX0_keyAt 2 (some .long), Cond.fieldLink RX0 9 "PrefixBench" "keys" "[J", Cond.constantLong RX0 82 (-1), Cond.methodLink RX0 176 yX0_isPlace, Cond.instanceMethod yX0_isPlace, Cond.selects RX0 yX0_isPlace yX0_isPlace, Cond.code yX0_isPlace cX0_isPlace 2 (some .boolean), Cond.fieldLink RX0 13 "PrefixBench" "costs" "[I"]
def wsX0_placeOfBest_r2 : List Cond := [Cond.fieldLink RX0 17 "PrefixBench" "hopSets" "[J", Cond.methodLink RX0 126 yX0_prefixAt, Cond.instanceMethod yX0_prefixAt, Cond.selects RX0 yX0_prefixAt yX0_prefixAt, Cond.code yX0_prefixAt cX0_prefixAt 2 (some .long)]
def wsX0_placeOfBest : List Cond := .code yX0_placeOfBest cX0_placeOfBest 4 (some .int) :: ((wsX0_placeOfBest_r1 ++ wsX0_placeOfBest_r2) ++ wsX00)
def wsJ13_bitCount_95d88 : List Cond := .code yJ13_bitCount_95d88 cJ13_bitCount_95d88 2 (some .int) :: ([.constantLong RJ13 314 (6148914691236517205), .constantLong RJ13 316 (3689348814741910323), .constantLong RJ13 318 (1085102592571150095)])
def wsX0_tell_r1 : List Cond := [Cond.methodLink RX0 87 yX0_costAt, Cond.instanceMethod yX0_costAt, Cond.selects RX0 yX0_costAt yX0_costAt, Cond.initialized RX0, Cond.code yX0_costAt cX0_costAt 2 (some .int), Cond.fieldLink RX0 13 "PrefixBench" "costs" "[I", Cond.methodLink RX0 176 yX0_isPlace, Cond.instanceMethod yX0_isPlace, Cond.selects RX0 yX0_isPlace yX0_isPlace, Cond.code yX0_isPlace cX0_isPlace 2 (some .boolean), Cond.fieldLink RX0 20 "PrefixBench" "count" "I", Cond.fieldLink RX0 9 "PrefixBench" "keys" "[J", Cond.fieldLink RX0 17 "PrefixBench" "hopSets" "[J", Cond.methodLink RX0 69 yX0_originAt, Cond.instanceMethod yX0_originAt, Cond.selects RX0 yX0_originAt yX0_originAt, Cond.code yX0_originAt cX0_originAt 2 (some .int), Cond.constantLong RX0 179 (7), Cond.methodLink RX0 48 yX0_keyAt, Cond.instanceMethod yX0_keyAt, Cond.selects RX0 yX0_keyAt yX0_keyAt, Cond.code yX0_keyAt cX0_keyAt 2 (some .long), Cond.constantLong RX0 82 (-1), Cond.methodLink RX0 84 yX0_hopsAt]
def wsX0_tell_r2 : List Cond := [Cond.instanceMethod yX0_hopsAt, Cond.selects RX0 yX0_hopsAt yX0_hopsAt, Cond.code yX0_hopsAt cX0_hopsAt 2 (some .long), Cond.methodLink RX0 106 yJ13_bitCount_95d88, Cond.static yJ13_bitCount_95d88, Cond.initialized RJ13, Cond.code yJ13_bitCount_95d88 cJ13_bitCount_95d88 2 (some .int), Cond.constantLong RJ13 314 (6148914691236517205), Cond.constantLong RJ13 316 (3689348814741910323), Cond.constantLong RJ13 318 (1085102592571150095)]
def wsX0_tell : List Cond := .code yX0_tell cX0_tell 3 (some .int) :: ((wsX0_tell_r1 ++ wsX0_tell_r2) ++ wsX00)
def wsX0_route_r1 : List Cond := [Cond.methodLink RX0 24 yX0_checkPrefix, Cond.static yX0_checkPrefix, Cond.initialized RX0, Cond.code yX0_checkPrefix cX0_checkPrefix 2 none, Cond.classLink RX0 116 "java/lang/IllegalArgumentException", Cond.initialized "java/lang/IllegalArgumentException", Cond.methodLink RX0 129 yX0_mask, Cond.static yX0_mask, Cond.code yX0_mask cX0_mask 1 (some .int), Cond.methodLink RX0 28 yX0_checkOrigin, Cond.static yX0_checkOrigin, Cond.code yX0_checkOrigin cX0_checkOrigin 1 none, Cond.methodLink RX0 90 yX0_checkWhat, Cond.static yX0_checkWhat, Cond.code yX0_checkWhat cX0_checkWhat 1 none, Cond.methodLink RX0 36 yX0_prefixOf, Cond.static yX0_prefixOf, Cond.code yX0_prefixOf cX0_prefixOf 2 (some .long), Cond.constantLong RX0 111 (4294967295), Cond.methodLink RX0 93 yX0_placeOfBest, Cond.instanceMethod yX0_placeOfBest, Cond.selects RX0 yX0_placeOfBest yX0_placeOfBest, Cond.code yX0_placeOfBest cX0_placeOfBest 4 (some .int), Cond.methodLink RX0 123 yX0_firstOfPrefix]
def wsX0_route_r2 : List Cond := [Cond.instanceMethod yX0_firstOfPrefix, Cond.selects RX0 yX0_firstOfPrefix yX0_firstOfPrefix, Cond.code yX0_firstOfPrefix cX0_firstOfPrefix 3 (some .int), Cond.methodLink RX0 40 yX0_routeKey, Cond.static yX0_routeKey, Cond.code yX0_routeKey cX0_routeKey 3 (some .long), Cond.methodLink RX0 44 yX0_firstFrom, Cond.instanceMethod yX0_firstFrom, Cond.selects RX0 yX0_firstFrom yX0_firstFrom, Cond.code yX0_firstFrom cX0_firstFrom 7 (some .int), Cond.fieldLink RX0 20 "PrefixBench" "count" "I", Cond.methodLink RX0 48 yX0_keyAt, Cond.instanceMethod yX0_keyAt, Cond.selects RX0 yX0_keyAt yX0_keyAt, Cond.code yX0_keyAt cX0_keyAt 2 (some .long), Cond.fieldLink RX0 9 "PrefixBench" "keys" "[J", Cond.constantLong RX0 82 (-1), Cond.methodLink RX0 176 yX0_isPlace, Cond.instanceMethod yX0_isPlace, Cond.selects RX0 yX0_isPlace yX0_isPlace, Cond.code yX0_isPlace cX0_isPlace 2 (some .boolean), Cond.fieldLink RX0 13 "PrefixBench" "costs" "[I", Cond.fieldLink RX0 17 "PrefixBench" "hopSets" "[J", Cond.methodLink RX0 126 yX0_prefixAt]
def wsX0_route_r3 : List Cond := [Cond.instanceMethod yX0_prefixAt, Cond.selects RX0 yX0_prefixAt yX0_prefixAt, Cond.code yX0_prefixAt cX0_prefixAt 2 (some .long), Cond.methodLink RX0 62 yX0_placeOfRoute, Cond.instanceMethod yX0_placeOfRoute, Cond.selects RX0 yX0_placeOfRoute yX0_placeOfRoute, Cond.code yX0_placeOfRoute cX0_placeOfRoute 7 (some .int), Cond.methodLink RX0 96 yX0_tell, Cond.instanceMethod yX0_tell, Cond.selects RX0 yX0_tell yX0_tell, Cond.code yX0_tell cX0_tell 3 (some .int), Cond.methodLink RX0 87 yX0_costAt, Cond.instanceMethod yX0_costAt, Cond.selects RX0 yX0_costAt yX0_costAt, Cond.code yX0_costAt cX0_costAt 2 (some .int), Cond.methodLink RX0 69 yX0_originAt, Cond.instanceMethod yX0_originAt, Cond.selects RX0 yX0_originAt yX0_originAt, Cond.code yX0_originAt cX0_originAt 2 (some .int), Cond.constantLong RX0 179 (7), Cond.methodLink RX0 84 yX0_hopsAt, Cond.instanceMethod yX0_hopsAt, Cond.selects RX0 yX0_hopsAt yX0_hopsAt, Cond.code yX0_hopsAt cX0_hopsAt 2 (some .long)]
def wsX0_route_r4 : List Cond := [Cond.methodLink RX0 106 yJ13_bitCount_95d88, Cond.static yJ13_bitCount_95d88, Cond.initialized RJ13, Cond.code yJ13_bitCount_95d88 cJ13_bitCount_95d88 2 (some .int), Cond.constantLong RJ13 314 (6148914691236517205), Cond.constantLong RJ13 316 (3689348814741910323), Cond.constantLong RJ13 318 (1085102592571150095)]
def wsX0_route : List Cond := .code yX0_route cX0_route 8 (some .int) :: ((wsX0_route_r1 ++ (wsX0_route_r2 ++ (wsX0_route_r3 ++ wsX0_route_r4))) ++ wsX00 ++ (vx_atS RX0 120 "java/lang/IllegalArgumentException" ["java/lang/RuntimeException", "java/lang/Exception"]).filter goodWord)
def wsX0_placeOfLongest_r1 : List Cond := [Cond.methodLink RX0 129 yX0_mask, Cond.static yX0_mask, Cond.initialized RX0, Cond.code yX0_mask cX0_mask 1 (some .int), Cond.methodLink RX0 36 yX0_prefixOf, Cond.static yX0_prefixOf, Cond.code yX0_prefixOf cX0_prefixOf 2 (some .long), Cond.constantLong RX0 111 (4294967295), Cond.methodLink RX0 93 yX0_placeOfBest, Cond.instanceMethod yX0_placeOfBest, Cond.selects RX0 yX0_placeOfBest yX0_placeOfBest, Cond.code yX0_placeOfBest cX0_placeOfBest 4 (some .int), Cond.methodLink RX0 123 yX0_firstOfPrefix, Cond.instanceMethod yX0_firstOfPrefix, Cond.selects RX0 yX0_firstOfPrefix yX0_firstOfPrefix, Cond.code yX0_firstOfPrefix cX0_firstOfPrefix 3 (some .int), Cond.methodLink RX0 40 yX0_routeKey, Cond.static yX0_routeKey, Cond.code yX0_routeKey cX0_routeKey 3 (some .long), Cond.methodLink RX0 44 yX0_firstFrom, Cond.instanceMethod yX0_firstFrom, Cond.selects RX0 yX0_firstFrom yX0_firstFrom, Cond.code yX0_firstFrom cX0_firstFrom 7 (some .int), Cond.fieldLink RX0 20 "PrefixBench" "count" "I"]
def wsX0_placeOfLongest_r2 : List Cond := [Cond.methodLink RX0 48 yX0_keyAt, Cond.instanceMethod yX0_keyAt, Cond.selects RX0 yX0_keyAt yX0_keyAt, Cond.code yX0_keyAt cX0_keyAt 2 (some .long), Cond.fieldLink RX0 9 "PrefixBench" "keys" "[J", Cond.constantLong RX0 82 (-1), Cond.methodLink RX0 176 yX0_isPlace, Cond.instanceMethod yX0_isPlace, Cond.selects RX0 yX0_isPlace yX0_isPlace, Cond.code yX0_isPlace cX0_isPlace 2 (some .boolean), Cond.fieldLink RX0 13 "PrefixBench" "costs" "[I", Cond.fieldLink RX0 17 "PrefixBench" "hopSets" "[J", Cond.methodLink RX0 126 yX0_prefixAt, Cond.instanceMethod yX0_prefixAt, Cond.selects RX0 yX0_prefixAt yX0_prefixAt, Cond.code yX0_prefixAt cX0_prefixAt 2 (some .long)]
def wsX0_placeOfLongest : List Cond := .code yX0_placeOfLongest cX0_placeOfLongest 5 (some .int) :: ((wsX0_placeOfLongest_r1 ++ wsX0_placeOfLongest_r2) ++ wsX00)
def wsX0_lengthOf : List Cond := .code yX0_lengthOf cX0_lengthOf 2 (some .int) :: ([.constantLong RX0 163 (63)])
def wsX0_lengthAt : List Cond := .code yX0_lengthAt cX0_lengthAt 2 (some .int) :: ([.methodLink RX0 176 yX0_isPlace, .instanceMethod yX0_isPlace, .selects RX0 yX0_isPlace yX0_isPlace, .initialized RX0, .code yX0_isPlace cX0_isPlace 2 (some .boolean), .fieldLink RX0 20 "PrefixBench" "count" "I", .fieldLink RX0 9 "PrefixBench" "keys" "[J", .fieldLink RX0 13 "PrefixBench" "costs" "[I", .fieldLink RX0 17 "PrefixBench" "hopSets" "[J", .methodLink RX0 126 yX0_prefixAt, .instanceMethod yX0_prefixAt, .selects RX0 yX0_prefixAt yX0_prefixAt, .code yX0_prefixAt cX0_prefixAt 2 (some .long), .methodLink RX0 48 yX0_keyAt, .instanceMethod yX0_keyAt, .selects RX0 yX0_keyAt yX0_keyAt, .code yX0_keyAt cX0_keyAt 2 (some .long), .constantLong RX0 82 (-1), .methodLink RX0 173 yX0_lengthOf, .static yX0_lengthOf, .code yX0_lengthOf cX0_lengthOf 2 (some .int), .constantLong RX0 163 (63)] ++ wsX00)
def wsX0_look_r1 : List Cond := [Cond.methodLink RX0 100 yX0_placeOfLongest, Cond.instanceMethod yX0_placeOfLongest, Cond.selects RX0 yX0_placeOfLongest yX0_placeOfLongest, Cond.initialized RX0, Cond.code yX0_placeOfLongest cX0_placeOfLongest 5 (some .int), Cond.methodLink RX0 129 yX0_mask, Cond.static yX0_mask, Cond.code yX0_mask cX0_mask 1 (some .int), Cond.methodLink RX0 36 yX0_prefixOf, Cond.static yX0_prefixOf, Cond.code yX0_prefixOf cX0_prefixOf 2 (some .long), Cond.constantLong RX0 111 (4294967295), Cond.methodLink RX0 93 yX0_placeOfBest, Cond.instanceMethod yX0_placeOfBest, Cond.selects RX0 yX0_placeOfBest yX0_placeOfBest, Cond.code yX0_placeOfBest cX0_placeOfBest 4 (some .int), Cond.methodLink RX0 123 yX0_firstOfPrefix, Cond.instanceMethod yX0_firstOfPrefix, Cond.selects RX0 yX0_firstOfPrefix yX0_firstOfPrefix, Cond.code yX0_firstOfPrefix cX0_firstOfPrefix 3 (some .int), Cond.methodLink RX0 40 yX0_routeKey, Cond.static yX0_routeKey, Cond.code yX0_routeKey cX0_routeKey 3 (some .long), Cond.methodLink RX0 44 yX0_firstFrom]
def wsX0_look_r2 : List Cond := [Cond.instanceMethod yX0_firstFrom, Cond.selects RX0 yX0_firstFrom yX0_firstFrom, Cond.code yX0_firstFrom cX0_firstFrom 7 (some .int), Cond.fieldLink RX0 20 "PrefixBench" "count" "I", Cond.methodLink RX0 48 yX0_keyAt, Cond.instanceMethod yX0_keyAt, Cond.selects RX0 yX0_keyAt yX0_keyAt, Cond.code yX0_keyAt cX0_keyAt 2 (some .long), Cond.fieldLink RX0 9 "PrefixBench" "keys" "[J", Cond.constantLong RX0 82 (-1), Cond.methodLink RX0 176 yX0_isPlace, Cond.instanceMethod yX0_isPlace, Cond.selects RX0 yX0_isPlace yX0_isPlace, Cond.code yX0_isPlace cX0_isPlace 2 (some .boolean), Cond.fieldLink RX0 13 "PrefixBench" "costs" "[I", Cond.fieldLink RX0 17 "PrefixBench" "hopSets" "[J", Cond.methodLink RX0 126 yX0_prefixAt, Cond.instanceMethod yX0_prefixAt, Cond.selects RX0 yX0_prefixAt yX0_prefixAt, Cond.code yX0_prefixAt cX0_prefixAt 2 (some .long), Cond.methodLink RX0 103 yX0_lengthAt, Cond.instanceMethod yX0_lengthAt, Cond.selects RX0 yX0_lengthAt yX0_lengthAt, Cond.code yX0_lengthAt cX0_lengthAt 2 (some .int)]
def wsX0_look_r3 : List Cond := [Cond.methodLink RX0 173 yX0_lengthOf, Cond.static yX0_lengthOf, Cond.code yX0_lengthOf cX0_lengthOf 2 (some .int), Cond.constantLong RX0 163 (63)]
def wsX0_look : List Cond := .code yX0_look cX0_look 2 (some .int) :: ((wsX0_look_r1 ++ (wsX0_look_r2 ++ wsX0_look_r3)) ++ wsX00)
def wsX0_hops_r1 : List Cond := [Cond.methodLink RX0 100 yX0_placeOfLongest, Cond.instanceMethod yX0_placeOfLongest, Cond.selects RX0 yX0_placeOfLongest yX0_placeOfLongest, Cond.initialized RX0, Cond.code yX0_placeOfLongest cX0_placeOfLongest 5 (some .int), Cond.methodLink RX0 129 yX0_mask, Cond.static yX0_mask, Cond.code yX0_mask cX0_mask 1 (some .int), Cond.methodLink RX0 36 yX0_prefixOf, Cond.static yX0_prefixOf, Cond.code yX0_prefixOf cX0_prefixOf 2 (some .long), Cond.constantLong RX0 111 (4294967295), Cond.methodLink RX0 93 yX0_placeOfBest, Cond.instanceMethod yX0_placeOfBest, Cond.selects RX0 yX0_placeOfBest yX0_placeOfBest, Cond.code yX0_placeOfBest cX0_placeOfBest 4 (some .int), Cond.methodLink RX0 123 yX0_firstOfPrefix, Cond.instanceMethod yX0_firstOfPrefix, Cond.selects RX0 yX0_firstOfPrefix yX0_firstOfPrefix, Cond.code yX0_firstOfPrefix cX0_firstOfPrefix 3 (some .int), Cond.methodLink RX0 40 yX0_routeKey, Cond.static yX0_routeKey, Cond.code yX0_routeKey cX0_routeKey 3 (some .long), Cond.methodLink RX0 44 yX0_firstFrom]
def wsX0_hops_r2 : List Cond := [Cond.instanceMethod yX0_firstFrom, Cond.selects RX0 yX0_firstFrom yX0_firstFrom, Cond.code yX0_firstFrom cX0_firstFrom 7 (some .int), Cond.fieldLink RX0 20 "PrefixBench" "count" "I", Cond.methodLink RX0 48 yX0_keyAt, Cond.instanceMethod yX0_keyAt, Cond.selects RX0 yX0_keyAt yX0_keyAt, Cond.code yX0_keyAt cX0_keyAt 2 (some .long), Cond.fieldLink RX0 9 "PrefixBench" "keys" "[J", Cond.constantLong RX0 82 (-1), Cond.methodLink RX0 176 yX0_isPlace, Cond.instanceMethod yX0_isPlace, Cond.selects RX0 yX0_isPlace yX0_isPlace, Cond.code yX0_isPlace cX0_isPlace 2 (some .boolean), Cond.fieldLink RX0 13 "PrefixBench" "costs" "[I", Cond.fieldLink RX0 17 "PrefixBench" "hopSets" "[J", Cond.methodLink RX0 126 yX0_prefixAt, Cond.instanceMethod yX0_prefixAt, Cond.selects RX0 yX0_prefixAt yX0_prefixAt, Cond.code yX0_prefixAt cX0_prefixAt 2 (some .long), Cond.methodLink RX0 84 yX0_hopsAt, Cond.instanceMethod yX0_hopsAt, Cond.selects RX0 yX0_hopsAt yX0_hopsAt, Cond.code yX0_hopsAt cX0_hopsAt 2 (some .long)]
def wsX0_hops : List Cond := .code yX0_hops cX0_hops 2 (some .long) :: ((wsX0_hops_r1 ++ wsX0_hops_r2) ++ wsX00)
def wsX0_hopOfRank : List Cond := .code yX0_hopOfRank cX0_hopOfRank 5 (some .int) :: ([])
def wsX0_hop_r1 : List Cond := [Cond.constantLong RX0 111 (4294967295), Cond.methodLink RX0 100 yX0_placeOfLongest, Cond.instanceMethod yX0_placeOfLongest, Cond.selects RX0 yX0_placeOfLongest yX0_placeOfLongest, Cond.initialized RX0, Cond.code yX0_placeOfLongest cX0_placeOfLongest 5 (some .int), Cond.methodLink RX0 129 yX0_mask, Cond.static yX0_mask, Cond.code yX0_mask cX0_mask 1 (some .int), Cond.methodLink RX0 36 yX0_prefixOf, Cond.static yX0_prefixOf, Cond.code yX0_prefixOf cX0_prefixOf 2 (some .long), Cond.methodLink RX0 93 yX0_placeOfBest, Cond.instanceMethod yX0_placeOfBest, Cond.selects RX0 yX0_placeOfBest yX0_placeOfBest, Cond.code yX0_placeOfBest cX0_placeOfBest 4 (some .int), Cond.methodLink RX0 123 yX0_firstOfPrefix, Cond.instanceMethod yX0_firstOfPrefix, Cond.selects RX0 yX0_firstOfPrefix yX0_firstOfPrefix, Cond.code yX0_firstOfPrefix cX0_firstOfPrefix 3 (some .int), Cond.methodLink RX0 40 yX0_routeKey, Cond.static yX0_routeKey, Cond.code yX0_routeKey cX0_routeKey 3 (some .long), Cond.methodLink RX0 44 yX0_firstFrom]
def wsX0_hop_r2 : List Cond := [Cond.instanceMethod yX0_firstFrom, Cond.selects RX0 yX0_firstFrom yX0_firstFrom, Cond.code yX0_firstFrom cX0_firstFrom 7 (some .int), Cond.fieldLink RX0 20 "PrefixBench" "count" "I", Cond.methodLink RX0 48 yX0_keyAt, Cond.instanceMethod yX0_keyAt, Cond.selects RX0 yX0_keyAt yX0_keyAt, Cond.code yX0_keyAt cX0_keyAt 2 (some .long), Cond.fieldLink RX0 9 "PrefixBench" "keys" "[J", Cond.constantLong RX0 82 (-1), Cond.methodLink RX0 176 yX0_isPlace, Cond.instanceMethod yX0_isPlace, Cond.selects RX0 yX0_isPlace yX0_isPlace, Cond.code yX0_isPlace cX0_isPlace 2 (some .boolean), Cond.fieldLink RX0 13 "PrefixBench" "costs" "[I", Cond.fieldLink RX0 17 "PrefixBench" "hopSets" "[J", Cond.methodLink RX0 126 yX0_prefixAt, Cond.instanceMethod yX0_prefixAt, Cond.selects RX0 yX0_prefixAt yX0_prefixAt, Cond.code yX0_prefixAt cX0_prefixAt 2 (some .long), Cond.methodLink RX0 84 yX0_hopsAt, Cond.instanceMethod yX0_hopsAt, Cond.selects RX0 yX0_hopsAt yX0_hopsAt, Cond.code yX0_hopsAt cX0_hopsAt 2 (some .long)]
def wsX0_hop_r3 : List Cond := [Cond.methodLink RX0 106 yJ13_bitCount_95d88, Cond.static yJ13_bitCount_95d88, Cond.initialized RJ13, Cond.code yJ13_bitCount_95d88 cJ13_bitCount_95d88 2 (some .int), Cond.constantLong RJ13 314 (6148914691236517205), Cond.constantLong RJ13 316 (3689348814741910323), Cond.constantLong RJ13 318 (1085102592571150095), Cond.methodLink RX0 113 yX0_hopOfRank, Cond.static yX0_hopOfRank, Cond.code yX0_hopOfRank cX0_hopOfRank 5 (some .int)]
def wsX0_hop : List Cond := .code yX0_hop cX0_hop 6 (some .int) :: ((wsX0_hop_r1 ++ (wsX0_hop_r2 ++ wsX0_hop_r3)) ++ wsX00)
def wsX0_shorter_r1 : List Cond := [Cond.classLink RX0 116 "java/lang/IllegalArgumentException", Cond.initialized "java/lang/IllegalArgumentException", Cond.methodLink RX0 100 yX0_placeOfLongest, Cond.instanceMethod yX0_placeOfLongest, Cond.selects RX0 yX0_placeOfLongest yX0_placeOfLongest, Cond.initialized RX0, Cond.code yX0_placeOfLongest cX0_placeOfLongest 5 (some .int), Cond.methodLink RX0 129 yX0_mask, Cond.static yX0_mask, Cond.code yX0_mask cX0_mask 1 (some .int), Cond.methodLink RX0 36 yX0_prefixOf, Cond.static yX0_prefixOf, Cond.code yX0_prefixOf cX0_prefixOf 2 (some .long), Cond.constantLong RX0 111 (4294967295), Cond.methodLink RX0 93 yX0_placeOfBest, Cond.instanceMethod yX0_placeOfBest, Cond.selects RX0 yX0_placeOfBest yX0_placeOfBest, Cond.code yX0_placeOfBest cX0_placeOfBest 4 (some .int), Cond.methodLink RX0 123 yX0_firstOfPrefix, Cond.instanceMethod yX0_firstOfPrefix, Cond.selects RX0 yX0_firstOfPrefix yX0_firstOfPrefix, Cond.code yX0_firstOfPrefix cX0_firstOfPrefix 3 (some .int), Cond.methodLink RX0 40 yX0_routeKey, Cond.static yX0_routeKey]
def wsX0_shorter_r2 : List Cond := [Cond.code yX0_routeKey cX0_routeKey 3 (some .long), Cond.methodLink RX0 44 yX0_firstFrom, Cond.instanceMethod yX0_firstFrom, Cond.selects RX0 yX0_firstFrom yX0_firstFrom, Cond.code yX0_firstFrom cX0_firstFrom 7 (some .int), Cond.fieldLink RX0 20 "PrefixBench" "count" "I", Cond.methodLink RX0 48 yX0_keyAt, Cond.instanceMethod yX0_keyAt, Cond.selects RX0 yX0_keyAt yX0_keyAt, Cond.code yX0_keyAt cX0_keyAt 2 (some .long), Cond.fieldLink RX0 9 "PrefixBench" "keys" "[J", Cond.constantLong RX0 82 (-1), Cond.methodLink RX0 176 yX0_isPlace, Cond.instanceMethod yX0_isPlace, Cond.selects RX0 yX0_isPlace yX0_isPlace, Cond.code yX0_isPlace cX0_isPlace 2 (some .boolean), Cond.fieldLink RX0 13 "PrefixBench" "costs" "[I", Cond.fieldLink RX0 17 "PrefixBench" "hopSets" "[J", Cond.methodLink RX0 126 yX0_prefixAt, Cond.instanceMethod yX0_prefixAt, Cond.selects RX0 yX0_prefixAt yX0_prefixAt, Cond.code yX0_prefixAt cX0_prefixAt 2 (some .long), Cond.methodLink RX0 103 yX0_lengthAt, Cond.instanceMethod yX0_lengthAt]
def wsX0_shorter_r3 : List Cond := [Cond.selects RX0 yX0_lengthAt yX0_lengthAt, Cond.code yX0_lengthAt cX0_lengthAt 2 (some .int), Cond.methodLink RX0 173 yX0_lengthOf, Cond.static yX0_lengthOf, Cond.code yX0_lengthOf cX0_lengthOf 2 (some .int), Cond.constantLong RX0 163 (63)]
def wsX0_shorter : List Cond := .code yX0_shorter cX0_shorter 3 (some .int) :: ((wsX0_shorter_r1 ++ (wsX0_shorter_r2 ++ wsX0_shorter_r3)) ++ wsX00 ++ (vx_atS RX0 120 "java/lang/IllegalArgumentException" ["java/lang/RuntimeException", "java/lang/Exception"]).filter goodWord)
def wsX0_after_r1 : List Cond := [Cond.methodLink RX0 24 yX0_checkPrefix, Cond.static yX0_checkPrefix, Cond.initialized RX0, Cond.code yX0_checkPrefix cX0_checkPrefix 2 none, Cond.classLink RX0 116 "java/lang/IllegalArgumentException", Cond.initialized "java/lang/IllegalArgumentException", Cond.methodLink RX0 129 yX0_mask, Cond.static yX0_mask, Cond.code yX0_mask cX0_mask 1 (some .int), Cond.methodLink RX0 36 yX0_prefixOf, Cond.static yX0_prefixOf, Cond.code yX0_prefixOf cX0_prefixOf 2 (some .long), Cond.constantLong RX0 111 (4294967295), Cond.methodLink RX0 123 yX0_firstOfPrefix, Cond.instanceMethod yX0_firstOfPrefix, Cond.selects RX0 yX0_firstOfPrefix yX0_firstOfPrefix, Cond.code yX0_firstOfPrefix cX0_firstOfPrefix 3 (some .int), Cond.methodLink RX0 40 yX0_routeKey, Cond.static yX0_routeKey, Cond.code yX0_routeKey cX0_routeKey 3 (some .long), Cond.methodLink RX0 44 yX0_firstFrom, Cond.instanceMethod yX0_firstFrom, Cond.selects RX0 yX0_firstFrom yX0_firstFrom, Cond.code yX0_firstFrom cX0_firstFrom 7 (some .int)]
def wsX0_after_r2 : List Cond := [Cond.fieldLink RX0 20 "PrefixBench" "count" "I", Cond.methodLink RX0 48 yX0_keyAt, Cond.instanceMethod yX0_keyAt, Cond.selects RX0 yX0_keyAt yX0_keyAt, Cond.code yX0_keyAt cX0_keyAt 2 (some .long), Cond.fieldLink RX0 9 "PrefixBench" "keys" "[J", Cond.constantLong RX0 82 (-1), Cond.methodLink RX0 176 yX0_isPlace, Cond.instanceMethod yX0_isPlace, Cond.selects RX0 yX0_isPlace yX0_isPlace, Cond.code yX0_isPlace cX0_isPlace 2 (some .boolean), Cond.fieldLink RX0 13 "PrefixBench" "costs" "[I", Cond.fieldLink RX0 17 "PrefixBench" "hopSets" "[J", Cond.methodLink RX0 126 yX0_prefixAt, Cond.instanceMethod yX0_prefixAt, Cond.selects RX0 yX0_prefixAt yX0_prefixAt, Cond.code yX0_prefixAt cX0_prefixAt 2 (some .long)]
def wsX0_after : List Cond := .code yX0_after cX0_after 3 (some .long) :: ((wsX0_after_r1 ++ wsX0_after_r2) ++ wsX00 ++ (vx_atS RX0 120 "java/lang/IllegalArgumentException" ["java/lang/RuntimeException", "java/lang/Exception"]).filter goodWord)
def wsX0_beginsPrefix : List Cond := .code yX0_beginsPrefix cX0_beginsPrefix 2 (some .boolean) :: ([.methodLink RX0 126 yX0_prefixAt, .instanceMethod yX0_prefixAt, .selects RX0 yX0_prefixAt yX0_prefixAt, .initialized RX0, .code yX0_prefixAt cX0_prefixAt 2 (some .long), .methodLink RX0 48 yX0_keyAt, .instanceMethod yX0_keyAt, .selects RX0 yX0_keyAt yX0_keyAt, .code yX0_keyAt cX0_keyAt 2 (some .long), .fieldLink RX0 9 "PrefixBench" "keys" "[J", .constantLong RX0 82 (-1), .methodLink RX0 176 yX0_isPlace, .instanceMethod yX0_isPlace, .selects RX0 yX0_isPlace yX0_isPlace, .code yX0_isPlace cX0_isPlace 2 (some .boolean), .fieldLink RX0 20 "PrefixBench" "count" "I", .fieldLink RX0 13 "PrefixBench" "costs" "[I", .fieldLink RX0 17 "PrefixBench" "hopSets" "[J"] ++ wsX00)
def wsX0_prefixesBetween : List Cond := .code yX0_prefixesBetween cX0_prefixesBetween 5 (some .int) :: ([.methodLink RX0 135 yX0_beginsPrefix, .instanceMethod yX0_beginsPrefix, .selects RX0 yX0_beginsPrefix yX0_beginsPrefix, .initialized RX0, .code yX0_beginsPrefix cX0_beginsPrefix 2 (some .boolean), .methodLink RX0 126 yX0_prefixAt, .instanceMethod yX0_prefixAt, .selects RX0 yX0_prefixAt yX0_prefixAt, .code yX0_prefixAt cX0_prefixAt 2 (some .long), .methodLink RX0 48 yX0_keyAt, .instanceMethod yX0_keyAt, .selects RX0 yX0_keyAt yX0_keyAt, .code yX0_keyAt cX0_keyAt 2 (some .long), .fieldLink RX0 9 "PrefixBench" "keys" "[J", .constantLong RX0 82 (-1), .methodLink RX0 176 yX0_isPlace, .instanceMethod yX0_isPlace, .selects RX0 yX0_isPlace yX0_isPlace, .code yX0_isPlace cX0_isPlace 2 (some .boolean), .fieldLink RX0 20 "PrefixBench" "count" "I", .fieldLink RX0 13 "PrefixBench" "costs" "[I", .fieldLink RX0 17 "PrefixBench" "hopSets" "[J"] ++ wsX00)
def wsX0_within_r1 : List Cond := [Cond.methodLink RX0 24 yX0_checkPrefix, Cond.static yX0_checkPrefix, Cond.initialized RX0, Cond.code yX0_checkPrefix cX0_checkPrefix 2 none, Cond.classLink RX0 116 "java/lang/IllegalArgumentException", Cond.initialized "java/lang/IllegalArgumentException", Cond.methodLink RX0 129 yX0_mask, Cond.static yX0_mask, Cond.code yX0_mask cX0_mask 1 (some .int), Cond.methodLink RX0 36 yX0_prefixOf, Cond.static yX0_prefixOf, Cond.code yX0_prefixOf cX0_prefixOf 2 (some .long), Cond.constantLong RX0 111 (4294967295), Cond.methodLink RX0 123 yX0_firstOfPrefix, Cond.instanceMethod yX0_firstOfPrefix, Cond.selects RX0 yX0_firstOfPrefix yX0_firstOfPrefix, Cond.code yX0_firstOfPrefix cX0_firstOfPrefix 3 (some .int), Cond.methodLink RX0 40 yX0_routeKey, Cond.static yX0_routeKey, Cond.code yX0_routeKey cX0_routeKey 3 (some .long), Cond.methodLink RX0 44 yX0_firstFrom, Cond.instanceMethod yX0_firstFrom, Cond.selects RX0 yX0_firstFrom yX0_firstFrom, Cond.code yX0_firstFrom cX0_firstFrom 7 (some .int)]
def wsX0_within_r2 : List Cond := [Cond.fieldLink RX0 20 "PrefixBench" "count" "I", Cond.methodLink RX0 48 yX0_keyAt, Cond.instanceMethod yX0_keyAt, Cond.selects RX0 yX0_keyAt yX0_keyAt, Cond.code yX0_keyAt cX0_keyAt 2 (some .long), Cond.fieldLink RX0 9 "PrefixBench" "keys" "[J", Cond.constantLong RX0 82 (-1), Cond.methodLink RX0 176 yX0_isPlace, Cond.instanceMethod yX0_isPlace, Cond.selects RX0 yX0_isPlace yX0_isPlace, Cond.code yX0_isPlace cX0_isPlace 2 (some .boolean), Cond.fieldLink RX0 13 "PrefixBench" "costs" "[I", Cond.fieldLink RX0 17 "PrefixBench" "hopSets" "[J", Cond.methodLink RX0 132 yX0_prefixesBetween, Cond.instanceMethod yX0_prefixesBetween, Cond.selects RX0 yX0_prefixesBetween yX0_prefixesBetween, Cond.code yX0_prefixesBetween cX0_prefixesBetween 5 (some .int), Cond.methodLink RX0 135 yX0_beginsPrefix, Cond.instanceMethod yX0_beginsPrefix, Cond.selects RX0 yX0_beginsPrefix yX0_beginsPrefix, Cond.code yX0_beginsPrefix cX0_beginsPrefix 2 (some .boolean), Cond.methodLink RX0 126 yX0_prefixAt, Cond.instanceMethod yX0_prefixAt, Cond.selects RX0 yX0_prefixAt yX0_prefixAt]
def wsX0_within_r3 : List Cond := [Cond.code yX0_prefixAt cX0_prefixAt 2 (some .long)]
def wsX0_within : List Cond := .code yX0_within cX0_within 7 (some .int) :: ((wsX0_within_r1 ++ (wsX0_within_r2 ++ wsX0_within_r3)) ++ wsX00 ++ (vx_atS RX0 120 "java/lang/IllegalArgumentException" ["java/lang/RuntimeException", "java/lang/Exception"]).filter goodWord)
def wsX0_routes : List Cond := .code yX0_routes cX0_routes 1 (some .int) :: ([.fieldLink RX0 20 "PrefixBench" "count" "I"] ++ wsX00)
def wsX0_known_r1 : List Cond := [Cond.fieldLink RX0 20 "PrefixBench" "count" "I", Cond.methodLink RX0 132 yX0_prefixesBetween, Cond.instanceMethod yX0_prefixesBetween, Cond.selects RX0 yX0_prefixesBetween yX0_prefixesBetween, Cond.initialized RX0, Cond.code yX0_prefixesBetween cX0_prefixesBetween 5 (some .int), Cond.methodLink RX0 135 yX0_beginsPrefix, Cond.instanceMethod yX0_beginsPrefix, Cond.selects RX0 yX0_beginsPrefix yX0_beginsPrefix, Cond.code yX0_beginsPrefix cX0_beginsPrefix 2 (some .boolean), Cond.methodLink RX0 126 yX0_prefixAt, Cond.instanceMethod yX0_prefixAt, Cond.selects RX0 yX0_prefixAt yX0_prefixAt, Cond.code yX0_prefixAt cX0_prefixAt 2 (some .long), Cond.methodLink RX0 48 yX0_keyAt, Cond.instanceMethod yX0_keyAt, Cond.selects RX0 yX0_keyAt yX0_keyAt, Cond.code yX0_keyAt cX0_keyAt 2 (some .long), Cond.fieldLink RX0 9 "PrefixBench" "keys" "[J", Cond.constantLong RX0 82 (-1), Cond.methodLink RX0 176 yX0_isPlace, Cond.instanceMethod yX0_isPlace, Cond.selects RX0 yX0_isPlace yX0_isPlace, Cond.code yX0_isPlace cX0_isPlace 2 (some .boolean)]
def wsX0_known_r2 : List Cond := [Cond.fieldLink RX0 13 "PrefixBench" "costs" "[I", Cond.fieldLink RX0 17 "PrefixBench" "hopSets" "[J"]
def wsX0_known : List Cond := .code yX0_known cX0_known 1 (some .int) :: ((wsX0_known_r1 ++ wsX0_known_r2) ++ wsX00)
def wsX0_addressOf : List Cond := .code yX0_addressOf cX0_addressOf 2 (some .int) :: ([])
def wsJ6_numberOfLeadingZeros_0f7a4 : List Cond := .code yJ6_numberOfLeadingZeros_0f7a4 cJ6_numberOfLeadingZeros_0f7a4 2 (some .int) :: ([.constant RJ6 264 (65536)])
def wsX0_partAtUnknown_r1 : List Cond := [Cond.methodLink RX0 165 yX0_addressOf, Cond.static yX0_addressOf, Cond.initialized RX0, Cond.code yX0_addressOf cX0_addressOf 2 (some .int), Cond.methodLink RX0 168 yJ6_numberOfLeadingZeros_0f7a4, Cond.static yJ6_numberOfLeadingZeros_0f7a4, Cond.initialized RJ6, Cond.code yJ6_numberOfLeadingZeros_0f7a4 cJ6_numberOfLeadingZeros_0f7a4 2 (some .int), Cond.constant RJ6 264 (65536), Cond.methodLink RX0 173 yX0_lengthOf, Cond.static yX0_lengthOf, Cond.code yX0_lengthOf cX0_lengthOf 2 (some .int), Cond.constantLong RX0 163 (63), Cond.methodLink RX0 129 yX0_mask, Cond.static yX0_mask, Cond.code yX0_mask cX0_mask 1 (some .int), Cond.methodLink RX0 36 yX0_prefixOf, Cond.static yX0_prefixOf, Cond.code yX0_prefixOf cX0_prefixOf 2 (some .long), Cond.constantLong RX0 111 (4294967295), Cond.methodLink RX0 93 yX0_placeOfBest, Cond.instanceMethod yX0_placeOfBest, Cond.selects RX0 yX0_placeOfBest yX0_placeOfBest, Cond.code yX0_placeOfBest cX0_placeOfBest 4 (some .int)]
def wsX0_partAtUnknown_r2 : List Cond := [Cond.methodLink RX0 123 yX0_firstOfPrefix, Cond.instanceMethod yX0_firstOfPrefix, Cond.selects RX0 yX0_firstOfPrefix yX0_firstOfPrefix, Cond.code yX0_firstOfPrefix cX0_firstOfPrefix 3 (some .int), Cond.methodLink RX0 40 yX0_routeKey, Cond.static yX0_routeKey, Cond.code yX0_routeKey cX0_routeKey 3 (some .long), Cond.methodLink RX0 44 yX0_firstFrom, Cond.instanceMethod yX0_firstFrom, Cond.selects RX0 yX0_firstFrom yX0_firstFrom, Cond.code yX0_firstFrom cX0_firstFrom 7 (some .int), Cond.fieldLink RX0 20 "PrefixBench" "count" "I", Cond.methodLink RX0 48 yX0_keyAt, Cond.instanceMethod yX0_keyAt, Cond.selects RX0 yX0_keyAt yX0_keyAt, Cond.code yX0_keyAt cX0_keyAt 2 (some .long), Cond.fieldLink RX0 9 "PrefixBench" "keys" "[J", Cond.constantLong RX0 82 (-1), Cond.methodLink RX0 176 yX0_isPlace, Cond.instanceMethod yX0_isPlace, Cond.selects RX0 yX0_isPlace yX0_isPlace, Cond.code yX0_isPlace cX0_isPlace 2 (some .boolean), Cond.fieldLink RX0 13 "PrefixBench" "costs" "[I", Cond.fieldLink RX0 17 "PrefixBench" "hopSets" "[J"]
def wsX0_partAtUnknown_r3 : List Cond := [Cond.methodLink RX0 126 yX0_prefixAt, Cond.instanceMethod yX0_prefixAt, Cond.selects RX0 yX0_prefixAt yX0_prefixAt, Cond.code yX0_prefixAt cX0_prefixAt 2 (some .long)]
def wsX0_partAtUnknown : List Cond := .code yX0_partAtUnknown cX0_partAtUnknown 7 (some .boolean) :: ((wsX0_partAtUnknown_r1 ++ (wsX0_partAtUnknown_r2 ++ wsX0_partAtUnknown_r3)) ++ wsX00)
def wsX0_nodes_r1 : List Cond := [Cond.fieldLink RX0 20 "PrefixBench" "count" "I", Cond.methodLink RX0 135 yX0_beginsPrefix, Cond.instanceMethod yX0_beginsPrefix, Cond.selects RX0 yX0_beginsPrefix yX0_beginsPrefix, Cond.initialized RX0, Cond.code yX0_beginsPrefix cX0_beginsPrefix 2 (some .boolean), Cond.methodLink RX0 126 yX0_prefixAt, Cond.instanceMethod yX0_prefixAt, Cond.selects RX0 yX0_prefixAt yX0_prefixAt, Cond.code yX0_prefixAt cX0_prefixAt 2 (some .long), Cond.methodLink RX0 48 yX0_keyAt, Cond.instanceMethod yX0_keyAt, Cond.selects RX0 yX0_keyAt yX0_keyAt, Cond.code yX0_keyAt cX0_keyAt 2 (some .long), Cond.fieldLink RX0 9 "PrefixBench" "keys" "[J", Cond.constantLong RX0 82 (-1), Cond.methodLink RX0 176 yX0_isPlace, Cond.instanceMethod yX0_isPlace, Cond.selects RX0 yX0_isPlace yX0_isPlace, Cond.code yX0_isPlace cX0_isPlace 2 (some .boolean), Cond.fieldLink RX0 13 "PrefixBench" "costs" "[I", Cond.fieldLink RX0 17 "PrefixBench" "hopSets" "[J", Cond.methodLink RX0 139 yX0_partAtUnknown, Cond.instanceMethod yX0_partAtUnknown]
def wsX0_nodes_r2 : List Cond := [Cond.selects RX0 yX0_partAtUnknown yX0_partAtUnknown, Cond.code yX0_partAtUnknown cX0_partAtUnknown 7 (some .boolean), Cond.methodLink RX0 165 yX0_addressOf, Cond.static yX0_addressOf, Cond.code yX0_addressOf cX0_addressOf 2 (some .int), Cond.methodLink RX0 168 yJ6_numberOfLeadingZeros_0f7a4, Cond.static yJ6_numberOfLeadingZeros_0f7a4, Cond.initialized RJ6, Cond.code yJ6_numberOfLeadingZeros_0f7a4 cJ6_numberOfLeadingZeros_0f7a4 2 (some .int), Cond.constant RJ6 264 (65536), Cond.methodLink RX0 173 yX0_lengthOf, Cond.static yX0_lengthOf, Cond.code yX0_lengthOf cX0_lengthOf 2 (some .int), Cond.constantLong RX0 163 (63), Cond.methodLink RX0 129 yX0_mask, Cond.static yX0_mask, Cond.code yX0_mask cX0_mask 1 (some .int), Cond.methodLink RX0 36 yX0_prefixOf, Cond.static yX0_prefixOf, Cond.code yX0_prefixOf cX0_prefixOf 2 (some .long), Cond.constantLong RX0 111 (4294967295), Cond.methodLink RX0 93 yX0_placeOfBest, Cond.instanceMethod yX0_placeOfBest, Cond.selects RX0 yX0_placeOfBest yX0_placeOfBest]
def wsX0_nodes_r3 : List Cond := [Cond.code yX0_placeOfBest cX0_placeOfBest 4 (some .int), Cond.methodLink RX0 123 yX0_firstOfPrefix, Cond.instanceMethod yX0_firstOfPrefix, Cond.selects RX0 yX0_firstOfPrefix yX0_firstOfPrefix, Cond.code yX0_firstOfPrefix cX0_firstOfPrefix 3 (some .int), Cond.methodLink RX0 40 yX0_routeKey, Cond.static yX0_routeKey, Cond.code yX0_routeKey cX0_routeKey 3 (some .long), Cond.methodLink RX0 44 yX0_firstFrom, Cond.instanceMethod yX0_firstFrom, Cond.selects RX0 yX0_firstFrom yX0_firstFrom, Cond.code yX0_firstFrom cX0_firstFrom 7 (some .int)]
def wsX0_nodes : List Cond := .code yX0_nodes cX0_nodes 3 (some .int) :: ((wsX0_nodes_r1 ++ (wsX0_nodes_r2 ++ wsX0_nodes_r3)) ++ wsX00)
def wsX1_init : List Cond := .code yX1_init cX1_init 1 none :: ([.methodLink RX1 1 objectInit, .instanceMethod objectInit, .code objectInit ⟨#[0xb1]⟩ 1 none, .arrayClass .int, .fieldLink RX1 7 "PrefixBenchModel" "address" "[I", .fieldLink RX1 13 "PrefixBenchModel" "length" "[I", .fieldLink RX1 16 "PrefixBenchModel" "origin" "[I", .fieldLink RX1 19 "PrefixBenchModel" "cost" "[I", .arrayClass .long, .fieldLink RX1 22 "PrefixBenchModel" "hops" "[J"] ++ wsX10)
def wsX1_thrown : List Cond := .code yX1_thrown cX1_thrown 1 (some .int) :: ([.fieldLink RX1 26 "PrefixBenchModel" "code" "I"] ++ wsX10)
def wsX1_mask : List Cond := .code yX1_mask cX1_mask 1 (some .int) :: ([])
def wsX1_unsigned : List Cond := .code yX1_unsigned cX1_unsigned 1 (some .long) :: ([.constantLong RX1 30 (4294967295)])
def wsX1_isPrefix : List Cond := .code yX1_isPrefix cX1_isPrefix 2 (some .boolean) :: ([.methodLink RX1 32 yX1_mask, .static yX1_mask, .initialized RX1, .code yX1_mask cX1_mask 1 (some .int)])
def wsX1_rank : List Cond := .code yX1_rank cX1_rank 3 (some .long) :: ([.constantLong RX1 36 (64), .constantLong RX1 42 (8), .methodLink RX1 38 yX1_unsigned, .static yX1_unsigned, .initialized RX1, .code yX1_unsigned cX1_unsigned 1 (some .long), .constantLong RX1 30 (4294967295)])
def wsX1_rankOf : List Cond := .code yX1_rankOf cX1_rankOf 2 (some .long) :: ([.fieldLink RX1 7 "PrefixBenchModel" "address" "[I", .fieldLink RX1 13 "PrefixBenchModel" "length" "[I", .fieldLink RX1 16 "PrefixBenchModel" "origin" "[I", .methodLink RX1 44 yX1_rank, .static yX1_rank, .initialized RX1, .code yX1_rank cX1_rank 3 (some .long), .constantLong RX1 36 (64), .constantLong RX1 42 (8), .methodLink RX1 38 yX1_unsigned, .static yX1_unsigned, .code yX1_unsigned cX1_unsigned 1 (some .long), .constantLong RX1 30 (4294967295)] ++ wsX10)
def wsX1_isMore : List Cond := .code yX1_isMore cX1_isMore 2 (some .boolean) :: ([.fieldLink RX1 7 "PrefixBenchModel" "address" "[I", .fieldLink RX1 13 "PrefixBenchModel" "length" "[I"] ++ wsX10)
def wsX1_has : List Cond := .code yX1_has cX1_has 3 (some .boolean) :: ([.fieldLink RX1 7 "PrefixBenchModel" "address" "[I", .fieldLink RX1 13 "PrefixBenchModel" "length" "[I", .methodLink RX1 32 yX1_mask, .static yX1_mask, .initialized RX1, .code yX1_mask cX1_mask 1 (some .int)] ++ wsX10)
def wsX1_place : List Cond := .code yX1_place cX1_place 6 (some .int) :: ([.fieldLink RX1 48 "PrefixBenchModel" "count" "I", .methodLink RX1 51 yX1_rankOf, .instanceMethod yX1_rankOf, .selects RX1 yX1_rankOf yX1_rankOf, .initialized RX1, .code yX1_rankOf cX1_rankOf 2 (some .long), .fieldLink RX1 7 "PrefixBenchModel" "address" "[I", .fieldLink RX1 13 "PrefixBenchModel" "length" "[I", .fieldLink RX1 16 "PrefixBenchModel" "origin" "[I", .methodLink RX1 44 yX1_rank, .static yX1_rank, .code yX1_rank cX1_rank 3 (some .long), .constantLong RX1 36 (64), .constantLong RX1 42 (8), .methodLink RX1 38 yX1_unsigned, .static yX1_unsigned, .code yX1_unsigned cX1_unsigned 1 (some .long), .constantLong RX1 30 (4294967295)] ++ wsX10)
def wsX1_isThere : List Cond := .code yX1_isThere cX1_isThere 5 (some .boolean) :: ([.fieldLink RX1 48 "PrefixBenchModel" "count" "I", .fieldLink RX1 7 "PrefixBenchModel" "address" "[I", .fieldLink RX1 13 "PrefixBenchModel" "length" "[I", .fieldLink RX1 16 "PrefixBenchModel" "origin" "[I"] ++ wsX10)
def wsX1_copy : List Cond := .code yX1_copy cX1_copy 3 none :: ([.fieldLink RX1 7 "PrefixBenchModel" "address" "[I", .fieldLink RX1 13 "PrefixBenchModel" "length" "[I", .fieldLink RX1 16 "PrefixBenchModel" "origin" "[I", .fieldLink RX1 19 "PrefixBenchModel" "cost" "[I", .fieldLink RX1 22 "PrefixBenchModel" "hops" "[J"] ++ wsX10)
def wsX1_put_r1 : List Cond := [Cond.constant RX1 58 (65535), Cond.fieldLink RX1 48 "PrefixBenchModel" "count" "I", Cond.fieldLink RX1 26 "PrefixBenchModel" "code" "I", Cond.fieldLink RX1 7 "PrefixBenchModel" "address" "[I", Cond.fieldLink RX1 13 "PrefixBenchModel" "length" "[I", Cond.fieldLink RX1 16 "PrefixBenchModel" "origin" "[I", Cond.fieldLink RX1 19 "PrefixBenchModel" "cost" "[I", Cond.fieldLink RX1 22 "PrefixBenchModel" "hops" "[J", Cond.methodLink RX1 54 yX1_isPrefix, Cond.static yX1_isPrefix, Cond.initialized RX1, Cond.code yX1_isPrefix cX1_isPrefix 2 (some .boolean), Cond.methodLink RX1 32 yX1_mask, Cond.static yX1_mask, Cond.code yX1_mask cX1_mask 1 (some .int), Cond.methodLink RX1 44 yX1_rank, Cond.static yX1_rank, Cond.code yX1_rank cX1_rank 3 (some .long), Cond.constantLong RX1 36 (64), Cond.constantLong RX1 42 (8), Cond.methodLink RX1 38 yX1_unsigned, Cond.static yX1_unsigned, Cond.code yX1_unsigned cX1_unsigned 1 (some .long), Cond.constantLong RX1 30 (4294967295)]
def wsX1_put_r2 : List Cond := [Cond.methodLink RX1 59 yX1_place, Cond.instanceMethod yX1_place, Cond.selects RX1 yX1_place yX1_place, Cond.code yX1_place cX1_place 6 (some .int), Cond.methodLink RX1 51 yX1_rankOf, Cond.instanceMethod yX1_rankOf, Cond.selects RX1 yX1_rankOf yX1_rankOf, Cond.code yX1_rankOf cX1_rankOf 2 (some .long), Cond.methodLink RX1 63 yX1_isThere, Cond.instanceMethod yX1_isThere, Cond.selects RX1 yX1_isThere yX1_isThere, Cond.code yX1_isThere cX1_isThere 5 (some .boolean), Cond.methodLink RX1 67 yX1_copy, Cond.instanceMethod yX1_copy, Cond.selects RX1 yX1_copy yX1_copy, Cond.code yX1_copy cX1_copy 3 none]
def wsX1_put : List Cond := .code yX1_put cX1_put 10 (some .int) :: ((wsX1_put_r1 ++ wsX1_put_r2) ++ wsX10)
def wsX1_sweep : List Cond := .code yX1_sweep cX1_sweep 3 (some .int) :: ([.fieldLink RX1 48 "PrefixBenchModel" "count" "I", .fieldLink RX1 22 "PrefixBenchModel" "hops" "[J", .methodLink RX1 67 yX1_copy, .instanceMethod yX1_copy, .selects RX1 yX1_copy yX1_copy, .initialized RX1, .code yX1_copy cX1_copy 3 none, .fieldLink RX1 7 "PrefixBenchModel" "address" "[I", .fieldLink RX1 13 "PrefixBenchModel" "length" "[I", .fieldLink RX1 16 "PrefixBenchModel" "origin" "[I", .fieldLink RX1 19 "PrefixBenchModel" "cost" "[I"] ++ wsX10)
def wsX1_take_r1 : List Cond := [Cond.fieldLink RX1 26 "PrefixBenchModel" "code" "I", Cond.fieldLink RX1 22 "PrefixBenchModel" "hops" "[J", Cond.methodLink RX1 54 yX1_isPrefix, Cond.static yX1_isPrefix, Cond.initialized RX1, Cond.code yX1_isPrefix cX1_isPrefix 2 (some .boolean), Cond.methodLink RX1 32 yX1_mask, Cond.static yX1_mask, Cond.code yX1_mask cX1_mask 1 (some .int), Cond.methodLink RX1 44 yX1_rank, Cond.static yX1_rank, Cond.code yX1_rank cX1_rank 3 (some .long), Cond.constantLong RX1 36 (64), Cond.constantLong RX1 42 (8), Cond.methodLink RX1 38 yX1_unsigned, Cond.static yX1_unsigned, Cond.code yX1_unsigned cX1_unsigned 1 (some .long), Cond.constantLong RX1 30 (4294967295), Cond.methodLink RX1 59 yX1_place, Cond.instanceMethod yX1_place, Cond.selects RX1 yX1_place yX1_place, Cond.code yX1_place cX1_place 6 (some .int), Cond.fieldLink RX1 48 "PrefixBenchModel" "count" "I", Cond.methodLink RX1 51 yX1_rankOf]
def wsX1_take_r2 : List Cond := [Cond.instanceMethod yX1_rankOf, Cond.selects RX1 yX1_rankOf yX1_rankOf, Cond.code yX1_rankOf cX1_rankOf 2 (some .long), Cond.fieldLink RX1 7 "PrefixBenchModel" "address" "[I", Cond.fieldLink RX1 13 "PrefixBenchModel" "length" "[I", Cond.fieldLink RX1 16 "PrefixBenchModel" "origin" "[I", Cond.methodLink RX1 63 yX1_isThere, Cond.instanceMethod yX1_isThere, Cond.selects RX1 yX1_isThere yX1_isThere, Cond.code yX1_isThere cX1_isThere 5 (some .boolean), Cond.methodLink RX1 71 yX1_sweep, Cond.instanceMethod yX1_sweep, Cond.selects RX1 yX1_sweep yX1_sweep, Cond.code yX1_sweep cX1_sweep 3 (some .int), Cond.methodLink RX1 67 yX1_copy, Cond.instanceMethod yX1_copy, Cond.selects RX1 yX1_copy yX1_copy, Cond.code yX1_copy cX1_copy 3 none, Cond.fieldLink RX1 19 "PrefixBenchModel" "cost" "[I"]
def wsX1_take : List Cond := .code yX1_take cX1_take 6 (some .boolean) :: ((wsX1_take_r1 ++ wsX1_take_r2) ++ wsX10)
def wsX1_drop : List Cond := .code yX1_drop cX1_drop 3 (some .int) :: ([.fieldLink RX1 26 "PrefixBenchModel" "code" "I", .fieldLink RX1 48 "PrefixBenchModel" "count" "I", .fieldLink RX1 22 "PrefixBenchModel" "hops" "[J", .fieldLink RX1 16 "PrefixBenchModel" "origin" "[I", .methodLink RX1 71 yX1_sweep, .instanceMethod yX1_sweep, .selects RX1 yX1_sweep yX1_sweep, .initialized RX1, .code yX1_sweep cX1_sweep 3 (some .int), .methodLink RX1 67 yX1_copy, .instanceMethod yX1_copy, .selects RX1 yX1_copy yX1_copy, .code yX1_copy cX1_copy 3 none, .fieldLink RX1 7 "PrefixBenchModel" "address" "[I", .fieldLink RX1 13 "PrefixBenchModel" "length" "[I", .fieldLink RX1 19 "PrefixBenchModel" "cost" "[I"] ++ wsX10)
def wsX1_cut : List Cond := .code yX1_cut cX1_cut 3 (some .int) :: ([.fieldLink RX1 26 "PrefixBenchModel" "code" "I", .fieldLink RX1 48 "PrefixBenchModel" "count" "I", .fieldLink RX1 22 "PrefixBenchModel" "hops" "[J", .constantLong RX1 75 (-1), .methodLink RX1 71 yX1_sweep, .instanceMethod yX1_sweep, .selects RX1 yX1_sweep yX1_sweep, .initialized RX1, .code yX1_sweep cX1_sweep 3 (some .int), .methodLink RX1 67 yX1_copy, .instanceMethod yX1_copy, .selects RX1 yX1_copy yX1_copy, .code yX1_copy cX1_copy 3 none, .fieldLink RX1 7 "PrefixBenchModel" "address" "[I", .fieldLink RX1 13 "PrefixBenchModel" "length" "[I", .fieldLink RX1 16 "PrefixBenchModel" "origin" "[I", .fieldLink RX1 19 "PrefixBenchModel" "cost" "[I"] ++ wsX10)
def wsX1_size : List Cond := .code yX1_size cX1_size 4 (some .int) :: ([])
def wsX1_route_r1 : List Cond := [Cond.fieldLink RX1 26 "PrefixBenchModel" "code" "I", Cond.fieldLink RX1 48 "PrefixBenchModel" "count" "I", Cond.fieldLink RX1 7 "PrefixBenchModel" "address" "[I", Cond.fieldLink RX1 13 "PrefixBenchModel" "length" "[I", Cond.fieldLink RX1 19 "PrefixBenchModel" "cost" "[I", Cond.fieldLink RX1 16 "PrefixBenchModel" "origin" "[I", Cond.fieldLink RX1 22 "PrefixBenchModel" "hops" "[J", Cond.methodLink RX1 54 yX1_isPrefix, Cond.static yX1_isPrefix, Cond.initialized RX1, Cond.code yX1_isPrefix cX1_isPrefix 2 (some .boolean), Cond.methodLink RX1 32 yX1_mask, Cond.static yX1_mask, Cond.code yX1_mask cX1_mask 1 (some .int), Cond.methodLink RX1 44 yX1_rank, Cond.static yX1_rank, Cond.code yX1_rank cX1_rank 3 (some .long), Cond.constantLong RX1 36 (64), Cond.constantLong RX1 42 (8), Cond.methodLink RX1 38 yX1_unsigned, Cond.static yX1_unsigned, Cond.code yX1_unsigned cX1_unsigned 1 (some .long), Cond.constantLong RX1 30 (4294967295), Cond.methodLink RX1 59 yX1_place]
def wsX1_route_r2 : List Cond := [Cond.instanceMethod yX1_place, Cond.selects RX1 yX1_place yX1_place, Cond.code yX1_place cX1_place 6 (some .int), Cond.methodLink RX1 51 yX1_rankOf, Cond.instanceMethod yX1_rankOf, Cond.selects RX1 yX1_rankOf yX1_rankOf, Cond.code yX1_rankOf cX1_rankOf 2 (some .long), Cond.methodLink RX1 63 yX1_isThere, Cond.instanceMethod yX1_isThere, Cond.selects RX1 yX1_isThere yX1_isThere, Cond.code yX1_isThere cX1_isThere 5 (some .boolean), Cond.methodLink RX1 77 yX1_size, Cond.static yX1_size, Cond.code yX1_size cX1_size 4 (some .int)]
def wsX1_route : List Cond := .code yX1_route cX1_route 8 (some .int) :: ((wsX1_route_r1 ++ wsX1_route_r2) ++ wsX10)
def wsX1_best : List Cond := .code yX1_best cX1_best 6 (some .int) :: ([.fieldLink RX1 48 "PrefixBenchModel" "count" "I", .fieldLink RX1 13 "PrefixBenchModel" "length" "[I", .methodLink RX1 80 yX1_isMore, .instanceMethod yX1_isMore, .selects RX1 yX1_isMore yX1_isMore, .initialized RX1, .code yX1_isMore cX1_isMore 2 (some .boolean), .fieldLink RX1 7 "PrefixBenchModel" "address" "[I", .methodLink RX1 84 yX1_has, .instanceMethod yX1_has, .selects RX1 yX1_has yX1_has, .code yX1_has cX1_has 3 (some .boolean), .methodLink RX1 32 yX1_mask, .static yX1_mask, .code yX1_mask cX1_mask 1 (some .int)] ++ wsX10)
def wsX1_look : List Cond := .code yX1_look cX1_look 3 (some .int) :: ([.fieldLink RX1 26 "PrefixBenchModel" "code" "I", .fieldLink RX1 13 "PrefixBenchModel" "length" "[I", .methodLink RX1 87 yX1_best, .instanceMethod yX1_best, .selects RX1 yX1_best yX1_best, .initialized RX1, .code yX1_best cX1_best 6 (some .int), .fieldLink RX1 48 "PrefixBenchModel" "count" "I", .methodLink RX1 80 yX1_isMore, .instanceMethod yX1_isMore, .selects RX1 yX1_isMore yX1_isMore, .code yX1_isMore cX1_isMore 2 (some .boolean), .fieldLink RX1 7 "PrefixBenchModel" "address" "[I", .methodLink RX1 84 yX1_has, .instanceMethod yX1_has, .selects RX1 yX1_has yX1_has, .code yX1_has cX1_has 3 (some .boolean), .methodLink RX1 32 yX1_mask, .static yX1_mask, .code yX1_mask cX1_mask 1 (some .int)] ++ wsX10)
def wsX1_hops : List Cond := .code yX1_hops cX1_hops 3 (some .long) :: ([.fieldLink RX1 26 "PrefixBenchModel" "code" "I", .fieldLink RX1 22 "PrefixBenchModel" "hops" "[J", .methodLink RX1 87 yX1_best, .instanceMethod yX1_best, .selects RX1 yX1_best yX1_best, .initialized RX1, .code yX1_best cX1_best 6 (some .int), .fieldLink RX1 48 "PrefixBenchModel" "count" "I", .fieldLink RX1 13 "PrefixBenchModel" "length" "[I", .methodLink RX1 80 yX1_isMore, .instanceMethod yX1_isMore, .selects RX1 yX1_isMore yX1_isMore, .code yX1_isMore cX1_isMore 2 (some .boolean), .fieldLink RX1 7 "PrefixBenchModel" "address" "[I", .methodLink RX1 84 yX1_has, .instanceMethod yX1_has, .selects RX1 yX1_has yX1_has, .code yX1_has cX1_has 3 (some .boolean), .methodLink RX1 32 yX1_mask, .static yX1_mask, .code yX1_mask cX1_mask 1 (some .int)] ++ wsX10)
def wsX1_hop_r1 : List Cond := [Cond.fieldLink RX1 26 "PrefixBenchModel" "code" "I", Cond.fieldLink RX1 22 "PrefixBenchModel" "hops" "[J", Cond.methodLink RX1 87 yX1_best, Cond.instanceMethod yX1_best, Cond.selects RX1 yX1_best yX1_best, Cond.initialized RX1, Cond.code yX1_best cX1_best 6 (some .int), Cond.fieldLink RX1 48 "PrefixBenchModel" "count" "I", Cond.fieldLink RX1 13 "PrefixBenchModel" "length" "[I", Cond.methodLink RX1 80 yX1_isMore, Cond.instanceMethod yX1_isMore, Cond.selects RX1 yX1_isMore yX1_isMore, Cond.code yX1_isMore cX1_isMore 2 (some .boolean), Cond.fieldLink RX1 7 "PrefixBenchModel" "address" "[I", Cond.methodLink RX1 84 yX1_has, Cond.instanceMethod yX1_has, Cond.selects RX1 yX1_has yX1_has, Cond.code yX1_has cX1_has 3 (some .boolean), Cond.methodLink RX1 32 yX1_mask, Cond.static yX1_mask, Cond.code yX1_mask cX1_mask 1 (some .int), Cond.methodLink RX1 38 yX1_unsigned, Cond.static yX1_unsigned, Cond.code yX1_unsigned cX1_unsigned 1 (some .long)]
def wsX1_hop_r2 : List Cond := [Cond.constantLong RX1 30 (4294967295), Cond.methodLink RX1 77 yX1_size, Cond.static yX1_size, Cond.code yX1_size cX1_size 4 (some .int)]
def wsX1_hop : List Cond := .code yX1_hop cX1_hop 6 (some .int) :: ((wsX1_hop_r1 ++ wsX1_hop_r2) ++ wsX10)
def wsX1_shorter : List Cond := .code yX1_shorter cX1_shorter 4 (some .int) :: ([.fieldLink RX1 26 "PrefixBenchModel" "code" "I", .fieldLink RX1 13 "PrefixBenchModel" "length" "[I", .methodLink RX1 87 yX1_best, .instanceMethod yX1_best, .selects RX1 yX1_best yX1_best, .initialized RX1, .code yX1_best cX1_best 6 (some .int), .fieldLink RX1 48 "PrefixBenchModel" "count" "I", .methodLink RX1 80 yX1_isMore, .instanceMethod yX1_isMore, .selects RX1 yX1_isMore yX1_isMore, .code yX1_isMore cX1_isMore 2 (some .boolean), .fieldLink RX1 7 "PrefixBenchModel" "address" "[I", .methodLink RX1 84 yX1_has, .instanceMethod yX1_has, .selects RX1 yX1_has yX1_has, .code yX1_has cX1_has 3 (some .boolean), .methodLink RX1 32 yX1_mask, .static yX1_mask, .code yX1_mask cX1_mask 1 (some .int)] ++ wsX10)
def wsX1_after_r1 : List Cond := [Cond.fieldLink RX1 26 "PrefixBenchModel" "code" "I", Cond.fieldLink RX1 48 "PrefixBenchModel" "count" "I", Cond.constantLong RX1 75 (-1), Cond.constantLong RX1 36 (64), Cond.fieldLink RX1 7 "PrefixBenchModel" "address" "[I", Cond.fieldLink RX1 13 "PrefixBenchModel" "length" "[I", Cond.methodLink RX1 54 yX1_isPrefix, Cond.static yX1_isPrefix, Cond.initialized RX1, Cond.code yX1_isPrefix cX1_isPrefix 2 (some .boolean), Cond.methodLink RX1 32 yX1_mask, Cond.static yX1_mask, Cond.code yX1_mask cX1_mask 1 (some .int), Cond.methodLink RX1 44 yX1_rank, Cond.static yX1_rank, Cond.code yX1_rank cX1_rank 3 (some .long), Cond.constantLong RX1 42 (8), Cond.methodLink RX1 38 yX1_unsigned, Cond.static yX1_unsigned, Cond.code yX1_unsigned cX1_unsigned 1 (some .long), Cond.constantLong RX1 30 (4294967295), Cond.methodLink RX1 59 yX1_place, Cond.instanceMethod yX1_place, Cond.selects RX1 yX1_place yX1_place]
def wsX1_after_r2 : List Cond := [Cond.code yX1_place cX1_place 6 (some .int), Cond.methodLink RX1 51 yX1_rankOf, Cond.instanceMethod yX1_rankOf, Cond.selects RX1 yX1_rankOf yX1_rankOf, Cond.code yX1_rankOf cX1_rankOf 2 (some .long), Cond.fieldLink RX1 16 "PrefixBenchModel" "origin" "[I"]
def wsX1_after : List Cond := .code yX1_after cX1_after 4 (some .long) :: ((wsX1_after_r1 ++ wsX1_after_r2) ++ wsX10)
def wsX1_within : List Cond := .code yX1_within cX1_within 5 (some .int) :: ([.fieldLink RX1 26 "PrefixBenchModel" "code" "I", .fieldLink RX1 48 "PrefixBenchModel" "count" "I", .fieldLink RX1 13 "PrefixBenchModel" "length" "[I", .fieldLink RX1 7 "PrefixBenchModel" "address" "[I", .methodLink RX1 54 yX1_isPrefix, .static yX1_isPrefix, .initialized RX1, .code yX1_isPrefix cX1_isPrefix 2 (some .boolean), .methodLink RX1 32 yX1_mask, .static yX1_mask, .code yX1_mask cX1_mask 1 (some .int), .methodLink RX1 80 yX1_isMore, .instanceMethod yX1_isMore, .selects RX1 yX1_isMore yX1_isMore, .code yX1_isMore cX1_isMore 2 (some .boolean)] ++ wsX10)
def wsX1_routes : List Cond := .code yX1_routes cX1_routes 1 (some .int) :: ([.fieldLink RX1 26 "PrefixBenchModel" "code" "I", .fieldLink RX1 48 "PrefixBenchModel" "count" "I"] ++ wsX10)
def wsX1_known : List Cond := .code yX1_known cX1_known 3 (some .int) :: ([.fieldLink RX1 26 "PrefixBenchModel" "code" "I", .fieldLink RX1 48 "PrefixBenchModel" "count" "I", .methodLink RX1 80 yX1_isMore, .instanceMethod yX1_isMore, .selects RX1 yX1_isMore yX1_isMore, .initialized RX1, .code yX1_isMore cX1_isMore 2 (some .boolean), .fieldLink RX1 7 "PrefixBenchModel" "address" "[I", .fieldLink RX1 13 "PrefixBenchModel" "length" "[I"] ++ wsX10)
def wsX1_isKnown : List Cond := .code yX1_isKnown cX1_isKnown 4 (some .boolean) :: ([.fieldLink RX1 48 "PrefixBenchModel" "count" "I", .fieldLink RX1 7 "PrefixBenchModel" "address" "[I", .fieldLink RX1 13 "PrefixBenchModel" "length" "[I", .methodLink RX1 44 yX1_rank, .static yX1_rank, .initialized RX1, .code yX1_rank cX1_rank 3 (some .long), .constantLong RX1 36 (64), .constantLong RX1 42 (8), .methodLink RX1 38 yX1_unsigned, .static yX1_unsigned, .code yX1_unsigned cX1_unsigned 1 (some .long), .constantLong RX1 30 (4294967295), .methodLink RX1 59 yX1_place, .instanceMethod yX1_place, .selects RX1 yX1_place yX1_place, .code yX1_place cX1_place 6 (some .int), .methodLink RX1 51 yX1_rankOf, .instanceMethod yX1_rankOf, .selects RX1 yX1_rankOf yX1_rankOf, .code yX1_rankOf cX1_rankOf 2 (some .long), .fieldLink RX1 16 "PrefixBenchModel" "origin" "[I"] ++ wsX10)
def wsX1_nodes_r1 : List Cond := [Cond.fieldLink RX1 26 "PrefixBenchModel" "code" "I", Cond.fieldLink RX1 48 "PrefixBenchModel" "count" "I", Cond.fieldLink RX1 7 "PrefixBenchModel" "address" "[I", Cond.methodLink RX1 80 yX1_isMore, Cond.instanceMethod yX1_isMore, Cond.selects RX1 yX1_isMore yX1_isMore, Cond.initialized RX1, Cond.code yX1_isMore cX1_isMore 2 (some .boolean), Cond.fieldLink RX1 13 "PrefixBenchModel" "length" "[I", Cond.methodLink RX1 84 yX1_has, Cond.instanceMethod yX1_has, Cond.selects RX1 yX1_has yX1_has, Cond.code yX1_has cX1_has 3 (some .boolean), Cond.methodLink RX1 32 yX1_mask, Cond.static yX1_mask, Cond.code yX1_mask cX1_mask 1 (some .int), Cond.methodLink RX1 91 yX1_isKnown, Cond.instanceMethod yX1_isKnown, Cond.selects RX1 yX1_isKnown yX1_isKnown, Cond.code yX1_isKnown cX1_isKnown 4 (some .boolean), Cond.methodLink RX1 44 yX1_rank, Cond.static yX1_rank, Cond.code yX1_rank cX1_rank 3 (some .long), Cond.constantLong RX1 36 (64)]
def wsX1_nodes_r2 : List Cond := [Cond.constantLong RX1 42 (8), Cond.methodLink RX1 38 yX1_unsigned, Cond.static yX1_unsigned, Cond.code yX1_unsigned cX1_unsigned 1 (some .long), Cond.constantLong RX1 30 (4294967295), Cond.methodLink RX1 59 yX1_place, Cond.instanceMethod yX1_place, Cond.selects RX1 yX1_place yX1_place, Cond.code yX1_place cX1_place 6 (some .int), Cond.methodLink RX1 51 yX1_rankOf, Cond.instanceMethod yX1_rankOf, Cond.selects RX1 yX1_rankOf yX1_rankOf, Cond.code yX1_rankOf cX1_rankOf 2 (some .long), Cond.fieldLink RX1 16 "PrefixBenchModel" "origin" "[I"]
def wsX1_nodes : List Cond := .code yX1_nodes cX1_nodes 4 (some .int) :: ((wsX1_nodes_r1 ++ wsX1_nodes_r2) ++ wsX10)
def wsJ9_min_7cf53 : List Cond := .code yJ9_min_7cf53 cJ9_min_7cf53 2 (some .int) :: ([])
def wsL_put_r1 : List Cond := [Cond.classLink RL 13 "java/lang/IllegalArgumentException", Cond.classLink RL 15 "java/lang/IllegalStateException", Cond.methodLink RL 7 yX0_put, Cond.instanceMethod yX0_put, Cond.selects RX0 yX0_put yX0_put, Cond.initialized RX0, Cond.code yX0_put cX0_put 10 (some .int), Cond.fieldLink RX0 20 "PrefixBench" "count" "I", Cond.methodLink RX0 24 yX0_checkPrefix, Cond.static yX0_checkPrefix, Cond.code yX0_checkPrefix cX0_checkPrefix 2 none, Cond.classLink RX0 116 "java/lang/IllegalArgumentException", Cond.initialized "java/lang/IllegalArgumentException", Cond.methodLink RX0 129 yX0_mask, Cond.static yX0_mask, Cond.code yX0_mask cX0_mask 1 (some .int), Cond.methodLink RX0 28 yX0_checkOrigin, Cond.static yX0_checkOrigin, Cond.code yX0_checkOrigin cX0_checkOrigin 1 none, Cond.methodLink RX0 32 yX0_checkCostAndHops, Cond.static yX0_checkCostAndHops, Cond.code yX0_checkCostAndHops cX0_checkCostAndHops 3 none, Cond.constant RX0 149 (65535), Cond.methodLink RX0 36 yX0_prefixOf]
def wsL_put_r2 : List Cond := [Cond.static yX0_prefixOf, Cond.code yX0_prefixOf cX0_prefixOf 2 (some .long), Cond.constantLong RX0 111 (4294967295), Cond.methodLink RX0 40 yX0_routeKey, Cond.static yX0_routeKey, Cond.code yX0_routeKey cX0_routeKey 3 (some .long), Cond.methodLink RX0 44 yX0_firstFrom, Cond.instanceMethod yX0_firstFrom, Cond.selects RX0 yX0_firstFrom yX0_firstFrom, Cond.code yX0_firstFrom cX0_firstFrom 7 (some .int), Cond.methodLink RX0 48 yX0_keyAt, Cond.instanceMethod yX0_keyAt, Cond.selects RX0 yX0_keyAt yX0_keyAt, Cond.code yX0_keyAt cX0_keyAt 2 (some .long), Cond.fieldLink RX0 9 "PrefixBench" "keys" "[J", Cond.constantLong RX0 82 (-1), Cond.methodLink RX0 176 yX0_isPlace, Cond.instanceMethod yX0_isPlace, Cond.selects RX0 yX0_isPlace yX0_isPlace, Cond.code yX0_isPlace cX0_isPlace 2 (some .boolean), Cond.fieldLink RX0 13 "PrefixBench" "costs" "[I", Cond.fieldLink RX0 17 "PrefixBench" "hopSets" "[J", Cond.methodLink RX0 52 yX0_checkRoom, Cond.instanceMethod yX0_checkRoom]
def wsL_put_r3 : List Cond := [Cond.selects RX0 yX0_checkRoom yX0_checkRoom, Cond.code yX0_checkRoom cX0_checkRoom 1 none, Cond.classLink RX0 158 "java/lang/IllegalStateException", Cond.initialized "java/lang/IllegalStateException", Cond.methodLink RX0 55 yX0_openPlace, Cond.instanceMethod yX0_openPlace, Cond.selects RX0 yX0_openPlace yX0_openPlace, Cond.code yX0_openPlace cX0_openPlace 3 none, Cond.methodLink RX0 181 yX0_growIfFull, Cond.instanceMethod yX0_growIfFull, Cond.selects RX0 yX0_growIfFull yX0_growIfFull, Cond.code yX0_growIfFull cX0_growIfFull 2 none, Cond.methodLink RX0 184 yJ7_copyOf_c38d5, Cond.static yJ7_copyOf_c38d5, Cond.initialized RJ7, Cond.code yJ7_copyOf_c38d5 cJ7_copyOf_c38d5 3 (some (.array .long)), Cond.methodLink RJ7 319 ⟨"[J", "clone", "()Ljava/lang/Object;"⟩, Cond.sameMethod "[J" "java/lang/Object" "clone" "()Ljava/lang/Object;", Cond.native ⟨"java/lang/Object", "clone", "()Ljava/lang/Object;"⟩, Cond.instanceMethod ⟨"java/lang/Object", "clone", "()Ljava/lang/Object;"⟩, Cond.selects "[J" ⟨"[J", "clone", "()Ljava/lang/Object;"⟩ ⟨"java/lang/Object", "clone", "()Ljava/lang/Object;"⟩, Cond.classLink RJ7 320 "[J", Cond.arrayClass .long, Cond.methodLink RJ7 304 Lib.Math.min.name]
def wsL_put_r4 : List Cond := [Cond.static Lib.Math.min.name, Cond.initialized "java/lang/Math", Cond.code Lib.Math.min.name Lib.Math.min.code 2 (some .int), Cond.methodLink RJ7 150 arraycopyName, Cond.native arraycopyName, Cond.static arraycopyName, Cond.initialized "java/lang/System", Cond.methodLink RX0 190 yJ7_copyOf_59c91, Cond.static yJ7_copyOf_59c91, Cond.code yJ7_copyOf_59c91 cJ7_copyOf_59c91 3 (some (.array .int)), Cond.methodLink RJ7 316 ⟨"[I", "clone", "()Ljava/lang/Object;"⟩, Cond.sameMethod "[I" "java/lang/Object" "clone" "()Ljava/lang/Object;", Cond.selects "[I" ⟨"[I", "clone", "()Ljava/lang/Object;"⟩ ⟨"java/lang/Object", "clone", "()Ljava/lang/Object;"⟩, Cond.classLink RJ7 317 "[I", Cond.arrayClass .int, Cond.methodLink RX0 73 yX0_copy, Cond.instanceMethod yX0_copy, Cond.selects RX0 yX0_copy yX0_copy, Cond.code yX0_copy cX0_copy 3 none, Cond.methodLink RX0 87 yX0_costAt, Cond.instanceMethod yX0_costAt, Cond.selects RX0 yX0_costAt yX0_costAt, Cond.code yX0_costAt cX0_costAt 2 (some .int), Cond.methodLink RX0 84 yX0_hopsAt]
def wsL_put_r5 : List Cond := [Cond.instanceMethod yX0_hopsAt, Cond.selects RX0 yX0_hopsAt yX0_hopsAt, Cond.code yX0_hopsAt cX0_hopsAt 2 (some .long), Cond.methodLink RX0 58 yX0_write, Cond.instanceMethod yX0_write, Cond.selects RX0 yX0_write yX0_write, Cond.code yX0_write cX0_write 7 none]
def wsL_put : List Cond := .codeWith yL_put cL_put 9 (some .int) [(0, 16, 19, 13), (0, 16, 23, 15)] :: ((wsL_put_r1 ++ (wsL_put_r2 ++ (wsL_put_r3 ++ (wsL_put_r4 ++ wsL_put_r5)))) ++ wsX00 ++ (vx_atS RX0 120 "java/lang/IllegalArgumentException" ["java/lang/RuntimeException", "java/lang/Exception"]).filter goodWord ++ (vx_atS RX0 162 "java/lang/IllegalStateException" ["java/lang/RuntimeException", "java/lang/Exception"]).filter goodWord)
def wsL_take_r1 : List Cond := [Cond.classLink RL 13 "java/lang/IllegalArgumentException", Cond.methodLink RL 17 yX0_take, Cond.instanceMethod yX0_take, Cond.selects RX0 yX0_take yX0_take, Cond.initialized RX0, Cond.code yX0_take cX0_take 5 (some .boolean), Cond.methodLink RX0 24 yX0_checkPrefix, Cond.static yX0_checkPrefix, Cond.code yX0_checkPrefix cX0_checkPrefix 2 none, Cond.classLink RX0 116 "java/lang/IllegalArgumentException", Cond.initialized "java/lang/IllegalArgumentException", Cond.methodLink RX0 129 yX0_mask, Cond.static yX0_mask, Cond.code yX0_mask cX0_mask 1 (some .int), Cond.methodLink RX0 28 yX0_checkOrigin, Cond.static yX0_checkOrigin, Cond.code yX0_checkOrigin cX0_checkOrigin 1 none, Cond.methodLink RX0 36 yX0_prefixOf, Cond.static yX0_prefixOf, Cond.code yX0_prefixOf cX0_prefixOf 2 (some .long), Cond.constantLong RX0 111 (4294967295), Cond.methodLink RX0 62 yX0_placeOfRoute, Cond.instanceMethod yX0_placeOfRoute, Cond.selects RX0 yX0_placeOfRoute yX0_placeOfRoute]
def wsL_take_r2 : List Cond := [Cond.code yX0_placeOfRoute cX0_placeOfRoute 7 (some .int), Cond.methodLink RX0 40 yX0_routeKey, Cond.static yX0_routeKey, Cond.code yX0_routeKey cX0_routeKey 3 (some .long), Cond.methodLink RX0 44 yX0_firstFrom, Cond.instanceMethod yX0_firstFrom, Cond.selects RX0 yX0_firstFrom yX0_firstFrom, Cond.code yX0_firstFrom cX0_firstFrom 7 (some .int), Cond.fieldLink RX0 20 "PrefixBench" "count" "I", Cond.methodLink RX0 48 yX0_keyAt, Cond.instanceMethod yX0_keyAt, Cond.selects RX0 yX0_keyAt yX0_keyAt, Cond.code yX0_keyAt cX0_keyAt 2 (some .long), Cond.fieldLink RX0 9 "PrefixBench" "keys" "[J", Cond.constantLong RX0 82 (-1), Cond.methodLink RX0 176 yX0_isPlace, Cond.instanceMethod yX0_isPlace, Cond.selects RX0 yX0_isPlace yX0_isPlace, Cond.code yX0_isPlace cX0_isPlace 2 (some .boolean), Cond.fieldLink RX0 13 "PrefixBench" "costs" "[I", Cond.fieldLink RX0 17 "PrefixBench" "hopSets" "[J", Cond.methodLink RX0 66 yX0_closePlace, Cond.instanceMethod yX0_closePlace, Cond.selects RX0 yX0_closePlace yX0_closePlace]
def wsL_take_r3 : List Cond := [Cond.code yX0_closePlace cX0_closePlace 3 none, Cond.methodLink RX0 73 yX0_copy, Cond.instanceMethod yX0_copy, Cond.selects RX0 yX0_copy yX0_copy, Cond.code yX0_copy cX0_copy 3 none, Cond.methodLink RX0 87 yX0_costAt, Cond.instanceMethod yX0_costAt, Cond.selects RX0 yX0_costAt yX0_costAt, Cond.code yX0_costAt cX0_costAt 2 (some .int), Cond.methodLink RX0 84 yX0_hopsAt, Cond.instanceMethod yX0_hopsAt, Cond.selects RX0 yX0_hopsAt yX0_hopsAt, Cond.code yX0_hopsAt cX0_hopsAt 2 (some .long), Cond.methodLink RX0 58 yX0_write, Cond.instanceMethod yX0_write, Cond.selects RX0 yX0_write yX0_write, Cond.code yX0_write cX0_write 7 none]
def wsL_take : List Cond := .codeWith yL_take cL_take 6 (some .int) [(0, 19, 22, 13)] :: ((wsL_take_r1 ++ (wsL_take_r2 ++ wsL_take_r3)) ++ wsX00 ++ (vx_atS RX0 120 "java/lang/IllegalArgumentException" ["java/lang/RuntimeException", "java/lang/Exception"]).filter goodWord)
def wsL_drop_r1 : List Cond := [Cond.classLink RL 13 "java/lang/IllegalArgumentException", Cond.methodLink RL 21 yX0_drop, Cond.instanceMethod yX0_drop, Cond.selects RX0 yX0_drop yX0_drop, Cond.initialized RX0, Cond.code yX0_drop cX0_drop 4 (some .int), Cond.fieldLink RX0 20 "PrefixBench" "count" "I", Cond.methodLink RX0 28 yX0_checkOrigin, Cond.static yX0_checkOrigin, Cond.code yX0_checkOrigin cX0_checkOrigin 1 none, Cond.classLink RX0 116 "java/lang/IllegalArgumentException", Cond.initialized "java/lang/IllegalArgumentException", Cond.methodLink RX0 69 yX0_originAt, Cond.instanceMethod yX0_originAt, Cond.selects RX0 yX0_originAt yX0_originAt, Cond.code yX0_originAt cX0_originAt 2 (some .int), Cond.constantLong RX0 179 (7), Cond.methodLink RX0 176 yX0_isPlace, Cond.instanceMethod yX0_isPlace, Cond.selects RX0 yX0_isPlace yX0_isPlace, Cond.code yX0_isPlace cX0_isPlace 2 (some .boolean), Cond.fieldLink RX0 9 "PrefixBench" "keys" "[J", Cond.fieldLink RX0 13 "PrefixBench" "costs" "[I", Cond.fieldLink RX0 17 "PrefixBench" "hopSets" "[J"]
def wsL_drop_r2 : List Cond := [Cond.methodLink RX0 48 yX0_keyAt, Cond.instanceMethod yX0_keyAt, Cond.selects RX0 yX0_keyAt yX0_keyAt, Cond.code yX0_keyAt cX0_keyAt 2 (some .long), Cond.constantLong RX0 82 (-1), Cond.methodLink RX0 73 yX0_copy, Cond.instanceMethod yX0_copy, Cond.selects RX0 yX0_copy yX0_copy, Cond.code yX0_copy cX0_copy 3 none, Cond.methodLink RX0 87 yX0_costAt, Cond.instanceMethod yX0_costAt, Cond.selects RX0 yX0_costAt yX0_costAt, Cond.code yX0_costAt cX0_costAt 2 (some .int), Cond.methodLink RX0 84 yX0_hopsAt, Cond.instanceMethod yX0_hopsAt, Cond.selects RX0 yX0_hopsAt yX0_hopsAt, Cond.code yX0_hopsAt cX0_hopsAt 2 (some .long), Cond.methodLink RX0 58 yX0_write, Cond.instanceMethod yX0_write, Cond.selects RX0 yX0_write yX0_write, Cond.code yX0_write cX0_write 7 none, Cond.methodLink RX0 76 yX0_keepFirst, Cond.instanceMethod yX0_keepFirst, Cond.selects RX0 yX0_keepFirst yX0_keepFirst]
def wsL_drop_r3 : List Cond := [Cond.code yX0_keepFirst cX0_keepFirst 3 (some .int)]
def wsL_drop : List Cond := .codeWith yL_drop cL_drop 4 (some .int) [(0, 9, 12, 13)] :: ((wsL_drop_r1 ++ (wsL_drop_r2 ++ wsL_drop_r3)) ++ wsX00 ++ (vx_atS RX0 120 "java/lang/IllegalArgumentException" ["java/lang/RuntimeException", "java/lang/Exception"]).filter goodWord)
def wsL_cut_r1 : List Cond := [Cond.classLink RL 13 "java/lang/IllegalArgumentException", Cond.methodLink RL 25 yX0_cut, Cond.instanceMethod yX0_cut, Cond.selects RX0 yX0_cut yX0_cut, Cond.initialized RX0, Cond.code yX0_cut cX0_cut 8 (some .int), Cond.constantLong RX0 82 (-1), Cond.fieldLink RX0 20 "PrefixBench" "count" "I", Cond.methodLink RX0 79 yX0_checkHop, Cond.static yX0_checkHop, Cond.code yX0_checkHop cX0_checkHop 1 none, Cond.classLink RX0 116 "java/lang/IllegalArgumentException", Cond.initialized "java/lang/IllegalArgumentException", Cond.methodLink RX0 84 yX0_hopsAt, Cond.instanceMethod yX0_hopsAt, Cond.selects RX0 yX0_hopsAt yX0_hopsAt, Cond.code yX0_hopsAt cX0_hopsAt 2 (some .long), Cond.fieldLink RX0 17 "PrefixBench" "hopSets" "[J", Cond.methodLink RX0 176 yX0_isPlace, Cond.instanceMethod yX0_isPlace, Cond.selects RX0 yX0_isPlace yX0_isPlace, Cond.code yX0_isPlace cX0_isPlace 2 (some .boolean), Cond.fieldLink RX0 9 "PrefixBench" "keys" "[J", Cond.fieldLink RX0 13 "PrefixBench" "costs" "[I"]
def wsL_cut_r2 : List Cond := [Cond.methodLink RX0 48 yX0_keyAt, Cond.instanceMethod yX0_keyAt, Cond.selects RX0 yX0_keyAt yX0_keyAt, Cond.code yX0_keyAt cX0_keyAt 2 (some .long), Cond.methodLink RX0 87 yX0_costAt, Cond.instanceMethod yX0_costAt, Cond.selects RX0 yX0_costAt yX0_costAt, Cond.code yX0_costAt cX0_costAt 2 (some .int), Cond.methodLink RX0 58 yX0_write, Cond.instanceMethod yX0_write, Cond.selects RX0 yX0_write yX0_write, Cond.code yX0_write cX0_write 7 none, Cond.methodLink RX0 76 yX0_keepFirst, Cond.instanceMethod yX0_keepFirst, Cond.selects RX0 yX0_keepFirst yX0_keepFirst, Cond.code yX0_keepFirst cX0_keepFirst 3 (some .int)]
def wsL_cut : List Cond := .codeWith yL_cut cL_cut 4 (some .int) [(0, 9, 12, 13)] :: ((wsL_cut_r1 ++ wsL_cut_r2) ++ wsX00 ++ (vx_atS RX0 120 "java/lang/IllegalArgumentException" ["java/lang/RuntimeException", "java/lang/Exception"]).filter goodWord)
def wsL_route_r1 : List Cond := [Cond.classLink RL 13 "java/lang/IllegalArgumentException", Cond.methodLink RL 28 yX0_route, Cond.instanceMethod yX0_route, Cond.selects RX0 yX0_route yX0_route, Cond.initialized RX0, Cond.code yX0_route cX0_route 8 (some .int), Cond.methodLink RX0 24 yX0_checkPrefix, Cond.static yX0_checkPrefix, Cond.code yX0_checkPrefix cX0_checkPrefix 2 none, Cond.classLink RX0 116 "java/lang/IllegalArgumentException", Cond.initialized "java/lang/IllegalArgumentException", Cond.methodLink RX0 129 yX0_mask, Cond.static yX0_mask, Cond.code yX0_mask cX0_mask 1 (some .int), Cond.methodLink RX0 28 yX0_checkOrigin, Cond.static yX0_checkOrigin, Cond.code yX0_checkOrigin cX0_checkOrigin 1 none, Cond.methodLink RX0 90 yX0_checkWhat, Cond.static yX0_checkWhat, Cond.code yX0_checkWhat cX0_checkWhat 1 none, Cond.methodLink RX0 36 yX0_prefixOf, Cond.static yX0_prefixOf, Cond.code yX0_prefixOf cX0_prefixOf 2 (some .long), Cond.constantLong RX0 111 (4294967295)]
def wsL_route_r2 : List Cond := [Cond.methodLink RX0 93 yX0_placeOfBest, Cond.instanceMethod yX0_placeOfBest, Cond.selects RX0 yX0_placeOfBest yX0_placeOfBest, Cond.code yX0_placeOfBest cX0_placeOfBest 4 (some .int), Cond.methodLink RX0 123 yX0_firstOfPrefix, Cond.instanceMethod yX0_firstOfPrefix, Cond.selects RX0 yX0_firstOfPrefix yX0_firstOfPrefix, Cond.code yX0_firstOfPrefix cX0_firstOfPrefix 3 (some .int), Cond.methodLink RX0 40 yX0_routeKey, Cond.static yX0_routeKey, Cond.code yX0_routeKey cX0_routeKey 3 (some .long), Cond.methodLink RX0 44 yX0_firstFrom, Cond.instanceMethod yX0_firstFrom, Cond.selects RX0 yX0_firstFrom yX0_firstFrom, Cond.code yX0_firstFrom cX0_firstFrom 7 (some .int), Cond.fieldLink RX0 20 "PrefixBench" "count" "I", Cond.methodLink RX0 48 yX0_keyAt, Cond.instanceMethod yX0_keyAt, Cond.selects RX0 yX0_keyAt yX0_keyAt, Cond.code yX0_keyAt cX0_keyAt 2 (some .long), Cond.fieldLink RX0 9 "PrefixBench" "keys" "[J", Cond.constantLong RX0 82 (-1), Cond.methodLink RX0 176 yX0_isPlace, Cond.instanceMethod yX0_isPlace]
def wsL_route_r3 : List Cond := [Cond.selects RX0 yX0_isPlace yX0_isPlace, Cond.code yX0_isPlace cX0_isPlace 2 (some .boolean), Cond.fieldLink RX0 13 "PrefixBench" "costs" "[I", Cond.fieldLink RX0 17 "PrefixBench" "hopSets" "[J", Cond.methodLink RX0 126 yX0_prefixAt, Cond.instanceMethod yX0_prefixAt, Cond.selects RX0 yX0_prefixAt yX0_prefixAt, Cond.code yX0_prefixAt cX0_prefixAt 2 (some .long), Cond.methodLink RX0 62 yX0_placeOfRoute, Cond.instanceMethod yX0_placeOfRoute, Cond.selects RX0 yX0_placeOfRoute yX0_placeOfRoute, Cond.code yX0_placeOfRoute cX0_placeOfRoute 7 (some .int), Cond.methodLink RX0 96 yX0_tell, Cond.instanceMethod yX0_tell, Cond.selects RX0 yX0_tell yX0_tell, Cond.code yX0_tell cX0_tell 3 (some .int), Cond.methodLink RX0 87 yX0_costAt, Cond.instanceMethod yX0_costAt, Cond.selects RX0 yX0_costAt yX0_costAt, Cond.code yX0_costAt cX0_costAt 2 (some .int), Cond.methodLink RX0 69 yX0_originAt, Cond.instanceMethod yX0_originAt, Cond.selects RX0 yX0_originAt yX0_originAt, Cond.code yX0_originAt cX0_originAt 2 (some .int)]
def wsL_route_r4 : List Cond := [Cond.constantLong RX0 179 (7), Cond.methodLink RX0 84 yX0_hopsAt, Cond.instanceMethod yX0_hopsAt, Cond.selects RX0 yX0_hopsAt yX0_hopsAt, Cond.code yX0_hopsAt cX0_hopsAt 2 (some .long), Cond.methodLink RX0 106 yJ13_bitCount_95d88, Cond.static yJ13_bitCount_95d88, Cond.initialized RJ13, Cond.code yJ13_bitCount_95d88 cJ13_bitCount_95d88 2 (some .int), Cond.constantLong RJ13 314 (6148914691236517205), Cond.constantLong RJ13 316 (3689348814741910323), Cond.constantLong RJ13 318 (1085102592571150095)]
def wsL_route : List Cond := .codeWith yL_route cL_route 7 (some .int) [(0, 14, 17, 13)] :: ((wsL_route_r1 ++ (wsL_route_r2 ++ (wsL_route_r3 ++ wsL_route_r4))) ++ wsX00 ++ (vx_atS RX0 120 "java/lang/IllegalArgumentException" ["java/lang/RuntimeException", "java/lang/Exception"]).filter goodWord)
def wsL_shorter_r1 : List Cond := [Cond.classLink RL 13 "java/lang/IllegalArgumentException", Cond.methodLink RL 32 yX0_shorter, Cond.instanceMethod yX0_shorter, Cond.selects RX0 yX0_shorter yX0_shorter, Cond.initialized RX0, Cond.code yX0_shorter cX0_shorter 3 (some .int), Cond.classLink RX0 116 "java/lang/IllegalArgumentException", Cond.initialized "java/lang/IllegalArgumentException", Cond.methodLink RX0 100 yX0_placeOfLongest, Cond.instanceMethod yX0_placeOfLongest, Cond.selects RX0 yX0_placeOfLongest yX0_placeOfLongest, Cond.code yX0_placeOfLongest cX0_placeOfLongest 5 (some .int), Cond.methodLink RX0 129 yX0_mask, Cond.static yX0_mask, Cond.code yX0_mask cX0_mask 1 (some .int), Cond.methodLink RX0 36 yX0_prefixOf, Cond.static yX0_prefixOf, Cond.code yX0_prefixOf cX0_prefixOf 2 (some .long), Cond.constantLong RX0 111 (4294967295), Cond.methodLink RX0 93 yX0_placeOfBest, Cond.instanceMethod yX0_placeOfBest, Cond.selects RX0 yX0_placeOfBest yX0_placeOfBest, Cond.code yX0_placeOfBest cX0_placeOfBest 4 (some .int), Cond.methodLink RX0 123 yX0_firstOfPrefix]
def wsL_shorter_r2 : List Cond := [Cond.instanceMethod yX0_firstOfPrefix, Cond.selects RX0 yX0_firstOfPrefix yX0_firstOfPrefix, Cond.code yX0_firstOfPrefix cX0_firstOfPrefix 3 (some .int), Cond.methodLink RX0 40 yX0_routeKey, Cond.static yX0_routeKey, Cond.code yX0_routeKey cX0_routeKey 3 (some .long), Cond.methodLink RX0 44 yX0_firstFrom, Cond.instanceMethod yX0_firstFrom, Cond.selects RX0 yX0_firstFrom yX0_firstFrom, Cond.code yX0_firstFrom cX0_firstFrom 7 (some .int), Cond.fieldLink RX0 20 "PrefixBench" "count" "I", Cond.methodLink RX0 48 yX0_keyAt, Cond.instanceMethod yX0_keyAt, Cond.selects RX0 yX0_keyAt yX0_keyAt, Cond.code yX0_keyAt cX0_keyAt 2 (some .long), Cond.fieldLink RX0 9 "PrefixBench" "keys" "[J", Cond.constantLong RX0 82 (-1), Cond.methodLink RX0 176 yX0_isPlace, Cond.instanceMethod yX0_isPlace, Cond.selects RX0 yX0_isPlace yX0_isPlace, Cond.code yX0_isPlace cX0_isPlace 2 (some .boolean), Cond.fieldLink RX0 13 "PrefixBench" "costs" "[I", Cond.fieldLink RX0 17 "PrefixBench" "hopSets" "[J", Cond.methodLink RX0 126 yX0_prefixAt]
def wsL_shorter_r3 : List Cond := [Cond.instanceMethod yX0_prefixAt, Cond.selects RX0 yX0_prefixAt yX0_prefixAt, Cond.code yX0_prefixAt cX0_prefixAt 2 (some .long), Cond.methodLink RX0 103 yX0_lengthAt, Cond.instanceMethod yX0_lengthAt, Cond.selects RX0 yX0_lengthAt yX0_lengthAt, Cond.code yX0_lengthAt cX0_lengthAt 2 (some .int), Cond.methodLink RX0 173 yX0_lengthOf, Cond.static yX0_lengthOf, Cond.code yX0_lengthOf cX0_lengthOf 2 (some .int), Cond.constantLong RX0 163 (63)]
def wsL_shorter : List Cond := .codeWith yL_shorter cL_shorter 5 (some .int) [(0, 10, 13, 13)] :: ((wsL_shorter_r1 ++ (wsL_shorter_r2 ++ wsL_shorter_r3)) ++ wsX00 ++ (vx_atS RX0 120 "java/lang/IllegalArgumentException" ["java/lang/RuntimeException", "java/lang/Exception"]).filter goodWord)
def wsL_after_r1 : List Cond := [Cond.classLink RL 13 "java/lang/IllegalArgumentException", Cond.methodLink RL 36 yX0_after, Cond.instanceMethod yX0_after, Cond.selects RX0 yX0_after yX0_after, Cond.initialized RX0, Cond.code yX0_after cX0_after 3 (some .long), Cond.methodLink RX0 24 yX0_checkPrefix, Cond.static yX0_checkPrefix, Cond.code yX0_checkPrefix cX0_checkPrefix 2 none, Cond.classLink RX0 116 "java/lang/IllegalArgumentException", Cond.initialized "java/lang/IllegalArgumentException", Cond.methodLink RX0 129 yX0_mask, Cond.static yX0_mask, Cond.code yX0_mask cX0_mask 1 (some .int), Cond.methodLink RX0 36 yX0_prefixOf, Cond.static yX0_prefixOf, Cond.code yX0_prefixOf cX0_prefixOf 2 (some .long), Cond.constantLong RX0 111 (4294967295), Cond.methodLink RX0 123 yX0_firstOfPrefix, Cond.instanceMethod yX0_firstOfPrefix, Cond.selects RX0 yX0_firstOfPrefix yX0_firstOfPrefix, Cond.code yX0_firstOfPrefix cX0_firstOfPrefix 3 (some .int), Cond.methodLink RX0 40 yX0_routeKey, Cond.static yX0_routeKey]
def wsL_after_r2 : List Cond := [Cond.code yX0_routeKey cX0_routeKey 3 (some .long), Cond.methodLink RX0 44 yX0_firstFrom, Cond.instanceMethod yX0_firstFrom, Cond.selects RX0 yX0_firstFrom yX0_firstFrom, Cond.code yX0_firstFrom cX0_firstFrom 7 (some .int), Cond.fieldLink RX0 20 "PrefixBench" "count" "I", Cond.methodLink RX0 48 yX0_keyAt, Cond.instanceMethod yX0_keyAt, Cond.selects RX0 yX0_keyAt yX0_keyAt, Cond.code yX0_keyAt cX0_keyAt 2 (some .long), Cond.fieldLink RX0 9 "PrefixBench" "keys" "[J", Cond.constantLong RX0 82 (-1), Cond.methodLink RX0 176 yX0_isPlace, Cond.instanceMethod yX0_isPlace, Cond.selects RX0 yX0_isPlace yX0_isPlace, Cond.code yX0_isPlace cX0_isPlace 2 (some .boolean), Cond.fieldLink RX0 13 "PrefixBench" "costs" "[I", Cond.fieldLink RX0 17 "PrefixBench" "hopSets" "[J", Cond.methodLink RX0 126 yX0_prefixAt, Cond.instanceMethod yX0_prefixAt, Cond.selects RX0 yX0_prefixAt yX0_prefixAt, Cond.code yX0_prefixAt cX0_prefixAt 2 (some .long)]
def wsL_after : List Cond := .codeWith yL_after cL_after 5 (some .int) [(0, 9, 12, 13)] :: ((wsL_after_r1 ++ wsL_after_r2) ++ wsX00 ++ (vx_atS RX0 120 "java/lang/IllegalArgumentException" ["java/lang/RuntimeException", "java/lang/Exception"]).filter goodWord)
def wsL_within_r1 : List Cond := [Cond.classLink RL 13 "java/lang/IllegalArgumentException", Cond.methodLink RL 40 yX0_within, Cond.instanceMethod yX0_within, Cond.selects RX0 yX0_within yX0_within, Cond.initialized RX0, Cond.code yX0_within cX0_within 7 (some .int), Cond.methodLink RX0 24 yX0_checkPrefix, Cond.static yX0_checkPrefix, Cond.code yX0_checkPrefix cX0_checkPrefix 2 none, Cond.classLink RX0 116 "java/lang/IllegalArgumentException", Cond.initialized "java/lang/IllegalArgumentException", Cond.methodLink RX0 129 yX0_mask, Cond.static yX0_mask, Cond.code yX0_mask cX0_mask 1 (some .int), Cond.methodLink RX0 36 yX0_prefixOf, Cond.static yX0_prefixOf, Cond.code yX0_prefixOf cX0_prefixOf 2 (some .long), Cond.constantLong RX0 111 (4294967295), Cond.methodLink RX0 123 yX0_firstOfPrefix, Cond.instanceMethod yX0_firstOfPrefix, Cond.selects RX0 yX0_firstOfPrefix yX0_firstOfPrefix, Cond.code yX0_firstOfPrefix cX0_firstOfPrefix 3 (some .int), Cond.methodLink RX0 40 yX0_routeKey, Cond.static yX0_routeKey]
def wsL_within_r2 : List Cond := [Cond.code yX0_routeKey cX0_routeKey 3 (some .long), Cond.methodLink RX0 44 yX0_firstFrom, Cond.instanceMethod yX0_firstFrom, Cond.selects RX0 yX0_firstFrom yX0_firstFrom, Cond.code yX0_firstFrom cX0_firstFrom 7 (some .int), Cond.fieldLink RX0 20 "PrefixBench" "count" "I", Cond.methodLink RX0 48 yX0_keyAt, Cond.instanceMethod yX0_keyAt, Cond.selects RX0 yX0_keyAt yX0_keyAt, Cond.code yX0_keyAt cX0_keyAt 2 (some .long), Cond.fieldLink RX0 9 "PrefixBench" "keys" "[J", Cond.constantLong RX0 82 (-1), Cond.methodLink RX0 176 yX0_isPlace, Cond.instanceMethod yX0_isPlace, Cond.selects RX0 yX0_isPlace yX0_isPlace, Cond.code yX0_isPlace cX0_isPlace 2 (some .boolean), Cond.fieldLink RX0 13 "PrefixBench" "costs" "[I", Cond.fieldLink RX0 17 "PrefixBench" "hopSets" "[J", Cond.methodLink RX0 132 yX0_prefixesBetween, Cond.instanceMethod yX0_prefixesBetween, Cond.selects RX0 yX0_prefixesBetween yX0_prefixesBetween, Cond.code yX0_prefixesBetween cX0_prefixesBetween 5 (some .int), Cond.methodLink RX0 135 yX0_beginsPrefix, Cond.instanceMethod yX0_beginsPrefix]
def wsL_within_r3 : List Cond := [Cond.selects RX0 yX0_beginsPrefix yX0_beginsPrefix, Cond.code yX0_beginsPrefix cX0_beginsPrefix 2 (some .boolean), Cond.methodLink RX0 126 yX0_prefixAt, Cond.instanceMethod yX0_prefixAt, Cond.selects RX0 yX0_prefixAt yX0_prefixAt, Cond.code yX0_prefixAt cX0_prefixAt 2 (some .long)]
def wsL_within : List Cond := .codeWith yL_within cL_within 5 (some .int) [(0, 10, 13, 13)] :: ((wsL_within_r1 ++ (wsL_within_r2 ++ wsL_within_r3)) ++ wsX00 ++ (vx_atS RX0 120 "java/lang/IllegalArgumentException" ["java/lang/RuntimeException", "java/lang/Exception"]).filter goodWord)
def wsL_law0_r1 : List Cond := [Cond.classLink RL 8 RX0, Cond.instantiable RX0 4, Cond.initialized RX0, Cond.classLink RL 44 RX1, Cond.instantiable RX1 7, Cond.initialized RX1, Cond.arrayClass .long, Cond.constantLong RL 47 (4294967295), Cond.methodLink RL 43 yX0_init, Cond.instanceMethod yX0_init, Cond.code yX0_init cX0_init 1 none, Cond.methodLink RX0 1 objectInit, Cond.instanceMethod objectInit, Cond.code objectInit ⟨#[0xb1]⟩ 1 none, Cond.fieldLink RX0 9 "PrefixBench" "keys" "[J", Cond.arrayClass .int, Cond.fieldLink RX0 13 "PrefixBench" "costs" "[I", Cond.fieldLink RX0 17 "PrefixBench" "hopSets" "[J", Cond.fieldLink RX0 20 "PrefixBench" "count" "I", Cond.methodLink RL 46 yX1_init, Cond.instanceMethod yX1_init, Cond.code yX1_init cX1_init 1 none, Cond.methodLink RX1 1 objectInit, Cond.fieldLink RX1 7 "PrefixBenchModel" "address" "[I"]
def wsL_law0_r2 : List Cond := [Cond.fieldLink RX1 13 "PrefixBenchModel" "length" "[I", Cond.fieldLink RX1 16 "PrefixBenchModel" "origin" "[I", Cond.fieldLink RX1 19 "PrefixBenchModel" "cost" "[I", Cond.fieldLink RX1 22 "PrefixBenchModel" "hops" "[J", Cond.methodLink RL 49 yL_put, Cond.static yL_put, Cond.initialized RL, Cond.codeWith yL_put cL_put 9 (some .int) [(0, 16, 19, 13), (0, 16, 23, 15)], Cond.classLink RL 13 "java/lang/IllegalArgumentException", Cond.classLink RL 15 "java/lang/IllegalStateException", Cond.methodLink RL 7 yX0_put, Cond.instanceMethod yX0_put, Cond.selects RX0 yX0_put yX0_put, Cond.code yX0_put cX0_put 10 (some .int), Cond.methodLink RX0 24 yX0_checkPrefix, Cond.static yX0_checkPrefix, Cond.code yX0_checkPrefix cX0_checkPrefix 2 none, Cond.classLink RX0 116 "java/lang/IllegalArgumentException", Cond.initialized "java/lang/IllegalArgumentException", Cond.methodLink RX0 129 yX0_mask, Cond.static yX0_mask, Cond.code yX0_mask cX0_mask 1 (some .int), Cond.methodLink RX0 28 yX0_checkOrigin, Cond.static yX0_checkOrigin]
def wsL_law0_r3 : List Cond := [Cond.code yX0_checkOrigin cX0_checkOrigin 1 none, Cond.methodLink RX0 32 yX0_checkCostAndHops, Cond.static yX0_checkCostAndHops, Cond.code yX0_checkCostAndHops cX0_checkCostAndHops 3 none, Cond.constant RX0 149 (65535), Cond.methodLink RX0 36 yX0_prefixOf, Cond.static yX0_prefixOf, Cond.code yX0_prefixOf cX0_prefixOf 2 (some .long), Cond.constantLong RX0 111 (4294967295), Cond.methodLink RX0 40 yX0_routeKey, Cond.static yX0_routeKey, Cond.code yX0_routeKey cX0_routeKey 3 (some .long), Cond.methodLink RX0 44 yX0_firstFrom, Cond.instanceMethod yX0_firstFrom, Cond.selects RX0 yX0_firstFrom yX0_firstFrom, Cond.code yX0_firstFrom cX0_firstFrom 7 (some .int), Cond.methodLink RX0 48 yX0_keyAt, Cond.instanceMethod yX0_keyAt, Cond.selects RX0 yX0_keyAt yX0_keyAt, Cond.code yX0_keyAt cX0_keyAt 2 (some .long), Cond.constantLong RX0 82 (-1), Cond.methodLink RX0 176 yX0_isPlace, Cond.instanceMethod yX0_isPlace, Cond.selects RX0 yX0_isPlace yX0_isPlace]
def wsL_law0_r4 : List Cond := [Cond.code yX0_isPlace cX0_isPlace 2 (some .boolean), Cond.methodLink RX0 52 yX0_checkRoom, Cond.instanceMethod yX0_checkRoom, Cond.selects RX0 yX0_checkRoom yX0_checkRoom, Cond.code yX0_checkRoom cX0_checkRoom 1 none, Cond.classLink RX0 158 "java/lang/IllegalStateException", Cond.initialized "java/lang/IllegalStateException", Cond.methodLink RX0 55 yX0_openPlace, Cond.instanceMethod yX0_openPlace, Cond.selects RX0 yX0_openPlace yX0_openPlace, Cond.code yX0_openPlace cX0_openPlace 3 none, Cond.methodLink RX0 181 yX0_growIfFull, Cond.instanceMethod yX0_growIfFull, Cond.selects RX0 yX0_growIfFull yX0_growIfFull, Cond.code yX0_growIfFull cX0_growIfFull 2 none, Cond.methodLink RX0 184 yJ7_copyOf_c38d5, Cond.static yJ7_copyOf_c38d5, Cond.initialized RJ7, Cond.code yJ7_copyOf_c38d5 cJ7_copyOf_c38d5 3 (some (.array .long)), Cond.methodLink RJ7 319 ⟨"[J", "clone", "()Ljava/lang/Object;"⟩, Cond.sameMethod "[J" "java/lang/Object" "clone" "()Ljava/lang/Object;", Cond.native ⟨"java/lang/Object", "clone", "()Ljava/lang/Object;"⟩, Cond.instanceMethod ⟨"java/lang/Object", "clone", "()Ljava/lang/Object;"⟩, Cond.selects "[J" ⟨"[J", "clone", "()Ljava/lang/Object;"⟩ ⟨"java/lang/Object", "clone", "()Ljava/lang/Object;"⟩]
def wsL_law0_r5 : List Cond := [Cond.classLink RJ7 320 "[J", Cond.methodLink RJ7 304 Lib.Math.min.name, Cond.static Lib.Math.min.name, Cond.initialized "java/lang/Math", Cond.code Lib.Math.min.name Lib.Math.min.code 2 (some .int), Cond.methodLink RJ7 150 arraycopyName, Cond.native arraycopyName, Cond.static arraycopyName, Cond.initialized "java/lang/System", Cond.methodLink RX0 190 yJ7_copyOf_59c91, Cond.static yJ7_copyOf_59c91, Cond.code yJ7_copyOf_59c91 cJ7_copyOf_59c91 3 (some (.array .int)), Cond.methodLink RJ7 316 ⟨"[I", "clone", "()Ljava/lang/Object;"⟩, Cond.sameMethod "[I" "java/lang/Object" "clone" "()Ljava/lang/Object;", Cond.selects "[I" ⟨"[I", "clone", "()Ljava/lang/Object;"⟩ ⟨"java/lang/Object", "clone", "()Ljava/lang/Object;"⟩, Cond.classLink RJ7 317 "[I", Cond.methodLink RX0 73 yX0_copy, Cond.instanceMethod yX0_copy, Cond.selects RX0 yX0_copy yX0_copy, Cond.code yX0_copy cX0_copy 3 none, Cond.methodLink RX0 87 yX0_costAt, Cond.instanceMethod yX0_costAt, Cond.selects RX0 yX0_costAt yX0_costAt, Cond.code yX0_costAt cX0_costAt 2 (some .int)]
def wsL_law0_r6 : List Cond := [Cond.methodLink RX0 84 yX0_hopsAt, Cond.instanceMethod yX0_hopsAt, Cond.selects RX0 yX0_hopsAt yX0_hopsAt, Cond.code yX0_hopsAt cX0_hopsAt 2 (some .long), Cond.methodLink RX0 58 yX0_write, Cond.instanceMethod yX0_write, Cond.selects RX0 yX0_write yX0_write, Cond.code yX0_write cX0_write 7 none, Cond.methodLink RL 54 yX1_put, Cond.instanceMethod yX1_put, Cond.selects RX1 yX1_put yX1_put, Cond.code yX1_put cX1_put 10 (some .int), Cond.constant RX1 58 (65535), Cond.fieldLink RX1 48 "PrefixBenchModel" "count" "I", Cond.fieldLink RX1 26 "PrefixBenchModel" "code" "I", Cond.methodLink RX1 54 yX1_isPrefix, Cond.static yX1_isPrefix, Cond.code yX1_isPrefix cX1_isPrefix 2 (some .boolean), Cond.methodLink RX1 32 yX1_mask, Cond.static yX1_mask, Cond.code yX1_mask cX1_mask 1 (some .int), Cond.methodLink RX1 44 yX1_rank, Cond.static yX1_rank, Cond.code yX1_rank cX1_rank 3 (some .long)]
def wsL_law0_r7 : List Cond := [Cond.constantLong RX1 36 (64), Cond.constantLong RX1 42 (8), Cond.methodLink RX1 38 yX1_unsigned, Cond.static yX1_unsigned, Cond.code yX1_unsigned cX1_unsigned 1 (some .long), Cond.constantLong RX1 30 (4294967295), Cond.methodLink RX1 59 yX1_place, Cond.instanceMethod yX1_place, Cond.selects RX1 yX1_place yX1_place, Cond.code yX1_place cX1_place 6 (some .int), Cond.methodLink RX1 51 yX1_rankOf, Cond.instanceMethod yX1_rankOf, Cond.selects RX1 yX1_rankOf yX1_rankOf, Cond.code yX1_rankOf cX1_rankOf 2 (some .long), Cond.methodLink RX1 63 yX1_isThere, Cond.instanceMethod yX1_isThere, Cond.selects RX1 yX1_isThere yX1_isThere, Cond.code yX1_isThere cX1_isThere 5 (some .boolean), Cond.methodLink RX1 67 yX1_copy, Cond.instanceMethod yX1_copy, Cond.selects RX1 yX1_copy yX1_copy, Cond.code yX1_copy cX1_copy 3 none, Cond.methodLink RL 55 yX1_thrown, Cond.instanceMethod yX1_thrown]
def wsL_law0_r8 : List Cond := [Cond.selects RX1 yX1_thrown yX1_thrown, Cond.code yX1_thrown cX1_thrown 1 (some .int), Cond.methodLink RL 59 yL_take, Cond.static yL_take, Cond.codeWith yL_take cL_take 6 (some .int) [(0, 19, 22, 13)], Cond.methodLink RL 17 yX0_take, Cond.instanceMethod yX0_take, Cond.selects RX0 yX0_take yX0_take, Cond.code yX0_take cX0_take 5 (some .boolean), Cond.methodLink RX0 62 yX0_placeOfRoute, Cond.instanceMethod yX0_placeOfRoute, Cond.selects RX0 yX0_placeOfRoute yX0_placeOfRoute, Cond.code yX0_placeOfRoute cX0_placeOfRoute 7 (some .int), Cond.methodLink RX0 66 yX0_closePlace, Cond.instanceMethod yX0_closePlace, Cond.selects RX0 yX0_closePlace yX0_closePlace, Cond.code yX0_closePlace cX0_closePlace 3 none, Cond.methodLink RL 62 yX1_take, Cond.instanceMethod yX1_take, Cond.selects RX1 yX1_take yX1_take, Cond.code yX1_take cX1_take 6 (some .boolean), Cond.methodLink RX1 71 yX1_sweep, Cond.instanceMethod yX1_sweep, Cond.selects RX1 yX1_sweep yX1_sweep]
def wsL_law0_r9 : List Cond := [Cond.code yX1_sweep cX1_sweep 3 (some .int), Cond.methodLink RL 63 yL_drop, Cond.static yL_drop, Cond.codeWith yL_drop cL_drop 4 (some .int) [(0, 9, 12, 13)], Cond.methodLink RL 21 yX0_drop, Cond.instanceMethod yX0_drop, Cond.selects RX0 yX0_drop yX0_drop, Cond.code yX0_drop cX0_drop 4 (some .int), Cond.methodLink RX0 69 yX0_originAt, Cond.instanceMethod yX0_originAt, Cond.selects RX0 yX0_originAt yX0_originAt, Cond.code yX0_originAt cX0_originAt 2 (some .int), Cond.constantLong RX0 179 (7), Cond.methodLink RX0 76 yX0_keepFirst, Cond.instanceMethod yX0_keepFirst, Cond.selects RX0 yX0_keepFirst yX0_keepFirst, Cond.code yX0_keepFirst cX0_keepFirst 3 (some .int), Cond.methodLink RL 66 yX1_drop, Cond.instanceMethod yX1_drop, Cond.selects RX1 yX1_drop yX1_drop, Cond.code yX1_drop cX1_drop 3 (some .int), Cond.methodLink RL 67 yL_cut, Cond.static yL_cut, Cond.codeWith yL_cut cL_cut 4 (some .int) [(0, 9, 12, 13)]]
def wsL_law0_r10 : List Cond := [Cond.methodLink RL 25 yX0_cut, Cond.instanceMethod yX0_cut, Cond.selects RX0 yX0_cut yX0_cut, Cond.code yX0_cut cX0_cut 8 (some .int), Cond.methodLink RX0 79 yX0_checkHop, Cond.static yX0_checkHop, Cond.code yX0_checkHop cX0_checkHop 1 none, Cond.methodLink RL 69 yX1_cut, Cond.instanceMethod yX1_cut, Cond.selects RX1 yX1_cut yX1_cut, Cond.code yX1_cut cX1_cut 3 (some .int), Cond.constantLong RX1 75 (-1), Cond.methodLink RL 70 yL_route, Cond.static yL_route, Cond.codeWith yL_route cL_route 7 (some .int) [(0, 14, 17, 13)], Cond.methodLink RL 28 yX0_route, Cond.instanceMethod yX0_route, Cond.selects RX0 yX0_route yX0_route, Cond.code yX0_route cX0_route 8 (some .int), Cond.methodLink RX0 90 yX0_checkWhat, Cond.static yX0_checkWhat, Cond.code yX0_checkWhat cX0_checkWhat 1 none, Cond.methodLink RX0 93 yX0_placeOfBest, Cond.instanceMethod yX0_placeOfBest]
def wsL_law0_r11 : List Cond := [Cond.selects RX0 yX0_placeOfBest yX0_placeOfBest, Cond.code yX0_placeOfBest cX0_placeOfBest 4 (some .int), Cond.methodLink RX0 123 yX0_firstOfPrefix, Cond.instanceMethod yX0_firstOfPrefix, Cond.selects RX0 yX0_firstOfPrefix yX0_firstOfPrefix, Cond.code yX0_firstOfPrefix cX0_firstOfPrefix 3 (some .int), Cond.methodLink RX0 126 yX0_prefixAt, Cond.instanceMethod yX0_prefixAt, Cond.selects RX0 yX0_prefixAt yX0_prefixAt, Cond.code yX0_prefixAt cX0_prefixAt 2 (some .long), Cond.methodLink RX0 96 yX0_tell, Cond.instanceMethod yX0_tell, Cond.selects RX0 yX0_tell yX0_tell, Cond.code yX0_tell cX0_tell 3 (some .int), Cond.methodLink RX0 106 yJ13_bitCount_95d88, Cond.static yJ13_bitCount_95d88, Cond.initialized RJ13, Cond.code yJ13_bitCount_95d88 cJ13_bitCount_95d88 2 (some .int), Cond.constantLong RJ13 314 (6148914691236517205), Cond.constantLong RJ13 316 (3689348814741910323), Cond.constantLong RJ13 318 (1085102592571150095), Cond.methodLink RL 73 yX1_route, Cond.instanceMethod yX1_route, Cond.selects RX1 yX1_route yX1_route]
def wsL_law0_r12 : List Cond := [Cond.code yX1_route cX1_route 8 (some .int), Cond.methodLink RX1 77 yX1_size, Cond.static yX1_size, Cond.code yX1_size cX1_size 4 (some .int), Cond.methodLink RL 74 yX0_look, Cond.instanceMethod yX0_look, Cond.selects RX0 yX0_look yX0_look, Cond.code yX0_look cX0_look 2 (some .int), Cond.methodLink RX0 100 yX0_placeOfLongest, Cond.instanceMethod yX0_placeOfLongest, Cond.selects RX0 yX0_placeOfLongest yX0_placeOfLongest, Cond.code yX0_placeOfLongest cX0_placeOfLongest 5 (some .int), Cond.methodLink RX0 103 yX0_lengthAt, Cond.instanceMethod yX0_lengthAt, Cond.selects RX0 yX0_lengthAt yX0_lengthAt, Cond.code yX0_lengthAt cX0_lengthAt 2 (some .int), Cond.methodLink RX0 173 yX0_lengthOf, Cond.static yX0_lengthOf, Cond.code yX0_lengthOf cX0_lengthOf 2 (some .int), Cond.constantLong RX0 163 (63), Cond.methodLink RL 77 yX1_look, Cond.instanceMethod yX1_look, Cond.selects RX1 yX1_look yX1_look, Cond.code yX1_look cX1_look 3 (some .int)]
def wsL_law0_r13 : List Cond := [Cond.methodLink RX1 87 yX1_best, Cond.instanceMethod yX1_best, Cond.selects RX1 yX1_best yX1_best, Cond.code yX1_best cX1_best 6 (some .int), Cond.methodLink RX1 80 yX1_isMore, Cond.instanceMethod yX1_isMore, Cond.selects RX1 yX1_isMore yX1_isMore, Cond.code yX1_isMore cX1_isMore 2 (some .boolean), Cond.methodLink RX1 84 yX1_has, Cond.instanceMethod yX1_has, Cond.selects RX1 yX1_has yX1_has, Cond.code yX1_has cX1_has 3 (some .boolean), Cond.methodLink RL 78 yX0_hops, Cond.instanceMethod yX0_hops, Cond.selects RX0 yX0_hops yX0_hops, Cond.code yX0_hops cX0_hops 2 (some .long), Cond.methodLink RL 82 yX1_hops, Cond.instanceMethod yX1_hops, Cond.selects RX1 yX1_hops yX1_hops, Cond.code yX1_hops cX1_hops 3 (some .long), Cond.methodLink RL 83 yX0_hop, Cond.instanceMethod yX0_hop, Cond.selects RX0 yX0_hop yX0_hop, Cond.code yX0_hop cX0_hop 6 (some .int)]
def wsL_law0_r14 : List Cond := [Cond.methodLink RX0 113 yX0_hopOfRank, Cond.static yX0_hopOfRank, Cond.code yX0_hopOfRank cX0_hopOfRank 5 (some .int), Cond.methodLink RL 86 yX1_hop, Cond.instanceMethod yX1_hop, Cond.selects RX1 yX1_hop yX1_hop, Cond.code yX1_hop cX1_hop 6 (some .int), Cond.methodLink RL 87 yL_shorter, Cond.static yL_shorter, Cond.codeWith yL_shorter cL_shorter 5 (some .int) [(0, 10, 13, 13)], Cond.methodLink RL 32 yX0_shorter, Cond.instanceMethod yX0_shorter, Cond.selects RX0 yX0_shorter yX0_shorter, Cond.code yX0_shorter cX0_shorter 3 (some .int), Cond.methodLink RL 90 yX1_shorter, Cond.instanceMethod yX1_shorter, Cond.selects RX1 yX1_shorter yX1_shorter, Cond.code yX1_shorter cX1_shorter 4 (some .int), Cond.methodLink RL 91 yL_after, Cond.static yL_after, Cond.codeWith yL_after cL_after 5 (some .int) [(0, 9, 12, 13)], Cond.methodLink RL 36 yX0_after, Cond.instanceMethod yX0_after, Cond.selects RX0 yX0_after yX0_after]
def wsL_law0_r15 : List Cond := [Cond.code yX0_after cX0_after 3 (some .long), Cond.methodLink RL 93 yX1_after, Cond.instanceMethod yX1_after, Cond.selects RX1 yX1_after yX1_after, Cond.code yX1_after cX1_after 4 (some .long), Cond.methodLink RL 94 yL_within, Cond.static yL_within, Cond.codeWith yL_within cL_within 5 (some .int) [(0, 10, 13, 13)], Cond.methodLink RL 40 yX0_within, Cond.instanceMethod yX0_within, Cond.selects RX0 yX0_within yX0_within, Cond.code yX0_within cX0_within 7 (some .int), Cond.methodLink RX0 132 yX0_prefixesBetween, Cond.instanceMethod yX0_prefixesBetween, Cond.selects RX0 yX0_prefixesBetween yX0_prefixesBetween, Cond.code yX0_prefixesBetween cX0_prefixesBetween 5 (some .int), Cond.methodLink RX0 135 yX0_beginsPrefix, Cond.instanceMethod yX0_beginsPrefix, Cond.selects RX0 yX0_beginsPrefix yX0_beginsPrefix, Cond.code yX0_beginsPrefix cX0_beginsPrefix 2 (some .boolean), Cond.methodLink RL 96 yX1_within, Cond.instanceMethod yX1_within, Cond.selects RX1 yX1_within yX1_within, Cond.code yX1_within cX1_within 5 (some .int)]
def wsL_law0_r16 : List Cond := [Cond.methodLink RL 97 yX0_routes, Cond.instanceMethod yX0_routes, Cond.selects RX0 yX0_routes yX0_routes, Cond.code yX0_routes cX0_routes 1 (some .int), Cond.methodLink RL 100 yX1_routes, Cond.instanceMethod yX1_routes, Cond.selects RX1 yX1_routes yX1_routes, Cond.code yX1_routes cX1_routes 1 (some .int), Cond.methodLink RL 101 yX0_known, Cond.instanceMethod yX0_known, Cond.selects RX0 yX0_known yX0_known, Cond.code yX0_known cX0_known 1 (some .int), Cond.methodLink RL 104 yX1_known, Cond.instanceMethod yX1_known, Cond.selects RX1 yX1_known yX1_known, Cond.code yX1_known cX1_known 3 (some .int), Cond.methodLink RL 105 yX0_nodes, Cond.instanceMethod yX0_nodes, Cond.selects RX0 yX0_nodes yX0_nodes, Cond.code yX0_nodes cX0_nodes 3 (some .int), Cond.methodLink RX0 139 yX0_partAtUnknown, Cond.instanceMethod yX0_partAtUnknown, Cond.selects RX0 yX0_partAtUnknown yX0_partAtUnknown, Cond.code yX0_partAtUnknown cX0_partAtUnknown 7 (some .boolean)]
def wsL_law0_r17 : List Cond := [Cond.methodLink RX0 165 yX0_addressOf, Cond.static yX0_addressOf, Cond.code yX0_addressOf cX0_addressOf 2 (some .int), Cond.methodLink RX0 168 yJ6_numberOfLeadingZeros_0f7a4, Cond.static yJ6_numberOfLeadingZeros_0f7a4, Cond.initialized RJ6, Cond.code yJ6_numberOfLeadingZeros_0f7a4 cJ6_numberOfLeadingZeros_0f7a4 2 (some .int), Cond.constant RJ6 264 (65536), Cond.methodLink RL 108 yX1_nodes, Cond.instanceMethod yX1_nodes, Cond.selects RX1 yX1_nodes yX1_nodes, Cond.code yX1_nodes cX1_nodes 4 (some .int), Cond.methodLink RX1 91 yX1_isKnown, Cond.instanceMethod yX1_isKnown, Cond.selects RX1 yX1_isKnown yX1_isKnown, Cond.code yX1_isKnown cX1_isKnown 4 (some .boolean)]
def wsL_law0 : List Cond := (wsL_law0_r1 ++ (wsL_law0_r2 ++ (wsL_law0_r3 ++ (wsL_law0_r4 ++ (wsL_law0_r5 ++ (wsL_law0_r6 ++ (wsL_law0_r7 ++ (wsL_law0_r8 ++ (wsL_law0_r9 ++ (wsL_law0_r10 ++ (wsL_law0_r11 ++ (wsL_law0_r12 ++ (wsL_law0_r13 ++ (wsL_law0_r14 ++ (wsL_law0_r15 ++ (wsL_law0_r16 ++ wsL_law0_r17)))))))))))))))) ++ wsX00 ++ wsX10 ++ ([] : List Cond)
def wsL_law : List Cond := wsL_law0 ++ (vx_atS RX0 120 "java/lang/IllegalArgumentException" ["java/lang/RuntimeException", "java/lang/Exception"]).filter goodWord ++ (vx_atS RX0 162 "java/lang/IllegalStateException" ["java/lang/RuntimeException", "java/lang/Exception"]).filter goodWord
set_option maxRecDepth 20000 in
theorem wsL_law_in0 : ∀ w ∈ wsL_law0, w ∈ lw_tbl := fun w h => (goodIn_p wsL_law0 [50, 53, 409, 180, 183, 79, 254, 258, 82, 94, 98, 102, 106, 265, 285, 289, 292, 302, 308, 317, 321, 127, 325, 440, 443, 446, 450, 454, 460, 464, 468, 472, 436, 332, 336, 340, 476, 480, 347, 351, 356, 484, 363, 366, 488, 374, 377, 87, 91, 111, 382, 134, 493, 496, 72, 76, 115, 118, 500, 504, 508, 512, 123, 516, 131, 140, 520, 389, 524, 397, 528, 404, 152, 156, 532, 144, 536, 148, 540, 160, 164, 167, 170, 544, 548] (by decide +kernel) (by decide +kernel) w h).1
theorem wsL_law_x0 : ∀ w ∈ (vx_atS RX0 120 "java/lang/IllegalArgumentException" ["java/lang/RuntimeException", "java/lang/Exception"]).filter goodWord, w ∈ lw_tbl := by decide +kernel
theorem wsL_law_x1 : ∀ w ∈ (vx_atS RX0 162 "java/lang/IllegalStateException" ["java/lang/RuntimeException", "java/lang/Exception"]).filter goodWord, w ∈ lw_tbl := by decide +kernel
theorem wsL_law_in : ∀ w ∈ wsL_law, w ∈ lw_tbl := fun w h => (List.mem_append.mp h).elim (fun h => (List.mem_append.mp h).elim (fun h => wsL_law_in0 w h) (fun h => wsL_law_x0 w h)) (fun h => wsL_law_x1 w h)
theorem inlX0 : ∀ w ∈ wsX00, w ∈ wsL_law := fun _ h => List.mem_append_left _ (List.mem_append_left _ (List.mem_append_left _ (List.mem_append_left _ (List.mem_append_right _ h))))
theorem inX0 : ∀ w ∈ wsX00, w ∈ lw_tbl := fun w h => wsL_law_in w (inlX0 w h)
theorem inlX1 : ∀ w ∈ wsX10, w ∈ wsL_law := fun _ h => List.mem_append_left _ (List.mem_append_left _ (List.mem_append_left _ (List.mem_append_right _ h)))
theorem inX1 : ∀ w ∈ wsX10, w ∈ lw_tbl := fun w h => wsL_law_in w (inlX1 w h)
theorem inJx145de : ∀ w ∈ wsJx145de0, w ∈ lw_tbl := by decide +kernel
theorem inJx8e188 : ∀ w ∈ wsJx8e1880, w ∈ lw_tbl := by decide +kernel
theorem inJ6 : ∀ w ∈ wsJ60, w ∈ lw_tbl := by decide +kernel
theorem inJ13 : ∀ w ∈ wsJ130, w ∈ lw_tbl := by decide +kernel
theorem inJ9 : ∀ w ∈ wsJ90, w ∈ lw_tbl := by decide +kernel
theorem inJ0 : ∀ w ∈ wsJ00, w ∈ lw_tbl := by decide +kernel
theorem inJ10 : ∀ w ∈ wsJ100, w ∈ lw_tbl := by decide +kernel
theorem inJ7 : ∀ w ∈ wsJ70, w ∈ lw_tbl := by decide +kernel
theorem dX0_init_0 : decode cX0_init 0 = .ok (.aload_n 0, 1) := by decide +kernel
theorem dX0_init_1 : decode cX0_init 1 = .ok (.invokespecial 1, 3) := by decide +kernel
theorem dX0_init_4 : decode cX0_init 4 = .ok (.aload_n 0, 1) := by decide +kernel
theorem dX0_init_5 : decode cX0_init 5 = .ok (.bipush 16, 2) := by decide +kernel
theorem dX0_init_7 : decode cX0_init 7 = .ok (.newarray .long, 2) := by decide +kernel
theorem dX0_init_9 : decode cX0_init 9 = .ok (.putfield 9, 3) := by decide +kernel
theorem dX0_init_12 : decode cX0_init 12 = .ok (.aload_n 0, 1) := by decide +kernel
theorem dX0_init_13 : decode cX0_init 13 = .ok (.bipush 16, 2) := by decide +kernel
theorem dX0_init_15 : decode cX0_init 15 = .ok (.newarray .int, 2) := by decide +kernel
theorem dX0_init_17 : decode cX0_init 17 = .ok (.putfield 13, 3) := by decide +kernel
theorem dX0_init_20 : decode cX0_init 20 = .ok (.aload_n 0, 1) := by decide +kernel
theorem dX0_init_21 : decode cX0_init 21 = .ok (.bipush 16, 2) := by decide +kernel
theorem dX0_init_23 : decode cX0_init 23 = .ok (.newarray .long, 2) := by decide +kernel
theorem dX0_init_25 : decode cX0_init 25 = .ok (.putfield 17, 3) := by decide +kernel
theorem dX0_init_28 : decode cX0_init 28 = .ok (.aload_n 0, 1) := by decide +kernel
theorem dX0_init_29 : decode cX0_init 29 = .ok (.iconst 0, 1) := by decide +kernel
theorem dX0_init_30 : decode cX0_init 30 = .ok (.putfield 20, 3) := by decide +kernel
theorem dX0_init_33 : decode cX0_init 33 = .ok (.return_, 1) := by decide +kernel
set_option maxRecDepth 20000 in
theorem ggX0_put_X0_checkPrefix : GoodIn wsX0_put wsX0_checkPrefix := goodIn_ca (goodIn_r _ [5, 6, 7, 8, 9, 4, 10] (by decide +kernel) (by decide +kernel)) (goodIn_sub (fun _ h => List.mem_cons_of_mem _ (List.mem_append_left _ (List.mem_append_right _ h))) (by decide +kernel))
set_option maxRecDepth 20000 in
theorem gX0_put_X0_checkPrefix : GoodIn wsX0_put (va_wsS RX0 24 yX0_checkPrefix wsX0_checkPrefix) := goodIn_app (goodIn_of _ (by decide +kernel)) ggX0_put_X0_checkPrefix
set_option maxRecDepth 20000 in
theorem ggX0_put_X0_checkOrigin : GoodIn wsX0_put wsX0_checkOrigin := goodIn_ca (goodIn_r _ [13, 6, 7] (by decide +kernel) (by decide +kernel)) (goodIn_sub (fun _ h => List.mem_cons_of_mem _ (List.mem_append_left _ (List.mem_append_right _ h))) (by decide +kernel))
set_option maxRecDepth 20000 in
theorem gX0_put_X0_checkOrigin : GoodIn wsX0_put (va_wsS RX0 28 yX0_checkOrigin wsX0_checkOrigin) := goodIn_app (goodIn_of _ (by decide +kernel)) ggX0_put_X0_checkOrigin
set_option maxRecDepth 20000 in
theorem ggX0_put_X0_checkCostAndHops : GoodIn wsX0_put wsX0_checkCostAndHops := goodIn_ca (goodIn_r _ [16, 6, 7, 17] (by decide +kernel) (by decide +kernel)) (goodIn_sub (fun _ h => List.mem_cons_of_mem _ (List.mem_append_left _ (List.mem_append_right _ h))) (by decide +kernel))
set_option maxRecDepth 20000 in
theorem gX0_put_X0_checkCostAndHops : GoodIn wsX0_put (va_wsS RX0 32 yX0_checkCostAndHops wsX0_checkCostAndHops) := goodIn_app (goodIn_of _ (by decide +kernel)) ggX0_put_X0_checkCostAndHops
set_option maxRecDepth 20000 in
theorem ggX0_put_X0_prefixOf : GoodIn wsX0_put wsX0_prefixOf := goodIn_r _ [20, 21] (by decide +kernel) (by decide +kernel)
set_option maxRecDepth 20000 in
theorem gX0_put_X0_prefixOf : GoodIn wsX0_put (va_wsS RX0 36 yX0_prefixOf wsX0_prefixOf) := goodIn_app (goodIn_of _ (by decide +kernel)) ggX0_put_X0_prefixOf
set_option maxRecDepth 20000 in
theorem ggX0_put_X0_routeKey : GoodIn wsX0_put wsX0_routeKey := goodIn_r _ [24] (by decide +kernel) (by decide +kernel)
set_option maxRecDepth 20000 in
theorem gX0_put_X0_routeKey : GoodIn wsX0_put (va_wsS RX0 40 yX0_routeKey wsX0_routeKey) := goodIn_app (goodIn_of _ (by decide +kernel)) ggX0_put_X0_routeKey
set_option maxRecDepth 20000 in
theorem ggX0_put_X0_firstFrom : GoodIn wsX0_put wsX0_firstFrom := goodIn_r _ [28, 1, 29, 30, 31, 4, 32, 33, 34, 35, 36, 37, 38, 39, 40, 98, 99, 100, 101] (by decide +kernel) (by decide +kernel)
set_option maxRecDepth 20000 in
theorem gX0_put_X0_firstFrom : GoodIn wsX0_put (wsV RX0 44 RX0 yX0_firstFrom wsX0_firstFrom) := goodIn_app (goodIn_of _ (by decide +kernel)) ggX0_put_X0_firstFrom
set_option maxRecDepth 20000 in
theorem ggX0_put_X0_keyAt : GoodIn wsX0_put wsX0_keyAt := goodIn_r _ [32, 33, 34, 35, 36, 37, 4, 38, 1, 39, 40, 98, 99, 100, 101] (by decide +kernel) (by decide +kernel)
set_option maxRecDepth 20000 in
theorem gX0_put_X0_keyAt : GoodIn wsX0_put (wsV RX0 48 RX0 yX0_keyAt wsX0_keyAt) := goodIn_app (goodIn_of _ (by decide +kernel)) ggX0_put_X0_keyAt
set_option maxRecDepth 20000 in
theorem ggX0_put_X0_checkRoom : GoodIn wsX0_put wsX0_checkRoom := goodIn_ca (goodIn_r _ [44, 45, 46, 1, 98, 99, 100, 101] (by decide +kernel) (by decide +kernel)) (goodIn_sub (fun _ h => List.mem_cons_of_mem _ (List.mem_append_right _ h)) (by decide +kernel))
set_option maxRecDepth 20000 in
theorem gX0_put_X0_checkRoom : GoodIn wsX0_put (wsV RX0 52 RX0 yX0_checkRoom wsX0_checkRoom) := goodIn_app (goodIn_of _ (by decide +kernel)) ggX0_put_X0_checkRoom
set_option maxRecDepth 20000 in
theorem ggX0_put_X0_openPlace : GoodIn wsX0_put wsX0_openPlace := goodIn_r _ [50, 1, 51, 52, 53, 4, 54, 33, 39, 40, 55, 56, 57, 58, 59, 60, 61, 62, 63, 64, 65, 66, 67, 68, 69, 70, 71, 72, 73, 74, 75, 76, 77, 78, 79, 80, 81, 82, 83, 84, 85, 29, 30, 31, 32, 34, 35, 36, 37, 38, 86, 87, 88, 89, 90, 91, 92, 93, 94, 95, 96, 97, 98, 99, 100, 101] (by decide +kernel) (by decide +kernel)
set_option maxRecDepth 20000 in
theorem gX0_put_X0_openPlace : GoodIn wsX0_put (wsV RX0 55 RX0 yX0_openPlace wsX0_openPlace) := goodIn_app (goodIn_of _ (by decide +kernel)) ggX0_put_X0_openPlace
set_option maxRecDepth 20000 in
theorem ggX0_put_X0_write : GoodIn wsX0_put wsX0_write := goodIn_r _ [97, 33, 39, 40, 35, 36, 37, 4, 38, 1, 98, 99, 100, 101] (by decide +kernel) (by decide +kernel)
set_option maxRecDepth 20000 in
theorem gX0_put_X0_write : GoodIn wsX0_put (wsV RX0 58 RX0 yX0_write wsX0_write) := goodIn_app (goodIn_of _ (by decide +kernel)) ggX0_put_X0_write
theorem dX0_put_0 : decode cX0_put 0 = .ok (.iload_n 1, 1) := by decide +kernel
theorem dX0_put_1 : decode cX0_put 1 = .ok (.iload_n 2, 1) := by decide +kernel
theorem dX0_put_2 : decode cX0_put 2 = .ok (.invokestatic 24, 3) := by decide +kernel
theorem dX0_put_5 : decode cX0_put 5 = .ok (.iload_n 3, 1) := by decide +kernel
theorem dX0_put_6 : decode cX0_put 6 = .ok (.invokestatic 28, 3) := by decide +kernel
theorem dX0_put_9 : decode cX0_put 9 = .ok (.iload 4, 2) := by decide +kernel
theorem dX0_put_11 : decode cX0_put 11 = .ok (.lload 5, 2) := by decide +kernel
theorem dX0_put_13 : decode cX0_put 13 = .ok (.invokestatic 32, 3) := by decide +kernel
theorem dX0_put_16 : decode cX0_put 16 = .ok (.iload_n 1, 1) := by decide +kernel
theorem dX0_put_17 : decode cX0_put 17 = .ok (.iload_n 2, 1) := by decide +kernel
theorem dX0_put_18 : decode cX0_put 18 = .ok (.invokestatic 36, 3) := by decide +kernel
theorem dX0_put_21 : decode cX0_put 21 = .ok (.iload_n 3, 1) := by decide +kernel
theorem dX0_put_22 : decode cX0_put 22 = .ok (.invokestatic 40, 3) := by decide +kernel
theorem dX0_put_25 : decode cX0_put 25 = .ok (.lstore 7, 2) := by decide +kernel
theorem dX0_put_27 : decode cX0_put 27 = .ok (.aload_n 0, 1) := by decide +kernel
theorem dX0_put_28 : decode cX0_put 28 = .ok (.lload 7, 2) := by decide +kernel
theorem dX0_put_30 : decode cX0_put 30 = .ok (.invokevirtual 44, 3) := by decide +kernel
theorem dX0_put_33 : decode cX0_put 33 = .ok (.istore 9, 2) := by decide +kernel
theorem dX0_put_35 : decode cX0_put 35 = .ok (.aload_n 0, 1) := by decide +kernel
theorem dX0_put_36 : decode cX0_put 36 = .ok (.iload 9, 2) := by decide +kernel
theorem dX0_put_38 : decode cX0_put 38 = .ok (.invokevirtual 48, 3) := by decide +kernel
theorem dX0_put_41 : decode cX0_put 41 = .ok (.lload 7, 2) := by decide +kernel
theorem dX0_put_43 : decode cX0_put 43 = .ok (.lcmp, 1) := by decide +kernel
theorem dX0_put_44 : decode cX0_put 44 = .ok (.ifCond .eq 13, 3) := by decide +kernel
theorem dX0_put_47 : decode cX0_put 47 = .ok (.aload_n 0, 1) := by decide +kernel
theorem dX0_put_48 : decode cX0_put 48 = .ok (.invokevirtual 52, 3) := by decide +kernel
theorem dX0_put_51 : decode cX0_put 51 = .ok (.aload_n 0, 1) := by decide +kernel
theorem dX0_put_52 : decode cX0_put 52 = .ok (.iload 9, 2) := by decide +kernel
theorem dX0_put_54 : decode cX0_put 54 = .ok (.invokevirtual 55, 3) := by decide +kernel
theorem dX0_put_57 : decode cX0_put 57 = .ok (.aload_n 0, 1) := by decide +kernel
theorem dX0_put_58 : decode cX0_put 58 = .ok (.iload 9, 2) := by decide +kernel
theorem dX0_put_60 : decode cX0_put 60 = .ok (.lload 7, 2) := by decide +kernel
theorem dX0_put_62 : decode cX0_put 62 = .ok (.iload 4, 2) := by decide +kernel
theorem dX0_put_64 : decode cX0_put 64 = .ok (.lload 5, 2) := by decide +kernel
theorem dX0_put_66 : decode cX0_put 66 = .ok (.invokevirtual 58, 3) := by decide +kernel
theorem dX0_put_69 : decode cX0_put 69 = .ok (.aload_n 0, 1) := by decide +kernel
theorem dX0_put_70 : decode cX0_put 70 = .ok (.getfield 20, 3) := by decide +kernel
theorem dX0_put_73 : decode cX0_put 73 = .ok (.ireturn, 1) := by decide +kernel
set_option maxRecDepth 20000 in
theorem ggX0_take_X0_checkPrefix : GoodIn wsX0_take wsX0_checkPrefix := goodIn_ca (goodIn_r _ [4, 5, 6, 7, 8, 3, 9] (by decide +kernel) (by decide +kernel)) (goodIn_sub (fun _ h => List.mem_cons_of_mem _ (List.mem_append_right _ h)) (by decide +kernel))
set_option maxRecDepth 20000 in
theorem gX0_take_X0_checkPrefix : GoodIn wsX0_take (va_wsS RX0 24 yX0_checkPrefix wsX0_checkPrefix) := goodIn_app (goodIn_of _ (by decide +kernel)) ggX0_take_X0_checkPrefix
set_option maxRecDepth 20000 in
theorem ggX0_take_X0_checkOrigin : GoodIn wsX0_take wsX0_checkOrigin := goodIn_ca (goodIn_r _ [12, 5, 6] (by decide +kernel) (by decide +kernel)) (goodIn_sub (fun _ h => List.mem_cons_of_mem _ (List.mem_append_right _ h)) (by decide +kernel))
set_option maxRecDepth 20000 in
theorem gX0_take_X0_checkOrigin : GoodIn wsX0_take (va_wsS RX0 28 yX0_checkOrigin wsX0_checkOrigin) := goodIn_app (goodIn_of _ (by decide +kernel)) ggX0_take_X0_checkOrigin
set_option maxRecDepth 20000 in
theorem ggX0_take_X0_prefixOf : GoodIn wsX0_take wsX0_prefixOf := goodIn_r _ [15, 16] (by decide +kernel) (by decide +kernel)
set_option maxRecDepth 20000 in
theorem gX0_take_X0_prefixOf : GoodIn wsX0_take (va_wsS RX0 36 yX0_prefixOf wsX0_prefixOf) := goodIn_app (goodIn_of _ (by decide +kernel)) ggX0_take_X0_prefixOf
set_option maxRecDepth 20000 in
theorem ggX0_take_X0_placeOfRoute : GoodIn wsX0_take wsX0_placeOfRoute := goodIn_r _ [20, 21, 22, 3, 23, 24, 25, 26, 27, 28, 29, 30, 31, 32, 33, 34, 35, 36, 37, 38, 39, 40, 61, 62, 63, 64] (by decide +kernel) (by decide +kernel)
set_option maxRecDepth 20000 in
theorem gX0_take_X0_placeOfRoute : GoodIn wsX0_take (wsV RX0 62 RX0 yX0_placeOfRoute wsX0_placeOfRoute) := goodIn_app (goodIn_of _ (by decide +kernel)) ggX0_take_X0_placeOfRoute
set_option maxRecDepth 20000 in
theorem ggX0_take_X0_closePlace : GoodIn wsX0_take wsX0_closePlace := goodIn_r _ [44, 28, 45, 46, 47, 3, 48, 29, 30, 31, 32, 33, 34, 35, 36, 37, 38, 39, 40, 49, 50, 51, 52, 53, 54, 55, 56, 57, 58, 59, 60, 61, 62, 63, 64] (by decide +kernel) (by decide +kernel)
set_option maxRecDepth 20000 in
theorem gX0_take_X0_closePlace : GoodIn wsX0_take (wsV RX0 66 RX0 yX0_closePlace wsX0_closePlace) := goodIn_app (goodIn_of _ (by decide +kernel)) ggX0_take_X0_closePlace
theorem dX0_take_0 : decode cX0_take 0 = .ok (.iload_n 1, 1) := by decide +kernel
theorem dX0_take_1 : decode cX0_take 1 = .ok (.iload_n 2, 1) := by decide +kernel
theorem dX0_take_2 : decode cX0_take 2 = .ok (.invokestatic 24, 3) := by decide +kernel
theorem dX0_take_5 : decode cX0_take 5 = .ok (.iload_n 3, 1) := by decide +kernel
theorem dX0_take_6 : decode cX0_take 6 = .ok (.invokestatic 28, 3) := by decide +kernel
theorem dX0_take_9 : decode cX0_take 9 = .ok (.aload_n 0, 1) := by decide +kernel
theorem dX0_take_10 : decode cX0_take 10 = .ok (.iload_n 1, 1) := by decide +kernel
theorem dX0_take_11 : decode cX0_take 11 = .ok (.iload_n 2, 1) := by decide +kernel
theorem dX0_take_12 : decode cX0_take 12 = .ok (.invokestatic 36, 3) := by decide +kernel
theorem dX0_take_15 : decode cX0_take 15 = .ok (.iload_n 3, 1) := by decide +kernel
theorem dX0_take_16 : decode cX0_take 16 = .ok (.invokevirtual 62, 3) := by decide +kernel
theorem dX0_take_19 : decode cX0_take 19 = .ok (.istore 4, 2) := by decide +kernel
theorem dX0_take_21 : decode cX0_take 21 = .ok (.iload 4, 2) := by decide +kernel
theorem dX0_take_23 : decode cX0_take 23 = .ok (.iconst (-1), 1) := by decide +kernel
theorem dX0_take_24 : decode cX0_take 24 = .ok (.if_icmp .ne 5, 3) := by decide +kernel
theorem dX0_take_27 : decode cX0_take 27 = .ok (.iconst 0, 1) := by decide +kernel
theorem dX0_take_28 : decode cX0_take 28 = .ok (.ireturn, 1) := by decide +kernel
theorem dX0_take_29 : decode cX0_take 29 = .ok (.aload_n 0, 1) := by decide +kernel
theorem dX0_take_30 : decode cX0_take 30 = .ok (.iload 4, 2) := by decide +kernel
theorem dX0_take_32 : decode cX0_take 32 = .ok (.invokevirtual 66, 3) := by decide +kernel
theorem dX0_take_35 : decode cX0_take 35 = .ok (.iconst 1, 1) := by decide +kernel
theorem dX0_take_36 : decode cX0_take 36 = .ok (.ireturn, 1) := by decide +kernel
set_option maxRecDepth 20000 in
theorem ggX0_drop_X0_checkOrigin : GoodIn wsX0_drop wsX0_checkOrigin := goodIn_ca (goodIn_r _ [5, 6, 7] (by decide +kernel) (by decide +kernel)) (goodIn_sub (fun _ h => List.mem_cons_of_mem _ (List.mem_append_right _ h)) (by decide +kernel))
set_option maxRecDepth 20000 in
theorem gX0_drop_X0_checkOrigin : GoodIn wsX0_drop (va_wsS RX0 28 yX0_checkOrigin wsX0_checkOrigin) := goodIn_app (goodIn_of _ (by decide +kernel)) ggX0_drop_X0_checkOrigin
set_option maxRecDepth 20000 in
theorem ggX0_drop_X0_originAt : GoodIn wsX0_drop wsX0_originAt := goodIn_r _ [11, 12, 13, 14, 15, 4, 16, 1, 17, 18, 19, 20, 21, 22, 23, 24, 45, 46, 47, 48] (by decide +kernel) (by decide +kernel)
set_option maxRecDepth 20000 in
theorem gX0_drop_X0_originAt : GoodIn wsX0_drop (wsV RX0 69 RX0 yX0_originAt wsX0_originAt) := goodIn_app (goodIn_of _ (by decide +kernel)) ggX0_drop_X0_originAt
set_option maxRecDepth 20000 in
theorem ggX0_drop_X0_copy : GoodIn wsX0_drop wsX0_copy := goodIn_r _ [28, 20, 21, 22, 4, 23, 17, 24, 13, 14, 15, 16, 1, 18, 19, 29, 30, 31, 32, 33, 34, 35, 36, 37, 38, 39, 40, 45, 46, 47, 48] (by decide +kernel) (by decide +kernel)
set_option maxRecDepth 20000 in
theorem gX0_drop_X0_copy : GoodIn wsX0_drop (wsV RX0 73 RX0 yX0_copy wsX0_copy) := goodIn_app (goodIn_of _ (by decide +kernel)) ggX0_drop_X0_copy
set_option maxRecDepth 20000 in
theorem ggX0_drop_X0_keepFirst : GoodIn wsX0_drop wsX0_keepFirst := goodIn_r _ [44, 1, 45, 46, 47, 48] (by decide +kernel) (by decide +kernel)
set_option maxRecDepth 20000 in
theorem gX0_drop_X0_keepFirst : GoodIn wsX0_drop (wsV RX0 76 RX0 yX0_keepFirst wsX0_keepFirst) := goodIn_app (goodIn_of _ (by decide +kernel)) ggX0_drop_X0_keepFirst
theorem dX0_drop_0 : decode cX0_drop 0 = .ok (.iload_n 1, 1) := by decide +kernel
theorem dX0_drop_1 : decode cX0_drop 1 = .ok (.invokestatic 28, 3) := by decide +kernel
theorem dX0_drop_4 : decode cX0_drop 4 = .ok (.iconst 0, 1) := by decide +kernel
theorem dX0_drop_5 : decode cX0_drop 5 = .ok (.istore_n 2, 1) := by decide +kernel
theorem dX0_drop_6 : decode cX0_drop 6 = .ok (.iconst 0, 1) := by decide +kernel
theorem dX0_drop_7 : decode cX0_drop 7 = .ok (.istore_n 3, 1) := by decide +kernel
theorem dX0_drop_8 : decode cX0_drop 8 = .ok (.iload_n 3, 1) := by decide +kernel
theorem dX0_drop_9 : decode cX0_drop 9 = .ok (.aload_n 0, 1) := by decide +kernel
theorem dX0_drop_10 : decode cX0_drop 10 = .ok (.getfield 20, 3) := by decide +kernel
theorem dX0_drop_13 : decode cX0_drop 13 = .ok (.if_icmp .ge 27, 3) := by decide +kernel
theorem dX0_drop_16 : decode cX0_drop 16 = .ok (.aload_n 0, 1) := by decide +kernel
theorem dX0_drop_17 : decode cX0_drop 17 = .ok (.iload_n 3, 1) := by decide +kernel
theorem dX0_drop_18 : decode cX0_drop 18 = .ok (.invokevirtual 69, 3) := by decide +kernel
theorem dX0_drop_21 : decode cX0_drop 21 = .ok (.iload_n 1, 1) := by decide +kernel
theorem dX0_drop_22 : decode cX0_drop 22 = .ok (.if_icmp .eq 12, 3) := by decide +kernel
theorem dX0_drop_25 : decode cX0_drop 25 = .ok (.aload_n 0, 1) := by decide +kernel
theorem dX0_drop_26 : decode cX0_drop 26 = .ok (.iload_n 3, 1) := by decide +kernel
theorem dX0_drop_27 : decode cX0_drop 27 = .ok (.iload_n 2, 1) := by decide +kernel
theorem dX0_drop_28 : decode cX0_drop 28 = .ok (.invokevirtual 73, 3) := by decide +kernel
theorem dX0_drop_31 : decode cX0_drop 31 = .ok (.iinc 2 1, 3) := by decide +kernel
theorem dX0_drop_34 : decode cX0_drop 34 = .ok (.iinc 3 1, 3) := by decide +kernel
theorem dX0_drop_37 : decode cX0_drop 37 = .ok (.goto (-29), 3) := by decide +kernel
theorem dX0_drop_40 : decode cX0_drop 40 = .ok (.aload_n 0, 1) := by decide +kernel
theorem dX0_drop_41 : decode cX0_drop 41 = .ok (.iload_n 2, 1) := by decide +kernel
theorem dX0_drop_42 : decode cX0_drop 42 = .ok (.invokevirtual 76, 3) := by decide +kernel
theorem dX0_drop_45 : decode cX0_drop 45 = .ok (.ireturn, 1) := by decide +kernel
set_option maxRecDepth 20000 in
theorem ggX0_cut_X0_checkHop : GoodIn wsX0_cut wsX0_checkHop := goodIn_ca (goodIn_r _ [6, 7, 8] (by decide +kernel) (by decide +kernel)) (goodIn_sub (fun _ h => List.mem_cons_of_mem _ (List.mem_append_right _ h)) (by decide +kernel))
set_option maxRecDepth 20000 in
theorem gX0_cut_X0_checkHop : GoodIn wsX0_cut (va_wsS RX0 79 yX0_checkHop wsX0_checkHop) := goodIn_app (goodIn_of _ (by decide +kernel)) ggX0_cut_X0_checkHop
set_option maxRecDepth 20000 in
theorem ggX0_cut_X0_hopsAt : GoodIn wsX0_cut wsX0_hopsAt := goodIn_r _ [12, 13, 14, 15, 16, 5, 17, 2, 18, 19, 36, 37, 38, 39] (by decide +kernel) (by decide +kernel)
set_option maxRecDepth 20000 in
theorem gX0_cut_X0_hopsAt : GoodIn wsX0_cut (wsV RX0 84 RX0 yX0_hopsAt wsX0_hopsAt) := goodIn_app (goodIn_of _ (by decide +kernel)) ggX0_cut_X0_hopsAt
set_option maxRecDepth 20000 in
theorem ggX0_cut_X0_keyAt : GoodIn wsX0_cut wsX0_keyAt := goodIn_r _ [23, 18, 1, 14, 15, 16, 5, 17, 2, 19, 13, 36, 37, 38, 39] (by decide +kernel) (by decide +kernel)
set_option maxRecDepth 20000 in
theorem gX0_cut_X0_keyAt : GoodIn wsX0_cut (wsV RX0 48 RX0 yX0_keyAt wsX0_keyAt) := goodIn_app (goodIn_of _ (by decide +kernel)) ggX0_cut_X0_keyAt
set_option maxRecDepth 20000 in
theorem ggX0_cut_X0_costAt : GoodIn wsX0_cut wsX0_costAt := goodIn_r _ [27, 19, 14, 15, 16, 5, 17, 2, 18, 13, 36, 37, 38, 39] (by decide +kernel) (by decide +kernel)
set_option maxRecDepth 20000 in
theorem gX0_cut_X0_costAt : GoodIn wsX0_cut (wsV RX0 87 RX0 yX0_costAt wsX0_costAt) := goodIn_app (goodIn_of _ (by decide +kernel)) ggX0_cut_X0_costAt
set_option maxRecDepth 20000 in
theorem ggX0_cut_X0_write : GoodIn wsX0_cut wsX0_write := goodIn_r _ [31, 18, 19, 13, 14, 15, 16, 5, 17, 2, 36, 37, 38, 39] (by decide +kernel) (by decide +kernel)
set_option maxRecDepth 20000 in
theorem gX0_cut_X0_write : GoodIn wsX0_cut (wsV RX0 58 RX0 yX0_write wsX0_write) := goodIn_app (goodIn_of _ (by decide +kernel)) ggX0_cut_X0_write
set_option maxRecDepth 20000 in
theorem ggX0_cut_X0_keepFirst : GoodIn wsX0_cut wsX0_keepFirst := goodIn_r _ [35, 2, 36, 37, 38, 39] (by decide +kernel) (by decide +kernel)
set_option maxRecDepth 20000 in
theorem gX0_cut_X0_keepFirst : GoodIn wsX0_cut (wsV RX0 76 RX0 yX0_keepFirst wsX0_keepFirst) := goodIn_app (goodIn_of _ (by decide +kernel)) ggX0_cut_X0_keepFirst
theorem dX0_cut_0 : decode cX0_cut 0 = .ok (.iload_n 1, 1) := by decide +kernel
theorem dX0_cut_1 : decode cX0_cut 1 = .ok (.invokestatic 79, 3) := by decide +kernel
theorem dX0_cut_4 : decode cX0_cut 4 = .ok (.lconst 1, 1) := by decide +kernel
theorem dX0_cut_5 : decode cX0_cut 5 = .ok (.iload_n 1, 1) := by decide +kernel
theorem dX0_cut_6 : decode cX0_cut 6 = .ok (.lshl, 1) := by decide +kernel
theorem dX0_cut_7 : decode cX0_cut 7 = .ok (.ldc2_w 82, 3) := by decide +kernel
theorem dX0_cut_10 : decode cX0_cut 10 = .ok (.lxor, 1) := by decide +kernel
theorem dX0_cut_11 : decode cX0_cut 11 = .ok (.lstore_n 2, 1) := by decide +kernel
theorem dX0_cut_12 : decode cX0_cut 12 = .ok (.iconst 0, 1) := by decide +kernel
theorem dX0_cut_13 : decode cX0_cut 13 = .ok (.istore 4, 2) := by decide +kernel
theorem dX0_cut_15 : decode cX0_cut 15 = .ok (.iconst 0, 1) := by decide +kernel
theorem dX0_cut_16 : decode cX0_cut 16 = .ok (.istore 5, 2) := by decide +kernel
theorem dX0_cut_18 : decode cX0_cut 18 = .ok (.iload 5, 2) := by decide +kernel
theorem dX0_cut_20 : decode cX0_cut 20 = .ok (.aload_n 0, 1) := by decide +kernel
theorem dX0_cut_21 : decode cX0_cut 21 = .ok (.getfield 20, 3) := by decide +kernel
theorem dX0_cut_24 : decode cX0_cut 24 = .ok (.if_icmp .ge 49, 3) := by decide +kernel
theorem dX0_cut_27 : decode cX0_cut 27 = .ok (.aload_n 0, 1) := by decide +kernel
theorem dX0_cut_28 : decode cX0_cut 28 = .ok (.iload 5, 2) := by decide +kernel
theorem dX0_cut_30 : decode cX0_cut 30 = .ok (.invokevirtual 84, 3) := by decide +kernel
theorem dX0_cut_33 : decode cX0_cut 33 = .ok (.lload_n 2, 1) := by decide +kernel
theorem dX0_cut_34 : decode cX0_cut 34 = .ok (.land, 1) := by decide +kernel
theorem dX0_cut_35 : decode cX0_cut 35 = .ok (.lstore 6, 2) := by decide +kernel
theorem dX0_cut_37 : decode cX0_cut 37 = .ok (.lload 6, 2) := by decide +kernel
theorem dX0_cut_39 : decode cX0_cut 39 = .ok (.lconst 0, 1) := by decide +kernel
theorem dX0_cut_40 : decode cX0_cut 40 = .ok (.lcmp, 1) := by decide +kernel
theorem dX0_cut_41 : decode cX0_cut 41 = .ok (.ifCond .eq 26, 3) := by decide +kernel
theorem dX0_cut_44 : decode cX0_cut 44 = .ok (.aload_n 0, 1) := by decide +kernel
theorem dX0_cut_45 : decode cX0_cut 45 = .ok (.iload 4, 2) := by decide +kernel
theorem dX0_cut_47 : decode cX0_cut 47 = .ok (.aload_n 0, 1) := by decide +kernel
theorem dX0_cut_48 : decode cX0_cut 48 = .ok (.iload 5, 2) := by decide +kernel
theorem dX0_cut_50 : decode cX0_cut 50 = .ok (.invokevirtual 48, 3) := by decide +kernel
theorem dX0_cut_53 : decode cX0_cut 53 = .ok (.aload_n 0, 1) := by decide +kernel
theorem dX0_cut_54 : decode cX0_cut 54 = .ok (.iload 5, 2) := by decide +kernel
theorem dX0_cut_56 : decode cX0_cut 56 = .ok (.invokevirtual 87, 3) := by decide +kernel
theorem dX0_cut_59 : decode cX0_cut 59 = .ok (.lload 6, 2) := by decide +kernel
theorem dX0_cut_61 : decode cX0_cut 61 = .ok (.invokevirtual 58, 3) := by decide +kernel
theorem dX0_cut_64 : decode cX0_cut 64 = .ok (.iinc 4 1, 3) := by decide +kernel
theorem dX0_cut_67 : decode cX0_cut 67 = .ok (.iinc 5 1, 3) := by decide +kernel
theorem dX0_cut_70 : decode cX0_cut 70 = .ok (.goto (-52), 3) := by decide +kernel
theorem dX0_cut_73 : decode cX0_cut 73 = .ok (.aload_n 0, 1) := by decide +kernel
theorem dX0_cut_74 : decode cX0_cut 74 = .ok (.iload 4, 2) := by decide +kernel
theorem dX0_cut_76 : decode cX0_cut 76 = .ok (.invokevirtual 76, 3) := by decide +kernel
theorem dX0_cut_79 : decode cX0_cut 79 = .ok (.ireturn, 1) := by decide +kernel
set_option maxRecDepth 20000 in
theorem ggX0_route_X0_checkPrefix : GoodIn wsX0_route wsX0_checkPrefix := goodIn_ca (goodIn_r _ [4, 5, 6, 7, 8, 3, 9] (by decide +kernel) (by decide +kernel)) (goodIn_sub (fun _ h => List.mem_cons_of_mem _ (List.mem_append_right _ h)) (by decide +kernel))
set_option maxRecDepth 20000 in
theorem gX0_route_X0_checkPrefix : GoodIn wsX0_route (va_wsS RX0 24 yX0_checkPrefix wsX0_checkPrefix) := goodIn_app (goodIn_of _ (by decide +kernel)) ggX0_route_X0_checkPrefix
set_option maxRecDepth 20000 in
theorem ggX0_route_X0_checkOrigin : GoodIn wsX0_route wsX0_checkOrigin := goodIn_ca (goodIn_r _ [12, 5, 6] (by decide +kernel) (by decide +kernel)) (goodIn_sub (fun _ h => List.mem_cons_of_mem _ (List.mem_append_right _ h)) (by decide +kernel))
set_option maxRecDepth 20000 in
theorem gX0_route_X0_checkOrigin : GoodIn wsX0_route (va_wsS RX0 28 yX0_checkOrigin wsX0_checkOrigin) := goodIn_app (goodIn_of _ (by decide +kernel)) ggX0_route_X0_checkOrigin
set_option maxRecDepth 20000 in
theorem ggX0_route_X0_checkWhat : GoodIn wsX0_route wsX0_checkWhat := goodIn_ca (goodIn_r _ [15, 5, 6] (by decide +kernel) (by decide +kernel)) (goodIn_sub (fun _ h => List.mem_cons_of_mem _ (List.mem_append_right _ h)) (by decide +kernel))
set_option maxRecDepth 20000 in
theorem gX0_route_X0_checkWhat : GoodIn wsX0_route (va_wsS RX0 90 yX0_checkWhat wsX0_checkWhat) := goodIn_app (goodIn_of _ (by decide +kernel)) ggX0_route_X0_checkWhat
set_option maxRecDepth 20000 in
theorem ggX0_route_X0_prefixOf : GoodIn wsX0_route wsX0_prefixOf := goodIn_r _ [18, 19] (by decide +kernel) (by decide +kernel)
set_option maxRecDepth 20000 in
theorem gX0_route_X0_prefixOf : GoodIn wsX0_route (va_wsS RX0 36 yX0_prefixOf wsX0_prefixOf) := goodIn_app (goodIn_of _ (by decide +kernel)) ggX0_route_X0_prefixOf
set_option maxRecDepth 20000 in
theorem ggX0_route_X0_placeOfBest : GoodIn wsX0_route wsX0_placeOfBest := goodIn_r _ [23, 24, 25, 26, 3, 27, 28, 29, 30, 31, 32, 33, 34, 35, 36, 37, 38, 39, 40, 41, 42, 43, 44, 45, 46, 47, 48, 49, 50, 51, 80, 81, 82, 83] (by decide +kernel) (by decide +kernel)
set_option maxRecDepth 20000 in
theorem gX0_route_X0_placeOfBest : GoodIn wsX0_route (wsV RX0 93 RX0 yX0_placeOfBest wsX0_placeOfBest) := goodIn_app (goodIn_of _ (by decide +kernel)) ggX0_route_X0_placeOfBest
set_option maxRecDepth 20000 in
theorem ggX0_route_X0_placeOfRoute : GoodIn wsX0_route wsX0_placeOfRoute := goodIn_r _ [55, 28, 29, 3, 30, 31, 32, 33, 34, 35, 36, 37, 38, 39, 40, 41, 42, 43, 44, 45, 46, 47, 80, 81, 82, 83] (by decide +kernel) (by decide +kernel)
set_option maxRecDepth 20000 in
theorem gX0_route_X0_placeOfRoute : GoodIn wsX0_route (wsV RX0 62 RX0 yX0_placeOfRoute wsX0_placeOfRoute) := goodIn_app (goodIn_of _ (by decide +kernel)) ggX0_route_X0_placeOfRoute
set_option maxRecDepth 20000 in
theorem ggX0_route_X0_tell : GoodIn wsX0_route wsX0_tell := goodIn_r _ [59, 60, 61, 62, 3, 63, 46, 42, 43, 44, 45, 35, 40, 47, 64, 65, 66, 67, 68, 36, 37, 38, 39, 41, 69, 70, 71, 72, 73, 74, 75, 76, 77, 78, 79, 80, 81, 82, 83] (by decide +kernel) (by decide +kernel)
set_option maxRecDepth 20000 in
theorem gX0_route_X0_tell : GoodIn wsX0_route (wsV RX0 96 RX0 yX0_tell wsX0_tell) := goodIn_app (goodIn_of _ (by decide +kernel)) ggX0_route_X0_tell
theorem dX0_route_0 : decode cX0_route 0 = .ok (.iload_n 1, 1) := by decide +kernel
theorem dX0_route_1 : decode cX0_route 1 = .ok (.iload_n 2, 1) := by decide +kernel
theorem dX0_route_2 : decode cX0_route 2 = .ok (.invokestatic 24, 3) := by decide +kernel
theorem dX0_route_5 : decode cX0_route 5 = .ok (.iload_n 3, 1) := by decide +kernel
theorem dX0_route_6 : decode cX0_route 6 = .ok (.iconst (-1), 1) := by decide +kernel
theorem dX0_route_7 : decode cX0_route 7 = .ok (.if_icmp .eq 7, 3) := by decide +kernel
theorem dX0_route_10 : decode cX0_route 10 = .ok (.iload_n 3, 1) := by decide +kernel
theorem dX0_route_11 : decode cX0_route 11 = .ok (.invokestatic 28, 3) := by decide +kernel
theorem dX0_route_14 : decode cX0_route 14 = .ok (.iload 4, 2) := by decide +kernel
theorem dX0_route_16 : decode cX0_route 16 = .ok (.invokestatic 90, 3) := by decide +kernel
theorem dX0_route_19 : decode cX0_route 19 = .ok (.iload_n 1, 1) := by decide +kernel
theorem dX0_route_20 : decode cX0_route 20 = .ok (.iload_n 2, 1) := by decide +kernel
theorem dX0_route_21 : decode cX0_route 21 = .ok (.invokestatic 36, 3) := by decide +kernel
theorem dX0_route_24 : decode cX0_route 24 = .ok (.lstore 5, 2) := by decide +kernel
theorem dX0_route_26 : decode cX0_route 26 = .ok (.iload_n 3, 1) := by decide +kernel
theorem dX0_route_27 : decode cX0_route 27 = .ok (.iconst (-1), 1) := by decide +kernel
theorem dX0_route_28 : decode cX0_route 28 = .ok (.if_icmp .ne 12, 3) := by decide +kernel
theorem dX0_route_31 : decode cX0_route 31 = .ok (.aload_n 0, 1) := by decide +kernel
theorem dX0_route_32 : decode cX0_route 32 = .ok (.lload 5, 2) := by decide +kernel
theorem dX0_route_34 : decode cX0_route 34 = .ok (.invokevirtual 93, 3) := by decide +kernel
theorem dX0_route_37 : decode cX0_route 37 = .ok (.goto 10, 3) := by decide +kernel
theorem dX0_route_40 : decode cX0_route 40 = .ok (.aload_n 0, 1) := by decide +kernel
theorem dX0_route_41 : decode cX0_route 41 = .ok (.lload 5, 2) := by decide +kernel
theorem dX0_route_43 : decode cX0_route 43 = .ok (.iload_n 3, 1) := by decide +kernel
theorem dX0_route_44 : decode cX0_route 44 = .ok (.invokevirtual 62, 3) := by decide +kernel
theorem dX0_route_47 : decode cX0_route 47 = .ok (.istore 7, 2) := by decide +kernel
theorem dX0_route_49 : decode cX0_route 49 = .ok (.iload 7, 2) := by decide +kernel
theorem dX0_route_51 : decode cX0_route 51 = .ok (.iconst (-1), 1) := by decide +kernel
theorem dX0_route_52 : decode cX0_route 52 = .ok (.if_icmp .ne 7, 3) := by decide +kernel
theorem dX0_route_55 : decode cX0_route 55 = .ok (.iconst (-1), 1) := by decide +kernel
theorem dX0_route_56 : decode cX0_route 56 = .ok (.goto 11, 3) := by decide +kernel
theorem dX0_route_59 : decode cX0_route 59 = .ok (.aload_n 0, 1) := by decide +kernel
theorem dX0_route_60 : decode cX0_route 60 = .ok (.iload 7, 2) := by decide +kernel
theorem dX0_route_62 : decode cX0_route 62 = .ok (.iload 4, 2) := by decide +kernel
theorem dX0_route_64 : decode cX0_route 64 = .ok (.invokevirtual 96, 3) := by decide +kernel
theorem dX0_route_67 : decode cX0_route 67 = .ok (.ireturn, 1) := by decide +kernel
set_option maxRecDepth 20000 in
theorem ggX0_look_X0_placeOfLongest : GoodIn wsX0_look wsX0_placeOfLongest := goodIn_r _ [5, 6, 7, 4, 8, 9, 10, 11, 12, 13, 14, 15, 16, 17, 18, 19, 20, 21, 22, 23, 24, 25, 26, 27, 28, 29, 30, 31, 32, 33, 34, 35, 36, 37, 38, 39, 40, 41, 42, 43, 44, 53, 54, 55, 56] (by decide +kernel) (by decide +kernel)
set_option maxRecDepth 20000 in
theorem gX0_look_X0_placeOfLongest : GoodIn wsX0_look (wsV RX0 100 RX0 yX0_placeOfLongest wsX0_placeOfLongest) := goodIn_app (goodIn_of _ (by decide +kernel)) ggX0_look_X0_placeOfLongest
set_option maxRecDepth 20000 in
theorem ggX0_look_X0_lengthAt : GoodIn wsX0_look wsX0_lengthAt := goodIn_r _ [48, 35, 36, 37, 4, 38, 28, 33, 39, 40, 41, 42, 43, 44, 29, 30, 31, 32, 34, 49, 50, 51, 52, 53, 54, 55, 56] (by decide +kernel) (by decide +kernel)
set_option maxRecDepth 20000 in
theorem gX0_look_X0_lengthAt : GoodIn wsX0_look (wsV RX0 103 RX0 yX0_lengthAt wsX0_lengthAt) := goodIn_app (goodIn_of _ (by decide +kernel)) ggX0_look_X0_lengthAt
theorem dX0_look_0 : decode cX0_look 0 = .ok (.aload_n 0, 1) := by decide +kernel
theorem dX0_look_1 : decode cX0_look 1 = .ok (.aload_n 0, 1) := by decide +kernel
theorem dX0_look_2 : decode cX0_look 2 = .ok (.iload_n 1, 1) := by decide +kernel
theorem dX0_look_3 : decode cX0_look 3 = .ok (.bipush 33, 2) := by decide +kernel
theorem dX0_look_5 : decode cX0_look 5 = .ok (.invokevirtual 100, 3) := by decide +kernel
theorem dX0_look_8 : decode cX0_look 8 = .ok (.invokevirtual 103, 3) := by decide +kernel
theorem dX0_look_11 : decode cX0_look 11 = .ok (.ireturn, 1) := by decide +kernel
set_option maxRecDepth 20000 in
theorem ggX0_hops_X0_placeOfLongest : GoodIn wsX0_hops wsX0_placeOfLongest := goodIn_r _ [5, 6, 7, 4, 8, 9, 10, 11, 12, 13, 14, 15, 16, 17, 18, 19, 20, 21, 22, 23, 24, 25, 26, 27, 28, 29, 30, 31, 32, 33, 34, 35, 36, 37, 38, 39, 40, 41, 42, 43, 44, 49, 50, 51, 52] (by decide +kernel) (by decide +kernel)
set_option maxRecDepth 20000 in
theorem gX0_hops_X0_placeOfLongest : GoodIn wsX0_hops (wsV RX0 100 RX0 yX0_placeOfLongest wsX0_placeOfLongest) := goodIn_app (goodIn_of _ (by decide +kernel)) ggX0_hops_X0_placeOfLongest
set_option maxRecDepth 20000 in
theorem ggX0_hops_X0_hopsAt : GoodIn wsX0_hops wsX0_hopsAt := goodIn_r _ [48, 40, 35, 36, 37, 4, 38, 28, 33, 39, 49, 50, 51, 52] (by decide +kernel) (by decide +kernel)
set_option maxRecDepth 20000 in
theorem gX0_hops_X0_hopsAt : GoodIn wsX0_hops (wsV RX0 84 RX0 yX0_hopsAt wsX0_hopsAt) := goodIn_app (goodIn_of _ (by decide +kernel)) ggX0_hops_X0_hopsAt
theorem dX0_hops_0 : decode cX0_hops 0 = .ok (.aload_n 0, 1) := by decide +kernel
theorem dX0_hops_1 : decode cX0_hops 1 = .ok (.aload_n 0, 1) := by decide +kernel
theorem dX0_hops_2 : decode cX0_hops 2 = .ok (.iload_n 1, 1) := by decide +kernel
theorem dX0_hops_3 : decode cX0_hops 3 = .ok (.bipush 33, 2) := by decide +kernel
theorem dX0_hops_5 : decode cX0_hops 5 = .ok (.invokevirtual 100, 3) := by decide +kernel
theorem dX0_hops_8 : decode cX0_hops 8 = .ok (.invokevirtual 84, 3) := by decide +kernel
theorem dX0_hops_11 : decode cX0_hops 11 = .ok (.lreturn, 1) := by decide +kernel
set_option maxRecDepth 20000 in
theorem ggX0_hop_X0_placeOfLongest : GoodIn wsX0_hop wsX0_placeOfLongest := goodIn_r _ [6, 7, 8, 5, 9, 10, 11, 12, 1, 13, 14, 15, 16, 17, 18, 19, 20, 21, 22, 23, 24, 25, 26, 27, 28, 29, 30, 31, 32, 33, 34, 35, 36, 37, 38, 39, 40, 41, 42, 43, 44, 59, 60, 61, 62] (by decide +kernel) (by decide +kernel)
set_option maxRecDepth 20000 in
theorem gX0_hop_X0_placeOfLongest : GoodIn wsX0_hop (wsV RX0 100 RX0 yX0_placeOfLongest wsX0_placeOfLongest) := goodIn_app (goodIn_of _ (by decide +kernel)) ggX0_hop_X0_placeOfLongest
set_option maxRecDepth 20000 in
theorem ggX0_hop_X0_hopsAt : GoodIn wsX0_hop wsX0_hopsAt := goodIn_r _ [48, 40, 35, 36, 37, 5, 38, 28, 33, 39, 59, 60, 61, 62] (by decide +kernel) (by decide +kernel)
set_option maxRecDepth 20000 in
theorem gX0_hop_X0_hopsAt : GoodIn wsX0_hop (wsV RX0 84 RX0 yX0_hopsAt wsX0_hopsAt) := goodIn_app (goodIn_of _ (by decide +kernel)) ggX0_hop_X0_hopsAt
set_option maxRecDepth 20000 in
theorem ggX0_hop_J13_bitCount_95d88 : GoodIn wsX0_hop wsJ13_bitCount_95d88 := goodIn_r _ [52, 53, 54, 55] (by decide +kernel) (by decide +kernel)
set_option maxRecDepth 20000 in
theorem gX0_hop_J13_bitCount_95d88 : GoodIn wsX0_hop (va_wsS RX0 106 yJ13_bitCount_95d88 wsJ13_bitCount_95d88) := goodIn_app (goodIn_of _ (by decide +kernel)) ggX0_hop_J13_bitCount_95d88
set_option maxRecDepth 20000 in
theorem ggX0_hop_X0_hopOfRank : GoodIn wsX0_hop wsX0_hopOfRank := goodIn_r _ [58] (by decide +kernel) (by decide +kernel)
set_option maxRecDepth 20000 in
theorem gX0_hop_X0_hopOfRank : GoodIn wsX0_hop (va_wsS RX0 113 yX0_hopOfRank wsX0_hopOfRank) := goodIn_app (goodIn_of _ (by decide +kernel)) ggX0_hop_X0_hopOfRank
theorem dX0_hop_0 : decode cX0_hop 0 = .ok (.aload_n 0, 1) := by decide +kernel
theorem dX0_hop_1 : decode cX0_hop 1 = .ok (.aload_n 0, 1) := by decide +kernel
theorem dX0_hop_2 : decode cX0_hop 2 = .ok (.iload_n 1, 1) := by decide +kernel
theorem dX0_hop_3 : decode cX0_hop 3 = .ok (.bipush 33, 2) := by decide +kernel
theorem dX0_hop_5 : decode cX0_hop 5 = .ok (.invokevirtual 100, 3) := by decide +kernel
theorem dX0_hop_8 : decode cX0_hop 8 = .ok (.invokevirtual 84, 3) := by decide +kernel
theorem dX0_hop_11 : decode cX0_hop 11 = .ok (.lstore_n 3, 1) := by decide +kernel
theorem dX0_hop_12 : decode cX0_hop 12 = .ok (.lload_n 3, 1) := by decide +kernel
theorem dX0_hop_13 : decode cX0_hop 13 = .ok (.invokestatic 106, 3) := by decide +kernel
theorem dX0_hop_16 : decode cX0_hop 16 = .ok (.istore 5, 2) := by decide +kernel
theorem dX0_hop_18 : decode cX0_hop 18 = .ok (.iload 5, 2) := by decide +kernel
theorem dX0_hop_20 : decode cX0_hop 20 = .ok (.ifCond .gt 5, 3) := by decide +kernel
theorem dX0_hop_23 : decode cX0_hop 23 = .ok (.iconst (-1), 1) := by decide +kernel
theorem dX0_hop_24 : decode cX0_hop 24 = .ok (.ireturn, 1) := by decide +kernel
theorem dX0_hop_25 : decode cX0_hop 25 = .ok (.lload_n 3, 1) := by decide +kernel
theorem dX0_hop_26 : decode cX0_hop 26 = .ok (.iload_n 2, 1) := by decide +kernel
theorem dX0_hop_27 : decode cX0_hop 27 = .ok (.i2l, 1) := by decide +kernel
theorem dX0_hop_28 : decode cX0_hop 28 = .ok (.ldc2_w 111, 3) := by decide +kernel
theorem dX0_hop_31 : decode cX0_hop 31 = .ok (.land, 1) := by decide +kernel
theorem dX0_hop_32 : decode cX0_hop 32 = .ok (.iload 5, 2) := by decide +kernel
theorem dX0_hop_34 : decode cX0_hop 34 = .ok (.i2l, 1) := by decide +kernel
theorem dX0_hop_35 : decode cX0_hop 35 = .ok (.lrem, 1) := by decide +kernel
theorem dX0_hop_36 : decode cX0_hop 36 = .ok (.l2i, 1) := by decide +kernel
theorem dX0_hop_37 : decode cX0_hop 37 = .ok (.invokestatic 113, 3) := by decide +kernel
theorem dX0_hop_40 : decode cX0_hop 40 = .ok (.ireturn, 1) := by decide +kernel
set_option maxRecDepth 20000 in
theorem ggX0_shorter_X0_placeOfLongest : GoodIn wsX0_shorter wsX0_placeOfLongest := goodIn_r _ [7, 8, 9, 6, 10, 11, 12, 13, 14, 15, 16, 17, 18, 19, 20, 21, 22, 23, 24, 25, 26, 27, 28, 29, 30, 31, 32, 33, 34, 35, 36, 37, 38, 39, 40, 41, 42, 43, 44, 45, 46, 55, 56, 57, 58] (by decide +kernel) (by decide +kernel)
set_option maxRecDepth 20000 in
theorem gX0_shorter_X0_placeOfLongest : GoodIn wsX0_shorter (wsV RX0 100 RX0 yX0_placeOfLongest wsX0_placeOfLongest) := goodIn_app (goodIn_of _ (by decide +kernel)) ggX0_shorter_X0_placeOfLongest
set_option maxRecDepth 20000 in
theorem ggX0_shorter_X0_lengthAt : GoodIn wsX0_shorter wsX0_lengthAt := goodIn_r _ [50, 37, 38, 39, 6, 40, 30, 35, 41, 42, 43, 44, 45, 46, 31, 32, 33, 34, 36, 51, 52, 53, 54, 55, 56, 57, 58] (by decide +kernel) (by decide +kernel)
set_option maxRecDepth 20000 in
theorem gX0_shorter_X0_lengthAt : GoodIn wsX0_shorter (wsV RX0 103 RX0 yX0_lengthAt wsX0_lengthAt) := goodIn_app (goodIn_of _ (by decide +kernel)) ggX0_shorter_X0_lengthAt
theorem dX0_shorter_0 : decode cX0_shorter 0 = .ok (.iload_n 2, 1) := by decide +kernel
theorem dX0_shorter_1 : decode cX0_shorter 1 = .ok (.ifCond .lt 9, 3) := by decide +kernel
theorem dX0_shorter_4 : decode cX0_shorter 4 = .ok (.iload_n 2, 1) := by decide +kernel
theorem dX0_shorter_5 : decode cX0_shorter 5 = .ok (.bipush 33, 2) := by decide +kernel
theorem dX0_shorter_7 : decode cX0_shorter 7 = .ok (.if_icmp .le 13, 3) := by decide +kernel
theorem dX0_shorter_10 : decode cX0_shorter 10 = .ok (.new 116, 3) := by decide +kernel
theorem dX0_shorter_13 : decode cX0_shorter 13 = .ok (.dup, 1) := by decide +kernel
theorem dX0_shorter_14 : decode cX0_shorter 14 = .ok (.ldc 118, 2) := by decide +kernel
theorem dX0_shorter_16 : decode cX0_shorter 16 = .ok (.invokespecial 120, 3) := by decide +kernel
theorem dX0_shorter_19 : decode cX0_shorter 19 = .ok (.athrow, 1) := by decide +kernel
theorem dX0_shorter_20 : decode cX0_shorter 20 = .ok (.aload_n 0, 1) := by decide +kernel
theorem dX0_shorter_21 : decode cX0_shorter 21 = .ok (.aload_n 0, 1) := by decide +kernel
theorem dX0_shorter_22 : decode cX0_shorter 22 = .ok (.iload_n 1, 1) := by decide +kernel
theorem dX0_shorter_23 : decode cX0_shorter 23 = .ok (.iload_n 2, 1) := by decide +kernel
theorem dX0_shorter_24 : decode cX0_shorter 24 = .ok (.invokevirtual 100, 3) := by decide +kernel
theorem dX0_shorter_27 : decode cX0_shorter 27 = .ok (.invokevirtual 103, 3) := by decide +kernel
theorem dX0_shorter_30 : decode cX0_shorter 30 = .ok (.ireturn, 1) := by decide +kernel
set_option maxRecDepth 20000 in
theorem ggX0_after_X0_checkPrefix : GoodIn wsX0_after wsX0_checkPrefix := goodIn_ca (goodIn_r _ [4, 5, 6, 7, 8, 3, 9] (by decide +kernel) (by decide +kernel)) (goodIn_sub (fun _ h => List.mem_cons_of_mem _ (List.mem_append_right _ h)) (by decide +kernel))
set_option maxRecDepth 20000 in
theorem gX0_after_X0_checkPrefix : GoodIn wsX0_after (va_wsS RX0 24 yX0_checkPrefix wsX0_checkPrefix) := goodIn_app (goodIn_of _ (by decide +kernel)) ggX0_after_X0_checkPrefix
set_option maxRecDepth 20000 in
theorem ggX0_after_X0_prefixOf : GoodIn wsX0_after wsX0_prefixOf := goodIn_r _ [12, 13] (by decide +kernel) (by decide +kernel)
set_option maxRecDepth 20000 in
theorem gX0_after_X0_prefixOf : GoodIn wsX0_after (va_wsS RX0 36 yX0_prefixOf wsX0_prefixOf) := goodIn_app (goodIn_of _ (by decide +kernel)) ggX0_after_X0_prefixOf
set_option maxRecDepth 20000 in
theorem ggX0_after_X0_firstOfPrefix : GoodIn wsX0_after wsX0_firstOfPrefix := goodIn_r _ [17, 18, 19, 3, 20, 21, 22, 23, 24, 25, 26, 27, 28, 29, 30, 31, 32, 33, 34, 35, 36, 37, 42, 43, 44, 45] (by decide +kernel) (by decide +kernel)
set_option maxRecDepth 20000 in
theorem gX0_after_X0_firstOfPrefix : GoodIn wsX0_after (wsV RX0 123 RX0 yX0_firstOfPrefix wsX0_firstOfPrefix) := goodIn_app (goodIn_of _ (by decide +kernel)) ggX0_after_X0_firstOfPrefix
set_option maxRecDepth 20000 in
theorem ggX0_after_X0_prefixAt : GoodIn wsX0_after wsX0_prefixAt := goodIn_r _ [41, 26, 27, 28, 3, 29, 30, 31, 32, 33, 34, 35, 25, 36, 37, 42, 43, 44, 45] (by decide +kernel) (by decide +kernel)
set_option maxRecDepth 20000 in
theorem gX0_after_X0_prefixAt : GoodIn wsX0_after (wsV RX0 126 RX0 yX0_prefixAt wsX0_prefixAt) := goodIn_app (goodIn_of _ (by decide +kernel)) ggX0_after_X0_prefixAt
theorem dX0_after_0 : decode cX0_after 0 = .ok (.iload_n 1, 1) := by decide +kernel
theorem dX0_after_1 : decode cX0_after 1 = .ok (.iload_n 2, 1) := by decide +kernel
theorem dX0_after_2 : decode cX0_after 2 = .ok (.invokestatic 24, 3) := by decide +kernel
theorem dX0_after_5 : decode cX0_after 5 = .ok (.aload_n 0, 1) := by decide +kernel
theorem dX0_after_6 : decode cX0_after 6 = .ok (.aload_n 0, 1) := by decide +kernel
theorem dX0_after_7 : decode cX0_after 7 = .ok (.iload_n 1, 1) := by decide +kernel
theorem dX0_after_8 : decode cX0_after 8 = .ok (.iload_n 2, 1) := by decide +kernel
theorem dX0_after_9 : decode cX0_after 9 = .ok (.invokestatic 36, 3) := by decide +kernel
theorem dX0_after_12 : decode cX0_after 12 = .ok (.lconst 1, 1) := by decide +kernel
theorem dX0_after_13 : decode cX0_after 13 = .ok (.ladd, 1) := by decide +kernel
theorem dX0_after_14 : decode cX0_after 14 = .ok (.invokevirtual 123, 3) := by decide +kernel
theorem dX0_after_17 : decode cX0_after 17 = .ok (.invokevirtual 126, 3) := by decide +kernel
theorem dX0_after_20 : decode cX0_after 20 = .ok (.lreturn, 1) := by decide +kernel
set_option maxRecDepth 20000 in
theorem ggX0_within_X0_checkPrefix : GoodIn wsX0_within wsX0_checkPrefix := goodIn_ca (goodIn_r _ [4, 5, 6, 7, 8, 3, 9] (by decide +kernel) (by decide +kernel)) (goodIn_sub (fun _ h => List.mem_cons_of_mem _ (List.mem_append_right _ h)) (by decide +kernel))
set_option maxRecDepth 20000 in
theorem gX0_within_X0_checkPrefix : GoodIn wsX0_within (va_wsS RX0 24 yX0_checkPrefix wsX0_checkPrefix) := goodIn_app (goodIn_of _ (by decide +kernel)) ggX0_within_X0_checkPrefix
set_option maxRecDepth 20000 in
theorem ggX0_within_X0_prefixOf : GoodIn wsX0_within wsX0_prefixOf := goodIn_r _ [12, 13] (by decide +kernel) (by decide +kernel)
set_option maxRecDepth 20000 in
theorem gX0_within_X0_prefixOf : GoodIn wsX0_within (va_wsS RX0 36 yX0_prefixOf wsX0_prefixOf) := goodIn_app (goodIn_of _ (by decide +kernel)) ggX0_within_X0_prefixOf
set_option maxRecDepth 20000 in
theorem ggX0_within_X0_mask : GoodIn wsX0_within wsX0_mask := goodIn_r _ [9] (by decide +kernel) (by decide +kernel)
set_option maxRecDepth 20000 in
theorem gX0_within_X0_mask : GoodIn wsX0_within (va_wsS RX0 129 yX0_mask wsX0_mask) := goodIn_app (goodIn_of _ (by decide +kernel)) ggX0_within_X0_mask
set_option maxRecDepth 20000 in
theorem ggX0_within_X0_firstOfPrefix : GoodIn wsX0_within wsX0_firstOfPrefix := goodIn_r _ [17, 18, 19, 3, 20, 21, 22, 23, 24, 25, 26, 27, 28, 29, 30, 31, 32, 33, 34, 35, 36, 37, 50, 51, 52, 53] (by decide +kernel) (by decide +kernel)
set_option maxRecDepth 20000 in
theorem gX0_within_X0_firstOfPrefix : GoodIn wsX0_within (wsV RX0 123 RX0 yX0_firstOfPrefix wsX0_firstOfPrefix) := goodIn_app (goodIn_of _ (by decide +kernel)) ggX0_within_X0_firstOfPrefix
set_option maxRecDepth 20000 in
theorem ggX0_within_X0_prefixesBetween : GoodIn wsX0_within wsX0_prefixesBetween := goodIn_r _ [41, 42, 43, 44, 3, 45, 46, 47, 48, 49, 26, 27, 28, 29, 30, 31, 32, 33, 34, 35, 25, 36, 37, 50, 51, 52, 53] (by decide +kernel) (by decide +kernel)
set_option maxRecDepth 20000 in
theorem gX0_within_X0_prefixesBetween : GoodIn wsX0_within (wsV RX0 132 RX0 yX0_prefixesBetween wsX0_prefixesBetween) := goodIn_app (goodIn_of _ (by decide +kernel)) ggX0_within_X0_prefixesBetween
theorem dX0_within_0 : decode cX0_within 0 = .ok (.iload_n 1, 1) := by decide +kernel
theorem dX0_within_1 : decode cX0_within 1 = .ok (.iload_n 2, 1) := by decide +kernel
theorem dX0_within_2 : decode cX0_within 2 = .ok (.invokestatic 24, 3) := by decide +kernel
theorem dX0_within_5 : decode cX0_within 5 = .ok (.iload_n 1, 1) := by decide +kernel
theorem dX0_within_6 : decode cX0_within 6 = .ok (.iload_n 2, 1) := by decide +kernel
theorem dX0_within_7 : decode cX0_within 7 = .ok (.invokestatic 36, 3) := by decide +kernel
theorem dX0_within_10 : decode cX0_within 10 = .ok (.lstore_n 3, 1) := by decide +kernel
theorem dX0_within_11 : decode cX0_within 11 = .ok (.iload_n 1, 1) := by decide +kernel
theorem dX0_within_12 : decode cX0_within 12 = .ok (.iload_n 2, 1) := by decide +kernel
theorem dX0_within_13 : decode cX0_within 13 = .ok (.invokestatic 129, 3) := by decide +kernel
theorem dX0_within_16 : decode cX0_within 16 = .ok (.iconst (-1), 1) := by decide +kernel
theorem dX0_within_17 : decode cX0_within 17 = .ok (.ixor, 1) := by decide +kernel
theorem dX0_within_18 : decode cX0_within 18 = .ok (.ior, 1) := by decide +kernel
theorem dX0_within_19 : decode cX0_within 19 = .ok (.bipush 32, 2) := by decide +kernel
theorem dX0_within_21 : decode cX0_within 21 = .ok (.invokestatic 36, 3) := by decide +kernel
theorem dX0_within_24 : decode cX0_within 24 = .ok (.lstore 5, 2) := by decide +kernel
theorem dX0_within_26 : decode cX0_within 26 = .ok (.aload_n 0, 1) := by decide +kernel
theorem dX0_within_27 : decode cX0_within 27 = .ok (.aload_n 0, 1) := by decide +kernel
theorem dX0_within_28 : decode cX0_within 28 = .ok (.lload_n 3, 1) := by decide +kernel
theorem dX0_within_29 : decode cX0_within 29 = .ok (.invokevirtual 123, 3) := by decide +kernel
theorem dX0_within_32 : decode cX0_within 32 = .ok (.aload_n 0, 1) := by decide +kernel
theorem dX0_within_33 : decode cX0_within 33 = .ok (.lload 5, 2) := by decide +kernel
theorem dX0_within_35 : decode cX0_within 35 = .ok (.lconst 1, 1) := by decide +kernel
theorem dX0_within_36 : decode cX0_within 36 = .ok (.ladd, 1) := by decide +kernel
theorem dX0_within_37 : decode cX0_within 37 = .ok (.invokevirtual 123, 3) := by decide +kernel
theorem dX0_within_40 : decode cX0_within 40 = .ok (.invokevirtual 132, 3) := by decide +kernel
theorem dX0_within_43 : decode cX0_within 43 = .ok (.ireturn, 1) := by decide +kernel
theorem dX0_routes_0 : decode cX0_routes 0 = .ok (.aload_n 0, 1) := by decide +kernel
theorem dX0_routes_1 : decode cX0_routes 1 = .ok (.getfield 20, 3) := by decide +kernel
theorem dX0_routes_4 : decode cX0_routes 4 = .ok (.ireturn, 1) := by decide +kernel
set_option maxRecDepth 20000 in
theorem ggX0_known_X0_prefixesBetween : GoodIn wsX0_known wsX0_prefixesBetween := goodIn_r _ [6, 7, 8, 9, 5, 10, 11, 12, 13, 14, 15, 16, 17, 18, 19, 20, 21, 22, 23, 24, 1, 25, 26, 27, 28, 29, 30] (by decide +kernel) (by decide +kernel)
set_option maxRecDepth 20000 in
theorem gX0_known_X0_prefixesBetween : GoodIn wsX0_known (wsV RX0 132 RX0 yX0_prefixesBetween wsX0_prefixesBetween) := goodIn_app (goodIn_of _ (by decide +kernel)) ggX0_known_X0_prefixesBetween
theorem dX0_known_0 : decode cX0_known 0 = .ok (.aload_n 0, 1) := by decide +kernel
theorem dX0_known_1 : decode cX0_known 1 = .ok (.iconst 0, 1) := by decide +kernel
theorem dX0_known_2 : decode cX0_known 2 = .ok (.aload_n 0, 1) := by decide +kernel
theorem dX0_known_3 : decode cX0_known 3 = .ok (.getfield 20, 3) := by decide +kernel
theorem dX0_known_6 : decode cX0_known 6 = .ok (.invokevirtual 132, 3) := by decide +kernel
theorem dX0_known_9 : decode cX0_known 9 = .ok (.ireturn, 1) := by decide +kernel
set_option maxRecDepth 20000 in
theorem ggX0_nodes_X0_beginsPrefix : GoodIn wsX0_nodes wsX0_beginsPrefix := goodIn_r _ [6, 7, 8, 9, 5, 10, 11, 12, 13, 14, 15, 16, 17, 18, 19, 20, 1, 21, 22, 61, 62, 63, 64] (by decide +kernel) (by decide +kernel)
set_option maxRecDepth 20000 in
theorem gX0_nodes_X0_beginsPrefix : GoodIn wsX0_nodes (wsV RX0 135 RX0 yX0_beginsPrefix wsX0_beginsPrefix) := goodIn_app (goodIn_of _ (by decide +kernel)) ggX0_nodes_X0_beginsPrefix
set_option maxRecDepth 20000 in
theorem ggX0_nodes_X0_prefixAt : GoodIn wsX0_nodes wsX0_prefixAt := goodIn_r _ [10, 11, 12, 13, 5, 14, 15, 16, 17, 18, 19, 20, 1, 21, 22, 61, 62, 63, 64] (by decide +kernel) (by decide +kernel)
set_option maxRecDepth 20000 in
theorem gX0_nodes_X0_prefixAt : GoodIn wsX0_nodes (wsV RX0 126 RX0 yX0_prefixAt wsX0_prefixAt) := goodIn_app (goodIn_of _ (by decide +kernel)) ggX0_nodes_X0_prefixAt
set_option maxRecDepth 20000 in
theorem ggX0_nodes_X0_partAtUnknown : GoodIn wsX0_nodes wsX0_partAtUnknown := goodIn_r _ [26, 27, 28, 5, 29, 30, 31, 32, 33, 34, 35, 36, 37, 38, 39, 40, 41, 42, 43, 44, 45, 46, 47, 48, 49, 50, 51, 52, 53, 54, 55, 56, 57, 58, 59, 60, 1, 11, 12, 13, 14, 15, 16, 17, 18, 19, 20, 21, 22, 7, 8, 9, 10, 61, 62, 63, 64] (by decide +kernel) (by decide +kernel)
set_option maxRecDepth 20000 in
theorem gX0_nodes_X0_partAtUnknown : GoodIn wsX0_nodes (wsV RX0 139 RX0 yX0_partAtUnknown wsX0_partAtUnknown) := goodIn_app (goodIn_of _ (by decide +kernel)) ggX0_nodes_X0_partAtUnknown
theorem dX0_nodes_0 : decode cX0_nodes 0 = .ok (.iconst 0, 1) := by decide +kernel
theorem dX0_nodes_1 : decode cX0_nodes 1 = .ok (.istore_n 1, 1) := by decide +kernel
theorem dX0_nodes_2 : decode cX0_nodes 2 = .ok (.iconst 0, 1) := by decide +kernel
theorem dX0_nodes_3 : decode cX0_nodes 3 = .ok (.istore_n 2, 1) := by decide +kernel
theorem dX0_nodes_4 : decode cX0_nodes 4 = .ok (.iload_n 2, 1) := by decide +kernel
theorem dX0_nodes_5 : decode cX0_nodes 5 = .ok (.aload_n 0, 1) := by decide +kernel
theorem dX0_nodes_6 : decode cX0_nodes 6 = .ok (.getfield 20, 3) := by decide +kernel
theorem dX0_nodes_9 : decode cX0_nodes 9 = .ok (.if_icmp .ge 46, 3) := by decide +kernel
theorem dX0_nodes_12 : decode cX0_nodes 12 = .ok (.aload_n 0, 1) := by decide +kernel
theorem dX0_nodes_13 : decode cX0_nodes 13 = .ok (.iload_n 2, 1) := by decide +kernel
theorem dX0_nodes_14 : decode cX0_nodes 14 = .ok (.invokevirtual 135, 3) := by decide +kernel
theorem dX0_nodes_17 : decode cX0_nodes 17 = .ok (.ifCond .eq 32, 3) := by decide +kernel
theorem dX0_nodes_20 : decode cX0_nodes 20 = .ok (.iinc 1 1, 3) := by decide +kernel
theorem dX0_nodes_23 : decode cX0_nodes 23 = .ok (.iload_n 2, 1) := by decide +kernel
theorem dX0_nodes_24 : decode cX0_nodes 24 = .ok (.ifCond .le 25, 3) := by decide +kernel
theorem dX0_nodes_27 : decode cX0_nodes 27 = .ok (.aload_n 0, 1) := by decide +kernel
theorem dX0_nodes_28 : decode cX0_nodes 28 = .ok (.aload_n 0, 1) := by decide +kernel
theorem dX0_nodes_29 : decode cX0_nodes 29 = .ok (.iload_n 2, 1) := by decide +kernel
theorem dX0_nodes_30 : decode cX0_nodes 30 = .ok (.iconst 1, 1) := by decide +kernel
theorem dX0_nodes_31 : decode cX0_nodes 31 = .ok (.isub, 1) := by decide +kernel
theorem dX0_nodes_32 : decode cX0_nodes 32 = .ok (.invokevirtual 126, 3) := by decide +kernel
theorem dX0_nodes_35 : decode cX0_nodes 35 = .ok (.aload_n 0, 1) := by decide +kernel
theorem dX0_nodes_36 : decode cX0_nodes 36 = .ok (.iload_n 2, 1) := by decide +kernel
theorem dX0_nodes_37 : decode cX0_nodes 37 = .ok (.invokevirtual 126, 3) := by decide +kernel
theorem dX0_nodes_40 : decode cX0_nodes 40 = .ok (.invokevirtual 139, 3) := by decide +kernel
theorem dX0_nodes_43 : decode cX0_nodes 43 = .ok (.ifCond .eq 6, 3) := by decide +kernel
theorem dX0_nodes_46 : decode cX0_nodes 46 = .ok (.iinc 1 1, 3) := by decide +kernel
theorem dX0_nodes_49 : decode cX0_nodes 49 = .ok (.iinc 2 1, 3) := by decide +kernel
theorem dX0_nodes_52 : decode cX0_nodes 52 = .ok (.goto (-48), 3) := by decide +kernel
theorem dX0_nodes_55 : decode cX0_nodes 55 = .ok (.iload_n 1, 1) := by decide +kernel
theorem dX0_nodes_56 : decode cX0_nodes 56 = .ok (.ireturn, 1) := by decide +kernel
set_option maxRecDepth 20000 in
theorem ggX0_checkPrefix_X0_mask : GoodIn wsX0_checkPrefix wsX0_mask := goodIn_r _ [6] (by decide +kernel) (by decide +kernel)
set_option maxRecDepth 20000 in
theorem gX0_checkPrefix_X0_mask : GoodIn wsX0_checkPrefix (va_wsS RX0 129 yX0_mask wsX0_mask) := goodIn_app (goodIn_of _ (by decide +kernel)) ggX0_checkPrefix_X0_mask
theorem dX0_checkPrefix_0 : decode cX0_checkPrefix 0 = .ok (.iload_n 1, 1) := by decide +kernel
theorem dX0_checkPrefix_1 : decode cX0_checkPrefix 1 = .ok (.ifCond .lt 9, 3) := by decide +kernel
theorem dX0_checkPrefix_4 : decode cX0_checkPrefix 4 = .ok (.iload_n 1, 1) := by decide +kernel
theorem dX0_checkPrefix_5 : decode cX0_checkPrefix 5 = .ok (.bipush 32, 2) := by decide +kernel
theorem dX0_checkPrefix_7 : decode cX0_checkPrefix 7 = .ok (.if_icmp .le 13, 3) := by decide +kernel
theorem dX0_checkPrefix_10 : decode cX0_checkPrefix 10 = .ok (.new 116, 3) := by decide +kernel
theorem dX0_checkPrefix_13 : decode cX0_checkPrefix 13 = .ok (.dup, 1) := by decide +kernel
theorem dX0_checkPrefix_14 : decode cX0_checkPrefix 14 = .ok (.ldc 143, 2) := by decide +kernel
theorem dX0_checkPrefix_16 : decode cX0_checkPrefix 16 = .ok (.invokespecial 120, 3) := by decide +kernel
theorem dX0_checkPrefix_19 : decode cX0_checkPrefix 19 = .ok (.athrow, 1) := by decide +kernel
theorem dX0_checkPrefix_20 : decode cX0_checkPrefix 20 = .ok (.iload_n 0, 1) := by decide +kernel
theorem dX0_checkPrefix_21 : decode cX0_checkPrefix 21 = .ok (.iload_n 1, 1) := by decide +kernel
theorem dX0_checkPrefix_22 : decode cX0_checkPrefix 22 = .ok (.invokestatic 129, 3) := by decide +kernel
theorem dX0_checkPrefix_25 : decode cX0_checkPrefix 25 = .ok (.iconst (-1), 1) := by decide +kernel
theorem dX0_checkPrefix_26 : decode cX0_checkPrefix 26 = .ok (.ixor, 1) := by decide +kernel
theorem dX0_checkPrefix_27 : decode cX0_checkPrefix 27 = .ok (.iand, 1) := by decide +kernel
theorem dX0_checkPrefix_28 : decode cX0_checkPrefix 28 = .ok (.ifCond .eq 13, 3) := by decide +kernel
theorem dX0_checkPrefix_31 : decode cX0_checkPrefix 31 = .ok (.new 116, 3) := by decide +kernel
theorem dX0_checkPrefix_34 : decode cX0_checkPrefix 34 = .ok (.dup, 1) := by decide +kernel
theorem dX0_checkPrefix_35 : decode cX0_checkPrefix 35 = .ok (.ldc 145, 2) := by decide +kernel
theorem dX0_checkPrefix_37 : decode cX0_checkPrefix 37 = .ok (.invokespecial 120, 3) := by decide +kernel
theorem dX0_checkPrefix_40 : decode cX0_checkPrefix 40 = .ok (.athrow, 1) := by decide +kernel
theorem dX0_checkPrefix_41 : decode cX0_checkPrefix 41 = .ok (.return_, 1) := by decide +kernel
theorem dX0_checkOrigin_0 : decode cX0_checkOrigin 0 = .ok (.iload_n 0, 1) := by decide +kernel
theorem dX0_checkOrigin_1 : decode cX0_checkOrigin 1 = .ok (.ifCond .lt 9, 3) := by decide +kernel
theorem dX0_checkOrigin_4 : decode cX0_checkOrigin 4 = .ok (.iload_n 0, 1) := by decide +kernel
theorem dX0_checkOrigin_5 : decode cX0_checkOrigin 5 = .ok (.bipush 7, 2) := by decide +kernel
theorem dX0_checkOrigin_7 : decode cX0_checkOrigin 7 = .ok (.if_icmp .le 13, 3) := by decide +kernel
theorem dX0_checkOrigin_10 : decode cX0_checkOrigin 10 = .ok (.new 116, 3) := by decide +kernel
theorem dX0_checkOrigin_13 : decode cX0_checkOrigin 13 = .ok (.dup, 1) := by decide +kernel
theorem dX0_checkOrigin_14 : decode cX0_checkOrigin 14 = .ok (.ldc 147, 2) := by decide +kernel
theorem dX0_checkOrigin_16 : decode cX0_checkOrigin 16 = .ok (.invokespecial 120, 3) := by decide +kernel
theorem dX0_checkOrigin_19 : decode cX0_checkOrigin 19 = .ok (.athrow, 1) := by decide +kernel
theorem dX0_checkOrigin_20 : decode cX0_checkOrigin 20 = .ok (.return_, 1) := by decide +kernel
theorem dX0_checkCostAndHops_0 : decode cX0_checkCostAndHops 0 = .ok (.iload_n 0, 1) := by decide +kernel
theorem dX0_checkCostAndHops_1 : decode cX0_checkCostAndHops 1 = .ok (.ifCond .lt 9, 3) := by decide +kernel
theorem dX0_checkCostAndHops_4 : decode cX0_checkCostAndHops 4 = .ok (.iload_n 0, 1) := by decide +kernel
theorem dX0_checkCostAndHops_5 : decode cX0_checkCostAndHops 5 = .ok (.ldc 149, 2) := by decide +kernel
theorem dX0_checkCostAndHops_7 : decode cX0_checkCostAndHops 7 = .ok (.if_icmp .le 13, 3) := by decide +kernel
theorem dX0_checkCostAndHops_10 : decode cX0_checkCostAndHops 10 = .ok (.new 116, 3) := by decide +kernel
theorem dX0_checkCostAndHops_13 : decode cX0_checkCostAndHops 13 = .ok (.dup, 1) := by decide +kernel
theorem dX0_checkCostAndHops_14 : decode cX0_checkCostAndHops 14 = .ok (.ldc 150, 2) := by decide +kernel
theorem dX0_checkCostAndHops_16 : decode cX0_checkCostAndHops 16 = .ok (.invokespecial 120, 3) := by decide +kernel
theorem dX0_checkCostAndHops_19 : decode cX0_checkCostAndHops 19 = .ok (.athrow, 1) := by decide +kernel
theorem dX0_checkCostAndHops_20 : decode cX0_checkCostAndHops 20 = .ok (.lload_n 1, 1) := by decide +kernel
theorem dX0_checkCostAndHops_21 : decode cX0_checkCostAndHops 21 = .ok (.lconst 0, 1) := by decide +kernel
theorem dX0_checkCostAndHops_22 : decode cX0_checkCostAndHops 22 = .ok (.lcmp, 1) := by decide +kernel
theorem dX0_checkCostAndHops_23 : decode cX0_checkCostAndHops 23 = .ok (.ifCond .ne 13, 3) := by decide +kernel
theorem dX0_checkCostAndHops_26 : decode cX0_checkCostAndHops 26 = .ok (.new 116, 3) := by decide +kernel
theorem dX0_checkCostAndHops_29 : decode cX0_checkCostAndHops 29 = .ok (.dup, 1) := by decide +kernel
theorem dX0_checkCostAndHops_30 : decode cX0_checkCostAndHops 30 = .ok (.ldc 152, 2) := by decide +kernel
theorem dX0_checkCostAndHops_32 : decode cX0_checkCostAndHops 32 = .ok (.invokespecial 120, 3) := by decide +kernel
theorem dX0_checkCostAndHops_35 : decode cX0_checkCostAndHops 35 = .ok (.athrow, 1) := by decide +kernel
theorem dX0_checkCostAndHops_36 : decode cX0_checkCostAndHops 36 = .ok (.return_, 1) := by decide +kernel
theorem dX0_checkHop_0 : decode cX0_checkHop 0 = .ok (.iload_n 0, 1) := by decide +kernel
theorem dX0_checkHop_1 : decode cX0_checkHop 1 = .ok (.ifCond .lt 9, 3) := by decide +kernel
theorem dX0_checkHop_4 : decode cX0_checkHop 4 = .ok (.iload_n 0, 1) := by decide +kernel
theorem dX0_checkHop_5 : decode cX0_checkHop 5 = .ok (.bipush 63, 2) := by decide +kernel
theorem dX0_checkHop_7 : decode cX0_checkHop 7 = .ok (.if_icmp .le 13, 3) := by decide +kernel
theorem dX0_checkHop_10 : decode cX0_checkHop 10 = .ok (.new 116, 3) := by decide +kernel
theorem dX0_checkHop_13 : decode cX0_checkHop 13 = .ok (.dup, 1) := by decide +kernel
theorem dX0_checkHop_14 : decode cX0_checkHop 14 = .ok (.ldc 154, 2) := by decide +kernel
theorem dX0_checkHop_16 : decode cX0_checkHop 16 = .ok (.invokespecial 120, 3) := by decide +kernel
theorem dX0_checkHop_19 : decode cX0_checkHop 19 = .ok (.athrow, 1) := by decide +kernel
theorem dX0_checkHop_20 : decode cX0_checkHop 20 = .ok (.return_, 1) := by decide +kernel
theorem dX0_checkWhat_0 : decode cX0_checkWhat 0 = .ok (.iload_n 0, 1) := by decide +kernel
theorem dX0_checkWhat_1 : decode cX0_checkWhat 1 = .ok (.ifCond .lt 8, 3) := by decide +kernel
theorem dX0_checkWhat_4 : decode cX0_checkWhat 4 = .ok (.iload_n 0, 1) := by decide +kernel
theorem dX0_checkWhat_5 : decode cX0_checkWhat 5 = .ok (.iconst 2, 1) := by decide +kernel
theorem dX0_checkWhat_6 : decode cX0_checkWhat 6 = .ok (.if_icmp .le 13, 3) := by decide +kernel
theorem dX0_checkWhat_9 : decode cX0_checkWhat 9 = .ok (.new 116, 3) := by decide +kernel
theorem dX0_checkWhat_12 : decode cX0_checkWhat 12 = .ok (.dup, 1) := by decide +kernel
theorem dX0_checkWhat_13 : decode cX0_checkWhat 13 = .ok (.ldc 156, 2) := by decide +kernel
theorem dX0_checkWhat_15 : decode cX0_checkWhat 15 = .ok (.invokespecial 120, 3) := by decide +kernel
theorem dX0_checkWhat_18 : decode cX0_checkWhat 18 = .ok (.athrow, 1) := by decide +kernel
theorem dX0_checkWhat_19 : decode cX0_checkWhat 19 = .ok (.return_, 1) := by decide +kernel
theorem dX0_checkRoom_0 : decode cX0_checkRoom 0 = .ok (.aload_n 0, 1) := by decide +kernel
theorem dX0_checkRoom_1 : decode cX0_checkRoom 1 = .ok (.getfield 20, 3) := by decide +kernel
theorem dX0_checkRoom_4 : decode cX0_checkRoom 4 = .ok (.sipush 1000, 3) := by decide +kernel
theorem dX0_checkRoom_7 : decode cX0_checkRoom 7 = .ok (.if_icmp .lt 13, 3) := by decide +kernel
theorem dX0_checkRoom_10 : decode cX0_checkRoom 10 = .ok (.new 158, 3) := by decide +kernel
theorem dX0_checkRoom_13 : decode cX0_checkRoom 13 = .ok (.dup, 1) := by decide +kernel
theorem dX0_checkRoom_14 : decode cX0_checkRoom 14 = .ok (.ldc 160, 2) := by decide +kernel
theorem dX0_checkRoom_16 : decode cX0_checkRoom 16 = .ok (.invokespecial 162, 3) := by decide +kernel
theorem dX0_checkRoom_19 : decode cX0_checkRoom 19 = .ok (.athrow, 1) := by decide +kernel
theorem dX0_checkRoom_20 : decode cX0_checkRoom 20 = .ok (.return_, 1) := by decide +kernel
theorem dX0_mask_0 : decode cX0_mask 0 = .ok (.iload_n 0, 1) := by decide +kernel
theorem dX0_mask_1 : decode cX0_mask 1 = .ok (.ifCond .gt 7, 3) := by decide +kernel
theorem dX0_mask_4 : decode cX0_mask 4 = .ok (.iconst 0, 1) := by decide +kernel
theorem dX0_mask_5 : decode cX0_mask 5 = .ok (.goto 9, 3) := by decide +kernel
theorem dX0_mask_8 : decode cX0_mask 8 = .ok (.iconst (-1), 1) := by decide +kernel
theorem dX0_mask_9 : decode cX0_mask 9 = .ok (.bipush 32, 2) := by decide +kernel
theorem dX0_mask_11 : decode cX0_mask 11 = .ok (.iload_n 0, 1) := by decide +kernel
theorem dX0_mask_12 : decode cX0_mask 12 = .ok (.isub, 1) := by decide +kernel
theorem dX0_mask_13 : decode cX0_mask 13 = .ok (.ishl, 1) := by decide +kernel
theorem dX0_mask_14 : decode cX0_mask 14 = .ok (.ireturn, 1) := by decide +kernel
theorem dX0_prefixOf_0 : decode cX0_prefixOf 0 = .ok (.iload_n 0, 1) := by decide +kernel
theorem dX0_prefixOf_1 : decode cX0_prefixOf 1 = .ok (.i2l, 1) := by decide +kernel
theorem dX0_prefixOf_2 : decode cX0_prefixOf 2 = .ok (.ldc2_w 111, 3) := by decide +kernel
theorem dX0_prefixOf_5 : decode cX0_prefixOf 5 = .ok (.land, 1) := by decide +kernel
theorem dX0_prefixOf_6 : decode cX0_prefixOf 6 = .ok (.bipush 6, 2) := by decide +kernel
theorem dX0_prefixOf_8 : decode cX0_prefixOf 8 = .ok (.lshl, 1) := by decide +kernel
theorem dX0_prefixOf_9 : decode cX0_prefixOf 9 = .ok (.iload_n 1, 1) := by decide +kernel
theorem dX0_prefixOf_10 : decode cX0_prefixOf 10 = .ok (.i2l, 1) := by decide +kernel
theorem dX0_prefixOf_11 : decode cX0_prefixOf 11 = .ok (.ladd, 1) := by decide +kernel
theorem dX0_prefixOf_12 : decode cX0_prefixOf 12 = .ok (.lreturn, 1) := by decide +kernel
theorem dX0_addressOf_0 : decode cX0_addressOf 0 = .ok (.lload_n 0, 1) := by decide +kernel
theorem dX0_addressOf_1 : decode cX0_addressOf 1 = .ok (.bipush 6, 2) := by decide +kernel
theorem dX0_addressOf_3 : decode cX0_addressOf 3 = .ok (.lshr, 1) := by decide +kernel
theorem dX0_addressOf_4 : decode cX0_addressOf 4 = .ok (.l2i, 1) := by decide +kernel
theorem dX0_addressOf_5 : decode cX0_addressOf 5 = .ok (.ireturn, 1) := by decide +kernel
theorem dX0_lengthOf_0 : decode cX0_lengthOf 0 = .ok (.lload_n 0, 1) := by decide +kernel
theorem dX0_lengthOf_1 : decode cX0_lengthOf 1 = .ok (.ldc2_w 163, 3) := by decide +kernel
theorem dX0_lengthOf_4 : decode cX0_lengthOf 4 = .ok (.land, 1) := by decide +kernel
theorem dX0_lengthOf_5 : decode cX0_lengthOf 5 = .ok (.l2i, 1) := by decide +kernel
theorem dX0_lengthOf_6 : decode cX0_lengthOf 6 = .ok (.ireturn, 1) := by decide +kernel
theorem dX0_routeKey_0 : decode cX0_routeKey 0 = .ok (.lload_n 0, 1) := by decide +kernel
theorem dX0_routeKey_1 : decode cX0_routeKey 1 = .ok (.iconst 3, 1) := by decide +kernel
theorem dX0_routeKey_2 : decode cX0_routeKey 2 = .ok (.lshl, 1) := by decide +kernel
theorem dX0_routeKey_3 : decode cX0_routeKey 3 = .ok (.iload_n 2, 1) := by decide +kernel
theorem dX0_routeKey_4 : decode cX0_routeKey 4 = .ok (.i2l, 1) := by decide +kernel
theorem dX0_routeKey_5 : decode cX0_routeKey 5 = .ok (.ladd, 1) := by decide +kernel
theorem dX0_routeKey_6 : decode cX0_routeKey 6 = .ok (.lreturn, 1) := by decide +kernel
theorem dX0_hopOfRank_0 : decode cX0_hopOfRank 0 = .ok (.iconst 0, 1) := by decide +kernel
theorem dX0_hopOfRank_1 : decode cX0_hopOfRank 1 = .ok (.istore_n 3, 1) := by decide +kernel
theorem dX0_hopOfRank_2 : decode cX0_hopOfRank 2 = .ok (.iconst 0, 1) := by decide +kernel
theorem dX0_hopOfRank_3 : decode cX0_hopOfRank 3 = .ok (.istore 4, 2) := by decide +kernel
theorem dX0_hopOfRank_5 : decode cX0_hopOfRank 5 = .ok (.iload 4, 2) := by decide +kernel
theorem dX0_hopOfRank_7 : decode cX0_hopOfRank 7 = .ok (.bipush 63, 2) := by decide +kernel
theorem dX0_hopOfRank_9 : decode cX0_hopOfRank 9 = .ok (.if_icmp .gt 31, 3) := by decide +kernel
theorem dX0_hopOfRank_12 : decode cX0_hopOfRank 12 = .ok (.lload_n 0, 1) := by decide +kernel
theorem dX0_hopOfRank_13 : decode cX0_hopOfRank 13 = .ok (.iload 4, 2) := by decide +kernel
theorem dX0_hopOfRank_15 : decode cX0_hopOfRank 15 = .ok (.lushr, 1) := by decide +kernel
theorem dX0_hopOfRank_16 : decode cX0_hopOfRank 16 = .ok (.lconst 1, 1) := by decide +kernel
theorem dX0_hopOfRank_17 : decode cX0_hopOfRank 17 = .ok (.land, 1) := by decide +kernel
theorem dX0_hopOfRank_18 : decode cX0_hopOfRank 18 = .ok (.lconst 0, 1) := by decide +kernel
theorem dX0_hopOfRank_19 : decode cX0_hopOfRank 19 = .ok (.lcmp, 1) := by decide +kernel
theorem dX0_hopOfRank_20 : decode cX0_hopOfRank 20 = .ok (.ifCond .eq 14, 3) := by decide +kernel
theorem dX0_hopOfRank_23 : decode cX0_hopOfRank 23 = .ok (.iload_n 3, 1) := by decide +kernel
theorem dX0_hopOfRank_24 : decode cX0_hopOfRank 24 = .ok (.iload_n 2, 1) := by decide +kernel
theorem dX0_hopOfRank_25 : decode cX0_hopOfRank 25 = .ok (.if_icmp .ne 6, 3) := by decide +kernel
theorem dX0_hopOfRank_28 : decode cX0_hopOfRank 28 = .ok (.iload 4, 2) := by decide +kernel
theorem dX0_hopOfRank_30 : decode cX0_hopOfRank 30 = .ok (.ireturn, 1) := by decide +kernel
theorem dX0_hopOfRank_31 : decode cX0_hopOfRank 31 = .ok (.iinc 3 1, 3) := by decide +kernel
theorem dX0_hopOfRank_34 : decode cX0_hopOfRank 34 = .ok (.iinc 4 1, 3) := by decide +kernel
theorem dX0_hopOfRank_37 : decode cX0_hopOfRank 37 = .ok (.goto (-32), 3) := by decide +kernel
theorem dX0_hopOfRank_40 : decode cX0_hopOfRank 40 = .ok (.iconst (-1), 1) := by decide +kernel
theorem dX0_hopOfRank_41 : decode cX0_hopOfRank 41 = .ok (.ireturn, 1) := by decide +kernel
set_option maxRecDepth 20000 in
theorem ggX0_firstFrom_X0_keyAt : GoodIn wsX0_firstFrom wsX0_keyAt := goodIn_r _ [6, 7, 8, 9, 10, 11, 5, 12, 1, 13, 14, 15, 16, 17, 18] (by decide +kernel) (by decide +kernel)
set_option maxRecDepth 20000 in
theorem gX0_firstFrom_X0_keyAt : GoodIn wsX0_firstFrom (wsV RX0 48 RX0 yX0_keyAt wsX0_keyAt) := goodIn_app (goodIn_of _ (by decide +kernel)) ggX0_firstFrom_X0_keyAt
theorem dX0_firstFrom_0 : decode cX0_firstFrom 0 = .ok (.iconst 0, 1) := by decide +kernel
theorem dX0_firstFrom_1 : decode cX0_firstFrom 1 = .ok (.istore_n 3, 1) := by decide +kernel
theorem dX0_firstFrom_2 : decode cX0_firstFrom 2 = .ok (.aload_n 0, 1) := by decide +kernel
theorem dX0_firstFrom_3 : decode cX0_firstFrom 3 = .ok (.getfield 20, 3) := by decide +kernel
theorem dX0_firstFrom_6 : decode cX0_firstFrom 6 = .ok (.istore 4, 2) := by decide +kernel
theorem dX0_firstFrom_8 : decode cX0_firstFrom 8 = .ok (.iconst 0, 1) := by decide +kernel
theorem dX0_firstFrom_9 : decode cX0_firstFrom 9 = .ok (.istore 5, 2) := by decide +kernel
theorem dX0_firstFrom_11 : decode cX0_firstFrom 11 = .ok (.iload 5, 2) := by decide +kernel
theorem dX0_firstFrom_13 : decode cX0_firstFrom 13 = .ok (.sipush 2048, 3) := by decide +kernel
theorem dX0_firstFrom_16 : decode cX0_firstFrom 16 = .ok (.if_icmp .ge 46, 3) := by decide +kernel
theorem dX0_firstFrom_19 : decode cX0_firstFrom 19 = .ok (.iload_n 3, 1) := by decide +kernel
theorem dX0_firstFrom_20 : decode cX0_firstFrom 20 = .ok (.iload 4, 2) := by decide +kernel
theorem dX0_firstFrom_22 : decode cX0_firstFrom 22 = .ok (.if_icmp .ge 40, 3) := by decide +kernel
theorem dX0_firstFrom_25 : decode cX0_firstFrom 25 = .ok (.iload_n 3, 1) := by decide +kernel
theorem dX0_firstFrom_26 : decode cX0_firstFrom 26 = .ok (.iload 4, 2) := by decide +kernel
theorem dX0_firstFrom_28 : decode cX0_firstFrom 28 = .ok (.iadd, 1) := by decide +kernel
theorem dX0_firstFrom_29 : decode cX0_firstFrom 29 = .ok (.iconst 1, 1) := by decide +kernel
theorem dX0_firstFrom_30 : decode cX0_firstFrom 30 = .ok (.iushr, 1) := by decide +kernel
theorem dX0_firstFrom_31 : decode cX0_firstFrom 31 = .ok (.istore 6, 2) := by decide +kernel
theorem dX0_firstFrom_33 : decode cX0_firstFrom 33 = .ok (.aload_n 0, 1) := by decide +kernel
theorem dX0_firstFrom_34 : decode cX0_firstFrom 34 = .ok (.iload 6, 2) := by decide +kernel
theorem dX0_firstFrom_36 : decode cX0_firstFrom 36 = .ok (.invokevirtual 48, 3) := by decide +kernel
theorem dX0_firstFrom_39 : decode cX0_firstFrom 39 = .ok (.lload_n 1, 1) := by decide +kernel
theorem dX0_firstFrom_40 : decode cX0_firstFrom 40 = .ok (.lcmp, 1) := by decide +kernel
theorem dX0_firstFrom_41 : decode cX0_firstFrom 41 = .ok (.ifCond .ge 11, 3) := by decide +kernel
theorem dX0_firstFrom_44 : decode cX0_firstFrom 44 = .ok (.iload 6, 2) := by decide +kernel
theorem dX0_firstFrom_46 : decode cX0_firstFrom 46 = .ok (.iconst 1, 1) := by decide +kernel
theorem dX0_firstFrom_47 : decode cX0_firstFrom 47 = .ok (.iadd, 1) := by decide +kernel
theorem dX0_firstFrom_48 : decode cX0_firstFrom 48 = .ok (.istore_n 3, 1) := by decide +kernel
theorem dX0_firstFrom_49 : decode cX0_firstFrom 49 = .ok (.goto 7, 3) := by decide +kernel
theorem dX0_firstFrom_52 : decode cX0_firstFrom 52 = .ok (.iload 6, 2) := by decide +kernel
theorem dX0_firstFrom_54 : decode cX0_firstFrom 54 = .ok (.istore 4, 2) := by decide +kernel
theorem dX0_firstFrom_56 : decode cX0_firstFrom 56 = .ok (.iinc 5 1, 3) := by decide +kernel
theorem dX0_firstFrom_59 : decode cX0_firstFrom 59 = .ok (.goto (-48), 3) := by decide +kernel
theorem dX0_firstFrom_62 : decode cX0_firstFrom 62 = .ok (.iload_n 3, 1) := by decide +kernel
theorem dX0_firstFrom_63 : decode cX0_firstFrom 63 = .ok (.ireturn, 1) := by decide +kernel
set_option maxRecDepth 20000 in
theorem ggX0_firstOfPrefix_X0_routeKey : GoodIn wsX0_firstOfPrefix wsX0_routeKey := goodIn_r _ [4] (by decide +kernel) (by decide +kernel)
set_option maxRecDepth 20000 in
theorem gX0_firstOfPrefix_X0_routeKey : GoodIn wsX0_firstOfPrefix (va_wsS RX0 40 yX0_routeKey wsX0_routeKey) := goodIn_app (goodIn_of _ (by decide +kernel)) ggX0_firstOfPrefix_X0_routeKey
set_option maxRecDepth 20000 in
theorem ggX0_firstOfPrefix_X0_firstFrom : GoodIn wsX0_firstOfPrefix wsX0_firstFrom := goodIn_r _ [8, 9, 10, 11, 12, 3, 13, 14, 15, 16, 17, 18, 19, 20, 21, 22, 23, 24, 25] (by decide +kernel) (by decide +kernel)
set_option maxRecDepth 20000 in
theorem gX0_firstOfPrefix_X0_firstFrom : GoodIn wsX0_firstOfPrefix (wsV RX0 44 RX0 yX0_firstFrom wsX0_firstFrom) := goodIn_app (goodIn_of _ (by decide +kernel)) ggX0_firstOfPrefix_X0_firstFrom
theorem dX0_firstOfPrefix_0 : decode cX0_firstOfPrefix 0 = .ok (.aload_n 0, 1) := by decide +kernel
theorem dX0_firstOfPrefix_1 : decode cX0_firstOfPrefix 1 = .ok (.lload_n 1, 1) := by decide +kernel
theorem dX0_firstOfPrefix_2 : decode cX0_firstOfPrefix 2 = .ok (.iconst 0, 1) := by decide +kernel
theorem dX0_firstOfPrefix_3 : decode cX0_firstOfPrefix 3 = .ok (.invokestatic 40, 3) := by decide +kernel
theorem dX0_firstOfPrefix_6 : decode cX0_firstOfPrefix 6 = .ok (.invokevirtual 44, 3) := by decide +kernel
theorem dX0_firstOfPrefix_9 : decode cX0_firstOfPrefix 9 = .ok (.ireturn, 1) := by decide +kernel
set_option maxRecDepth 20000 in
theorem ggX0_placeOfRoute_X0_routeKey : GoodIn wsX0_placeOfRoute wsX0_routeKey := goodIn_r _ [4] (by decide +kernel) (by decide +kernel)
set_option maxRecDepth 20000 in
theorem gX0_placeOfRoute_X0_routeKey : GoodIn wsX0_placeOfRoute (va_wsS RX0 40 yX0_routeKey wsX0_routeKey) := goodIn_app (goodIn_of _ (by decide +kernel)) ggX0_placeOfRoute_X0_routeKey
set_option maxRecDepth 20000 in
theorem ggX0_placeOfRoute_X0_firstFrom : GoodIn wsX0_placeOfRoute wsX0_firstFrom := goodIn_r _ [8, 9, 10, 11, 12, 3, 13, 14, 15, 16, 17, 18, 19, 20, 21, 22, 23, 24, 25] (by decide +kernel) (by decide +kernel)
set_option maxRecDepth 20000 in
theorem gX0_placeOfRoute_X0_firstFrom : GoodIn wsX0_placeOfRoute (wsV RX0 44 RX0 yX0_firstFrom wsX0_firstFrom) := goodIn_app (goodIn_of _ (by decide +kernel)) ggX0_placeOfRoute_X0_firstFrom
set_option maxRecDepth 20000 in
theorem ggX0_placeOfRoute_X0_keyAt : GoodIn wsX0_placeOfRoute wsX0_keyAt := goodIn_r _ [13, 14, 15, 16, 17, 18, 3, 19, 9, 20, 21, 22, 23, 24, 25] (by decide +kernel) (by decide +kernel)
set_option maxRecDepth 20000 in
theorem gX0_placeOfRoute_X0_keyAt : GoodIn wsX0_placeOfRoute (wsV RX0 48 RX0 yX0_keyAt wsX0_keyAt) := goodIn_app (goodIn_of _ (by decide +kernel)) ggX0_placeOfRoute_X0_keyAt
theorem dX0_placeOfRoute_0 : decode cX0_placeOfRoute 0 = .ok (.lload_n 1, 1) := by decide +kernel
theorem dX0_placeOfRoute_1 : decode cX0_placeOfRoute 1 = .ok (.iload_n 3, 1) := by decide +kernel
theorem dX0_placeOfRoute_2 : decode cX0_placeOfRoute 2 = .ok (.invokestatic 40, 3) := by decide +kernel
theorem dX0_placeOfRoute_5 : decode cX0_placeOfRoute 5 = .ok (.lstore 4, 2) := by decide +kernel
theorem dX0_placeOfRoute_7 : decode cX0_placeOfRoute 7 = .ok (.aload_n 0, 1) := by decide +kernel
theorem dX0_placeOfRoute_8 : decode cX0_placeOfRoute 8 = .ok (.lload 4, 2) := by decide +kernel
theorem dX0_placeOfRoute_10 : decode cX0_placeOfRoute 10 = .ok (.invokevirtual 44, 3) := by decide +kernel
theorem dX0_placeOfRoute_13 : decode cX0_placeOfRoute 13 = .ok (.istore 6, 2) := by decide +kernel
theorem dX0_placeOfRoute_15 : decode cX0_placeOfRoute 15 = .ok (.aload_n 0, 1) := by decide +kernel
theorem dX0_placeOfRoute_16 : decode cX0_placeOfRoute 16 = .ok (.iload 6, 2) := by decide +kernel
theorem dX0_placeOfRoute_18 : decode cX0_placeOfRoute 18 = .ok (.invokevirtual 48, 3) := by decide +kernel
theorem dX0_placeOfRoute_21 : decode cX0_placeOfRoute 21 = .ok (.lload 4, 2) := by decide +kernel
theorem dX0_placeOfRoute_23 : decode cX0_placeOfRoute 23 = .ok (.lcmp, 1) := by decide +kernel
theorem dX0_placeOfRoute_24 : decode cX0_placeOfRoute 24 = .ok (.ifCond .ne 8, 3) := by decide +kernel
theorem dX0_placeOfRoute_27 : decode cX0_placeOfRoute 27 = .ok (.iload 6, 2) := by decide +kernel
theorem dX0_placeOfRoute_29 : decode cX0_placeOfRoute 29 = .ok (.goto 4, 3) := by decide +kernel
theorem dX0_placeOfRoute_32 : decode cX0_placeOfRoute 32 = .ok (.iconst (-1), 1) := by decide +kernel
theorem dX0_placeOfRoute_33 : decode cX0_placeOfRoute 33 = .ok (.ireturn, 1) := by decide +kernel
set_option maxRecDepth 20000 in
theorem ggX0_placeOfBest_X0_firstOfPrefix : GoodIn wsX0_placeOfBest wsX0_firstOfPrefix := goodIn_r _ [5, 6, 7, 4, 8, 9, 10, 11, 12, 13, 14, 15, 16, 17, 18, 19, 20, 21, 22, 23, 24, 25, 30, 31, 32, 33] (by decide +kernel) (by decide +kernel)
set_option maxRecDepth 20000 in
theorem gX0_placeOfBest_X0_firstOfPrefix : GoodIn wsX0_placeOfBest (wsV RX0 123 RX0 yX0_firstOfPrefix wsX0_firstOfPrefix) := goodIn_app (goodIn_of _ (by decide +kernel)) ggX0_placeOfBest_X0_firstOfPrefix
set_option maxRecDepth 20000 in
theorem ggX0_placeOfBest_X0_prefixAt : GoodIn wsX0_placeOfBest wsX0_prefixAt := goodIn_r _ [29, 14, 15, 16, 4, 17, 18, 19, 20, 21, 22, 23, 13, 24, 25, 30, 31, 32, 33] (by decide +kernel) (by decide +kernel)
set_option maxRecDepth 20000 in
theorem gX0_placeOfBest_X0_prefixAt : GoodIn wsX0_placeOfBest (wsV RX0 126 RX0 yX0_prefixAt wsX0_prefixAt) := goodIn_app (goodIn_of _ (by decide +kernel)) ggX0_placeOfBest_X0_prefixAt
theorem dX0_placeOfBest_0 : decode cX0_placeOfBest 0 = .ok (.aload_n 0, 1) := by decide +kernel
theorem dX0_placeOfBest_1 : decode cX0_placeOfBest 1 = .ok (.lload_n 1, 1) := by decide +kernel
theorem dX0_placeOfBest_2 : decode cX0_placeOfBest 2 = .ok (.invokevirtual 123, 3) := by decide +kernel
theorem dX0_placeOfBest_5 : decode cX0_placeOfBest 5 = .ok (.istore_n 3, 1) := by decide +kernel
theorem dX0_placeOfBest_6 : decode cX0_placeOfBest 6 = .ok (.aload_n 0, 1) := by decide +kernel
theorem dX0_placeOfBest_7 : decode cX0_placeOfBest 7 = .ok (.iload_n 3, 1) := by decide +kernel
theorem dX0_placeOfBest_8 : decode cX0_placeOfBest 8 = .ok (.invokevirtual 126, 3) := by decide +kernel
theorem dX0_placeOfBest_11 : decode cX0_placeOfBest 11 = .ok (.lload_n 1, 1) := by decide +kernel
theorem dX0_placeOfBest_12 : decode cX0_placeOfBest 12 = .ok (.lcmp, 1) := by decide +kernel
theorem dX0_placeOfBest_13 : decode cX0_placeOfBest 13 = .ok (.ifCond .ne 7, 3) := by decide +kernel
theorem dX0_placeOfBest_16 : decode cX0_placeOfBest 16 = .ok (.iload_n 3, 1) := by decide +kernel
theorem dX0_placeOfBest_17 : decode cX0_placeOfBest 17 = .ok (.goto 4, 3) := by decide +kernel
theorem dX0_placeOfBest_20 : decode cX0_placeOfBest 20 = .ok (.iconst (-1), 1) := by decide +kernel
theorem dX0_placeOfBest_21 : decode cX0_placeOfBest 21 = .ok (.ireturn, 1) := by decide +kernel
set_option maxRecDepth 20000 in
theorem ggX0_placeOfLongest_X0_mask : GoodIn wsX0_placeOfLongest wsX0_mask := goodIn_r _ [4] (by decide +kernel) (by decide +kernel)
set_option maxRecDepth 20000 in
theorem gX0_placeOfLongest_X0_mask : GoodIn wsX0_placeOfLongest (va_wsS RX0 129 yX0_mask wsX0_mask) := goodIn_app (goodIn_of _ (by decide +kernel)) ggX0_placeOfLongest_X0_mask
set_option maxRecDepth 20000 in
theorem ggX0_placeOfLongest_X0_prefixOf : GoodIn wsX0_placeOfLongest wsX0_prefixOf := goodIn_r _ [7, 8] (by decide +kernel) (by decide +kernel)
set_option maxRecDepth 20000 in
theorem gX0_placeOfLongest_X0_prefixOf : GoodIn wsX0_placeOfLongest (va_wsS RX0 36 yX0_prefixOf wsX0_prefixOf) := goodIn_app (goodIn_of _ (by decide +kernel)) ggX0_placeOfLongest_X0_prefixOf
set_option maxRecDepth 20000 in
theorem ggX0_placeOfLongest_X0_placeOfBest : GoodIn wsX0_placeOfLongest wsX0_placeOfBest := goodIn_r _ [12, 13, 14, 15, 3, 16, 17, 18, 19, 20, 21, 22, 23, 24, 25, 26, 27, 28, 29, 30, 31, 32, 33, 34, 35, 36, 37, 38, 39, 40, 41, 42, 43, 44] (by decide +kernel) (by decide +kernel)
set_option maxRecDepth 20000 in
theorem gX0_placeOfLongest_X0_placeOfBest : GoodIn wsX0_placeOfLongest (wsV RX0 93 RX0 yX0_placeOfBest wsX0_placeOfBest) := goodIn_app (goodIn_of _ (by decide +kernel)) ggX0_placeOfLongest_X0_placeOfBest
theorem dX0_placeOfLongest_0 : decode cX0_placeOfLongest 0 = .ok (.iload_n 2, 1) := by decide +kernel
theorem dX0_placeOfLongest_1 : decode cX0_placeOfLongest 1 = .ok (.iconst 1, 1) := by decide +kernel
theorem dX0_placeOfLongest_2 : decode cX0_placeOfLongest 2 = .ok (.isub, 1) := by decide +kernel
theorem dX0_placeOfLongest_3 : decode cX0_placeOfLongest 3 = .ok (.istore_n 3, 1) := by decide +kernel
theorem dX0_placeOfLongest_4 : decode cX0_placeOfLongest 4 = .ok (.iload_n 3, 1) := by decide +kernel
theorem dX0_placeOfLongest_5 : decode cX0_placeOfLongest 5 = .ok (.ifCond .lt 34, 3) := by decide +kernel
theorem dX0_placeOfLongest_8 : decode cX0_placeOfLongest 8 = .ok (.aload_n 0, 1) := by decide +kernel
theorem dX0_placeOfLongest_9 : decode cX0_placeOfLongest 9 = .ok (.iload_n 1, 1) := by decide +kernel
theorem dX0_placeOfLongest_10 : decode cX0_placeOfLongest 10 = .ok (.iload_n 3, 1) := by decide +kernel
theorem dX0_placeOfLongest_11 : decode cX0_placeOfLongest 11 = .ok (.invokestatic 129, 3) := by decide +kernel
theorem dX0_placeOfLongest_14 : decode cX0_placeOfLongest 14 = .ok (.iand, 1) := by decide +kernel
theorem dX0_placeOfLongest_15 : decode cX0_placeOfLongest 15 = .ok (.iload_n 3, 1) := by decide +kernel
theorem dX0_placeOfLongest_16 : decode cX0_placeOfLongest 16 = .ok (.invokestatic 36, 3) := by decide +kernel
theorem dX0_placeOfLongest_19 : decode cX0_placeOfLongest 19 = .ok (.invokevirtual 93, 3) := by decide +kernel
theorem dX0_placeOfLongest_22 : decode cX0_placeOfLongest 22 = .ok (.istore 4, 2) := by decide +kernel
theorem dX0_placeOfLongest_24 : decode cX0_placeOfLongest 24 = .ok (.iload 4, 2) := by decide +kernel
theorem dX0_placeOfLongest_26 : decode cX0_placeOfLongest 26 = .ok (.iconst (-1), 1) := by decide +kernel
theorem dX0_placeOfLongest_27 : decode cX0_placeOfLongest 27 = .ok (.if_icmp .eq 6, 3) := by decide +kernel
theorem dX0_placeOfLongest_30 : decode cX0_placeOfLongest 30 = .ok (.iload 4, 2) := by decide +kernel
theorem dX0_placeOfLongest_32 : decode cX0_placeOfLongest 32 = .ok (.ireturn, 1) := by decide +kernel
theorem dX0_placeOfLongest_33 : decode cX0_placeOfLongest 33 = .ok (.iinc 3 (-1), 3) := by decide +kernel
theorem dX0_placeOfLongest_36 : decode cX0_placeOfLongest 36 = .ok (.goto (-32), 3) := by decide +kernel
theorem dX0_placeOfLongest_39 : decode cX0_placeOfLongest 39 = .ok (.iconst (-1), 1) := by decide +kernel
theorem dX0_placeOfLongest_40 : decode cX0_placeOfLongest 40 = .ok (.ireturn, 1) := by decide +kernel
set_option maxRecDepth 20000 in
theorem ggX0_beginsPrefix_X0_prefixAt : GoodIn wsX0_beginsPrefix wsX0_prefixAt := goodIn_r _ [5, 6, 7, 8, 4, 9, 10, 11, 12, 13, 14, 15, 16, 17, 18, 19, 20, 21, 22] (by decide +kernel) (by decide +kernel)
set_option maxRecDepth 20000 in
theorem gX0_beginsPrefix_X0_prefixAt : GoodIn wsX0_beginsPrefix (wsV RX0 126 RX0 yX0_prefixAt wsX0_prefixAt) := goodIn_app (goodIn_of _ (by decide +kernel)) ggX0_beginsPrefix_X0_prefixAt
theorem dX0_beginsPrefix_0 : decode cX0_beginsPrefix 0 = .ok (.aload_n 0, 1) := by decide +kernel
theorem dX0_beginsPrefix_1 : decode cX0_beginsPrefix 1 = .ok (.iload_n 1, 1) := by decide +kernel
theorem dX0_beginsPrefix_2 : decode cX0_beginsPrefix 2 = .ok (.invokevirtual 126, 3) := by decide +kernel
theorem dX0_beginsPrefix_5 : decode cX0_beginsPrefix 5 = .ok (.aload_n 0, 1) := by decide +kernel
theorem dX0_beginsPrefix_6 : decode cX0_beginsPrefix 6 = .ok (.iload_n 1, 1) := by decide +kernel
theorem dX0_beginsPrefix_7 : decode cX0_beginsPrefix 7 = .ok (.iconst 1, 1) := by decide +kernel
theorem dX0_beginsPrefix_8 : decode cX0_beginsPrefix 8 = .ok (.isub, 1) := by decide +kernel
theorem dX0_beginsPrefix_9 : decode cX0_beginsPrefix 9 = .ok (.invokevirtual 126, 3) := by decide +kernel
theorem dX0_beginsPrefix_12 : decode cX0_beginsPrefix 12 = .ok (.lcmp, 1) := by decide +kernel
theorem dX0_beginsPrefix_13 : decode cX0_beginsPrefix 13 = .ok (.ifCond .eq 7, 3) := by decide +kernel
theorem dX0_beginsPrefix_16 : decode cX0_beginsPrefix 16 = .ok (.iconst 1, 1) := by decide +kernel
theorem dX0_beginsPrefix_17 : decode cX0_beginsPrefix 17 = .ok (.goto 4, 3) := by decide +kernel
theorem dX0_beginsPrefix_20 : decode cX0_beginsPrefix 20 = .ok (.iconst 0, 1) := by decide +kernel
theorem dX0_beginsPrefix_21 : decode cX0_beginsPrefix 21 = .ok (.ireturn, 1) := by decide +kernel
set_option maxRecDepth 20000 in
theorem ggX0_prefixesBetween_X0_beginsPrefix : GoodIn wsX0_prefixesBetween wsX0_beginsPrefix := goodIn_r _ [5, 6, 7, 8, 4, 9, 10, 11, 12, 13, 14, 15, 16, 17, 18, 19, 20, 21, 22, 23, 24, 25, 26] (by decide +kernel) (by decide +kernel)
set_option maxRecDepth 20000 in
theorem gX0_prefixesBetween_X0_beginsPrefix : GoodIn wsX0_prefixesBetween (wsV RX0 135 RX0 yX0_beginsPrefix wsX0_beginsPrefix) := goodIn_app (goodIn_of _ (by decide +kernel)) ggX0_prefixesBetween_X0_beginsPrefix
theorem dX0_prefixesBetween_0 : decode cX0_prefixesBetween 0 = .ok (.iconst 0, 1) := by decide +kernel
theorem dX0_prefixesBetween_1 : decode cX0_prefixesBetween 1 = .ok (.istore_n 3, 1) := by decide +kernel
theorem dX0_prefixesBetween_2 : decode cX0_prefixesBetween 2 = .ok (.iload_n 1, 1) := by decide +kernel
theorem dX0_prefixesBetween_3 : decode cX0_prefixesBetween 3 = .ok (.istore 4, 2) := by decide +kernel
theorem dX0_prefixesBetween_5 : decode cX0_prefixesBetween 5 = .ok (.iload 4, 2) := by decide +kernel
theorem dX0_prefixesBetween_7 : decode cX0_prefixesBetween 7 = .ok (.iload_n 2, 1) := by decide +kernel
theorem dX0_prefixesBetween_8 : decode cX0_prefixesBetween 8 = .ok (.if_icmp .ge 21, 3) := by decide +kernel
theorem dX0_prefixesBetween_11 : decode cX0_prefixesBetween 11 = .ok (.aload_n 0, 1) := by decide +kernel
theorem dX0_prefixesBetween_12 : decode cX0_prefixesBetween 12 = .ok (.iload 4, 2) := by decide +kernel
theorem dX0_prefixesBetween_14 : decode cX0_prefixesBetween 14 = .ok (.invokevirtual 135, 3) := by decide +kernel
theorem dX0_prefixesBetween_17 : decode cX0_prefixesBetween 17 = .ok (.ifCond .eq 6, 3) := by decide +kernel
theorem dX0_prefixesBetween_20 : decode cX0_prefixesBetween 20 = .ok (.iinc 3 1, 3) := by decide +kernel
theorem dX0_prefixesBetween_23 : decode cX0_prefixesBetween 23 = .ok (.iinc 4 1, 3) := by decide +kernel
theorem dX0_prefixesBetween_26 : decode cX0_prefixesBetween 26 = .ok (.goto (-21), 3) := by decide +kernel
theorem dX0_prefixesBetween_29 : decode cX0_prefixesBetween 29 = .ok (.iload_n 3, 1) := by decide +kernel
theorem dX0_prefixesBetween_30 : decode cX0_prefixesBetween 30 = .ok (.ireturn, 1) := by decide +kernel
set_option maxRecDepth 20000 in
theorem ggX0_partAtUnknown_X0_addressOf : GoodIn wsX0_partAtUnknown wsX0_addressOf := goodIn_r _ [4] (by decide +kernel) (by decide +kernel)
set_option maxRecDepth 20000 in
theorem gX0_partAtUnknown_X0_addressOf : GoodIn wsX0_partAtUnknown (va_wsS RX0 165 yX0_addressOf wsX0_addressOf) := goodIn_app (goodIn_of _ (by decide +kernel)) ggX0_partAtUnknown_X0_addressOf
set_option maxRecDepth 20000 in
theorem ggX0_partAtUnknown_J6_numberOfLeadingZeros_0f7a4 : GoodIn wsX0_partAtUnknown wsJ6_numberOfLeadingZeros_0f7a4 := goodIn_r _ [8, 9] (by decide +kernel) (by decide +kernel)
set_option maxRecDepth 20000 in
theorem gX0_partAtUnknown_J6_numberOfLeadingZeros_0f7a4 : GoodIn wsX0_partAtUnknown (va_wsS RX0 168 yJ6_numberOfLeadingZeros_0f7a4 wsJ6_numberOfLeadingZeros_0f7a4) := goodIn_app (goodIn_of _ (by decide +kernel)) ggX0_partAtUnknown_J6_numberOfLeadingZeros_0f7a4
set_option maxRecDepth 20000 in
theorem ggX0_partAtUnknown_X0_lengthOf : GoodIn wsX0_partAtUnknown wsX0_lengthOf := goodIn_r _ [12, 13] (by decide +kernel) (by decide +kernel)
set_option maxRecDepth 20000 in
theorem gX0_partAtUnknown_X0_lengthOf : GoodIn wsX0_partAtUnknown (va_wsS RX0 173 yX0_lengthOf wsX0_lengthOf) := goodIn_app (goodIn_of _ (by decide +kernel)) ggX0_partAtUnknown_X0_lengthOf
set_option maxRecDepth 20000 in
theorem ggX0_partAtUnknown_X0_mask : GoodIn wsX0_partAtUnknown wsX0_mask := goodIn_r _ [16] (by decide +kernel) (by decide +kernel)
set_option maxRecDepth 20000 in
theorem gX0_partAtUnknown_X0_mask : GoodIn wsX0_partAtUnknown (va_wsS RX0 129 yX0_mask wsX0_mask) := goodIn_app (goodIn_of _ (by decide +kernel)) ggX0_partAtUnknown_X0_mask
set_option maxRecDepth 20000 in
theorem ggX0_partAtUnknown_X0_prefixOf : GoodIn wsX0_partAtUnknown wsX0_prefixOf := goodIn_r _ [19, 20] (by decide +kernel) (by decide +kernel)
set_option maxRecDepth 20000 in
theorem gX0_partAtUnknown_X0_prefixOf : GoodIn wsX0_partAtUnknown (va_wsS RX0 36 yX0_prefixOf wsX0_prefixOf) := goodIn_app (goodIn_of _ (by decide +kernel)) ggX0_partAtUnknown_X0_prefixOf
set_option maxRecDepth 20000 in
theorem ggX0_partAtUnknown_X0_placeOfBest : GoodIn wsX0_partAtUnknown wsX0_placeOfBest := goodIn_r _ [24, 25, 26, 27, 3, 28, 29, 30, 31, 32, 33, 34, 35, 36, 37, 38, 39, 40, 41, 42, 43, 44, 45, 46, 47, 48, 49, 50, 51, 52, 53, 54, 55, 56] (by decide +kernel) (by decide +kernel)
set_option maxRecDepth 20000 in
theorem gX0_partAtUnknown_X0_placeOfBest : GoodIn wsX0_partAtUnknown (wsV RX0 93 RX0 yX0_placeOfBest wsX0_placeOfBest) := goodIn_app (goodIn_of _ (by decide +kernel)) ggX0_partAtUnknown_X0_placeOfBest
theorem dX0_partAtUnknown_0 : decode cX0_partAtUnknown 0 = .ok (.lload_n 1, 1) := by decide +kernel
theorem dX0_partAtUnknown_1 : decode cX0_partAtUnknown 1 = .ok (.invokestatic 165, 3) := by decide +kernel
theorem dX0_partAtUnknown_4 : decode cX0_partAtUnknown 4 = .ok (.istore 5, 2) := by decide +kernel
theorem dX0_partAtUnknown_6 : decode cX0_partAtUnknown 6 = .ok (.iload 5, 2) := by decide +kernel
theorem dX0_partAtUnknown_8 : decode cX0_partAtUnknown 8 = .ok (.lload_n 3, 1) := by decide +kernel
theorem dX0_partAtUnknown_9 : decode cX0_partAtUnknown 9 = .ok (.invokestatic 165, 3) := by decide +kernel
theorem dX0_partAtUnknown_12 : decode cX0_partAtUnknown 12 = .ok (.ixor, 1) := by decide +kernel
theorem dX0_partAtUnknown_13 : decode cX0_partAtUnknown 13 = .ok (.invokestatic 168, 3) := by decide +kernel
theorem dX0_partAtUnknown_16 : decode cX0_partAtUnknown 16 = .ok (.istore 6, 2) := by decide +kernel
theorem dX0_partAtUnknown_18 : decode cX0_partAtUnknown 18 = .ok (.iload 6, 2) := by decide +kernel
theorem dX0_partAtUnknown_20 : decode cX0_partAtUnknown 20 = .ok (.lload_n 1, 1) := by decide +kernel
theorem dX0_partAtUnknown_21 : decode cX0_partAtUnknown 21 = .ok (.invokestatic 173, 3) := by decide +kernel
theorem dX0_partAtUnknown_24 : decode cX0_partAtUnknown 24 = .ok (.if_icmp .ge 28, 3) := by decide +kernel
theorem dX0_partAtUnknown_27 : decode cX0_partAtUnknown 27 = .ok (.aload_n 0, 1) := by decide +kernel
theorem dX0_partAtUnknown_28 : decode cX0_partAtUnknown 28 = .ok (.iload 5, 2) := by decide +kernel
theorem dX0_partAtUnknown_30 : decode cX0_partAtUnknown 30 = .ok (.iload 6, 2) := by decide +kernel
theorem dX0_partAtUnknown_32 : decode cX0_partAtUnknown 32 = .ok (.invokestatic 129, 3) := by decide +kernel
theorem dX0_partAtUnknown_35 : decode cX0_partAtUnknown 35 = .ok (.iand, 1) := by decide +kernel
theorem dX0_partAtUnknown_36 : decode cX0_partAtUnknown 36 = .ok (.iload 6, 2) := by decide +kernel
theorem dX0_partAtUnknown_38 : decode cX0_partAtUnknown 38 = .ok (.invokestatic 36, 3) := by decide +kernel
theorem dX0_partAtUnknown_41 : decode cX0_partAtUnknown 41 = .ok (.invokevirtual 93, 3) := by decide +kernel
theorem dX0_partAtUnknown_44 : decode cX0_partAtUnknown 44 = .ok (.iconst (-1), 1) := by decide +kernel
theorem dX0_partAtUnknown_45 : decode cX0_partAtUnknown 45 = .ok (.if_icmp .ne 7, 3) := by decide +kernel
theorem dX0_partAtUnknown_48 : decode cX0_partAtUnknown 48 = .ok (.iconst 1, 1) := by decide +kernel
theorem dX0_partAtUnknown_49 : decode cX0_partAtUnknown 49 = .ok (.goto 4, 3) := by decide +kernel
theorem dX0_partAtUnknown_52 : decode cX0_partAtUnknown 52 = .ok (.iconst 0, 1) := by decide +kernel
theorem dX0_partAtUnknown_53 : decode cX0_partAtUnknown 53 = .ok (.ireturn, 1) := by decide +kernel
theorem dX0_isPlace_0 : decode cX0_isPlace 0 = .ok (.iload_n 1, 1) := by decide +kernel
theorem dX0_isPlace_1 : decode cX0_isPlace 1 = .ok (.ifCond .lt 42, 3) := by decide +kernel
theorem dX0_isPlace_4 : decode cX0_isPlace 4 = .ok (.iload_n 1, 1) := by decide +kernel
theorem dX0_isPlace_5 : decode cX0_isPlace 5 = .ok (.aload_n 0, 1) := by decide +kernel
theorem dX0_isPlace_6 : decode cX0_isPlace 6 = .ok (.getfield 20, 3) := by decide +kernel
theorem dX0_isPlace_9 : decode cX0_isPlace 9 = .ok (.if_icmp .ge 34, 3) := by decide +kernel
theorem dX0_isPlace_12 : decode cX0_isPlace 12 = .ok (.iload_n 1, 1) := by decide +kernel
theorem dX0_isPlace_13 : decode cX0_isPlace 13 = .ok (.aload_n 0, 1) := by decide +kernel
theorem dX0_isPlace_14 : decode cX0_isPlace 14 = .ok (.getfield 9, 3) := by decide +kernel
theorem dX0_isPlace_17 : decode cX0_isPlace 17 = .ok (.arraylength, 1) := by decide +kernel
theorem dX0_isPlace_18 : decode cX0_isPlace 18 = .ok (.if_icmp .ge 25, 3) := by decide +kernel
theorem dX0_isPlace_21 : decode cX0_isPlace 21 = .ok (.iload_n 1, 1) := by decide +kernel
theorem dX0_isPlace_22 : decode cX0_isPlace 22 = .ok (.aload_n 0, 1) := by decide +kernel
theorem dX0_isPlace_23 : decode cX0_isPlace 23 = .ok (.getfield 13, 3) := by decide +kernel
theorem dX0_isPlace_26 : decode cX0_isPlace 26 = .ok (.arraylength, 1) := by decide +kernel
theorem dX0_isPlace_27 : decode cX0_isPlace 27 = .ok (.if_icmp .ge 16, 3) := by decide +kernel
theorem dX0_isPlace_30 : decode cX0_isPlace 30 = .ok (.iload_n 1, 1) := by decide +kernel
theorem dX0_isPlace_31 : decode cX0_isPlace 31 = .ok (.aload_n 0, 1) := by decide +kernel
theorem dX0_isPlace_32 : decode cX0_isPlace 32 = .ok (.getfield 17, 3) := by decide +kernel
theorem dX0_isPlace_35 : decode cX0_isPlace 35 = .ok (.arraylength, 1) := by decide +kernel
theorem dX0_isPlace_36 : decode cX0_isPlace 36 = .ok (.if_icmp .ge 7, 3) := by decide +kernel
theorem dX0_isPlace_39 : decode cX0_isPlace 39 = .ok (.iconst 1, 1) := by decide +kernel
theorem dX0_isPlace_40 : decode cX0_isPlace 40 = .ok (.goto 4, 3) := by decide +kernel
theorem dX0_isPlace_43 : decode cX0_isPlace 43 = .ok (.iconst 0, 1) := by decide +kernel
theorem dX0_isPlace_44 : decode cX0_isPlace 44 = .ok (.ireturn, 1) := by decide +kernel
set_option maxRecDepth 20000 in
theorem ggX0_keyAt_X0_isPlace : GoodIn wsX0_keyAt wsX0_isPlace := goodIn_r _ [7, 8, 1, 9, 10, 11, 12, 13, 14] (by decide +kernel) (by decide +kernel)
set_option maxRecDepth 20000 in
theorem gX0_keyAt_X0_isPlace : GoodIn wsX0_keyAt (wsV RX0 176 RX0 yX0_isPlace wsX0_isPlace) := goodIn_app (goodIn_of _ (by decide +kernel)) ggX0_keyAt_X0_isPlace
theorem dX0_keyAt_0 : decode cX0_keyAt 0 = .ok (.aload_n 0, 1) := by decide +kernel
theorem dX0_keyAt_1 : decode cX0_keyAt 1 = .ok (.iload_n 1, 1) := by decide +kernel
theorem dX0_keyAt_2 : decode cX0_keyAt 2 = .ok (.invokevirtual 176, 3) := by decide +kernel
theorem dX0_keyAt_5 : decode cX0_keyAt 5 = .ok (.ifCond .eq 12, 3) := by decide +kernel
theorem dX0_keyAt_8 : decode cX0_keyAt 8 = .ok (.aload_n 0, 1) := by decide +kernel
theorem dX0_keyAt_9 : decode cX0_keyAt 9 = .ok (.getfield 9, 3) := by decide +kernel
theorem dX0_keyAt_12 : decode cX0_keyAt 12 = .ok (.iload_n 1, 1) := by decide +kernel
theorem dX0_keyAt_13 : decode cX0_keyAt 13 = .ok (.laload, 1) := by decide +kernel
theorem dX0_keyAt_14 : decode cX0_keyAt 14 = .ok (.goto 6, 3) := by decide +kernel
theorem dX0_keyAt_17 : decode cX0_keyAt 17 = .ok (.ldc2_w 82, 3) := by decide +kernel
theorem dX0_keyAt_20 : decode cX0_keyAt 20 = .ok (.lreturn, 1) := by decide +kernel
set_option maxRecDepth 20000 in
theorem ggX0_prefixAt_X0_keyAt : GoodIn wsX0_prefixAt wsX0_keyAt := goodIn_r _ [5, 6, 7, 8, 9, 10, 4, 11, 12, 13, 14, 15, 16, 17, 18] (by decide +kernel) (by decide +kernel)
set_option maxRecDepth 20000 in
theorem gX0_prefixAt_X0_keyAt : GoodIn wsX0_prefixAt (wsV RX0 48 RX0 yX0_keyAt wsX0_keyAt) := goodIn_app (goodIn_of _ (by decide +kernel)) ggX0_prefixAt_X0_keyAt
theorem dX0_prefixAt_0 : decode cX0_prefixAt 0 = .ok (.aload_n 0, 1) := by decide +kernel
theorem dX0_prefixAt_1 : decode cX0_prefixAt 1 = .ok (.iload_n 1, 1) := by decide +kernel
theorem dX0_prefixAt_2 : decode cX0_prefixAt 2 = .ok (.invokevirtual 48, 3) := by decide +kernel
theorem dX0_prefixAt_5 : decode cX0_prefixAt 5 = .ok (.iconst 3, 1) := by decide +kernel
theorem dX0_prefixAt_6 : decode cX0_prefixAt 6 = .ok (.lshr, 1) := by decide +kernel
theorem dX0_prefixAt_7 : decode cX0_prefixAt 7 = .ok (.lreturn, 1) := by decide +kernel
set_option maxRecDepth 20000 in
theorem ggX0_lengthAt_X0_isPlace : GoodIn wsX0_lengthAt wsX0_isPlace := goodIn_r _ [5, 6, 7, 8, 9, 23, 24, 25, 26] (by decide +kernel) (by decide +kernel)
set_option maxRecDepth 20000 in
theorem gX0_lengthAt_X0_isPlace : GoodIn wsX0_lengthAt (wsV RX0 176 RX0 yX0_isPlace wsX0_isPlace) := goodIn_app (goodIn_of _ (by decide +kernel)) ggX0_lengthAt_X0_isPlace
set_option maxRecDepth 20000 in
theorem ggX0_lengthAt_X0_prefixAt : GoodIn wsX0_lengthAt wsX0_prefixAt := goodIn_r _ [13, 14, 15, 16, 4, 17, 7, 18, 1, 2, 3, 5, 6, 8, 9, 23, 24, 25, 26] (by decide +kernel) (by decide +kernel)
set_option maxRecDepth 20000 in
theorem gX0_lengthAt_X0_prefixAt : GoodIn wsX0_lengthAt (wsV RX0 126 RX0 yX0_prefixAt wsX0_prefixAt) := goodIn_app (goodIn_of _ (by decide +kernel)) ggX0_lengthAt_X0_prefixAt
set_option maxRecDepth 20000 in
theorem ggX0_lengthAt_X0_lengthOf : GoodIn wsX0_lengthAt wsX0_lengthOf := goodIn_r _ [21, 22] (by decide +kernel) (by decide +kernel)
set_option maxRecDepth 20000 in
theorem gX0_lengthAt_X0_lengthOf : GoodIn wsX0_lengthAt (va_wsS RX0 173 yX0_lengthOf wsX0_lengthOf) := goodIn_app (goodIn_of _ (by decide +kernel)) ggX0_lengthAt_X0_lengthOf
theorem dX0_lengthAt_0 : decode cX0_lengthAt 0 = .ok (.aload_n 0, 1) := by decide +kernel
theorem dX0_lengthAt_1 : decode cX0_lengthAt 1 = .ok (.iload_n 1, 1) := by decide +kernel
theorem dX0_lengthAt_2 : decode cX0_lengthAt 2 = .ok (.invokevirtual 176, 3) := by decide +kernel
theorem dX0_lengthAt_5 : decode cX0_lengthAt 5 = .ok (.ifCond .eq 14, 3) := by decide +kernel
theorem dX0_lengthAt_8 : decode cX0_lengthAt 8 = .ok (.aload_n 0, 1) := by decide +kernel
theorem dX0_lengthAt_9 : decode cX0_lengthAt 9 = .ok (.iload_n 1, 1) := by decide +kernel
theorem dX0_lengthAt_10 : decode cX0_lengthAt 10 = .ok (.invokevirtual 126, 3) := by decide +kernel
theorem dX0_lengthAt_13 : decode cX0_lengthAt 13 = .ok (.invokestatic 173, 3) := by decide +kernel
theorem dX0_lengthAt_16 : decode cX0_lengthAt 16 = .ok (.goto 4, 3) := by decide +kernel
theorem dX0_lengthAt_19 : decode cX0_lengthAt 19 = .ok (.iconst (-1), 1) := by decide +kernel
theorem dX0_lengthAt_20 : decode cX0_lengthAt 20 = .ok (.ireturn, 1) := by decide +kernel
set_option maxRecDepth 20000 in
theorem ggX0_originAt_X0_isPlace : GoodIn wsX0_originAt wsX0_isPlace := goodIn_r _ [6, 7, 8, 9, 10, 16, 17, 18, 19] (by decide +kernel) (by decide +kernel)
set_option maxRecDepth 20000 in
theorem gX0_originAt_X0_isPlace : GoodIn wsX0_originAt (wsV RX0 176 RX0 yX0_isPlace wsX0_isPlace) := goodIn_app (goodIn_of _ (by decide +kernel)) ggX0_originAt_X0_isPlace
set_option maxRecDepth 20000 in
theorem ggX0_originAt_X0_keyAt : GoodIn wsX0_originAt wsX0_keyAt := goodIn_r _ [14, 8, 15, 2, 3, 4, 5, 6, 7, 9, 10, 16, 17, 18, 19] (by decide +kernel) (by decide +kernel)
set_option maxRecDepth 20000 in
theorem gX0_originAt_X0_keyAt : GoodIn wsX0_originAt (wsV RX0 48 RX0 yX0_keyAt wsX0_keyAt) := goodIn_app (goodIn_of _ (by decide +kernel)) ggX0_originAt_X0_keyAt
theorem dX0_originAt_0 : decode cX0_originAt 0 = .ok (.aload_n 0, 1) := by decide +kernel
theorem dX0_originAt_1 : decode cX0_originAt 1 = .ok (.iload_n 1, 1) := by decide +kernel
theorem dX0_originAt_2 : decode cX0_originAt 2 = .ok (.invokevirtual 176, 3) := by decide +kernel
theorem dX0_originAt_5 : decode cX0_originAt 5 = .ok (.ifCond .eq 16, 3) := by decide +kernel
theorem dX0_originAt_8 : decode cX0_originAt 8 = .ok (.aload_n 0, 1) := by decide +kernel
theorem dX0_originAt_9 : decode cX0_originAt 9 = .ok (.iload_n 1, 1) := by decide +kernel
theorem dX0_originAt_10 : decode cX0_originAt 10 = .ok (.invokevirtual 48, 3) := by decide +kernel
theorem dX0_originAt_13 : decode cX0_originAt 13 = .ok (.ldc2_w 179, 3) := by decide +kernel
theorem dX0_originAt_16 : decode cX0_originAt 16 = .ok (.land, 1) := by decide +kernel
theorem dX0_originAt_17 : decode cX0_originAt 17 = .ok (.l2i, 1) := by decide +kernel
theorem dX0_originAt_18 : decode cX0_originAt 18 = .ok (.goto 4, 3) := by decide +kernel
theorem dX0_originAt_21 : decode cX0_originAt 21 = .ok (.iconst (-1), 1) := by decide +kernel
theorem dX0_originAt_22 : decode cX0_originAt 22 = .ok (.ireturn, 1) := by decide +kernel
set_option maxRecDepth 20000 in
theorem ggX0_costAt_X0_isPlace : GoodIn wsX0_costAt wsX0_isPlace := goodIn_r _ [6, 7, 8, 1, 9, 10, 11, 12, 13] (by decide +kernel) (by decide +kernel)
set_option maxRecDepth 20000 in
theorem gX0_costAt_X0_isPlace : GoodIn wsX0_costAt (wsV RX0 176 RX0 yX0_isPlace wsX0_isPlace) := goodIn_app (goodIn_of _ (by decide +kernel)) ggX0_costAt_X0_isPlace
theorem dX0_costAt_0 : decode cX0_costAt 0 = .ok (.aload_n 0, 1) := by decide +kernel
theorem dX0_costAt_1 : decode cX0_costAt 1 = .ok (.iload_n 1, 1) := by decide +kernel
theorem dX0_costAt_2 : decode cX0_costAt 2 = .ok (.invokevirtual 176, 3) := by decide +kernel
theorem dX0_costAt_5 : decode cX0_costAt 5 = .ok (.ifCond .eq 12, 3) := by decide +kernel
theorem dX0_costAt_8 : decode cX0_costAt 8 = .ok (.aload_n 0, 1) := by decide +kernel
theorem dX0_costAt_9 : decode cX0_costAt 9 = .ok (.getfield 13, 3) := by decide +kernel
theorem dX0_costAt_12 : decode cX0_costAt 12 = .ok (.iload_n 1, 1) := by decide +kernel
theorem dX0_costAt_13 : decode cX0_costAt 13 = .ok (.iaload, 1) := by decide +kernel
theorem dX0_costAt_14 : decode cX0_costAt 14 = .ok (.goto 4, 3) := by decide +kernel
theorem dX0_costAt_17 : decode cX0_costAt 17 = .ok (.iconst (-1), 1) := by decide +kernel
theorem dX0_costAt_18 : decode cX0_costAt 18 = .ok (.ireturn, 1) := by decide +kernel
set_option maxRecDepth 20000 in
theorem ggX0_hopsAt_X0_isPlace : GoodIn wsX0_hopsAt wsX0_isPlace := goodIn_r _ [6, 7, 8, 9, 1, 10, 11, 12, 13] (by decide +kernel) (by decide +kernel)
set_option maxRecDepth 20000 in
theorem gX0_hopsAt_X0_isPlace : GoodIn wsX0_hopsAt (wsV RX0 176 RX0 yX0_isPlace wsX0_isPlace) := goodIn_app (goodIn_of _ (by decide +kernel)) ggX0_hopsAt_X0_isPlace
theorem dX0_hopsAt_0 : decode cX0_hopsAt 0 = .ok (.aload_n 0, 1) := by decide +kernel
theorem dX0_hopsAt_1 : decode cX0_hopsAt 1 = .ok (.iload_n 1, 1) := by decide +kernel
theorem dX0_hopsAt_2 : decode cX0_hopsAt 2 = .ok (.invokevirtual 176, 3) := by decide +kernel
theorem dX0_hopsAt_5 : decode cX0_hopsAt 5 = .ok (.ifCond .eq 12, 3) := by decide +kernel
theorem dX0_hopsAt_8 : decode cX0_hopsAt 8 = .ok (.aload_n 0, 1) := by decide +kernel
theorem dX0_hopsAt_9 : decode cX0_hopsAt 9 = .ok (.getfield 17, 3) := by decide +kernel
theorem dX0_hopsAt_12 : decode cX0_hopsAt 12 = .ok (.iload_n 1, 1) := by decide +kernel
theorem dX0_hopsAt_13 : decode cX0_hopsAt 13 = .ok (.laload, 1) := by decide +kernel
theorem dX0_hopsAt_14 : decode cX0_hopsAt 14 = .ok (.goto 4, 3) := by decide +kernel
theorem dX0_hopsAt_17 : decode cX0_hopsAt 17 = .ok (.lconst 0, 1) := by decide +kernel
theorem dX0_hopsAt_18 : decode cX0_hopsAt 18 = .ok (.lreturn, 1) := by decide +kernel
set_option maxRecDepth 20000 in
theorem ggX0_tell_X0_costAt : GoodIn wsX0_tell wsX0_costAt := goodIn_r _ [5, 6, 7, 8, 9, 4, 10, 11, 12, 13, 35, 36, 37, 38] (by decide +kernel) (by decide +kernel)
set_option maxRecDepth 20000 in
theorem gX0_tell_X0_costAt : GoodIn wsX0_tell (wsV RX0 87 RX0 yX0_costAt wsX0_costAt) := goodIn_app (goodIn_of _ (by decide +kernel)) ggX0_tell_X0_costAt
set_option maxRecDepth 20000 in
theorem ggX0_tell_X0_originAt : GoodIn wsX0_tell wsX0_originAt := goodIn_r _ [17, 18, 7, 8, 9, 4, 10, 11, 12, 6, 13, 19, 20, 21, 22, 23, 35, 36, 37, 38] (by decide +kernel) (by decide +kernel)
set_option maxRecDepth 20000 in
theorem gX0_tell_X0_originAt : GoodIn wsX0_tell (wsV RX0 69 RX0 yX0_originAt wsX0_originAt) := goodIn_app (goodIn_of _ (by decide +kernel)) ggX0_tell_X0_originAt
set_option maxRecDepth 20000 in
theorem ggX0_tell_X0_hopsAt : GoodIn wsX0_tell wsX0_hopsAt := goodIn_r _ [27, 13, 7, 8, 9, 4, 10, 11, 12, 6, 35, 36, 37, 38] (by decide +kernel) (by decide +kernel)
set_option maxRecDepth 20000 in
theorem gX0_tell_X0_hopsAt : GoodIn wsX0_tell (wsV RX0 84 RX0 yX0_hopsAt wsX0_hopsAt) := goodIn_app (goodIn_of _ (by decide +kernel)) ggX0_tell_X0_hopsAt
set_option maxRecDepth 20000 in
theorem ggX0_tell_J13_bitCount_95d88 : GoodIn wsX0_tell wsJ13_bitCount_95d88 := goodIn_r _ [31, 32, 33, 34] (by decide +kernel) (by decide +kernel)
set_option maxRecDepth 20000 in
theorem gX0_tell_J13_bitCount_95d88 : GoodIn wsX0_tell (va_wsS RX0 106 yJ13_bitCount_95d88 wsJ13_bitCount_95d88) := goodIn_app (goodIn_of _ (by decide +kernel)) ggX0_tell_J13_bitCount_95d88
theorem dX0_tell_0 : decode cX0_tell 0 = .ok (.iload_n 2, 1) := by decide +kernel
theorem dX0_tell_1 : decode cX0_tell 1 = .ok (.lookupswitch 39 #[(0, 27), (1, 33)], 27) := by decide +kernel
theorem dX0_tell_28 : decode cX0_tell 28 = .ok (.aload_n 0, 1) := by decide +kernel
theorem dX0_tell_29 : decode cX0_tell 29 = .ok (.iload_n 1, 1) := by decide +kernel
theorem dX0_tell_30 : decode cX0_tell 30 = .ok (.invokevirtual 87, 3) := by decide +kernel
theorem dX0_tell_33 : decode cX0_tell 33 = .ok (.ireturn, 1) := by decide +kernel
theorem dX0_tell_34 : decode cX0_tell 34 = .ok (.aload_n 0, 1) := by decide +kernel
theorem dX0_tell_35 : decode cX0_tell 35 = .ok (.iload_n 1, 1) := by decide +kernel
theorem dX0_tell_36 : decode cX0_tell 36 = .ok (.invokevirtual 69, 3) := by decide +kernel
theorem dX0_tell_39 : decode cX0_tell 39 = .ok (.ireturn, 1) := by decide +kernel
theorem dX0_tell_40 : decode cX0_tell 40 = .ok (.aload_n 0, 1) := by decide +kernel
theorem dX0_tell_41 : decode cX0_tell 41 = .ok (.iload_n 1, 1) := by decide +kernel
theorem dX0_tell_42 : decode cX0_tell 42 = .ok (.invokevirtual 84, 3) := by decide +kernel
theorem dX0_tell_45 : decode cX0_tell 45 = .ok (.invokestatic 106, 3) := by decide +kernel
theorem dX0_tell_48 : decode cX0_tell 48 = .ok (.ireturn, 1) := by decide +kernel
set_option maxRecDepth 20000 in
theorem ggX0_write_X0_isPlace : GoodIn wsX0_write wsX0_isPlace := goodIn_r _ [8, 9, 1, 2, 3, 10, 11, 12, 13] (by decide +kernel) (by decide +kernel)
set_option maxRecDepth 20000 in
theorem gX0_write_X0_isPlace : GoodIn wsX0_write (wsV RX0 176 RX0 yX0_isPlace wsX0_isPlace) := goodIn_app (goodIn_of _ (by decide +kernel)) ggX0_write_X0_isPlace
theorem dX0_write_0 : decode cX0_write 0 = .ok (.aload_n 0, 1) := by decide +kernel
theorem dX0_write_1 : decode cX0_write 1 = .ok (.iload_n 1, 1) := by decide +kernel
theorem dX0_write_2 : decode cX0_write 2 = .ok (.invokevirtual 176, 3) := by decide +kernel
theorem dX0_write_5 : decode cX0_write 5 = .ok (.ifCond .eq 26, 3) := by decide +kernel
theorem dX0_write_8 : decode cX0_write 8 = .ok (.aload_n 0, 1) := by decide +kernel
theorem dX0_write_9 : decode cX0_write 9 = .ok (.getfield 9, 3) := by decide +kernel
theorem dX0_write_12 : decode cX0_write 12 = .ok (.iload_n 1, 1) := by decide +kernel
theorem dX0_write_13 : decode cX0_write 13 = .ok (.lload_n 2, 1) := by decide +kernel
theorem dX0_write_14 : decode cX0_write 14 = .ok (.lastore, 1) := by decide +kernel
theorem dX0_write_15 : decode cX0_write 15 = .ok (.aload_n 0, 1) := by decide +kernel
theorem dX0_write_16 : decode cX0_write 16 = .ok (.getfield 13, 3) := by decide +kernel
theorem dX0_write_19 : decode cX0_write 19 = .ok (.iload_n 1, 1) := by decide +kernel
theorem dX0_write_20 : decode cX0_write 20 = .ok (.iload 4, 2) := by decide +kernel
theorem dX0_write_22 : decode cX0_write 22 = .ok (.iastore, 1) := by decide +kernel
theorem dX0_write_23 : decode cX0_write 23 = .ok (.aload_n 0, 1) := by decide +kernel
theorem dX0_write_24 : decode cX0_write 24 = .ok (.getfield 17, 3) := by decide +kernel
theorem dX0_write_27 : decode cX0_write 27 = .ok (.iload_n 1, 1) := by decide +kernel
theorem dX0_write_28 : decode cX0_write 28 = .ok (.lload 5, 2) := by decide +kernel
theorem dX0_write_30 : decode cX0_write 30 = .ok (.lastore, 1) := by decide +kernel
theorem dX0_write_31 : decode cX0_write 31 = .ok (.return_, 1) := by decide +kernel
set_option maxRecDepth 20000 in
theorem ggX0_copy_X0_keyAt : GoodIn wsX0_copy wsX0_keyAt := goodIn_r _ [5, 6, 7, 8, 9, 10, 4, 11, 12, 13, 14, 27, 28, 29, 30] (by decide +kernel) (by decide +kernel)
set_option maxRecDepth 20000 in
theorem gX0_copy_X0_keyAt : GoodIn wsX0_copy (wsV RX0 48 RX0 yX0_keyAt wsX0_keyAt) := goodIn_app (goodIn_of _ (by decide +kernel)) ggX0_copy_X0_keyAt
set_option maxRecDepth 20000 in
theorem ggX0_copy_X0_costAt : GoodIn wsX0_copy wsX0_costAt := goodIn_r _ [18, 13, 8, 9, 10, 4, 11, 12, 6, 14, 27, 28, 29, 30] (by decide +kernel) (by decide +kernel)
set_option maxRecDepth 20000 in
theorem gX0_copy_X0_costAt : GoodIn wsX0_copy (wsV RX0 87 RX0 yX0_costAt wsX0_costAt) := goodIn_app (goodIn_of _ (by decide +kernel)) ggX0_copy_X0_costAt
set_option maxRecDepth 20000 in
theorem ggX0_copy_X0_hopsAt : GoodIn wsX0_copy wsX0_hopsAt := goodIn_r _ [22, 14, 8, 9, 10, 4, 11, 12, 6, 13, 27, 28, 29, 30] (by decide +kernel) (by decide +kernel)
set_option maxRecDepth 20000 in
theorem gX0_copy_X0_hopsAt : GoodIn wsX0_copy (wsV RX0 84 RX0 yX0_hopsAt wsX0_hopsAt) := goodIn_app (goodIn_of _ (by decide +kernel)) ggX0_copy_X0_hopsAt
set_option maxRecDepth 20000 in
theorem ggX0_copy_X0_write : GoodIn wsX0_copy wsX0_write := goodIn_r _ [26, 6, 13, 14, 8, 9, 10, 4, 11, 12, 27, 28, 29, 30] (by decide +kernel) (by decide +kernel)
set_option maxRecDepth 20000 in
theorem gX0_copy_X0_write : GoodIn wsX0_copy (wsV RX0 58 RX0 yX0_write wsX0_write) := goodIn_app (goodIn_of _ (by decide +kernel)) ggX0_copy_X0_write
theorem dX0_copy_0 : decode cX0_copy 0 = .ok (.aload_n 0, 1) := by decide +kernel
theorem dX0_copy_1 : decode cX0_copy 1 = .ok (.iload_n 2, 1) := by decide +kernel
theorem dX0_copy_2 : decode cX0_copy 2 = .ok (.aload_n 0, 1) := by decide +kernel
theorem dX0_copy_3 : decode cX0_copy 3 = .ok (.iload_n 1, 1) := by decide +kernel
theorem dX0_copy_4 : decode cX0_copy 4 = .ok (.invokevirtual 48, 3) := by decide +kernel
theorem dX0_copy_7 : decode cX0_copy 7 = .ok (.aload_n 0, 1) := by decide +kernel
theorem dX0_copy_8 : decode cX0_copy 8 = .ok (.iload_n 1, 1) := by decide +kernel
theorem dX0_copy_9 : decode cX0_copy 9 = .ok (.invokevirtual 87, 3) := by decide +kernel
theorem dX0_copy_12 : decode cX0_copy 12 = .ok (.aload_n 0, 1) := by decide +kernel
theorem dX0_copy_13 : decode cX0_copy 13 = .ok (.iload_n 1, 1) := by decide +kernel
theorem dX0_copy_14 : decode cX0_copy 14 = .ok (.invokevirtual 84, 3) := by decide +kernel
theorem dX0_copy_17 : decode cX0_copy 17 = .ok (.invokevirtual 58, 3) := by decide +kernel
theorem dX0_copy_20 : decode cX0_copy 20 = .ok (.return_, 1) := by decide +kernel
set_option maxRecDepth 20000 in
theorem ggX0_openPlace_X0_growIfFull : GoodIn wsX0_openPlace wsX0_growIfFull := goodIn_r _ [6, 7, 1, 8, 9, 10, 11, 12, 13, 14, 15, 16, 17, 18, 19, 20, 21, 22, 23, 24, 25, 26, 27, 28, 29, 30, 31, 32, 33, 34, 35, 36, 62, 63, 64, 65] (by decide +kernel) (by decide +kernel)
set_option maxRecDepth 20000 in
theorem gX0_openPlace_X0_growIfFull : GoodIn wsX0_openPlace (wsV RX0 181 RX0 yX0_growIfFull wsX0_growIfFull) := goodIn_app (goodIn_of _ (by decide +kernel)) ggX0_openPlace_X0_growIfFull
set_option maxRecDepth 20000 in
theorem ggX0_openPlace_X0_copy : GoodIn wsX0_openPlace wsX0_copy := goodIn_r _ [40, 41, 42, 43, 5, 44, 7, 45, 46, 47, 48, 49, 1, 8, 9, 50, 51, 52, 53, 54, 55, 56, 57, 58, 59, 60, 61, 62, 63, 64, 65] (by decide +kernel) (by decide +kernel)
set_option maxRecDepth 20000 in
theorem gX0_openPlace_X0_copy : GoodIn wsX0_openPlace (wsV RX0 73 RX0 yX0_copy wsX0_copy) := goodIn_app (goodIn_of _ (by decide +kernel)) ggX0_openPlace_X0_copy
theorem dX0_openPlace_0 : decode cX0_openPlace 0 = .ok (.aload_n 0, 1) := by decide +kernel
theorem dX0_openPlace_1 : decode cX0_openPlace 1 = .ok (.invokevirtual 181, 3) := by decide +kernel
theorem dX0_openPlace_4 : decode cX0_openPlace 4 = .ok (.aload_n 0, 1) := by decide +kernel
theorem dX0_openPlace_5 : decode cX0_openPlace 5 = .ok (.dup, 1) := by decide +kernel
theorem dX0_openPlace_6 : decode cX0_openPlace 6 = .ok (.getfield 20, 3) := by decide +kernel
theorem dX0_openPlace_9 : decode cX0_openPlace 9 = .ok (.iconst 1, 1) := by decide +kernel
theorem dX0_openPlace_10 : decode cX0_openPlace 10 = .ok (.iadd, 1) := by decide +kernel
theorem dX0_openPlace_11 : decode cX0_openPlace 11 = .ok (.putfield 20, 3) := by decide +kernel
theorem dX0_openPlace_14 : decode cX0_openPlace 14 = .ok (.aload_n 0, 1) := by decide +kernel
theorem dX0_openPlace_15 : decode cX0_openPlace 15 = .ok (.getfield 20, 3) := by decide +kernel
theorem dX0_openPlace_18 : decode cX0_openPlace 18 = .ok (.iconst 1, 1) := by decide +kernel
theorem dX0_openPlace_19 : decode cX0_openPlace 19 = .ok (.isub, 1) := by decide +kernel
theorem dX0_openPlace_20 : decode cX0_openPlace 20 = .ok (.istore_n 2, 1) := by decide +kernel
theorem dX0_openPlace_21 : decode cX0_openPlace 21 = .ok (.iload_n 2, 1) := by decide +kernel
theorem dX0_openPlace_22 : decode cX0_openPlace 22 = .ok (.iload_n 1, 1) := by decide +kernel
theorem dX0_openPlace_23 : decode cX0_openPlace 23 = .ok (.if_icmp .le 17, 3) := by decide +kernel
theorem dX0_openPlace_26 : decode cX0_openPlace 26 = .ok (.aload_n 0, 1) := by decide +kernel
theorem dX0_openPlace_27 : decode cX0_openPlace 27 = .ok (.iload_n 2, 1) := by decide +kernel
theorem dX0_openPlace_28 : decode cX0_openPlace 28 = .ok (.iconst 1, 1) := by decide +kernel
theorem dX0_openPlace_29 : decode cX0_openPlace 29 = .ok (.isub, 1) := by decide +kernel
theorem dX0_openPlace_30 : decode cX0_openPlace 30 = .ok (.iload_n 2, 1) := by decide +kernel
theorem dX0_openPlace_31 : decode cX0_openPlace 31 = .ok (.invokevirtual 73, 3) := by decide +kernel
theorem dX0_openPlace_34 : decode cX0_openPlace 34 = .ok (.iinc 2 (-1), 3) := by decide +kernel
theorem dX0_openPlace_37 : decode cX0_openPlace 37 = .ok (.goto (-16), 3) := by decide +kernel
theorem dX0_openPlace_40 : decode cX0_openPlace 40 = .ok (.return_, 1) := by decide +kernel
set_option maxRecDepth 20000 in
theorem ggX0_closePlace_X0_copy : GoodIn wsX0_closePlace wsX0_copy := goodIn_r _ [6, 7, 8, 9, 5, 10, 11, 12, 13, 14, 15, 16, 1, 17, 18, 19, 20, 21, 22, 23, 24, 25, 26, 27, 28, 29, 30, 31, 32, 33, 34] (by decide +kernel) (by decide +kernel)
set_option maxRecDepth 20000 in
theorem gX0_closePlace_X0_copy : GoodIn wsX0_closePlace (wsV RX0 73 RX0 yX0_copy wsX0_copy) := goodIn_app (goodIn_of _ (by decide +kernel)) ggX0_closePlace_X0_copy
theorem dX0_closePlace_0 : decode cX0_closePlace 0 = .ok (.iload_n 1, 1) := by decide +kernel
theorem dX0_closePlace_1 : decode cX0_closePlace 1 = .ok (.iconst 1, 1) := by decide +kernel
theorem dX0_closePlace_2 : decode cX0_closePlace 2 = .ok (.iadd, 1) := by decide +kernel
theorem dX0_closePlace_3 : decode cX0_closePlace 3 = .ok (.istore_n 2, 1) := by decide +kernel
theorem dX0_closePlace_4 : decode cX0_closePlace 4 = .ok (.iload_n 2, 1) := by decide +kernel
theorem dX0_closePlace_5 : decode cX0_closePlace 5 = .ok (.aload_n 0, 1) := by decide +kernel
theorem dX0_closePlace_6 : decode cX0_closePlace 6 = .ok (.getfield 20, 3) := by decide +kernel
theorem dX0_closePlace_9 : decode cX0_closePlace 9 = .ok (.if_icmp .ge 17, 3) := by decide +kernel
theorem dX0_closePlace_12 : decode cX0_closePlace 12 = .ok (.aload_n 0, 1) := by decide +kernel
theorem dX0_closePlace_13 : decode cX0_closePlace 13 = .ok (.iload_n 2, 1) := by decide +kernel
theorem dX0_closePlace_14 : decode cX0_closePlace 14 = .ok (.iload_n 2, 1) := by decide +kernel
theorem dX0_closePlace_15 : decode cX0_closePlace 15 = .ok (.iconst 1, 1) := by decide +kernel
theorem dX0_closePlace_16 : decode cX0_closePlace 16 = .ok (.isub, 1) := by decide +kernel
theorem dX0_closePlace_17 : decode cX0_closePlace 17 = .ok (.invokevirtual 73, 3) := by decide +kernel
theorem dX0_closePlace_20 : decode cX0_closePlace 20 = .ok (.iinc 2 1, 3) := by decide +kernel
theorem dX0_closePlace_23 : decode cX0_closePlace 23 = .ok (.goto (-19), 3) := by decide +kernel
theorem dX0_closePlace_26 : decode cX0_closePlace 26 = .ok (.aload_n 0, 1) := by decide +kernel
theorem dX0_closePlace_27 : decode cX0_closePlace 27 = .ok (.dup, 1) := by decide +kernel
theorem dX0_closePlace_28 : decode cX0_closePlace 28 = .ok (.getfield 20, 3) := by decide +kernel
theorem dX0_closePlace_31 : decode cX0_closePlace 31 = .ok (.iconst 1, 1) := by decide +kernel
theorem dX0_closePlace_32 : decode cX0_closePlace 32 = .ok (.isub, 1) := by decide +kernel
theorem dX0_closePlace_33 : decode cX0_closePlace 33 = .ok (.putfield 20, 3) := by decide +kernel
theorem dX0_closePlace_36 : decode cX0_closePlace 36 = .ok (.return_, 1) := by decide +kernel
theorem dX0_keepFirst_0 : decode cX0_keepFirst 0 = .ok (.aload_n 0, 1) := by decide +kernel
theorem dX0_keepFirst_1 : decode cX0_keepFirst 1 = .ok (.getfield 20, 3) := by decide +kernel
theorem dX0_keepFirst_4 : decode cX0_keepFirst 4 = .ok (.iload_n 1, 1) := by decide +kernel
theorem dX0_keepFirst_5 : decode cX0_keepFirst 5 = .ok (.isub, 1) := by decide +kernel
theorem dX0_keepFirst_6 : decode cX0_keepFirst 6 = .ok (.istore_n 2, 1) := by decide +kernel
theorem dX0_keepFirst_7 : decode cX0_keepFirst 7 = .ok (.aload_n 0, 1) := by decide +kernel
theorem dX0_keepFirst_8 : decode cX0_keepFirst 8 = .ok (.iload_n 1, 1) := by decide +kernel
theorem dX0_keepFirst_9 : decode cX0_keepFirst 9 = .ok (.putfield 20, 3) := by decide +kernel
theorem dX0_keepFirst_12 : decode cX0_keepFirst 12 = .ok (.iload_n 2, 1) := by decide +kernel
theorem dX0_keepFirst_13 : decode cX0_keepFirst 13 = .ok (.ireturn, 1) := by decide +kernel
set_option maxRecDepth 20000 in
theorem ggX0_growIfFull_J7_copyOf_c38d5 : GoodIn wsX0_growIfFull wsJ7_copyOf_c38d5 := goodIn_r _ [8, 9, 10, 11, 12, 13, 14, 15, 16, 17, 18, 19, 20, 21, 22, 23] (by decide +kernel) (by decide +kernel)
set_option maxRecDepth 20000 in
theorem gX0_growIfFull_J7_copyOf_c38d5 : GoodIn wsX0_growIfFull (va_wsS RX0 184 yJ7_copyOf_c38d5 wsJ7_copyOf_c38d5) := goodIn_app (goodIn_of _ (by decide +kernel)) ggX0_growIfFull_J7_copyOf_c38d5
set_option maxRecDepth 20000 in
theorem ggX0_growIfFull_J7_copyOf_59c91 : GoodIn wsX0_growIfFull wsJ7_copyOf_59c91 := goodIn_r _ [26, 27, 28, 11, 12, 29, 30, 31, 16, 17, 18, 19, 20, 21, 22, 23] (by decide +kernel) (by decide +kernel)
set_option maxRecDepth 20000 in
theorem gX0_growIfFull_J7_copyOf_59c91 : GoodIn wsX0_growIfFull (va_wsS RX0 190 yJ7_copyOf_59c91 wsJ7_copyOf_59c91) := goodIn_app (goodIn_of _ (by decide +kernel)) ggX0_growIfFull_J7_copyOf_59c91
theorem dX0_growIfFull_0 : decode cX0_growIfFull 0 = .ok (.aload_n 0, 1) := by decide +kernel
theorem dX0_growIfFull_1 : decode cX0_growIfFull 1 = .ok (.getfield 9, 3) := by decide +kernel
theorem dX0_growIfFull_4 : decode cX0_growIfFull 4 = .ok (.arraylength, 1) := by decide +kernel
theorem dX0_growIfFull_5 : decode cX0_growIfFull 5 = .ok (.iconst 2, 1) := by decide +kernel
theorem dX0_growIfFull_6 : decode cX0_growIfFull 6 = .ok (.imul, 1) := by decide +kernel
theorem dX0_growIfFull_7 : decode cX0_growIfFull 7 = .ok (.istore_n 1, 1) := by decide +kernel
theorem dX0_growIfFull_8 : decode cX0_growIfFull 8 = .ok (.aload_n 0, 1) := by decide +kernel
theorem dX0_growIfFull_9 : decode cX0_growIfFull 9 = .ok (.getfield 20, 3) := by decide +kernel
theorem dX0_growIfFull_12 : decode cX0_growIfFull 12 = .ok (.aload_n 0, 1) := by decide +kernel
theorem dX0_growIfFull_13 : decode cX0_growIfFull 13 = .ok (.getfield 9, 3) := by decide +kernel
theorem dX0_growIfFull_16 : decode cX0_growIfFull 16 = .ok (.arraylength, 1) := by decide +kernel
theorem dX0_growIfFull_17 : decode cX0_growIfFull 17 = .ok (.if_icmp .lt 50, 3) := by decide +kernel
theorem dX0_growIfFull_20 : decode cX0_growIfFull 20 = .ok (.iload_n 1, 1) := by decide +kernel
theorem dX0_growIfFull_21 : decode cX0_growIfFull 21 = .ok (.ifCond .le 46, 3) := by decide +kernel
theorem dX0_growIfFull_24 : decode cX0_growIfFull 24 = .ok (.iload_n 1, 1) := by decide +kernel
theorem dX0_growIfFull_25 : decode cX0_growIfFull 25 = .ok (.sipush 2048, 3) := by decide +kernel
theorem dX0_growIfFull_28 : decode cX0_growIfFull 28 = .ok (.if_icmp .gt 39, 3) := by decide +kernel
theorem dX0_growIfFull_31 : decode cX0_growIfFull 31 = .ok (.aload_n 0, 1) := by decide +kernel
theorem dX0_growIfFull_32 : decode cX0_growIfFull 32 = .ok (.aload_n 0, 1) := by decide +kernel
theorem dX0_growIfFull_33 : decode cX0_growIfFull 33 = .ok (.getfield 9, 3) := by decide +kernel
theorem dX0_growIfFull_36 : decode cX0_growIfFull 36 = .ok (.iload_n 1, 1) := by decide +kernel
theorem dX0_growIfFull_37 : decode cX0_growIfFull 37 = .ok (.invokestatic 184, 3) := by decide +kernel
theorem dX0_growIfFull_40 : decode cX0_growIfFull 40 = .ok (.putfield 9, 3) := by decide +kernel
theorem dX0_growIfFull_43 : decode cX0_growIfFull 43 = .ok (.aload_n 0, 1) := by decide +kernel
theorem dX0_growIfFull_44 : decode cX0_growIfFull 44 = .ok (.aload_n 0, 1) := by decide +kernel
theorem dX0_growIfFull_45 : decode cX0_growIfFull 45 = .ok (.getfield 13, 3) := by decide +kernel
theorem dX0_growIfFull_48 : decode cX0_growIfFull 48 = .ok (.iload_n 1, 1) := by decide +kernel
theorem dX0_growIfFull_49 : decode cX0_growIfFull 49 = .ok (.invokestatic 190, 3) := by decide +kernel
theorem dX0_growIfFull_52 : decode cX0_growIfFull 52 = .ok (.putfield 13, 3) := by decide +kernel
theorem dX0_growIfFull_55 : decode cX0_growIfFull 55 = .ok (.aload_n 0, 1) := by decide +kernel
theorem dX0_growIfFull_56 : decode cX0_growIfFull 56 = .ok (.aload_n 0, 1) := by decide +kernel
theorem dX0_growIfFull_57 : decode cX0_growIfFull 57 = .ok (.getfield 17, 3) := by decide +kernel
theorem dX0_growIfFull_60 : decode cX0_growIfFull 60 = .ok (.iload_n 1, 1) := by decide +kernel
theorem dX0_growIfFull_61 : decode cX0_growIfFull 61 = .ok (.invokestatic 184, 3) := by decide +kernel
theorem dX0_growIfFull_64 : decode cX0_growIfFull 64 = .ok (.putfield 17, 3) := by decide +kernel
theorem dX0_growIfFull_67 : decode cX0_growIfFull 67 = .ok (.return_, 1) := by decide +kernel
theorem dX1_init_0 : decode cX1_init 0 = .ok (.aload_n 0, 1) := by decide +kernel
theorem dX1_init_1 : decode cX1_init 1 = .ok (.invokespecial 1, 3) := by decide +kernel
theorem dX1_init_4 : decode cX1_init 4 = .ok (.aload_n 0, 1) := by decide +kernel
theorem dX1_init_5 : decode cX1_init 5 = .ok (.sipush 1001, 3) := by decide +kernel
theorem dX1_init_8 : decode cX1_init 8 = .ok (.newarray .int, 2) := by decide +kernel
theorem dX1_init_10 : decode cX1_init 10 = .ok (.putfield 7, 3) := by decide +kernel
theorem dX1_init_13 : decode cX1_init 13 = .ok (.aload_n 0, 1) := by decide +kernel
theorem dX1_init_14 : decode cX1_init 14 = .ok (.sipush 1001, 3) := by decide +kernel
theorem dX1_init_17 : decode cX1_init 17 = .ok (.newarray .int, 2) := by decide +kernel
theorem dX1_init_19 : decode cX1_init 19 = .ok (.putfield 13, 3) := by decide +kernel
theorem dX1_init_22 : decode cX1_init 22 = .ok (.aload_n 0, 1) := by decide +kernel
theorem dX1_init_23 : decode cX1_init 23 = .ok (.sipush 1001, 3) := by decide +kernel
theorem dX1_init_26 : decode cX1_init 26 = .ok (.newarray .int, 2) := by decide +kernel
theorem dX1_init_28 : decode cX1_init 28 = .ok (.putfield 16, 3) := by decide +kernel
theorem dX1_init_31 : decode cX1_init 31 = .ok (.aload_n 0, 1) := by decide +kernel
theorem dX1_init_32 : decode cX1_init 32 = .ok (.sipush 1001, 3) := by decide +kernel
theorem dX1_init_35 : decode cX1_init 35 = .ok (.newarray .int, 2) := by decide +kernel
theorem dX1_init_37 : decode cX1_init 37 = .ok (.putfield 19, 3) := by decide +kernel
theorem dX1_init_40 : decode cX1_init 40 = .ok (.aload_n 0, 1) := by decide +kernel
theorem dX1_init_41 : decode cX1_init 41 = .ok (.sipush 1001, 3) := by decide +kernel
theorem dX1_init_44 : decode cX1_init 44 = .ok (.newarray .long, 2) := by decide +kernel
theorem dX1_init_46 : decode cX1_init 46 = .ok (.putfield 22, 3) := by decide +kernel
theorem dX1_init_49 : decode cX1_init 49 = .ok (.return_, 1) := by decide +kernel
theorem dX1_thrown_0 : decode cX1_thrown 0 = .ok (.aload_n 0, 1) := by decide +kernel
theorem dX1_thrown_1 : decode cX1_thrown 1 = .ok (.getfield 26, 3) := by decide +kernel
theorem dX1_thrown_4 : decode cX1_thrown 4 = .ok (.ireturn, 1) := by decide +kernel
theorem dX1_mask_0 : decode cX1_mask 0 = .ok (.iload_n 0, 1) := by decide +kernel
theorem dX1_mask_1 : decode cX1_mask 1 = .ok (.ifCond .ne 7, 3) := by decide +kernel
theorem dX1_mask_4 : decode cX1_mask 4 = .ok (.iconst 0, 1) := by decide +kernel
theorem dX1_mask_5 : decode cX1_mask 5 = .ok (.goto 9, 3) := by decide +kernel
theorem dX1_mask_8 : decode cX1_mask 8 = .ok (.iconst (-1), 1) := by decide +kernel
theorem dX1_mask_9 : decode cX1_mask 9 = .ok (.bipush 32, 2) := by decide +kernel
theorem dX1_mask_11 : decode cX1_mask 11 = .ok (.iload_n 0, 1) := by decide +kernel
theorem dX1_mask_12 : decode cX1_mask 12 = .ok (.isub, 1) := by decide +kernel
theorem dX1_mask_13 : decode cX1_mask 13 = .ok (.ishl, 1) := by decide +kernel
theorem dX1_mask_14 : decode cX1_mask 14 = .ok (.ireturn, 1) := by decide +kernel
theorem dX1_unsigned_0 : decode cX1_unsigned 0 = .ok (.iload_n 0, 1) := by decide +kernel
theorem dX1_unsigned_1 : decode cX1_unsigned 1 = .ok (.i2l, 1) := by decide +kernel
theorem dX1_unsigned_2 : decode cX1_unsigned 2 = .ok (.ldc2_w 30, 3) := by decide +kernel
theorem dX1_unsigned_5 : decode cX1_unsigned 5 = .ok (.land, 1) := by decide +kernel
theorem dX1_unsigned_6 : decode cX1_unsigned 6 = .ok (.lreturn, 1) := by decide +kernel
set_option maxRecDepth 20000 in
theorem ggX1_isPrefix_X1_mask : GoodIn wsX1_isPrefix wsX1_mask := goodIn_r _ [4] (by decide +kernel) (by decide +kernel)
set_option maxRecDepth 20000 in
theorem gX1_isPrefix_X1_mask : GoodIn wsX1_isPrefix (va_wsS RX1 32 yX1_mask wsX1_mask) := goodIn_app (goodIn_of _ (by decide +kernel)) ggX1_isPrefix_X1_mask
theorem dX1_isPrefix_0 : decode cX1_isPrefix 0 = .ok (.iload_n 1, 1) := by decide +kernel
theorem dX1_isPrefix_1 : decode cX1_isPrefix 1 = .ok (.ifCond .lt 24, 3) := by decide +kernel
theorem dX1_isPrefix_4 : decode cX1_isPrefix 4 = .ok (.iload_n 1, 1) := by decide +kernel
theorem dX1_isPrefix_5 : decode cX1_isPrefix 5 = .ok (.bipush 32, 2) := by decide +kernel
theorem dX1_isPrefix_7 : decode cX1_isPrefix 7 = .ok (.if_icmp .gt 18, 3) := by decide +kernel
theorem dX1_isPrefix_10 : decode cX1_isPrefix 10 = .ok (.iload_n 0, 1) := by decide +kernel
theorem dX1_isPrefix_11 : decode cX1_isPrefix 11 = .ok (.iload_n 1, 1) := by decide +kernel
theorem dX1_isPrefix_12 : decode cX1_isPrefix 12 = .ok (.invokestatic 32, 3) := by decide +kernel
theorem dX1_isPrefix_15 : decode cX1_isPrefix 15 = .ok (.iconst (-1), 1) := by decide +kernel
theorem dX1_isPrefix_16 : decode cX1_isPrefix 16 = .ok (.ixor, 1) := by decide +kernel
theorem dX1_isPrefix_17 : decode cX1_isPrefix 17 = .ok (.iand, 1) := by decide +kernel
theorem dX1_isPrefix_18 : decode cX1_isPrefix 18 = .ok (.ifCond .ne 7, 3) := by decide +kernel
theorem dX1_isPrefix_21 : decode cX1_isPrefix 21 = .ok (.iconst 1, 1) := by decide +kernel
theorem dX1_isPrefix_22 : decode cX1_isPrefix 22 = .ok (.goto 4, 3) := by decide +kernel
theorem dX1_isPrefix_25 : decode cX1_isPrefix 25 = .ok (.iconst 0, 1) := by decide +kernel
theorem dX1_isPrefix_26 : decode cX1_isPrefix 26 = .ok (.ireturn, 1) := by decide +kernel
set_option maxRecDepth 20000 in
theorem ggX1_rank_X1_unsigned : GoodIn wsX1_rank wsX1_unsigned := goodIn_r _ [6, 7] (by decide +kernel) (by decide +kernel)
set_option maxRecDepth 20000 in
theorem gX1_rank_X1_unsigned : GoodIn wsX1_rank (va_wsS RX1 38 yX1_unsigned wsX1_unsigned) := goodIn_app (goodIn_of _ (by decide +kernel)) ggX1_rank_X1_unsigned
theorem dX1_rank_0 : decode cX1_rank 0 = .ok (.ldc2_w 36, 3) := by decide +kernel
theorem dX1_rank_3 : decode cX1_rank 3 = .ok (.iload_n 0, 1) := by decide +kernel
theorem dX1_rank_4 : decode cX1_rank 4 = .ok (.invokestatic 38, 3) := by decide +kernel
theorem dX1_rank_7 : decode cX1_rank 7 = .ok (.lmul, 1) := by decide +kernel
theorem dX1_rank_8 : decode cX1_rank 8 = .ok (.iload_n 1, 1) := by decide +kernel
theorem dX1_rank_9 : decode cX1_rank 9 = .ok (.i2l, 1) := by decide +kernel
theorem dX1_rank_10 : decode cX1_rank 10 = .ok (.ladd, 1) := by decide +kernel
theorem dX1_rank_11 : decode cX1_rank 11 = .ok (.ldc2_w 42, 3) := by decide +kernel
theorem dX1_rank_14 : decode cX1_rank 14 = .ok (.lmul, 1) := by decide +kernel
theorem dX1_rank_15 : decode cX1_rank 15 = .ok (.iload_n 2, 1) := by decide +kernel
theorem dX1_rank_16 : decode cX1_rank 16 = .ok (.i2l, 1) := by decide +kernel
theorem dX1_rank_17 : decode cX1_rank 17 = .ok (.ladd, 1) := by decide +kernel
theorem dX1_rank_18 : decode cX1_rank 18 = .ok (.lreturn, 1) := by decide +kernel
set_option maxRecDepth 20000 in
theorem ggX1_rankOf_X1_rank : GoodIn wsX1_rankOf wsX1_rank := goodIn_r _ [7, 8, 9, 10, 11, 6, 12, 13] (by decide +kernel) (by decide +kernel)
set_option maxRecDepth 20000 in
theorem gX1_rankOf_X1_rank : GoodIn wsX1_rankOf (va_wsS RX1 44 yX1_rank wsX1_rank) := goodIn_app (goodIn_of _ (by decide +kernel)) ggX1_rankOf_X1_rank
theorem dX1_rankOf_0 : decode cX1_rankOf 0 = .ok (.aload_n 0, 1) := by decide +kernel
theorem dX1_rankOf_1 : decode cX1_rankOf 1 = .ok (.getfield 7, 3) := by decide +kernel
theorem dX1_rankOf_4 : decode cX1_rankOf 4 = .ok (.iload_n 1, 1) := by decide +kernel
theorem dX1_rankOf_5 : decode cX1_rankOf 5 = .ok (.iaload, 1) := by decide +kernel
theorem dX1_rankOf_6 : decode cX1_rankOf 6 = .ok (.aload_n 0, 1) := by decide +kernel
theorem dX1_rankOf_7 : decode cX1_rankOf 7 = .ok (.getfield 13, 3) := by decide +kernel
theorem dX1_rankOf_10 : decode cX1_rankOf 10 = .ok (.iload_n 1, 1) := by decide +kernel
theorem dX1_rankOf_11 : decode cX1_rankOf 11 = .ok (.iaload, 1) := by decide +kernel
theorem dX1_rankOf_12 : decode cX1_rankOf 12 = .ok (.aload_n 0, 1) := by decide +kernel
theorem dX1_rankOf_13 : decode cX1_rankOf 13 = .ok (.getfield 16, 3) := by decide +kernel
theorem dX1_rankOf_16 : decode cX1_rankOf 16 = .ok (.iload_n 1, 1) := by decide +kernel
theorem dX1_rankOf_17 : decode cX1_rankOf 17 = .ok (.iaload, 1) := by decide +kernel
theorem dX1_rankOf_18 : decode cX1_rankOf 18 = .ok (.invokestatic 44, 3) := by decide +kernel
theorem dX1_rankOf_21 : decode cX1_rankOf 21 = .ok (.lreturn, 1) := by decide +kernel
theorem dX1_isMore_0 : decode cX1_isMore 0 = .ok (.iload_n 1, 1) := by decide +kernel
theorem dX1_isMore_1 : decode cX1_isMore 1 = .ok (.ifCond .le 41, 3) := by decide +kernel
theorem dX1_isMore_4 : decode cX1_isMore 4 = .ok (.aload_n 0, 1) := by decide +kernel
theorem dX1_isMore_5 : decode cX1_isMore 5 = .ok (.getfield 7, 3) := by decide +kernel
theorem dX1_isMore_8 : decode cX1_isMore 8 = .ok (.iload_n 1, 1) := by decide +kernel
theorem dX1_isMore_9 : decode cX1_isMore 9 = .ok (.iaload, 1) := by decide +kernel
theorem dX1_isMore_10 : decode cX1_isMore 10 = .ok (.aload_n 0, 1) := by decide +kernel
theorem dX1_isMore_11 : decode cX1_isMore 11 = .ok (.getfield 7, 3) := by decide +kernel
theorem dX1_isMore_14 : decode cX1_isMore 14 = .ok (.iload_n 1, 1) := by decide +kernel
theorem dX1_isMore_15 : decode cX1_isMore 15 = .ok (.iconst 1, 1) := by decide +kernel
theorem dX1_isMore_16 : decode cX1_isMore 16 = .ok (.isub, 1) := by decide +kernel
theorem dX1_isMore_17 : decode cX1_isMore 17 = .ok (.iaload, 1) := by decide +kernel
theorem dX1_isMore_18 : decode cX1_isMore 18 = .ok (.if_icmp .ne 24, 3) := by decide +kernel
theorem dX1_isMore_21 : decode cX1_isMore 21 = .ok (.aload_n 0, 1) := by decide +kernel
theorem dX1_isMore_22 : decode cX1_isMore 22 = .ok (.getfield 13, 3) := by decide +kernel
theorem dX1_isMore_25 : decode cX1_isMore 25 = .ok (.iload_n 1, 1) := by decide +kernel
theorem dX1_isMore_26 : decode cX1_isMore 26 = .ok (.iaload, 1) := by decide +kernel
theorem dX1_isMore_27 : decode cX1_isMore 27 = .ok (.aload_n 0, 1) := by decide +kernel
theorem dX1_isMore_28 : decode cX1_isMore 28 = .ok (.getfield 13, 3) := by decide +kernel
theorem dX1_isMore_31 : decode cX1_isMore 31 = .ok (.iload_n 1, 1) := by decide +kernel
theorem dX1_isMore_32 : decode cX1_isMore 32 = .ok (.iconst 1, 1) := by decide +kernel
theorem dX1_isMore_33 : decode cX1_isMore 33 = .ok (.isub, 1) := by decide +kernel
theorem dX1_isMore_34 : decode cX1_isMore 34 = .ok (.iaload, 1) := by decide +kernel
theorem dX1_isMore_35 : decode cX1_isMore 35 = .ok (.if_icmp .ne 7, 3) := by decide +kernel
theorem dX1_isMore_38 : decode cX1_isMore 38 = .ok (.iconst 1, 1) := by decide +kernel
theorem dX1_isMore_39 : decode cX1_isMore 39 = .ok (.goto 4, 3) := by decide +kernel
theorem dX1_isMore_42 : decode cX1_isMore 42 = .ok (.iconst 0, 1) := by decide +kernel
theorem dX1_isMore_43 : decode cX1_isMore 43 = .ok (.ireturn, 1) := by decide +kernel
set_option maxRecDepth 20000 in
theorem ggX1_has_X1_mask : GoodIn wsX1_has wsX1_mask := goodIn_r _ [6] (by decide +kernel) (by decide +kernel)
set_option maxRecDepth 20000 in
theorem gX1_has_X1_mask : GoodIn wsX1_has (va_wsS RX1 32 yX1_mask wsX1_mask) := goodIn_app (goodIn_of _ (by decide +kernel)) ggX1_has_X1_mask
theorem dX1_has_0 : decode cX1_has 0 = .ok (.aload_n 0, 1) := by decide +kernel
theorem dX1_has_1 : decode cX1_has 1 = .ok (.getfield 7, 3) := by decide +kernel
theorem dX1_has_4 : decode cX1_has 4 = .ok (.iload_n 1, 1) := by decide +kernel
theorem dX1_has_5 : decode cX1_has 5 = .ok (.iaload, 1) := by decide +kernel
theorem dX1_has_6 : decode cX1_has 6 = .ok (.iload_n 2, 1) := by decide +kernel
theorem dX1_has_7 : decode cX1_has 7 = .ok (.ixor, 1) := by decide +kernel
theorem dX1_has_8 : decode cX1_has 8 = .ok (.aload_n 0, 1) := by decide +kernel
theorem dX1_has_9 : decode cX1_has 9 = .ok (.getfield 13, 3) := by decide +kernel
theorem dX1_has_12 : decode cX1_has 12 = .ok (.iload_n 1, 1) := by decide +kernel
theorem dX1_has_13 : decode cX1_has 13 = .ok (.iaload, 1) := by decide +kernel
theorem dX1_has_14 : decode cX1_has 14 = .ok (.invokestatic 32, 3) := by decide +kernel
theorem dX1_has_17 : decode cX1_has 17 = .ok (.iand, 1) := by decide +kernel
theorem dX1_has_18 : decode cX1_has 18 = .ok (.ifCond .ne 7, 3) := by decide +kernel
theorem dX1_has_21 : decode cX1_has 21 = .ok (.iconst 1, 1) := by decide +kernel
theorem dX1_has_22 : decode cX1_has 22 = .ok (.goto 4, 3) := by decide +kernel
theorem dX1_has_25 : decode cX1_has 25 = .ok (.iconst 0, 1) := by decide +kernel
theorem dX1_has_26 : decode cX1_has 26 = .ok (.ireturn, 1) := by decide +kernel
set_option maxRecDepth 20000 in
theorem ggX1_place_X1_rankOf : GoodIn wsX1_place wsX1_rankOf := goodIn_r _ [6, 7, 8, 9, 10, 11, 5, 12, 13, 14, 15, 16, 17, 18, 19, 20, 21, 22, 23, 24, 25] (by decide +kernel) (by decide +kernel)
set_option maxRecDepth 20000 in
theorem gX1_place_X1_rankOf : GoodIn wsX1_place (wsV RX1 51 RX1 yX1_rankOf wsX1_rankOf) := goodIn_app (goodIn_of _ (by decide +kernel)) ggX1_place_X1_rankOf
theorem dX1_place_0 : decode cX1_place 0 = .ok (.iconst 0, 1) := by decide +kernel
theorem dX1_place_1 : decode cX1_place 1 = .ok (.istore_n 3, 1) := by decide +kernel
theorem dX1_place_2 : decode cX1_place 2 = .ok (.aload_n 0, 1) := by decide +kernel
theorem dX1_place_3 : decode cX1_place 3 = .ok (.getfield 48, 3) := by decide +kernel
theorem dX1_place_6 : decode cX1_place 6 = .ok (.istore 4, 2) := by decide +kernel
theorem dX1_place_8 : decode cX1_place 8 = .ok (.iload_n 3, 1) := by decide +kernel
theorem dX1_place_9 : decode cX1_place 9 = .ok (.iload 4, 2) := by decide +kernel
theorem dX1_place_11 : decode cX1_place 11 = .ok (.if_icmp .ge 37, 3) := by decide +kernel
theorem dX1_place_14 : decode cX1_place 14 = .ok (.iload_n 3, 1) := by decide +kernel
theorem dX1_place_15 : decode cX1_place 15 = .ok (.iload 4, 2) := by decide +kernel
theorem dX1_place_17 : decode cX1_place 17 = .ok (.iadd, 1) := by decide +kernel
theorem dX1_place_18 : decode cX1_place 18 = .ok (.iconst 2, 1) := by decide +kernel
theorem dX1_place_19 : decode cX1_place 19 = .ok (.idiv, 1) := by decide +kernel
theorem dX1_place_20 : decode cX1_place 20 = .ok (.istore 5, 2) := by decide +kernel
theorem dX1_place_22 : decode cX1_place 22 = .ok (.aload_n 0, 1) := by decide +kernel
theorem dX1_place_23 : decode cX1_place 23 = .ok (.iload 5, 2) := by decide +kernel
theorem dX1_place_25 : decode cX1_place 25 = .ok (.invokevirtual 51, 3) := by decide +kernel
theorem dX1_place_28 : decode cX1_place 28 = .ok (.lload_n 1, 1) := by decide +kernel
theorem dX1_place_29 : decode cX1_place 29 = .ok (.lcmp, 1) := by decide +kernel
theorem dX1_place_30 : decode cX1_place 30 = .ok (.ifCond .ge 11, 3) := by decide +kernel
theorem dX1_place_33 : decode cX1_place 33 = .ok (.iload 5, 2) := by decide +kernel
theorem dX1_place_35 : decode cX1_place 35 = .ok (.iconst 1, 1) := by decide +kernel
theorem dX1_place_36 : decode cX1_place 36 = .ok (.iadd, 1) := by decide +kernel
theorem dX1_place_37 : decode cX1_place 37 = .ok (.istore_n 3, 1) := by decide +kernel
theorem dX1_place_38 : decode cX1_place 38 = .ok (.goto 7, 3) := by decide +kernel
theorem dX1_place_41 : decode cX1_place 41 = .ok (.iload 5, 2) := by decide +kernel
theorem dX1_place_43 : decode cX1_place 43 = .ok (.istore 4, 2) := by decide +kernel
theorem dX1_place_45 : decode cX1_place 45 = .ok (.goto (-37), 3) := by decide +kernel
theorem dX1_place_48 : decode cX1_place 48 = .ok (.iload_n 3, 1) := by decide +kernel
theorem dX1_place_49 : decode cX1_place 49 = .ok (.ireturn, 1) := by decide +kernel
theorem dX1_isThere_0 : decode cX1_isThere 0 = .ok (.iload_n 1, 1) := by decide +kernel
theorem dX1_isThere_1 : decode cX1_isThere 1 = .ok (.aload_n 0, 1) := by decide +kernel
theorem dX1_isThere_2 : decode cX1_isThere 2 = .ok (.getfield 48, 3) := by decide +kernel
theorem dX1_isThere_5 : decode cX1_isThere 5 = .ok (.if_icmp .ge 38, 3) := by decide +kernel
theorem dX1_isThere_8 : decode cX1_isThere 8 = .ok (.aload_n 0, 1) := by decide +kernel
theorem dX1_isThere_9 : decode cX1_isThere 9 = .ok (.getfield 7, 3) := by decide +kernel
theorem dX1_isThere_12 : decode cX1_isThere 12 = .ok (.iload_n 1, 1) := by decide +kernel
theorem dX1_isThere_13 : decode cX1_isThere 13 = .ok (.iaload, 1) := by decide +kernel
theorem dX1_isThere_14 : decode cX1_isThere 14 = .ok (.iload_n 2, 1) := by decide +kernel
theorem dX1_isThere_15 : decode cX1_isThere 15 = .ok (.if_icmp .ne 28, 3) := by decide +kernel
theorem dX1_isThere_18 : decode cX1_isThere 18 = .ok (.aload_n 0, 1) := by decide +kernel
theorem dX1_isThere_19 : decode cX1_isThere 19 = .ok (.getfield 13, 3) := by decide +kernel
theorem dX1_isThere_22 : decode cX1_isThere 22 = .ok (.iload_n 1, 1) := by decide +kernel
theorem dX1_isThere_23 : decode cX1_isThere 23 = .ok (.iaload, 1) := by decide +kernel
theorem dX1_isThere_24 : decode cX1_isThere 24 = .ok (.iload_n 3, 1) := by decide +kernel
theorem dX1_isThere_25 : decode cX1_isThere 25 = .ok (.if_icmp .ne 18, 3) := by decide +kernel
theorem dX1_isThere_28 : decode cX1_isThere 28 = .ok (.aload_n 0, 1) := by decide +kernel
theorem dX1_isThere_29 : decode cX1_isThere 29 = .ok (.getfield 16, 3) := by decide +kernel
theorem dX1_isThere_32 : decode cX1_isThere 32 = .ok (.iload_n 1, 1) := by decide +kernel
theorem dX1_isThere_33 : decode cX1_isThere 33 = .ok (.iaload, 1) := by decide +kernel
theorem dX1_isThere_34 : decode cX1_isThere 34 = .ok (.iload 4, 2) := by decide +kernel
theorem dX1_isThere_36 : decode cX1_isThere 36 = .ok (.if_icmp .ne 7, 3) := by decide +kernel
theorem dX1_isThere_39 : decode cX1_isThere 39 = .ok (.iconst 1, 1) := by decide +kernel
theorem dX1_isThere_40 : decode cX1_isThere 40 = .ok (.goto 4, 3) := by decide +kernel
theorem dX1_isThere_43 : decode cX1_isThere 43 = .ok (.iconst 0, 1) := by decide +kernel
theorem dX1_isThere_44 : decode cX1_isThere 44 = .ok (.ireturn, 1) := by decide +kernel
set_option maxRecDepth 20000 in
theorem ggX1_put_X1_isPrefix : GoodIn wsX1_put wsX1_isPrefix := goodIn_r _ [12, 13, 14, 11, 15] (by decide +kernel) (by decide +kernel)
set_option maxRecDepth 20000 in
theorem gX1_put_X1_isPrefix : GoodIn wsX1_put (va_wsS RX1 54 yX1_isPrefix wsX1_isPrefix) := goodIn_app (goodIn_of _ (by decide +kernel)) ggX1_put_X1_isPrefix
set_option maxRecDepth 20000 in
theorem ggX1_put_X1_rank : GoodIn wsX1_put wsX1_rank := goodIn_r _ [18, 19, 20, 21, 22, 11, 23, 24] (by decide +kernel) (by decide +kernel)
set_option maxRecDepth 20000 in
theorem gX1_put_X1_rank : GoodIn wsX1_put (va_wsS RX1 44 yX1_rank wsX1_rank) := goodIn_app (goodIn_of _ (by decide +kernel)) ggX1_put_X1_rank
set_option maxRecDepth 20000 in
theorem ggX1_put_X1_place : GoodIn wsX1_put wsX1_place := goodIn_r _ [28, 2, 29, 30, 31, 11, 32, 4, 5, 6, 16, 17, 18, 19, 20, 21, 22, 23, 24, 41, 42, 43, 44, 45, 46, 47] (by decide +kernel) (by decide +kernel)
set_option maxRecDepth 20000 in
theorem gX1_put_X1_place : GoodIn wsX1_put (wsV RX1 59 RX1 yX1_place wsX1_place) := goodIn_app (goodIn_of _ (by decide +kernel)) ggX1_put_X1_place
set_option maxRecDepth 20000 in
theorem ggX1_put_X1_isThere : GoodIn wsX1_put wsX1_isThere := goodIn_r _ [36, 2, 4, 5, 6, 41, 42, 43, 44, 45, 46, 47] (by decide +kernel) (by decide +kernel)
set_option maxRecDepth 20000 in
theorem gX1_put_X1_isThere : GoodIn wsX1_put (wsV RX1 63 RX1 yX1_isThere wsX1_isThere) := goodIn_app (goodIn_of _ (by decide +kernel)) ggX1_put_X1_isThere
set_option maxRecDepth 20000 in
theorem ggX1_put_X1_copy : GoodIn wsX1_put wsX1_copy := goodIn_r _ [40, 4, 5, 6, 7, 8, 41, 42, 43, 44, 45, 46, 47] (by decide +kernel) (by decide +kernel)
set_option maxRecDepth 20000 in
theorem gX1_put_X1_copy : GoodIn wsX1_put (wsV RX1 67 RX1 yX1_copy wsX1_copy) := goodIn_app (goodIn_of _ (by decide +kernel)) ggX1_put_X1_copy
theorem dX1_put_0 : decode cX1_put 0 = .ok (.iload_n 1, 1) := by decide +kernel
theorem dX1_put_1 : decode cX1_put 1 = .ok (.iload_n 2, 1) := by decide +kernel
theorem dX1_put_2 : decode cX1_put 2 = .ok (.invokestatic 54, 3) := by decide +kernel
theorem dX1_put_5 : decode cX1_put 5 = .ok (.ifCond .eq 36, 3) := by decide +kernel
theorem dX1_put_8 : decode cX1_put 8 = .ok (.iload_n 3, 1) := by decide +kernel
theorem dX1_put_9 : decode cX1_put 9 = .ok (.ifCond .lt 32, 3) := by decide +kernel
theorem dX1_put_12 : decode cX1_put 12 = .ok (.iload_n 3, 1) := by decide +kernel
theorem dX1_put_13 : decode cX1_put 13 = .ok (.bipush 8, 2) := by decide +kernel
theorem dX1_put_15 : decode cX1_put 15 = .ok (.if_icmp .ge 26, 3) := by decide +kernel
theorem dX1_put_18 : decode cX1_put 18 = .ok (.iload 4, 2) := by decide +kernel
theorem dX1_put_20 : decode cX1_put 20 = .ok (.ifCond .lt 21, 3) := by decide +kernel
theorem dX1_put_23 : decode cX1_put 23 = .ok (.iload 4, 2) := by decide +kernel
theorem dX1_put_25 : decode cX1_put 25 = .ok (.ldc 58, 2) := by decide +kernel
theorem dX1_put_27 : decode cX1_put 27 = .ok (.if_icmp .gt 14, 3) := by decide +kernel
theorem dX1_put_30 : decode cX1_put 30 = .ok (.lload 5, 2) := by decide +kernel
theorem dX1_put_32 : decode cX1_put 32 = .ok (.lconst 0, 1) := by decide +kernel
theorem dX1_put_33 : decode cX1_put 33 = .ok (.lcmp, 1) := by decide +kernel
theorem dX1_put_34 : decode cX1_put 34 = .ok (.ifCond .eq 7, 3) := by decide +kernel
theorem dX1_put_37 : decode cX1_put 37 = .ok (.iconst 1, 1) := by decide +kernel
theorem dX1_put_38 : decode cX1_put 38 = .ok (.goto 4, 3) := by decide +kernel
theorem dX1_put_41 : decode cX1_put 41 = .ok (.iconst 0, 1) := by decide +kernel
theorem dX1_put_42 : decode cX1_put 42 = .ok (.istore 7, 2) := by decide +kernel
theorem dX1_put_44 : decode cX1_put 44 = .ok (.iload 7, 2) := by decide +kernel
theorem dX1_put_46 : decode cX1_put 46 = .ok (.ifCond .eq 16, 3) := by decide +kernel
theorem dX1_put_49 : decode cX1_put 49 = .ok (.aload_n 0, 1) := by decide +kernel
theorem dX1_put_50 : decode cX1_put 50 = .ok (.iload_n 1, 1) := by decide +kernel
theorem dX1_put_51 : decode cX1_put 51 = .ok (.iload_n 2, 1) := by decide +kernel
theorem dX1_put_52 : decode cX1_put 52 = .ok (.iload_n 3, 1) := by decide +kernel
theorem dX1_put_53 : decode cX1_put 53 = .ok (.invokestatic 44, 3) := by decide +kernel
theorem dX1_put_56 : decode cX1_put 56 = .ok (.invokevirtual 59, 3) := by decide +kernel
theorem dX1_put_59 : decode cX1_put 59 = .ok (.goto 4, 3) := by decide +kernel
theorem dX1_put_62 : decode cX1_put 62 = .ok (.iconst 0, 1) := by decide +kernel
theorem dX1_put_63 : decode cX1_put 63 = .ok (.istore 8, 2) := by decide +kernel
theorem dX1_put_65 : decode cX1_put 65 = .ok (.aload_n 0, 1) := by decide +kernel
theorem dX1_put_66 : decode cX1_put 66 = .ok (.iload 7, 2) := by decide +kernel
theorem dX1_put_68 : decode cX1_put 68 = .ok (.ifCond .ne 7, 3) := by decide +kernel
theorem dX1_put_71 : decode cX1_put 71 = .ok (.iconst 1, 1) := by decide +kernel
theorem dX1_put_72 : decode cX1_put 72 = .ok (.goto 30, 3) := by decide +kernel
theorem dX1_put_75 : decode cX1_put 75 = .ok (.aload_n 0, 1) := by decide +kernel
theorem dX1_put_76 : decode cX1_put 76 = .ok (.getfield 48, 3) := by decide +kernel
theorem dX1_put_79 : decode cX1_put 79 = .ok (.sipush 1000, 3) := by decide +kernel
theorem dX1_put_82 : decode cX1_put 82 = .ok (.if_icmp .ne 19, 3) := by decide +kernel
theorem dX1_put_85 : decode cX1_put 85 = .ok (.aload_n 0, 1) := by decide +kernel
theorem dX1_put_86 : decode cX1_put 86 = .ok (.iload 8, 2) := by decide +kernel
theorem dX1_put_88 : decode cX1_put 88 = .ok (.iload_n 1, 1) := by decide +kernel
theorem dX1_put_89 : decode cX1_put 89 = .ok (.iload_n 2, 1) := by decide +kernel
theorem dX1_put_90 : decode cX1_put 90 = .ok (.iload_n 3, 1) := by decide +kernel
theorem dX1_put_91 : decode cX1_put 91 = .ok (.invokevirtual 63, 3) := by decide +kernel
theorem dX1_put_94 : decode cX1_put 94 = .ok (.ifCond .ne 7, 3) := by decide +kernel
theorem dX1_put_97 : decode cX1_put 97 = .ok (.iconst 2, 1) := by decide +kernel
theorem dX1_put_98 : decode cX1_put 98 = .ok (.goto 4, 3) := by decide +kernel
theorem dX1_put_101 : decode cX1_put 101 = .ok (.iconst 0, 1) := by decide +kernel
theorem dX1_put_102 : decode cX1_put 102 = .ok (.putfield 26, 3) := by decide +kernel
theorem dX1_put_105 : decode cX1_put 105 = .ok (.aload_n 0, 1) := by decide +kernel
theorem dX1_put_106 : decode cX1_put 106 = .ok (.getfield 26, 3) := by decide +kernel
theorem dX1_put_109 : decode cX1_put 109 = .ok (.ifCond .le 5, 3) := by decide +kernel
theorem dX1_put_112 : decode cX1_put 112 = .ok (.iconst 0, 1) := by decide +kernel
theorem dX1_put_113 : decode cX1_put 113 = .ok (.ireturn, 1) := by decide +kernel
theorem dX1_put_114 : decode cX1_put 114 = .ok (.aload_n 0, 1) := by decide +kernel
theorem dX1_put_115 : decode cX1_put 115 = .ok (.iload 8, 2) := by decide +kernel
theorem dX1_put_117 : decode cX1_put 117 = .ok (.iload_n 1, 1) := by decide +kernel
theorem dX1_put_118 : decode cX1_put 118 = .ok (.iload_n 2, 1) := by decide +kernel
theorem dX1_put_119 : decode cX1_put 119 = .ok (.iload_n 3, 1) := by decide +kernel
theorem dX1_put_120 : decode cX1_put 120 = .ok (.invokevirtual 63, 3) := by decide +kernel
theorem dX1_put_123 : decode cX1_put 123 = .ok (.ifCond .ne 42, 3) := by decide +kernel
theorem dX1_put_126 : decode cX1_put 126 = .ok (.aload_n 0, 1) := by decide +kernel
theorem dX1_put_127 : decode cX1_put 127 = .ok (.getfield 48, 3) := by decide +kernel
theorem dX1_put_130 : decode cX1_put 130 = .ok (.istore 9, 2) := by decide +kernel
theorem dX1_put_132 : decode cX1_put 132 = .ok (.iload 9, 2) := by decide +kernel
theorem dX1_put_134 : decode cX1_put 134 = .ok (.iload 8, 2) := by decide +kernel
theorem dX1_put_136 : decode cX1_put 136 = .ok (.if_icmp .le 19, 3) := by decide +kernel
theorem dX1_put_139 : decode cX1_put 139 = .ok (.aload_n 0, 1) := by decide +kernel
theorem dX1_put_140 : decode cX1_put 140 = .ok (.iload 9, 2) := by decide +kernel
theorem dX1_put_142 : decode cX1_put 142 = .ok (.iconst 1, 1) := by decide +kernel
theorem dX1_put_143 : decode cX1_put 143 = .ok (.isub, 1) := by decide +kernel
theorem dX1_put_144 : decode cX1_put 144 = .ok (.iload 9, 2) := by decide +kernel
theorem dX1_put_146 : decode cX1_put 146 = .ok (.invokevirtual 67, 3) := by decide +kernel
theorem dX1_put_149 : decode cX1_put 149 = .ok (.iinc 9 (-1), 3) := by decide +kernel
theorem dX1_put_152 : decode cX1_put 152 = .ok (.goto (-20), 3) := by decide +kernel
theorem dX1_put_155 : decode cX1_put 155 = .ok (.aload_n 0, 1) := by decide +kernel
theorem dX1_put_156 : decode cX1_put 156 = .ok (.dup, 1) := by decide +kernel
theorem dX1_put_157 : decode cX1_put 157 = .ok (.getfield 48, 3) := by decide +kernel
theorem dX1_put_160 : decode cX1_put 160 = .ok (.iconst 1, 1) := by decide +kernel
theorem dX1_put_161 : decode cX1_put 161 = .ok (.iadd, 1) := by decide +kernel
theorem dX1_put_162 : decode cX1_put 162 = .ok (.putfield 48, 3) := by decide +kernel
theorem dX1_put_165 : decode cX1_put 165 = .ok (.aload_n 0, 1) := by decide +kernel
theorem dX1_put_166 : decode cX1_put 166 = .ok (.getfield 7, 3) := by decide +kernel
theorem dX1_put_169 : decode cX1_put 169 = .ok (.iload 8, 2) := by decide +kernel
theorem dX1_put_171 : decode cX1_put 171 = .ok (.iload_n 1, 1) := by decide +kernel
theorem dX1_put_172 : decode cX1_put 172 = .ok (.iastore, 1) := by decide +kernel
theorem dX1_put_173 : decode cX1_put 173 = .ok (.aload_n 0, 1) := by decide +kernel
theorem dX1_put_174 : decode cX1_put 174 = .ok (.getfield 13, 3) := by decide +kernel
theorem dX1_put_177 : decode cX1_put 177 = .ok (.iload 8, 2) := by decide +kernel
theorem dX1_put_179 : decode cX1_put 179 = .ok (.iload_n 2, 1) := by decide +kernel
theorem dX1_put_180 : decode cX1_put 180 = .ok (.iastore, 1) := by decide +kernel
theorem dX1_put_181 : decode cX1_put 181 = .ok (.aload_n 0, 1) := by decide +kernel
theorem dX1_put_182 : decode cX1_put 182 = .ok (.getfield 16, 3) := by decide +kernel
theorem dX1_put_185 : decode cX1_put 185 = .ok (.iload 8, 2) := by decide +kernel
theorem dX1_put_187 : decode cX1_put 187 = .ok (.iload_n 3, 1) := by decide +kernel
theorem dX1_put_188 : decode cX1_put 188 = .ok (.iastore, 1) := by decide +kernel
theorem dX1_put_189 : decode cX1_put 189 = .ok (.aload_n 0, 1) := by decide +kernel
theorem dX1_put_190 : decode cX1_put 190 = .ok (.getfield 19, 3) := by decide +kernel
theorem dX1_put_193 : decode cX1_put 193 = .ok (.iload 8, 2) := by decide +kernel
theorem dX1_put_195 : decode cX1_put 195 = .ok (.iload 4, 2) := by decide +kernel
theorem dX1_put_197 : decode cX1_put 197 = .ok (.iastore, 1) := by decide +kernel
theorem dX1_put_198 : decode cX1_put 198 = .ok (.aload_n 0, 1) := by decide +kernel
theorem dX1_put_199 : decode cX1_put 199 = .ok (.getfield 22, 3) := by decide +kernel
theorem dX1_put_202 : decode cX1_put 202 = .ok (.iload 8, 2) := by decide +kernel
theorem dX1_put_204 : decode cX1_put 204 = .ok (.lload 5, 2) := by decide +kernel
theorem dX1_put_206 : decode cX1_put 206 = .ok (.lastore, 1) := by decide +kernel
theorem dX1_put_207 : decode cX1_put 207 = .ok (.aload_n 0, 1) := by decide +kernel
theorem dX1_put_208 : decode cX1_put 208 = .ok (.getfield 48, 3) := by decide +kernel
theorem dX1_put_211 : decode cX1_put 211 = .ok (.ireturn, 1) := by decide +kernel
theorem dX1_copy_0 : decode cX1_copy 0 = .ok (.aload_n 0, 1) := by decide +kernel
theorem dX1_copy_1 : decode cX1_copy 1 = .ok (.getfield 7, 3) := by decide +kernel
theorem dX1_copy_4 : decode cX1_copy 4 = .ok (.iload_n 2, 1) := by decide +kernel
theorem dX1_copy_5 : decode cX1_copy 5 = .ok (.aload_n 0, 1) := by decide +kernel
theorem dX1_copy_6 : decode cX1_copy 6 = .ok (.getfield 7, 3) := by decide +kernel
theorem dX1_copy_9 : decode cX1_copy 9 = .ok (.iload_n 1, 1) := by decide +kernel
theorem dX1_copy_10 : decode cX1_copy 10 = .ok (.iaload, 1) := by decide +kernel
theorem dX1_copy_11 : decode cX1_copy 11 = .ok (.iastore, 1) := by decide +kernel
theorem dX1_copy_12 : decode cX1_copy 12 = .ok (.aload_n 0, 1) := by decide +kernel
theorem dX1_copy_13 : decode cX1_copy 13 = .ok (.getfield 13, 3) := by decide +kernel
theorem dX1_copy_16 : decode cX1_copy 16 = .ok (.iload_n 2, 1) := by decide +kernel
theorem dX1_copy_17 : decode cX1_copy 17 = .ok (.aload_n 0, 1) := by decide +kernel
theorem dX1_copy_18 : decode cX1_copy 18 = .ok (.getfield 13, 3) := by decide +kernel
theorem dX1_copy_21 : decode cX1_copy 21 = .ok (.iload_n 1, 1) := by decide +kernel
theorem dX1_copy_22 : decode cX1_copy 22 = .ok (.iaload, 1) := by decide +kernel
theorem dX1_copy_23 : decode cX1_copy 23 = .ok (.iastore, 1) := by decide +kernel
theorem dX1_copy_24 : decode cX1_copy 24 = .ok (.aload_n 0, 1) := by decide +kernel
theorem dX1_copy_25 : decode cX1_copy 25 = .ok (.getfield 16, 3) := by decide +kernel
theorem dX1_copy_28 : decode cX1_copy 28 = .ok (.iload_n 2, 1) := by decide +kernel
theorem dX1_copy_29 : decode cX1_copy 29 = .ok (.aload_n 0, 1) := by decide +kernel
theorem dX1_copy_30 : decode cX1_copy 30 = .ok (.getfield 16, 3) := by decide +kernel
theorem dX1_copy_33 : decode cX1_copy 33 = .ok (.iload_n 1, 1) := by decide +kernel
theorem dX1_copy_34 : decode cX1_copy 34 = .ok (.iaload, 1) := by decide +kernel
theorem dX1_copy_35 : decode cX1_copy 35 = .ok (.iastore, 1) := by decide +kernel
theorem dX1_copy_36 : decode cX1_copy 36 = .ok (.aload_n 0, 1) := by decide +kernel
theorem dX1_copy_37 : decode cX1_copy 37 = .ok (.getfield 19, 3) := by decide +kernel
theorem dX1_copy_40 : decode cX1_copy 40 = .ok (.iload_n 2, 1) := by decide +kernel
theorem dX1_copy_41 : decode cX1_copy 41 = .ok (.aload_n 0, 1) := by decide +kernel
theorem dX1_copy_42 : decode cX1_copy 42 = .ok (.getfield 19, 3) := by decide +kernel
theorem dX1_copy_45 : decode cX1_copy 45 = .ok (.iload_n 1, 1) := by decide +kernel
theorem dX1_copy_46 : decode cX1_copy 46 = .ok (.iaload, 1) := by decide +kernel
theorem dX1_copy_47 : decode cX1_copy 47 = .ok (.iastore, 1) := by decide +kernel
theorem dX1_copy_48 : decode cX1_copy 48 = .ok (.aload_n 0, 1) := by decide +kernel
theorem dX1_copy_49 : decode cX1_copy 49 = .ok (.getfield 22, 3) := by decide +kernel
theorem dX1_copy_52 : decode cX1_copy 52 = .ok (.iload_n 2, 1) := by decide +kernel
theorem dX1_copy_53 : decode cX1_copy 53 = .ok (.aload_n 0, 1) := by decide +kernel
theorem dX1_copy_54 : decode cX1_copy 54 = .ok (.getfield 22, 3) := by decide +kernel
theorem dX1_copy_57 : decode cX1_copy 57 = .ok (.iload_n 1, 1) := by decide +kernel
theorem dX1_copy_58 : decode cX1_copy 58 = .ok (.laload, 1) := by decide +kernel
theorem dX1_copy_59 : decode cX1_copy 59 = .ok (.lastore, 1) := by decide +kernel
theorem dX1_copy_60 : decode cX1_copy 60 = .ok (.return_, 1) := by decide +kernel
set_option maxRecDepth 20000 in
theorem ggX1_sweep_X1_copy : GoodIn wsX1_sweep wsX1_copy := goodIn_r _ [7, 8, 9, 10, 11, 2, 12, 13, 14, 15, 16, 17, 18] (by decide +kernel) (by decide +kernel)
set_option maxRecDepth 20000 in
theorem gX1_sweep_X1_copy : GoodIn wsX1_sweep (wsV RX1 67 RX1 yX1_copy wsX1_copy) := goodIn_app (goodIn_of _ (by decide +kernel)) ggX1_sweep_X1_copy
theorem dX1_sweep_0 : decode cX1_sweep 0 = .ok (.iconst 0, 1) := by decide +kernel
theorem dX1_sweep_1 : decode cX1_sweep 1 = .ok (.istore_n 1, 1) := by decide +kernel
theorem dX1_sweep_2 : decode cX1_sweep 2 = .ok (.iconst 0, 1) := by decide +kernel
theorem dX1_sweep_3 : decode cX1_sweep 3 = .ok (.istore_n 2, 1) := by decide +kernel
theorem dX1_sweep_4 : decode cX1_sweep 4 = .ok (.iload_n 2, 1) := by decide +kernel
theorem dX1_sweep_5 : decode cX1_sweep 5 = .ok (.aload_n 0, 1) := by decide +kernel
theorem dX1_sweep_6 : decode cX1_sweep 6 = .ok (.getfield 48, 3) := by decide +kernel
theorem dX1_sweep_9 : decode cX1_sweep 9 = .ok (.if_icmp .ge 29, 3) := by decide +kernel
theorem dX1_sweep_12 : decode cX1_sweep 12 = .ok (.aload_n 0, 1) := by decide +kernel
theorem dX1_sweep_13 : decode cX1_sweep 13 = .ok (.getfield 22, 3) := by decide +kernel
theorem dX1_sweep_16 : decode cX1_sweep 16 = .ok (.iload_n 2, 1) := by decide +kernel
theorem dX1_sweep_17 : decode cX1_sweep 17 = .ok (.laload, 1) := by decide +kernel
theorem dX1_sweep_18 : decode cX1_sweep 18 = .ok (.lconst 0, 1) := by decide +kernel
theorem dX1_sweep_19 : decode cX1_sweep 19 = .ok (.lcmp, 1) := by decide +kernel
theorem dX1_sweep_20 : decode cX1_sweep 20 = .ok (.ifCond .eq 12, 3) := by decide +kernel
theorem dX1_sweep_23 : decode cX1_sweep 23 = .ok (.aload_n 0, 1) := by decide +kernel
theorem dX1_sweep_24 : decode cX1_sweep 24 = .ok (.iload_n 2, 1) := by decide +kernel
theorem dX1_sweep_25 : decode cX1_sweep 25 = .ok (.iload_n 1, 1) := by decide +kernel
theorem dX1_sweep_26 : decode cX1_sweep 26 = .ok (.invokevirtual 67, 3) := by decide +kernel
theorem dX1_sweep_29 : decode cX1_sweep 29 = .ok (.iinc 1 1, 3) := by decide +kernel
theorem dX1_sweep_32 : decode cX1_sweep 32 = .ok (.iinc 2 1, 3) := by decide +kernel
theorem dX1_sweep_35 : decode cX1_sweep 35 = .ok (.goto (-31), 3) := by decide +kernel
theorem dX1_sweep_38 : decode cX1_sweep 38 = .ok (.aload_n 0, 1) := by decide +kernel
theorem dX1_sweep_39 : decode cX1_sweep 39 = .ok (.getfield 48, 3) := by decide +kernel
theorem dX1_sweep_42 : decode cX1_sweep 42 = .ok (.iload_n 1, 1) := by decide +kernel
theorem dX1_sweep_43 : decode cX1_sweep 43 = .ok (.isub, 1) := by decide +kernel
theorem dX1_sweep_44 : decode cX1_sweep 44 = .ok (.istore_n 2, 1) := by decide +kernel
theorem dX1_sweep_45 : decode cX1_sweep 45 = .ok (.aload_n 0, 1) := by decide +kernel
theorem dX1_sweep_46 : decode cX1_sweep 46 = .ok (.iload_n 1, 1) := by decide +kernel
theorem dX1_sweep_47 : decode cX1_sweep 47 = .ok (.putfield 48, 3) := by decide +kernel
theorem dX1_sweep_50 : decode cX1_sweep 50 = .ok (.iload_n 2, 1) := by decide +kernel
theorem dX1_sweep_51 : decode cX1_sweep 51 = .ok (.ireturn, 1) := by decide +kernel
set_option maxRecDepth 20000 in
theorem ggX1_take_X1_isPrefix : GoodIn wsX1_take wsX1_isPrefix := goodIn_r _ [6, 7, 8, 5, 9] (by decide +kernel) (by decide +kernel)
set_option maxRecDepth 20000 in
theorem gX1_take_X1_isPrefix : GoodIn wsX1_take (va_wsS RX1 54 yX1_isPrefix wsX1_isPrefix) := goodIn_app (goodIn_of _ (by decide +kernel)) ggX1_take_X1_isPrefix
set_option maxRecDepth 20000 in
theorem ggX1_take_X1_rank : GoodIn wsX1_take wsX1_rank := goodIn_r _ [12, 13, 14, 15, 16, 5, 17, 18] (by decide +kernel) (by decide +kernel)
set_option maxRecDepth 20000 in
theorem gX1_take_X1_rank : GoodIn wsX1_take (va_wsS RX1 44 yX1_rank wsX1_rank) := goodIn_app (goodIn_of _ (by decide +kernel)) ggX1_take_X1_rank
set_option maxRecDepth 20000 in
theorem ggX1_take_X1_place : GoodIn wsX1_take wsX1_place := goodIn_r _ [22, 23, 24, 25, 26, 5, 27, 28, 29, 30, 10, 11, 12, 13, 14, 15, 16, 17, 18, 44, 45, 46, 47, 48, 49, 50] (by decide +kernel) (by decide +kernel)
set_option maxRecDepth 20000 in
theorem gX1_take_X1_place : GoodIn wsX1_take (wsV RX1 59 RX1 yX1_place wsX1_place) := goodIn_app (goodIn_of _ (by decide +kernel)) ggX1_take_X1_place
set_option maxRecDepth 20000 in
theorem ggX1_take_X1_isThere : GoodIn wsX1_take wsX1_isThere := goodIn_r _ [34, 23, 28, 29, 30, 44, 45, 46, 47, 48, 49, 50] (by decide +kernel) (by decide +kernel)
set_option maxRecDepth 20000 in
theorem gX1_take_X1_isThere : GoodIn wsX1_take (wsV RX1 63 RX1 yX1_isThere wsX1_isThere) := goodIn_app (goodIn_of _ (by decide +kernel)) ggX1_take_X1_isThere
set_option maxRecDepth 20000 in
theorem ggX1_take_X1_sweep : GoodIn wsX1_take wsX1_sweep := goodIn_r _ [38, 23, 2, 39, 40, 41, 5, 42, 28, 29, 30, 43, 44, 45, 46, 47, 48, 49, 50] (by decide +kernel) (by decide +kernel)
set_option maxRecDepth 20000 in
theorem gX1_take_X1_sweep : GoodIn wsX1_take (wsV RX1 71 RX1 yX1_sweep wsX1_sweep) := goodIn_app (goodIn_of _ (by decide +kernel)) ggX1_take_X1_sweep
theorem dX1_take_0 : decode cX1_take 0 = .ok (.iload_n 1, 1) := by decide +kernel
theorem dX1_take_1 : decode cX1_take 1 = .ok (.iload_n 2, 1) := by decide +kernel
theorem dX1_take_2 : decode cX1_take 2 = .ok (.invokestatic 54, 3) := by decide +kernel
theorem dX1_take_5 : decode cX1_take 5 = .ok (.ifCond .eq 17, 3) := by decide +kernel
theorem dX1_take_8 : decode cX1_take 8 = .ok (.iload_n 3, 1) := by decide +kernel
theorem dX1_take_9 : decode cX1_take 9 = .ok (.ifCond .lt 13, 3) := by decide +kernel
theorem dX1_take_12 : decode cX1_take 12 = .ok (.iload_n 3, 1) := by decide +kernel
theorem dX1_take_13 : decode cX1_take 13 = .ok (.bipush 8, 2) := by decide +kernel
theorem dX1_take_15 : decode cX1_take 15 = .ok (.if_icmp .ge 7, 3) := by decide +kernel
theorem dX1_take_18 : decode cX1_take 18 = .ok (.iconst 1, 1) := by decide +kernel
theorem dX1_take_19 : decode cX1_take 19 = .ok (.goto 4, 3) := by decide +kernel
theorem dX1_take_22 : decode cX1_take 22 = .ok (.iconst 0, 1) := by decide +kernel
theorem dX1_take_23 : decode cX1_take 23 = .ok (.istore 4, 2) := by decide +kernel
theorem dX1_take_25 : decode cX1_take 25 = .ok (.aload_n 0, 1) := by decide +kernel
theorem dX1_take_26 : decode cX1_take 26 = .ok (.iload 4, 2) := by decide +kernel
theorem dX1_take_28 : decode cX1_take 28 = .ok (.ifCond .eq 7, 3) := by decide +kernel
theorem dX1_take_31 : decode cX1_take 31 = .ok (.iconst 0, 1) := by decide +kernel
theorem dX1_take_32 : decode cX1_take 32 = .ok (.goto 4, 3) := by decide +kernel
theorem dX1_take_35 : decode cX1_take 35 = .ok (.iconst 1, 1) := by decide +kernel
theorem dX1_take_36 : decode cX1_take 36 = .ok (.putfield 26, 3) := by decide +kernel
theorem dX1_take_39 : decode cX1_take 39 = .ok (.iload 4, 2) := by decide +kernel
theorem dX1_take_41 : decode cX1_take 41 = .ok (.ifCond .eq 16, 3) := by decide +kernel
theorem dX1_take_44 : decode cX1_take 44 = .ok (.aload_n 0, 1) := by decide +kernel
theorem dX1_take_45 : decode cX1_take 45 = .ok (.iload_n 1, 1) := by decide +kernel
theorem dX1_take_46 : decode cX1_take 46 = .ok (.iload_n 2, 1) := by decide +kernel
theorem dX1_take_47 : decode cX1_take 47 = .ok (.iload_n 3, 1) := by decide +kernel
theorem dX1_take_48 : decode cX1_take 48 = .ok (.invokestatic 44, 3) := by decide +kernel
theorem dX1_take_51 : decode cX1_take 51 = .ok (.invokevirtual 59, 3) := by decide +kernel
theorem dX1_take_54 : decode cX1_take 54 = .ok (.goto 4, 3) := by decide +kernel
theorem dX1_take_57 : decode cX1_take 57 = .ok (.iconst 0, 1) := by decide +kernel
theorem dX1_take_58 : decode cX1_take 58 = .ok (.istore 5, 2) := by decide +kernel
theorem dX1_take_60 : decode cX1_take 60 = .ok (.iload 4, 2) := by decide +kernel
theorem dX1_take_62 : decode cX1_take 62 = .ok (.ifCond .eq 15, 3) := by decide +kernel
theorem dX1_take_65 : decode cX1_take 65 = .ok (.aload_n 0, 1) := by decide +kernel
theorem dX1_take_66 : decode cX1_take 66 = .ok (.iload 5, 2) := by decide +kernel
theorem dX1_take_68 : decode cX1_take 68 = .ok (.iload_n 1, 1) := by decide +kernel
theorem dX1_take_69 : decode cX1_take 69 = .ok (.iload_n 2, 1) := by decide +kernel
theorem dX1_take_70 : decode cX1_take 70 = .ok (.iload_n 3, 1) := by decide +kernel
theorem dX1_take_71 : decode cX1_take 71 = .ok (.invokevirtual 63, 3) := by decide +kernel
theorem dX1_take_74 : decode cX1_take 74 = .ok (.ifCond .ne 5, 3) := by decide +kernel
theorem dX1_take_77 : decode cX1_take 77 = .ok (.iconst 0, 1) := by decide +kernel
theorem dX1_take_78 : decode cX1_take 78 = .ok (.ireturn, 1) := by decide +kernel
theorem dX1_take_79 : decode cX1_take 79 = .ok (.aload_n 0, 1) := by decide +kernel
theorem dX1_take_80 : decode cX1_take 80 = .ok (.getfield 22, 3) := by decide +kernel
theorem dX1_take_83 : decode cX1_take 83 = .ok (.iload 5, 2) := by decide +kernel
theorem dX1_take_85 : decode cX1_take 85 = .ok (.lconst 0, 1) := by decide +kernel
theorem dX1_take_86 : decode cX1_take 86 = .ok (.lastore, 1) := by decide +kernel
theorem dX1_take_87 : decode cX1_take 87 = .ok (.aload_n 0, 1) := by decide +kernel
theorem dX1_take_88 : decode cX1_take 88 = .ok (.invokevirtual 71, 3) := by decide +kernel
theorem dX1_take_91 : decode cX1_take 91 = .ok (.iconst 1, 1) := by decide +kernel
theorem dX1_take_92 : decode cX1_take 92 = .ok (.if_icmp .ne 7, 3) := by decide +kernel
theorem dX1_take_95 : decode cX1_take 95 = .ok (.iconst 1, 1) := by decide +kernel
theorem dX1_take_96 : decode cX1_take 96 = .ok (.goto 4, 3) := by decide +kernel
theorem dX1_take_99 : decode cX1_take 99 = .ok (.iconst 0, 1) := by decide +kernel
theorem dX1_take_100 : decode cX1_take 100 = .ok (.ireturn, 1) := by decide +kernel
set_option maxRecDepth 20000 in
theorem ggX1_drop_X1_sweep : GoodIn wsX1_drop wsX1_sweep := goodIn_r _ [9, 2, 3, 10, 11, 12, 8, 13, 14, 15, 4, 16, 17, 18, 19, 20, 21, 22, 23] (by decide +kernel) (by decide +kernel)
set_option maxRecDepth 20000 in
theorem gX1_drop_X1_sweep : GoodIn wsX1_drop (wsV RX1 71 RX1 yX1_sweep wsX1_sweep) := goodIn_app (goodIn_of _ (by decide +kernel)) ggX1_drop_X1_sweep
theorem dX1_drop_0 : decode cX1_drop 0 = .ok (.aload_n 0, 1) := by decide +kernel
theorem dX1_drop_1 : decode cX1_drop 1 = .ok (.iload_n 1, 1) := by decide +kernel
theorem dX1_drop_2 : decode cX1_drop 2 = .ok (.ifCond .lt 9, 3) := by decide +kernel
theorem dX1_drop_5 : decode cX1_drop 5 = .ok (.iload_n 1, 1) := by decide +kernel
theorem dX1_drop_6 : decode cX1_drop 6 = .ok (.bipush 7, 2) := by decide +kernel
theorem dX1_drop_8 : decode cX1_drop 8 = .ok (.if_icmp .le 7, 3) := by decide +kernel
theorem dX1_drop_11 : decode cX1_drop 11 = .ok (.iconst 1, 1) := by decide +kernel
theorem dX1_drop_12 : decode cX1_drop 12 = .ok (.goto 4, 3) := by decide +kernel
theorem dX1_drop_15 : decode cX1_drop 15 = .ok (.iconst 0, 1) := by decide +kernel
theorem dX1_drop_16 : decode cX1_drop 16 = .ok (.putfield 26, 3) := by decide +kernel
theorem dX1_drop_19 : decode cX1_drop 19 = .ok (.aload_n 0, 1) := by decide +kernel
theorem dX1_drop_20 : decode cX1_drop 20 = .ok (.getfield 26, 3) := by decide +kernel
theorem dX1_drop_23 : decode cX1_drop 23 = .ok (.ifCond .le 5, 3) := by decide +kernel
theorem dX1_drop_26 : decode cX1_drop 26 = .ok (.iconst 0, 1) := by decide +kernel
theorem dX1_drop_27 : decode cX1_drop 27 = .ok (.ireturn, 1) := by decide +kernel
theorem dX1_drop_28 : decode cX1_drop 28 = .ok (.iconst 0, 1) := by decide +kernel
theorem dX1_drop_29 : decode cX1_drop 29 = .ok (.istore_n 2, 1) := by decide +kernel
theorem dX1_drop_30 : decode cX1_drop 30 = .ok (.iload_n 2, 1) := by decide +kernel
theorem dX1_drop_31 : decode cX1_drop 31 = .ok (.aload_n 0, 1) := by decide +kernel
theorem dX1_drop_32 : decode cX1_drop 32 = .ok (.getfield 48, 3) := by decide +kernel
theorem dX1_drop_35 : decode cX1_drop 35 = .ok (.if_icmp .ge 35, 3) := by decide +kernel
theorem dX1_drop_38 : decode cX1_drop 38 = .ok (.aload_n 0, 1) := by decide +kernel
theorem dX1_drop_39 : decode cX1_drop 39 = .ok (.getfield 22, 3) := by decide +kernel
theorem dX1_drop_42 : decode cX1_drop 42 = .ok (.iload_n 2, 1) := by decide +kernel
theorem dX1_drop_43 : decode cX1_drop 43 = .ok (.aload_n 0, 1) := by decide +kernel
theorem dX1_drop_44 : decode cX1_drop 44 = .ok (.getfield 16, 3) := by decide +kernel
theorem dX1_drop_47 : decode cX1_drop 47 = .ok (.iload_n 2, 1) := by decide +kernel
theorem dX1_drop_48 : decode cX1_drop 48 = .ok (.iaload, 1) := by decide +kernel
theorem dX1_drop_49 : decode cX1_drop 49 = .ok (.iload_n 1, 1) := by decide +kernel
theorem dX1_drop_50 : decode cX1_drop 50 = .ok (.if_icmp .ne 7, 3) := by decide +kernel
theorem dX1_drop_53 : decode cX1_drop 53 = .ok (.lconst 0, 1) := by decide +kernel
theorem dX1_drop_54 : decode cX1_drop 54 = .ok (.goto 9, 3) := by decide +kernel
theorem dX1_drop_57 : decode cX1_drop 57 = .ok (.aload_n 0, 1) := by decide +kernel
theorem dX1_drop_58 : decode cX1_drop 58 = .ok (.getfield 22, 3) := by decide +kernel
theorem dX1_drop_61 : decode cX1_drop 61 = .ok (.iload_n 2, 1) := by decide +kernel
theorem dX1_drop_62 : decode cX1_drop 62 = .ok (.laload, 1) := by decide +kernel
theorem dX1_drop_63 : decode cX1_drop 63 = .ok (.lastore, 1) := by decide +kernel
theorem dX1_drop_64 : decode cX1_drop 64 = .ok (.iinc 2 1, 3) := by decide +kernel
theorem dX1_drop_67 : decode cX1_drop 67 = .ok (.goto (-37), 3) := by decide +kernel
theorem dX1_drop_70 : decode cX1_drop 70 = .ok (.aload_n 0, 1) := by decide +kernel
theorem dX1_drop_71 : decode cX1_drop 71 = .ok (.invokevirtual 71, 3) := by decide +kernel
theorem dX1_drop_74 : decode cX1_drop 74 = .ok (.ireturn, 1) := by decide +kernel
set_option maxRecDepth 20000 in
theorem ggX1_cut_X1_sweep : GoodIn wsX1_cut wsX1_sweep := goodIn_r _ [9, 2, 3, 10, 11, 12, 8, 13, 14, 15, 16, 17, 18, 19, 20, 21, 22, 23, 24] (by decide +kernel) (by decide +kernel)
set_option maxRecDepth 20000 in
theorem gX1_cut_X1_sweep : GoodIn wsX1_cut (wsV RX1 71 RX1 yX1_sweep wsX1_sweep) := goodIn_app (goodIn_of _ (by decide +kernel)) ggX1_cut_X1_sweep
theorem dX1_cut_0 : decode cX1_cut 0 = .ok (.aload_n 0, 1) := by decide +kernel
theorem dX1_cut_1 : decode cX1_cut 1 = .ok (.iload_n 1, 1) := by decide +kernel
theorem dX1_cut_2 : decode cX1_cut 2 = .ok (.ifCond .lt 9, 3) := by decide +kernel
theorem dX1_cut_5 : decode cX1_cut 5 = .ok (.iload_n 1, 1) := by decide +kernel
theorem dX1_cut_6 : decode cX1_cut 6 = .ok (.bipush 63, 2) := by decide +kernel
theorem dX1_cut_8 : decode cX1_cut 8 = .ok (.if_icmp .le 7, 3) := by decide +kernel
theorem dX1_cut_11 : decode cX1_cut 11 = .ok (.iconst 1, 1) := by decide +kernel
theorem dX1_cut_12 : decode cX1_cut 12 = .ok (.goto 4, 3) := by decide +kernel
theorem dX1_cut_15 : decode cX1_cut 15 = .ok (.iconst 0, 1) := by decide +kernel
theorem dX1_cut_16 : decode cX1_cut 16 = .ok (.putfield 26, 3) := by decide +kernel
theorem dX1_cut_19 : decode cX1_cut 19 = .ok (.aload_n 0, 1) := by decide +kernel
theorem dX1_cut_20 : decode cX1_cut 20 = .ok (.getfield 26, 3) := by decide +kernel
theorem dX1_cut_23 : decode cX1_cut 23 = .ok (.ifCond .le 5, 3) := by decide +kernel
theorem dX1_cut_26 : decode cX1_cut 26 = .ok (.iconst 0, 1) := by decide +kernel
theorem dX1_cut_27 : decode cX1_cut 27 = .ok (.ireturn, 1) := by decide +kernel
theorem dX1_cut_28 : decode cX1_cut 28 = .ok (.iconst 0, 1) := by decide +kernel
theorem dX1_cut_29 : decode cX1_cut 29 = .ok (.istore_n 2, 1) := by decide +kernel
theorem dX1_cut_30 : decode cX1_cut 30 = .ok (.iload_n 2, 1) := by decide +kernel
theorem dX1_cut_31 : decode cX1_cut 31 = .ok (.aload_n 0, 1) := by decide +kernel
theorem dX1_cut_32 : decode cX1_cut 32 = .ok (.getfield 48, 3) := by decide +kernel
theorem dX1_cut_35 : decode cX1_cut 35 = .ok (.if_icmp .ge 29, 3) := by decide +kernel
theorem dX1_cut_38 : decode cX1_cut 38 = .ok (.aload_n 0, 1) := by decide +kernel
theorem dX1_cut_39 : decode cX1_cut 39 = .ok (.getfield 22, 3) := by decide +kernel
theorem dX1_cut_42 : decode cX1_cut 42 = .ok (.iload_n 2, 1) := by decide +kernel
theorem dX1_cut_43 : decode cX1_cut 43 = .ok (.aload_n 0, 1) := by decide +kernel
theorem dX1_cut_44 : decode cX1_cut 44 = .ok (.getfield 22, 3) := by decide +kernel
theorem dX1_cut_47 : decode cX1_cut 47 = .ok (.iload_n 2, 1) := by decide +kernel
theorem dX1_cut_48 : decode cX1_cut 48 = .ok (.laload, 1) := by decide +kernel
theorem dX1_cut_49 : decode cX1_cut 49 = .ok (.lconst 1, 1) := by decide +kernel
theorem dX1_cut_50 : decode cX1_cut 50 = .ok (.iload_n 1, 1) := by decide +kernel
theorem dX1_cut_51 : decode cX1_cut 51 = .ok (.lshl, 1) := by decide +kernel
theorem dX1_cut_52 : decode cX1_cut 52 = .ok (.ldc2_w 75, 3) := by decide +kernel
theorem dX1_cut_55 : decode cX1_cut 55 = .ok (.lxor, 1) := by decide +kernel
theorem dX1_cut_56 : decode cX1_cut 56 = .ok (.land, 1) := by decide +kernel
theorem dX1_cut_57 : decode cX1_cut 57 = .ok (.lastore, 1) := by decide +kernel
theorem dX1_cut_58 : decode cX1_cut 58 = .ok (.iinc 2 1, 3) := by decide +kernel
theorem dX1_cut_61 : decode cX1_cut 61 = .ok (.goto (-31), 3) := by decide +kernel
theorem dX1_cut_64 : decode cX1_cut 64 = .ok (.aload_n 0, 1) := by decide +kernel
theorem dX1_cut_65 : decode cX1_cut 65 = .ok (.invokevirtual 71, 3) := by decide +kernel
theorem dX1_cut_68 : decode cX1_cut 68 = .ok (.ireturn, 1) := by decide +kernel
theorem dX1_size_0 : decode cX1_size 0 = .ok (.iconst 0, 1) := by decide +kernel
theorem dX1_size_1 : decode cX1_size 1 = .ok (.istore_n 2, 1) := by decide +kernel
theorem dX1_size_2 : decode cX1_size 2 = .ok (.iconst 0, 1) := by decide +kernel
theorem dX1_size_3 : decode cX1_size 3 = .ok (.istore_n 3, 1) := by decide +kernel
theorem dX1_size_4 : decode cX1_size 4 = .ok (.iload_n 3, 1) := by decide +kernel
theorem dX1_size_5 : decode cX1_size 5 = .ok (.bipush 64, 2) := by decide +kernel
theorem dX1_size_7 : decode cX1_size 7 = .ok (.if_icmp .ge 27, 3) := by decide +kernel
theorem dX1_size_10 : decode cX1_size 10 = .ok (.iload_n 2, 1) := by decide +kernel
theorem dX1_size_11 : decode cX1_size 11 = .ok (.lload_n 0, 1) := by decide +kernel
theorem dX1_size_12 : decode cX1_size 12 = .ok (.iload_n 3, 1) := by decide +kernel
theorem dX1_size_13 : decode cX1_size 13 = .ok (.lshr, 1) := by decide +kernel
theorem dX1_size_14 : decode cX1_size 14 = .ok (.lconst 1, 1) := by decide +kernel
theorem dX1_size_15 : decode cX1_size 15 = .ok (.land, 1) := by decide +kernel
theorem dX1_size_16 : decode cX1_size 16 = .ok (.lconst 1, 1) := by decide +kernel
theorem dX1_size_17 : decode cX1_size 17 = .ok (.lcmp, 1) := by decide +kernel
theorem dX1_size_18 : decode cX1_size 18 = .ok (.ifCond .ne 7, 3) := by decide +kernel
theorem dX1_size_21 : decode cX1_size 21 = .ok (.iconst 1, 1) := by decide +kernel
theorem dX1_size_22 : decode cX1_size 22 = .ok (.goto 4, 3) := by decide +kernel
theorem dX1_size_25 : decode cX1_size 25 = .ok (.iconst 0, 1) := by decide +kernel
theorem dX1_size_26 : decode cX1_size 26 = .ok (.iadd, 1) := by decide +kernel
theorem dX1_size_27 : decode cX1_size 27 = .ok (.istore_n 2, 1) := by decide +kernel
theorem dX1_size_28 : decode cX1_size 28 = .ok (.iinc 3 1, 3) := by decide +kernel
theorem dX1_size_31 : decode cX1_size 31 = .ok (.goto (-27), 3) := by decide +kernel
theorem dX1_size_34 : decode cX1_size 34 = .ok (.iload_n 2, 1) := by decide +kernel
theorem dX1_size_35 : decode cX1_size 35 = .ok (.ireturn, 1) := by decide +kernel
set_option maxRecDepth 20000 in
theorem ggX1_route_X1_isPrefix : GoodIn wsX1_route wsX1_isPrefix := goodIn_r _ [11, 12, 13, 10, 14] (by decide +kernel) (by decide +kernel)
set_option maxRecDepth 20000 in
theorem gX1_route_X1_isPrefix : GoodIn wsX1_route (va_wsS RX1 54 yX1_isPrefix wsX1_isPrefix) := goodIn_app (goodIn_of _ (by decide +kernel)) ggX1_route_X1_isPrefix
set_option maxRecDepth 20000 in
theorem ggX1_route_X1_rank : GoodIn wsX1_route wsX1_rank := goodIn_r _ [17, 18, 19, 20, 21, 10, 22, 23] (by decide +kernel) (by decide +kernel)
set_option maxRecDepth 20000 in
theorem gX1_route_X1_rank : GoodIn wsX1_route (va_wsS RX1 44 yX1_rank wsX1_rank) := goodIn_app (goodIn_of _ (by decide +kernel)) ggX1_route_X1_rank
set_option maxRecDepth 20000 in
theorem ggX1_route_X1_place : GoodIn wsX1_route wsX1_place := goodIn_r _ [27, 2, 28, 29, 30, 10, 31, 3, 4, 6, 15, 16, 17, 18, 19, 20, 21, 22, 23, 39, 40, 41, 42, 43, 44, 45] (by decide +kernel) (by decide +kernel)
set_option maxRecDepth 20000 in
theorem gX1_route_X1_place : GoodIn wsX1_route (wsV RX1 59 RX1 yX1_place wsX1_place) := goodIn_app (goodIn_of _ (by decide +kernel)) ggX1_route_X1_place
set_option maxRecDepth 20000 in
theorem ggX1_route_X1_isThere : GoodIn wsX1_route wsX1_isThere := goodIn_r _ [35, 2, 3, 4, 6, 39, 40, 41, 42, 43, 44, 45] (by decide +kernel) (by decide +kernel)
set_option maxRecDepth 20000 in
theorem gX1_route_X1_isThere : GoodIn wsX1_route (wsV RX1 63 RX1 yX1_isThere wsX1_isThere) := goodIn_app (goodIn_of _ (by decide +kernel)) ggX1_route_X1_isThere
set_option maxRecDepth 20000 in
theorem ggX1_route_X1_size : GoodIn wsX1_route wsX1_size := goodIn_r _ [38] (by decide +kernel) (by decide +kernel)
set_option maxRecDepth 20000 in
theorem gX1_route_X1_size : GoodIn wsX1_route (va_wsS RX1 77 yX1_size wsX1_size) := goodIn_app (goodIn_of _ (by decide +kernel)) ggX1_route_X1_size
theorem dX1_route_0 : decode cX1_route 0 = .ok (.iload_n 1, 1) := by decide +kernel
theorem dX1_route_1 : decode cX1_route 1 = .ok (.iload_n 2, 1) := by decide +kernel
theorem dX1_route_2 : decode cX1_route 2 = .ok (.invokestatic 54, 3) := by decide +kernel
theorem dX1_route_5 : decode cX1_route 5 = .ok (.ifCond .eq 29, 3) := by decide +kernel
theorem dX1_route_8 : decode cX1_route 8 = .ok (.iload_n 3, 1) := by decide +kernel
theorem dX1_route_9 : decode cX1_route 9 = .ok (.iconst (-1), 1) := by decide +kernel
theorem dX1_route_10 : decode cX1_route 10 = .ok (.if_icmp .lt 24, 3) := by decide +kernel
theorem dX1_route_13 : decode cX1_route 13 = .ok (.iload_n 3, 1) := by decide +kernel
theorem dX1_route_14 : decode cX1_route 14 = .ok (.bipush 8, 2) := by decide +kernel
theorem dX1_route_16 : decode cX1_route 16 = .ok (.if_icmp .ge 18, 3) := by decide +kernel
theorem dX1_route_19 : decode cX1_route 19 = .ok (.iload 4, 2) := by decide +kernel
theorem dX1_route_21 : decode cX1_route 21 = .ok (.ifCond .lt 13, 3) := by decide +kernel
theorem dX1_route_24 : decode cX1_route 24 = .ok (.iload 4, 2) := by decide +kernel
theorem dX1_route_26 : decode cX1_route 26 = .ok (.iconst 2, 1) := by decide +kernel
theorem dX1_route_27 : decode cX1_route 27 = .ok (.if_icmp .gt 7, 3) := by decide +kernel
theorem dX1_route_30 : decode cX1_route 30 = .ok (.iconst 1, 1) := by decide +kernel
theorem dX1_route_31 : decode cX1_route 31 = .ok (.goto 4, 3) := by decide +kernel
theorem dX1_route_34 : decode cX1_route 34 = .ok (.iconst 0, 1) := by decide +kernel
theorem dX1_route_35 : decode cX1_route 35 = .ok (.istore 5, 2) := by decide +kernel
theorem dX1_route_37 : decode cX1_route 37 = .ok (.aload_n 0, 1) := by decide +kernel
theorem dX1_route_38 : decode cX1_route 38 = .ok (.iload 5, 2) := by decide +kernel
theorem dX1_route_40 : decode cX1_route 40 = .ok (.ifCond .eq 7, 3) := by decide +kernel
theorem dX1_route_43 : decode cX1_route 43 = .ok (.iconst 0, 1) := by decide +kernel
theorem dX1_route_44 : decode cX1_route 44 = .ok (.goto 4, 3) := by decide +kernel
theorem dX1_route_47 : decode cX1_route 47 = .ok (.iconst 1, 1) := by decide +kernel
theorem dX1_route_48 : decode cX1_route 48 = .ok (.putfield 26, 3) := by decide +kernel
theorem dX1_route_51 : decode cX1_route 51 = .ok (.iload 5, 2) := by decide +kernel
theorem dX1_route_53 : decode cX1_route 53 = .ok (.ifCond .ne 5, 3) := by decide +kernel
theorem dX1_route_56 : decode cX1_route 56 = .ok (.iconst 0, 1) := by decide +kernel
theorem dX1_route_57 : decode cX1_route 57 = .ok (.ireturn, 1) := by decide +kernel
theorem dX1_route_58 : decode cX1_route 58 = .ok (.aload_n 0, 1) := by decide +kernel
theorem dX1_route_59 : decode cX1_route 59 = .ok (.iload_n 1, 1) := by decide +kernel
theorem dX1_route_60 : decode cX1_route 60 = .ok (.iload_n 2, 1) := by decide +kernel
theorem dX1_route_61 : decode cX1_route 61 = .ok (.iload_n 3, 1) := by decide +kernel
theorem dX1_route_62 : decode cX1_route 62 = .ok (.ifCond .ge 7, 3) := by decide +kernel
theorem dX1_route_65 : decode cX1_route 65 = .ok (.iconst 0, 1) := by decide +kernel
theorem dX1_route_66 : decode cX1_route 66 = .ok (.goto 4, 3) := by decide +kernel
theorem dX1_route_69 : decode cX1_route 69 = .ok (.iload_n 3, 1) := by decide +kernel
theorem dX1_route_70 : decode cX1_route 70 = .ok (.invokestatic 44, 3) := by decide +kernel
theorem dX1_route_73 : decode cX1_route 73 = .ok (.invokevirtual 59, 3) := by decide +kernel
theorem dX1_route_76 : decode cX1_route 76 = .ok (.istore 6, 2) := by decide +kernel
theorem dX1_route_78 : decode cX1_route 78 = .ok (.iload_n 3, 1) := by decide +kernel
theorem dX1_route_79 : decode cX1_route 79 = .ok (.ifCond .ge 42, 3) := by decide +kernel
theorem dX1_route_82 : decode cX1_route 82 = .ok (.iload 6, 2) := by decide +kernel
theorem dX1_route_84 : decode cX1_route 84 = .ok (.aload_n 0, 1) := by decide +kernel
theorem dX1_route_85 : decode cX1_route 85 = .ok (.getfield 48, 3) := by decide +kernel
theorem dX1_route_88 : decode cX1_route 88 = .ok (.if_icmp .ge 29, 3) := by decide +kernel
theorem dX1_route_91 : decode cX1_route 91 = .ok (.aload_n 0, 1) := by decide +kernel
theorem dX1_route_92 : decode cX1_route 92 = .ok (.getfield 7, 3) := by decide +kernel
theorem dX1_route_95 : decode cX1_route 95 = .ok (.iload 6, 2) := by decide +kernel
theorem dX1_route_97 : decode cX1_route 97 = .ok (.iaload, 1) := by decide +kernel
theorem dX1_route_98 : decode cX1_route 98 = .ok (.iload_n 1, 1) := by decide +kernel
theorem dX1_route_99 : decode cX1_route 99 = .ok (.if_icmp .ne 18, 3) := by decide +kernel
theorem dX1_route_102 : decode cX1_route 102 = .ok (.aload_n 0, 1) := by decide +kernel
theorem dX1_route_103 : decode cX1_route 103 = .ok (.getfield 13, 3) := by decide +kernel
theorem dX1_route_106 : decode cX1_route 106 = .ok (.iload 6, 2) := by decide +kernel
theorem dX1_route_108 : decode cX1_route 108 = .ok (.iaload, 1) := by decide +kernel
theorem dX1_route_109 : decode cX1_route 109 = .ok (.iload_n 2, 1) := by decide +kernel
theorem dX1_route_110 : decode cX1_route 110 = .ok (.if_icmp .ne 7, 3) := by decide +kernel
theorem dX1_route_113 : decode cX1_route 113 = .ok (.iconst 1, 1) := by decide +kernel
theorem dX1_route_114 : decode cX1_route 114 = .ok (.goto 16, 3) := by decide +kernel
theorem dX1_route_117 : decode cX1_route 117 = .ok (.iconst 0, 1) := by decide +kernel
theorem dX1_route_118 : decode cX1_route 118 = .ok (.goto 12, 3) := by decide +kernel
theorem dX1_route_121 : decode cX1_route 121 = .ok (.aload_n 0, 1) := by decide +kernel
theorem dX1_route_122 : decode cX1_route 122 = .ok (.iload 6, 2) := by decide +kernel
theorem dX1_route_124 : decode cX1_route 124 = .ok (.iload_n 1, 1) := by decide +kernel
theorem dX1_route_125 : decode cX1_route 125 = .ok (.iload_n 2, 1) := by decide +kernel
theorem dX1_route_126 : decode cX1_route 126 = .ok (.iload_n 3, 1) := by decide +kernel
theorem dX1_route_127 : decode cX1_route 127 = .ok (.invokevirtual 63, 3) := by decide +kernel
theorem dX1_route_130 : decode cX1_route 130 = .ok (.istore 7, 2) := by decide +kernel
theorem dX1_route_132 : decode cX1_route 132 = .ok (.iload 7, 2) := by decide +kernel
theorem dX1_route_134 : decode cX1_route 134 = .ok (.ifCond .ne 7, 3) := by decide +kernel
theorem dX1_route_137 : decode cX1_route 137 = .ok (.iconst (-1), 1) := by decide +kernel
theorem dX1_route_138 : decode cX1_route 138 = .ok (.goto 44, 3) := by decide +kernel
theorem dX1_route_141 : decode cX1_route 141 = .ok (.iload 4, 2) := by decide +kernel
theorem dX1_route_143 : decode cX1_route 143 = .ok (.ifCond .ne 13, 3) := by decide +kernel
theorem dX1_route_146 : decode cX1_route 146 = .ok (.aload_n 0, 1) := by decide +kernel
theorem dX1_route_147 : decode cX1_route 147 = .ok (.getfield 19, 3) := by decide +kernel
theorem dX1_route_150 : decode cX1_route 150 = .ok (.iload 6, 2) := by decide +kernel
theorem dX1_route_152 : decode cX1_route 152 = .ok (.iaload, 1) := by decide +kernel
theorem dX1_route_153 : decode cX1_route 153 = .ok (.goto 29, 3) := by decide +kernel
theorem dX1_route_156 : decode cX1_route 156 = .ok (.iload 4, 2) := by decide +kernel
theorem dX1_route_158 : decode cX1_route 158 = .ok (.iconst 1, 1) := by decide +kernel
theorem dX1_route_159 : decode cX1_route 159 = .ok (.if_icmp .ne 13, 3) := by decide +kernel
theorem dX1_route_162 : decode cX1_route 162 = .ok (.aload_n 0, 1) := by decide +kernel
theorem dX1_route_163 : decode cX1_route 163 = .ok (.getfield 16, 3) := by decide +kernel
theorem dX1_route_166 : decode cX1_route 166 = .ok (.iload 6, 2) := by decide +kernel
theorem dX1_route_168 : decode cX1_route 168 = .ok (.iaload, 1) := by decide +kernel
theorem dX1_route_169 : decode cX1_route 169 = .ok (.goto 13, 3) := by decide +kernel
theorem dX1_route_172 : decode cX1_route 172 = .ok (.aload_n 0, 1) := by decide +kernel
theorem dX1_route_173 : decode cX1_route 173 = .ok (.getfield 22, 3) := by decide +kernel
theorem dX1_route_176 : decode cX1_route 176 = .ok (.iload 6, 2) := by decide +kernel
theorem dX1_route_178 : decode cX1_route 178 = .ok (.laload, 1) := by decide +kernel
theorem dX1_route_179 : decode cX1_route 179 = .ok (.invokestatic 77, 3) := by decide +kernel
theorem dX1_route_182 : decode cX1_route 182 = .ok (.ireturn, 1) := by decide +kernel
set_option maxRecDepth 20000 in
theorem ggX1_best_X1_isMore : GoodIn wsX1_best wsX1_isMore := goodIn_r _ [7, 8, 2, 16, 17, 18, 19, 20, 21, 22] (by decide +kernel) (by decide +kernel)
set_option maxRecDepth 20000 in
theorem gX1_best_X1_isMore : GoodIn wsX1_best (wsV RX1 80 RX1 yX1_isMore wsX1_isMore) := goodIn_app (goodIn_of _ (by decide +kernel)) ggX1_best_X1_isMore
set_option maxRecDepth 20000 in
theorem ggX1_best_X1_has : GoodIn wsX1_best wsX1_has := goodIn_r _ [12, 8, 2, 13, 14, 6, 15, 16, 17, 18, 19, 20, 21, 22] (by decide +kernel) (by decide +kernel)
set_option maxRecDepth 20000 in
theorem gX1_best_X1_has : GoodIn wsX1_best (wsV RX1 84 RX1 yX1_has wsX1_has) := goodIn_app (goodIn_of _ (by decide +kernel)) ggX1_best_X1_has
theorem dX1_best_0 : decode cX1_best 0 = .ok (.iconst (-1), 1) := by decide +kernel
theorem dX1_best_1 : decode cX1_best 1 = .ok (.istore_n 3, 1) := by decide +kernel
theorem dX1_best_2 : decode cX1_best 2 = .ok (.iconst 0, 1) := by decide +kernel
theorem dX1_best_3 : decode cX1_best 3 = .ok (.istore 4, 2) := by decide +kernel
theorem dX1_best_5 : decode cX1_best 5 = .ok (.iload 4, 2) := by decide +kernel
theorem dX1_best_7 : decode cX1_best 7 = .ok (.aload_n 0, 1) := by decide +kernel
theorem dX1_best_8 : decode cX1_best 8 = .ok (.getfield 48, 3) := by decide +kernel
theorem dX1_best_11 : decode cX1_best 11 = .ok (.if_icmp .ge 78, 3) := by decide +kernel
theorem dX1_best_14 : decode cX1_best 14 = .ok (.aload_n 0, 1) := by decide +kernel
theorem dX1_best_15 : decode cX1_best 15 = .ok (.iload 4, 2) := by decide +kernel
theorem dX1_best_17 : decode cX1_best 17 = .ok (.invokevirtual 80, 3) := by decide +kernel
theorem dX1_best_20 : decode cX1_best 20 = .ok (.ifCond .ne 28, 3) := by decide +kernel
theorem dX1_best_23 : decode cX1_best 23 = .ok (.aload_n 0, 1) := by decide +kernel
theorem dX1_best_24 : decode cX1_best 24 = .ok (.getfield 13, 3) := by decide +kernel
theorem dX1_best_27 : decode cX1_best 27 = .ok (.iload 4, 2) := by decide +kernel
theorem dX1_best_29 : decode cX1_best 29 = .ok (.iaload, 1) := by decide +kernel
theorem dX1_best_30 : decode cX1_best 30 = .ok (.iload_n 2, 1) := by decide +kernel
theorem dX1_best_31 : decode cX1_best 31 = .ok (.if_icmp .ge 17, 3) := by decide +kernel
theorem dX1_best_34 : decode cX1_best 34 = .ok (.aload_n 0, 1) := by decide +kernel
theorem dX1_best_35 : decode cX1_best 35 = .ok (.iload 4, 2) := by decide +kernel
theorem dX1_best_37 : decode cX1_best 37 = .ok (.iload_n 1, 1) := by decide +kernel
theorem dX1_best_38 : decode cX1_best 38 = .ok (.invokevirtual 84, 3) := by decide +kernel
theorem dX1_best_41 : decode cX1_best 41 = .ok (.ifCond .eq 7, 3) := by decide +kernel
theorem dX1_best_44 : decode cX1_best 44 = .ok (.iconst 1, 1) := by decide +kernel
theorem dX1_best_45 : decode cX1_best 45 = .ok (.goto 4, 3) := by decide +kernel
theorem dX1_best_48 : decode cX1_best 48 = .ok (.iconst 0, 1) := by decide +kernel
theorem dX1_best_49 : decode cX1_best 49 = .ok (.istore 5, 2) := by decide +kernel
theorem dX1_best_51 : decode cX1_best 51 = .ok (.iload 5, 2) := by decide +kernel
theorem dX1_best_53 : decode cX1_best 53 = .ok (.ifCond .eq 28, 3) := by decide +kernel
theorem dX1_best_56 : decode cX1_best 56 = .ok (.iload_n 3, 1) := by decide +kernel
theorem dX1_best_57 : decode cX1_best 57 = .ok (.ifCond .lt 19, 3) := by decide +kernel
theorem dX1_best_60 : decode cX1_best 60 = .ok (.aload_n 0, 1) := by decide +kernel
theorem dX1_best_61 : decode cX1_best 61 = .ok (.getfield 13, 3) := by decide +kernel
theorem dX1_best_64 : decode cX1_best 64 = .ok (.iload 4, 2) := by decide +kernel
theorem dX1_best_66 : decode cX1_best 66 = .ok (.iaload, 1) := by decide +kernel
theorem dX1_best_67 : decode cX1_best 67 = .ok (.aload_n 0, 1) := by decide +kernel
theorem dX1_best_68 : decode cX1_best 68 = .ok (.getfield 13, 3) := by decide +kernel
theorem dX1_best_71 : decode cX1_best 71 = .ok (.iload_n 3, 1) := by decide +kernel
theorem dX1_best_72 : decode cX1_best 72 = .ok (.iaload, 1) := by decide +kernel
theorem dX1_best_73 : decode cX1_best 73 = .ok (.if_icmp .le 8, 3) := by decide +kernel
theorem dX1_best_76 : decode cX1_best 76 = .ok (.iload 4, 2) := by decide +kernel
theorem dX1_best_78 : decode cX1_best 78 = .ok (.goto 4, 3) := by decide +kernel
theorem dX1_best_81 : decode cX1_best 81 = .ok (.iload_n 3, 1) := by decide +kernel
theorem dX1_best_82 : decode cX1_best 82 = .ok (.istore_n 3, 1) := by decide +kernel
theorem dX1_best_83 : decode cX1_best 83 = .ok (.iinc 4 1, 3) := by decide +kernel
theorem dX1_best_86 : decode cX1_best 86 = .ok (.goto (-81), 3) := by decide +kernel
theorem dX1_best_89 : decode cX1_best 89 = .ok (.iload_n 3, 1) := by decide +kernel
theorem dX1_best_90 : decode cX1_best 90 = .ok (.ireturn, 1) := by decide +kernel
set_option maxRecDepth 20000 in
theorem ggX1_look_X1_best : GoodIn wsX1_look wsX1_best := goodIn_r _ [7, 8, 2, 9, 10, 11, 6, 12, 13, 14, 15, 16, 17, 18, 19, 20, 21, 22, 23, 24, 25, 26, 27] (by decide +kernel) (by decide +kernel)
set_option maxRecDepth 20000 in
theorem gX1_look_X1_best : GoodIn wsX1_look (wsV RX1 87 RX1 yX1_best wsX1_best) := goodIn_app (goodIn_of _ (by decide +kernel)) ggX1_look_X1_best
theorem dX1_look_0 : decode cX1_look 0 = .ok (.aload_n 0, 1) := by decide +kernel
theorem dX1_look_1 : decode cX1_look 1 = .ok (.iconst 0, 1) := by decide +kernel
theorem dX1_look_2 : decode cX1_look 2 = .ok (.putfield 26, 3) := by decide +kernel
theorem dX1_look_5 : decode cX1_look 5 = .ok (.aload_n 0, 1) := by decide +kernel
theorem dX1_look_6 : decode cX1_look 6 = .ok (.iload_n 1, 1) := by decide +kernel
theorem dX1_look_7 : decode cX1_look 7 = .ok (.bipush 33, 2) := by decide +kernel
theorem dX1_look_9 : decode cX1_look 9 = .ok (.invokevirtual 87, 3) := by decide +kernel
theorem dX1_look_12 : decode cX1_look 12 = .ok (.istore_n 2, 1) := by decide +kernel
theorem dX1_look_13 : decode cX1_look 13 = .ok (.iload_n 2, 1) := by decide +kernel
theorem dX1_look_14 : decode cX1_look 14 = .ok (.ifCond .ge 7, 3) := by decide +kernel
theorem dX1_look_17 : decode cX1_look 17 = .ok (.iconst (-1), 1) := by decide +kernel
theorem dX1_look_18 : decode cX1_look 18 = .ok (.goto 9, 3) := by decide +kernel
theorem dX1_look_21 : decode cX1_look 21 = .ok (.aload_n 0, 1) := by decide +kernel
theorem dX1_look_22 : decode cX1_look 22 = .ok (.getfield 13, 3) := by decide +kernel
theorem dX1_look_25 : decode cX1_look 25 = .ok (.iload_n 2, 1) := by decide +kernel
theorem dX1_look_26 : decode cX1_look 26 = .ok (.iaload, 1) := by decide +kernel
theorem dX1_look_27 : decode cX1_look 27 = .ok (.ireturn, 1) := by decide +kernel
set_option maxRecDepth 20000 in
theorem ggX1_hops_X1_best : GoodIn wsX1_hops wsX1_best := goodIn_r _ [7, 8, 9, 10, 11, 12, 6, 13, 14, 15, 16, 17, 18, 19, 20, 21, 22, 23, 24, 25, 26, 27, 28] (by decide +kernel) (by decide +kernel)
set_option maxRecDepth 20000 in
theorem gX1_hops_X1_best : GoodIn wsX1_hops (wsV RX1 87 RX1 yX1_best wsX1_best) := goodIn_app (goodIn_of _ (by decide +kernel)) ggX1_hops_X1_best
theorem dX1_hops_0 : decode cX1_hops 0 = .ok (.aload_n 0, 1) := by decide +kernel
theorem dX1_hops_1 : decode cX1_hops 1 = .ok (.iconst 0, 1) := by decide +kernel
theorem dX1_hops_2 : decode cX1_hops 2 = .ok (.putfield 26, 3) := by decide +kernel
theorem dX1_hops_5 : decode cX1_hops 5 = .ok (.aload_n 0, 1) := by decide +kernel
theorem dX1_hops_6 : decode cX1_hops 6 = .ok (.iload_n 1, 1) := by decide +kernel
theorem dX1_hops_7 : decode cX1_hops 7 = .ok (.bipush 33, 2) := by decide +kernel
theorem dX1_hops_9 : decode cX1_hops 9 = .ok (.invokevirtual 87, 3) := by decide +kernel
theorem dX1_hops_12 : decode cX1_hops 12 = .ok (.istore_n 2, 1) := by decide +kernel
theorem dX1_hops_13 : decode cX1_hops 13 = .ok (.iload_n 2, 1) := by decide +kernel
theorem dX1_hops_14 : decode cX1_hops 14 = .ok (.ifCond .ge 7, 3) := by decide +kernel
theorem dX1_hops_17 : decode cX1_hops 17 = .ok (.lconst 0, 1) := by decide +kernel
theorem dX1_hops_18 : decode cX1_hops 18 = .ok (.goto 9, 3) := by decide +kernel
theorem dX1_hops_21 : decode cX1_hops 21 = .ok (.aload_n 0, 1) := by decide +kernel
theorem dX1_hops_22 : decode cX1_hops 22 = .ok (.getfield 22, 3) := by decide +kernel
theorem dX1_hops_25 : decode cX1_hops 25 = .ok (.iload_n 2, 1) := by decide +kernel
theorem dX1_hops_26 : decode cX1_hops 26 = .ok (.laload, 1) := by decide +kernel
theorem dX1_hops_27 : decode cX1_hops 27 = .ok (.lreturn, 1) := by decide +kernel
set_option maxRecDepth 20000 in
theorem ggX1_hop_X1_best : GoodIn wsX1_hop wsX1_best := goodIn_r _ [7, 8, 9, 10, 11, 12, 6, 13, 14, 15, 16, 17, 18, 19, 20, 21, 29, 30, 31, 32, 33, 34, 35] (by decide +kernel) (by decide +kernel)
set_option maxRecDepth 20000 in
theorem gX1_hop_X1_best : GoodIn wsX1_hop (wsV RX1 87 RX1 yX1_best wsX1_best) := goodIn_app (goodIn_of _ (by decide +kernel)) ggX1_hop_X1_best
set_option maxRecDepth 20000 in
theorem ggX1_hop_X1_unsigned : GoodIn wsX1_hop wsX1_unsigned := goodIn_r _ [24, 25] (by decide +kernel) (by decide +kernel)
set_option maxRecDepth 20000 in
theorem gX1_hop_X1_unsigned : GoodIn wsX1_hop (va_wsS RX1 38 yX1_unsigned wsX1_unsigned) := goodIn_app (goodIn_of _ (by decide +kernel)) ggX1_hop_X1_unsigned
set_option maxRecDepth 20000 in
theorem ggX1_hop_X1_size : GoodIn wsX1_hop wsX1_size := goodIn_r _ [28] (by decide +kernel) (by decide +kernel)
set_option maxRecDepth 20000 in
theorem gX1_hop_X1_size : GoodIn wsX1_hop (va_wsS RX1 77 yX1_size wsX1_size) := goodIn_app (goodIn_of _ (by decide +kernel)) ggX1_hop_X1_size
theorem dX1_hop_0 : decode cX1_hop 0 = .ok (.aload_n 0, 1) := by decide +kernel
theorem dX1_hop_1 : decode cX1_hop 1 = .ok (.iconst 0, 1) := by decide +kernel
theorem dX1_hop_2 : decode cX1_hop 2 = .ok (.putfield 26, 3) := by decide +kernel
theorem dX1_hop_5 : decode cX1_hop 5 = .ok (.aload_n 0, 1) := by decide +kernel
theorem dX1_hop_6 : decode cX1_hop 6 = .ok (.iload_n 1, 1) := by decide +kernel
theorem dX1_hop_7 : decode cX1_hop 7 = .ok (.bipush 33, 2) := by decide +kernel
theorem dX1_hop_9 : decode cX1_hop 9 = .ok (.invokevirtual 87, 3) := by decide +kernel
theorem dX1_hop_12 : decode cX1_hop 12 = .ok (.istore_n 3, 1) := by decide +kernel
theorem dX1_hop_13 : decode cX1_hop 13 = .ok (.iload_n 3, 1) := by decide +kernel
theorem dX1_hop_14 : decode cX1_hop 14 = .ok (.ifCond .ge 5, 3) := by decide +kernel
theorem dX1_hop_17 : decode cX1_hop 17 = .ok (.iconst (-1), 1) := by decide +kernel
theorem dX1_hop_18 : decode cX1_hop 18 = .ok (.ireturn, 1) := by decide +kernel
theorem dX1_hop_19 : decode cX1_hop 19 = .ok (.iload_n 2, 1) := by decide +kernel
theorem dX1_hop_20 : decode cX1_hop 20 = .ok (.invokestatic 38, 3) := by decide +kernel
theorem dX1_hop_23 : decode cX1_hop 23 = .ok (.aload_n 0, 1) := by decide +kernel
theorem dX1_hop_24 : decode cX1_hop 24 = .ok (.getfield 22, 3) := by decide +kernel
theorem dX1_hop_27 : decode cX1_hop 27 = .ok (.iload_n 3, 1) := by decide +kernel
theorem dX1_hop_28 : decode cX1_hop 28 = .ok (.laload, 1) := by decide +kernel
theorem dX1_hop_29 : decode cX1_hop 29 = .ok (.invokestatic 77, 3) := by decide +kernel
theorem dX1_hop_32 : decode cX1_hop 32 = .ok (.i2l, 1) := by decide +kernel
theorem dX1_hop_33 : decode cX1_hop 33 = .ok (.lrem, 1) := by decide +kernel
theorem dX1_hop_34 : decode cX1_hop 34 = .ok (.l2i, 1) := by decide +kernel
theorem dX1_hop_35 : decode cX1_hop 35 = .ok (.istore 4, 2) := by decide +kernel
theorem dX1_hop_37 : decode cX1_hop 37 = .ok (.iconst 0, 1) := by decide +kernel
theorem dX1_hop_38 : decode cX1_hop 38 = .ok (.istore 5, 2) := by decide +kernel
theorem dX1_hop_40 : decode cX1_hop 40 = .ok (.aload_n 0, 1) := by decide +kernel
theorem dX1_hop_41 : decode cX1_hop 41 = .ok (.getfield 22, 3) := by decide +kernel
theorem dX1_hop_44 : decode cX1_hop 44 = .ok (.iload_n 3, 1) := by decide +kernel
theorem dX1_hop_45 : decode cX1_hop 45 = .ok (.laload, 1) := by decide +kernel
theorem dX1_hop_46 : decode cX1_hop 46 = .ok (.iload 5, 2) := by decide +kernel
theorem dX1_hop_48 : decode cX1_hop 48 = .ok (.lshr, 1) := by decide +kernel
theorem dX1_hop_49 : decode cX1_hop 49 = .ok (.lconst 1, 1) := by decide +kernel
theorem dX1_hop_50 : decode cX1_hop 50 = .ok (.land, 1) := by decide +kernel
theorem dX1_hop_51 : decode cX1_hop 51 = .ok (.lconst 0, 1) := by decide +kernel
theorem dX1_hop_52 : decode cX1_hop 52 = .ok (.lcmp, 1) := by decide +kernel
theorem dX1_hop_53 : decode cX1_hop 53 = .ok (.ifCond .eq 8, 3) := by decide +kernel
theorem dX1_hop_56 : decode cX1_hop 56 = .ok (.iload 4, 2) := by decide +kernel
theorem dX1_hop_58 : decode cX1_hop 58 = .ok (.ifCond .le 35, 3) := by decide +kernel
theorem dX1_hop_61 : decode cX1_hop 61 = .ok (.iload 4, 2) := by decide +kernel
theorem dX1_hop_63 : decode cX1_hop 63 = .ok (.aload_n 0, 1) := by decide +kernel
theorem dX1_hop_64 : decode cX1_hop 64 = .ok (.getfield 22, 3) := by decide +kernel
theorem dX1_hop_67 : decode cX1_hop 67 = .ok (.iload_n 3, 1) := by decide +kernel
theorem dX1_hop_68 : decode cX1_hop 68 = .ok (.laload, 1) := by decide +kernel
theorem dX1_hop_69 : decode cX1_hop 69 = .ok (.iload 5, 2) := by decide +kernel
theorem dX1_hop_71 : decode cX1_hop 71 = .ok (.lshr, 1) := by decide +kernel
theorem dX1_hop_72 : decode cX1_hop 72 = .ok (.lconst 1, 1) := by decide +kernel
theorem dX1_hop_73 : decode cX1_hop 73 = .ok (.land, 1) := by decide +kernel
theorem dX1_hop_74 : decode cX1_hop 74 = .ok (.lconst 1, 1) := by decide +kernel
theorem dX1_hop_75 : decode cX1_hop 75 = .ok (.lcmp, 1) := by decide +kernel
theorem dX1_hop_76 : decode cX1_hop 76 = .ok (.ifCond .ne 7, 3) := by decide +kernel
theorem dX1_hop_79 : decode cX1_hop 79 = .ok (.iconst 1, 1) := by decide +kernel
theorem dX1_hop_80 : decode cX1_hop 80 = .ok (.goto 4, 3) := by decide +kernel
theorem dX1_hop_83 : decode cX1_hop 83 = .ok (.iconst 0, 1) := by decide +kernel
theorem dX1_hop_84 : decode cX1_hop 84 = .ok (.isub, 1) := by decide +kernel
theorem dX1_hop_85 : decode cX1_hop 85 = .ok (.istore 4, 2) := by decide +kernel
theorem dX1_hop_87 : decode cX1_hop 87 = .ok (.iinc 5 1, 3) := by decide +kernel
theorem dX1_hop_90 : decode cX1_hop 90 = .ok (.goto (-50), 3) := by decide +kernel
theorem dX1_hop_93 : decode cX1_hop 93 = .ok (.iload 5, 2) := by decide +kernel
theorem dX1_hop_95 : decode cX1_hop 95 = .ok (.ireturn, 1) := by decide +kernel
set_option maxRecDepth 20000 in
theorem ggX1_shorter_X1_best : GoodIn wsX1_shorter wsX1_best := goodIn_r _ [7, 8, 2, 9, 10, 11, 6, 12, 13, 14, 15, 16, 17, 18, 19, 20, 21, 22, 23, 24, 25, 26, 27] (by decide +kernel) (by decide +kernel)
set_option maxRecDepth 20000 in
theorem gX1_shorter_X1_best : GoodIn wsX1_shorter (wsV RX1 87 RX1 yX1_best wsX1_best) := goodIn_app (goodIn_of _ (by decide +kernel)) ggX1_shorter_X1_best
theorem dX1_shorter_0 : decode cX1_shorter 0 = .ok (.aload_n 0, 1) := by decide +kernel
theorem dX1_shorter_1 : decode cX1_shorter 1 = .ok (.iload_n 2, 1) := by decide +kernel
theorem dX1_shorter_2 : decode cX1_shorter 2 = .ok (.ifCond .lt 9, 3) := by decide +kernel
theorem dX1_shorter_5 : decode cX1_shorter 5 = .ok (.iload_n 2, 1) := by decide +kernel
theorem dX1_shorter_6 : decode cX1_shorter 6 = .ok (.bipush 33, 2) := by decide +kernel
theorem dX1_shorter_8 : decode cX1_shorter 8 = .ok (.if_icmp .le 7, 3) := by decide +kernel
theorem dX1_shorter_11 : decode cX1_shorter 11 = .ok (.iconst 1, 1) := by decide +kernel
theorem dX1_shorter_12 : decode cX1_shorter 12 = .ok (.goto 4, 3) := by decide +kernel
theorem dX1_shorter_15 : decode cX1_shorter 15 = .ok (.iconst 0, 1) := by decide +kernel
theorem dX1_shorter_16 : decode cX1_shorter 16 = .ok (.putfield 26, 3) := by decide +kernel
theorem dX1_shorter_19 : decode cX1_shorter 19 = .ok (.aload_n 0, 1) := by decide +kernel
theorem dX1_shorter_20 : decode cX1_shorter 20 = .ok (.getfield 26, 3) := by decide +kernel
theorem dX1_shorter_23 : decode cX1_shorter 23 = .ok (.ifCond .le 7, 3) := by decide +kernel
theorem dX1_shorter_26 : decode cX1_shorter 26 = .ok (.iconst (-1), 1) := by decide +kernel
theorem dX1_shorter_27 : decode cX1_shorter 27 = .ok (.goto 9, 3) := by decide +kernel
theorem dX1_shorter_30 : decode cX1_shorter 30 = .ok (.aload_n 0, 1) := by decide +kernel
theorem dX1_shorter_31 : decode cX1_shorter 31 = .ok (.iload_n 1, 1) := by decide +kernel
theorem dX1_shorter_32 : decode cX1_shorter 32 = .ok (.iload_n 2, 1) := by decide +kernel
theorem dX1_shorter_33 : decode cX1_shorter 33 = .ok (.invokevirtual 87, 3) := by decide +kernel
theorem dX1_shorter_36 : decode cX1_shorter 36 = .ok (.istore_n 3, 1) := by decide +kernel
theorem dX1_shorter_37 : decode cX1_shorter 37 = .ok (.aload_n 0, 1) := by decide +kernel
theorem dX1_shorter_38 : decode cX1_shorter 38 = .ok (.getfield 26, 3) := by decide +kernel
theorem dX1_shorter_41 : decode cX1_shorter 41 = .ok (.ifCond .le 7, 3) := by decide +kernel
theorem dX1_shorter_44 : decode cX1_shorter 44 = .ok (.iconst 0, 1) := by decide +kernel
theorem dX1_shorter_45 : decode cX1_shorter 45 = .ok (.goto 17, 3) := by decide +kernel
theorem dX1_shorter_48 : decode cX1_shorter 48 = .ok (.iload_n 3, 1) := by decide +kernel
theorem dX1_shorter_49 : decode cX1_shorter 49 = .ok (.ifCond .ge 7, 3) := by decide +kernel
theorem dX1_shorter_52 : decode cX1_shorter 52 = .ok (.iconst (-1), 1) := by decide +kernel
theorem dX1_shorter_53 : decode cX1_shorter 53 = .ok (.goto 9, 3) := by decide +kernel
theorem dX1_shorter_56 : decode cX1_shorter 56 = .ok (.aload_n 0, 1) := by decide +kernel
theorem dX1_shorter_57 : decode cX1_shorter 57 = .ok (.getfield 13, 3) := by decide +kernel
theorem dX1_shorter_60 : decode cX1_shorter 60 = .ok (.iload_n 3, 1) := by decide +kernel
theorem dX1_shorter_61 : decode cX1_shorter 61 = .ok (.iaload, 1) := by decide +kernel
theorem dX1_shorter_62 : decode cX1_shorter 62 = .ok (.ireturn, 1) := by decide +kernel
set_option maxRecDepth 20000 in
theorem ggX1_after_X1_isPrefix : GoodIn wsX1_after wsX1_isPrefix := goodIn_r _ [10, 11, 12, 9, 13] (by decide +kernel) (by decide +kernel)
set_option maxRecDepth 20000 in
theorem gX1_after_X1_isPrefix : GoodIn wsX1_after (va_wsS RX1 54 yX1_isPrefix wsX1_isPrefix) := goodIn_app (goodIn_of _ (by decide +kernel)) ggX1_after_X1_isPrefix
set_option maxRecDepth 20000 in
theorem ggX1_after_X1_rank : GoodIn wsX1_after wsX1_rank := goodIn_r _ [16, 4, 17, 18, 19, 9, 20, 21] (by decide +kernel) (by decide +kernel)
set_option maxRecDepth 20000 in
theorem gX1_after_X1_rank : GoodIn wsX1_after (va_wsS RX1 44 yX1_rank wsX1_rank) := goodIn_app (goodIn_of _ (by decide +kernel)) ggX1_after_X1_rank
set_option maxRecDepth 20000 in
theorem ggX1_after_X1_place : GoodIn wsX1_after wsX1_place := goodIn_r _ [25, 2, 26, 27, 28, 9, 29, 5, 6, 30, 14, 15, 16, 4, 17, 18, 19, 20, 21, 31, 32, 33, 34, 35, 36, 37] (by decide +kernel) (by decide +kernel)
set_option maxRecDepth 20000 in
theorem gX1_after_X1_place : GoodIn wsX1_after (wsV RX1 59 RX1 yX1_place wsX1_place) := goodIn_app (goodIn_of _ (by decide +kernel)) ggX1_after_X1_place
set_option maxRecDepth 20000 in
theorem ggX1_after_X1_unsigned : GoodIn wsX1_after wsX1_unsigned := goodIn_r _ [20, 21] (by decide +kernel) (by decide +kernel)
set_option maxRecDepth 20000 in
theorem gX1_after_X1_unsigned : GoodIn wsX1_after (va_wsS RX1 38 yX1_unsigned wsX1_unsigned) := goodIn_app (goodIn_of _ (by decide +kernel)) ggX1_after_X1_unsigned
theorem dX1_after_0 : decode cX1_after 0 = .ok (.aload_n 0, 1) := by decide +kernel
theorem dX1_after_1 : decode cX1_after 1 = .ok (.iload_n 1, 1) := by decide +kernel
theorem dX1_after_2 : decode cX1_after 2 = .ok (.iload_n 2, 1) := by decide +kernel
theorem dX1_after_3 : decode cX1_after 3 = .ok (.invokestatic 54, 3) := by decide +kernel
theorem dX1_after_6 : decode cX1_after 6 = .ok (.ifCond .eq 7, 3) := by decide +kernel
theorem dX1_after_9 : decode cX1_after 9 = .ok (.iconst 0, 1) := by decide +kernel
theorem dX1_after_10 : decode cX1_after 10 = .ok (.goto 4, 3) := by decide +kernel
theorem dX1_after_13 : decode cX1_after 13 = .ok (.iconst 1, 1) := by decide +kernel
theorem dX1_after_14 : decode cX1_after 14 = .ok (.putfield 26, 3) := by decide +kernel
theorem dX1_after_17 : decode cX1_after 17 = .ok (.aload_n 0, 1) := by decide +kernel
theorem dX1_after_18 : decode cX1_after 18 = .ok (.getfield 26, 3) := by decide +kernel
theorem dX1_after_21 : decode cX1_after 21 = .ok (.ifCond .le 5, 3) := by decide +kernel
theorem dX1_after_24 : decode cX1_after 24 = .ok (.lconst 0, 1) := by decide +kernel
theorem dX1_after_25 : decode cX1_after 25 = .ok (.lreturn, 1) := by decide +kernel
theorem dX1_after_26 : decode cX1_after 26 = .ok (.aload_n 0, 1) := by decide +kernel
theorem dX1_after_27 : decode cX1_after 27 = .ok (.iload_n 1, 1) := by decide +kernel
theorem dX1_after_28 : decode cX1_after 28 = .ok (.iload_n 2, 1) := by decide +kernel
theorem dX1_after_29 : decode cX1_after 29 = .ok (.bipush 7, 2) := by decide +kernel
theorem dX1_after_31 : decode cX1_after 31 = .ok (.invokestatic 44, 3) := by decide +kernel
theorem dX1_after_34 : decode cX1_after 34 = .ok (.lconst 1, 1) := by decide +kernel
theorem dX1_after_35 : decode cX1_after 35 = .ok (.ladd, 1) := by decide +kernel
theorem dX1_after_36 : decode cX1_after 36 = .ok (.invokevirtual 59, 3) := by decide +kernel
theorem dX1_after_39 : decode cX1_after 39 = .ok (.istore_n 3, 1) := by decide +kernel
theorem dX1_after_40 : decode cX1_after 40 = .ok (.iload_n 3, 1) := by decide +kernel
theorem dX1_after_41 : decode cX1_after 41 = .ok (.aload_n 0, 1) := by decide +kernel
theorem dX1_after_42 : decode cX1_after 42 = .ok (.getfield 48, 3) := by decide +kernel
theorem dX1_after_45 : decode cX1_after 45 = .ok (.if_icmp .ne 9, 3) := by decide +kernel
theorem dX1_after_48 : decode cX1_after 48 = .ok (.ldc2_w 75, 3) := by decide +kernel
theorem dX1_after_51 : decode cX1_after 51 = .ok (.goto 24, 3) := by decide +kernel
theorem dX1_after_54 : decode cX1_after 54 = .ok (.ldc2_w 36, 3) := by decide +kernel
theorem dX1_after_57 : decode cX1_after 57 = .ok (.aload_n 0, 1) := by decide +kernel
theorem dX1_after_58 : decode cX1_after 58 = .ok (.getfield 7, 3) := by decide +kernel
theorem dX1_after_61 : decode cX1_after 61 = .ok (.iload_n 3, 1) := by decide +kernel
theorem dX1_after_62 : decode cX1_after 62 = .ok (.iaload, 1) := by decide +kernel
theorem dX1_after_63 : decode cX1_after 63 = .ok (.invokestatic 38, 3) := by decide +kernel
theorem dX1_after_66 : decode cX1_after 66 = .ok (.lmul, 1) := by decide +kernel
theorem dX1_after_67 : decode cX1_after 67 = .ok (.aload_n 0, 1) := by decide +kernel
theorem dX1_after_68 : decode cX1_after 68 = .ok (.getfield 13, 3) := by decide +kernel
theorem dX1_after_71 : decode cX1_after 71 = .ok (.iload_n 3, 1) := by decide +kernel
theorem dX1_after_72 : decode cX1_after 72 = .ok (.iaload, 1) := by decide +kernel
theorem dX1_after_73 : decode cX1_after 73 = .ok (.i2l, 1) := by decide +kernel
theorem dX1_after_74 : decode cX1_after 74 = .ok (.ladd, 1) := by decide +kernel
theorem dX1_after_75 : decode cX1_after 75 = .ok (.lreturn, 1) := by decide +kernel
set_option maxRecDepth 20000 in
theorem ggX1_within_X1_isPrefix : GoodIn wsX1_within wsX1_isPrefix := goodIn_r _ [8, 9, 10, 7, 11] (by decide +kernel) (by decide +kernel)
set_option maxRecDepth 20000 in
theorem gX1_within_X1_isPrefix : GoodIn wsX1_within (va_wsS RX1 54 yX1_isPrefix wsX1_isPrefix) := goodIn_app (goodIn_of _ (by decide +kernel)) ggX1_within_X1_isPrefix
set_option maxRecDepth 20000 in
theorem ggX1_within_X1_isMore : GoodIn wsX1_within wsX1_isMore := goodIn_r _ [15, 4, 3, 16, 17, 18, 19, 20, 21, 22] (by decide +kernel) (by decide +kernel)
set_option maxRecDepth 20000 in
theorem gX1_within_X1_isMore : GoodIn wsX1_within (wsV RX1 80 RX1 yX1_isMore wsX1_isMore) := goodIn_app (goodIn_of _ (by decide +kernel)) ggX1_within_X1_isMore
set_option maxRecDepth 20000 in
theorem ggX1_within_X1_mask : GoodIn wsX1_within wsX1_mask := goodIn_r _ [11] (by decide +kernel) (by decide +kernel)
set_option maxRecDepth 20000 in
theorem gX1_within_X1_mask : GoodIn wsX1_within (va_wsS RX1 32 yX1_mask wsX1_mask) := goodIn_app (goodIn_of _ (by decide +kernel)) ggX1_within_X1_mask
theorem dX1_within_0 : decode cX1_within 0 = .ok (.aload_n 0, 1) := by decide +kernel
theorem dX1_within_1 : decode cX1_within 1 = .ok (.iload_n 1, 1) := by decide +kernel
theorem dX1_within_2 : decode cX1_within 2 = .ok (.iload_n 2, 1) := by decide +kernel
theorem dX1_within_3 : decode cX1_within 3 = .ok (.invokestatic 54, 3) := by decide +kernel
theorem dX1_within_6 : decode cX1_within 6 = .ok (.ifCond .eq 7, 3) := by decide +kernel
theorem dX1_within_9 : decode cX1_within 9 = .ok (.iconst 0, 1) := by decide +kernel
theorem dX1_within_10 : decode cX1_within 10 = .ok (.goto 4, 3) := by decide +kernel
theorem dX1_within_13 : decode cX1_within 13 = .ok (.iconst 1, 1) := by decide +kernel
theorem dX1_within_14 : decode cX1_within 14 = .ok (.putfield 26, 3) := by decide +kernel
theorem dX1_within_17 : decode cX1_within 17 = .ok (.iconst 0, 1) := by decide +kernel
theorem dX1_within_18 : decode cX1_within 18 = .ok (.istore_n 3, 1) := by decide +kernel
theorem dX1_within_19 : decode cX1_within 19 = .ok (.iconst 0, 1) := by decide +kernel
theorem dX1_within_20 : decode cX1_within 20 = .ok (.istore 4, 2) := by decide +kernel
theorem dX1_within_22 : decode cX1_within 22 = .ok (.iload 4, 2) := by decide +kernel
theorem dX1_within_24 : decode cX1_within 24 = .ok (.aload_n 0, 1) := by decide +kernel
theorem dX1_within_25 : decode cX1_within 25 = .ok (.getfield 48, 3) := by decide +kernel
theorem dX1_within_28 : decode cX1_within 28 = .ok (.if_icmp .ge 61, 3) := by decide +kernel
theorem dX1_within_31 : decode cX1_within 31 = .ok (.aload_n 0, 1) := by decide +kernel
theorem dX1_within_32 : decode cX1_within 32 = .ok (.getfield 26, 3) := by decide +kernel
theorem dX1_within_35 : decode cX1_within 35 = .ok (.ifCond .ne 54, 3) := by decide +kernel
theorem dX1_within_38 : decode cX1_within 38 = .ok (.iload_n 3, 1) := by decide +kernel
theorem dX1_within_39 : decode cX1_within 39 = .ok (.aload_n 0, 1) := by decide +kernel
theorem dX1_within_40 : decode cX1_within 40 = .ok (.iload 4, 2) := by decide +kernel
theorem dX1_within_42 : decode cX1_within 42 = .ok (.invokevirtual 80, 3) := by decide +kernel
theorem dX1_within_45 : decode cX1_within 45 = .ok (.ifCond .ne 35, 3) := by decide +kernel
theorem dX1_within_48 : decode cX1_within 48 = .ok (.aload_n 0, 1) := by decide +kernel
theorem dX1_within_49 : decode cX1_within 49 = .ok (.getfield 13, 3) := by decide +kernel
theorem dX1_within_52 : decode cX1_within 52 = .ok (.iload 4, 2) := by decide +kernel
theorem dX1_within_54 : decode cX1_within 54 = .ok (.iaload, 1) := by decide +kernel
theorem dX1_within_55 : decode cX1_within 55 = .ok (.iload_n 2, 1) := by decide +kernel
theorem dX1_within_56 : decode cX1_within 56 = .ok (.if_icmp .lt 24, 3) := by decide +kernel
theorem dX1_within_59 : decode cX1_within 59 = .ok (.aload_n 0, 1) := by decide +kernel
theorem dX1_within_60 : decode cX1_within 60 = .ok (.getfield 7, 3) := by decide +kernel
theorem dX1_within_63 : decode cX1_within 63 = .ok (.iload 4, 2) := by decide +kernel
theorem dX1_within_65 : decode cX1_within 65 = .ok (.iaload, 1) := by decide +kernel
theorem dX1_within_66 : decode cX1_within 66 = .ok (.iload_n 1, 1) := by decide +kernel
theorem dX1_within_67 : decode cX1_within 67 = .ok (.ixor, 1) := by decide +kernel
theorem dX1_within_68 : decode cX1_within 68 = .ok (.iload_n 2, 1) := by decide +kernel
theorem dX1_within_69 : decode cX1_within 69 = .ok (.invokestatic 32, 3) := by decide +kernel
theorem dX1_within_72 : decode cX1_within 72 = .ok (.iand, 1) := by decide +kernel
theorem dX1_within_73 : decode cX1_within 73 = .ok (.ifCond .ne 7, 3) := by decide +kernel
theorem dX1_within_76 : decode cX1_within 76 = .ok (.iconst 1, 1) := by decide +kernel
theorem dX1_within_77 : decode cX1_within 77 = .ok (.goto 4, 3) := by decide +kernel
theorem dX1_within_80 : decode cX1_within 80 = .ok (.iconst 0, 1) := by decide +kernel
theorem dX1_within_81 : decode cX1_within 81 = .ok (.iadd, 1) := by decide +kernel
theorem dX1_within_82 : decode cX1_within 82 = .ok (.istore_n 3, 1) := by decide +kernel
theorem dX1_within_83 : decode cX1_within 83 = .ok (.iinc 4 1, 3) := by decide +kernel
theorem dX1_within_86 : decode cX1_within 86 = .ok (.goto (-64), 3) := by decide +kernel
theorem dX1_within_89 : decode cX1_within 89 = .ok (.iload_n 3, 1) := by decide +kernel
theorem dX1_within_90 : decode cX1_within 90 = .ok (.ireturn, 1) := by decide +kernel
theorem dX1_routes_0 : decode cX1_routes 0 = .ok (.aload_n 0, 1) := by decide +kernel
theorem dX1_routes_1 : decode cX1_routes 1 = .ok (.iconst 0, 1) := by decide +kernel
theorem dX1_routes_2 : decode cX1_routes 2 = .ok (.putfield 26, 3) := by decide +kernel
theorem dX1_routes_5 : decode cX1_routes 5 = .ok (.aload_n 0, 1) := by decide +kernel
theorem dX1_routes_6 : decode cX1_routes 6 = .ok (.getfield 48, 3) := by decide +kernel
theorem dX1_routes_9 : decode cX1_routes 9 = .ok (.ireturn, 1) := by decide +kernel
set_option maxRecDepth 20000 in
theorem ggX1_known_X1_isMore : GoodIn wsX1_known wsX1_isMore := goodIn_r _ [7, 8, 9, 10, 11, 12, 13, 14, 15, 16] (by decide +kernel) (by decide +kernel)
set_option maxRecDepth 20000 in
theorem gX1_known_X1_isMore : GoodIn wsX1_known (wsV RX1 80 RX1 yX1_isMore wsX1_isMore) := goodIn_app (goodIn_of _ (by decide +kernel)) ggX1_known_X1_isMore
theorem dX1_known_0 : decode cX1_known 0 = .ok (.aload_n 0, 1) := by decide +kernel
theorem dX1_known_1 : decode cX1_known 1 = .ok (.iconst 0, 1) := by decide +kernel
theorem dX1_known_2 : decode cX1_known 2 = .ok (.putfield 26, 3) := by decide +kernel
theorem dX1_known_5 : decode cX1_known 5 = .ok (.iconst 0, 1) := by decide +kernel
theorem dX1_known_6 : decode cX1_known 6 = .ok (.istore_n 1, 1) := by decide +kernel
theorem dX1_known_7 : decode cX1_known 7 = .ok (.iconst 0, 1) := by decide +kernel
theorem dX1_known_8 : decode cX1_known 8 = .ok (.istore_n 2, 1) := by decide +kernel
theorem dX1_known_9 : decode cX1_known 9 = .ok (.iload_n 2, 1) := by decide +kernel
theorem dX1_known_10 : decode cX1_known 10 = .ok (.aload_n 0, 1) := by decide +kernel
theorem dX1_known_11 : decode cX1_known 11 = .ok (.getfield 48, 3) := by decide +kernel
theorem dX1_known_14 : decode cX1_known 14 = .ok (.if_icmp .ge 25, 3) := by decide +kernel
theorem dX1_known_17 : decode cX1_known 17 = .ok (.iload_n 1, 1) := by decide +kernel
theorem dX1_known_18 : decode cX1_known 18 = .ok (.aload_n 0, 1) := by decide +kernel
theorem dX1_known_19 : decode cX1_known 19 = .ok (.iload_n 2, 1) := by decide +kernel
theorem dX1_known_20 : decode cX1_known 20 = .ok (.invokevirtual 80, 3) := by decide +kernel
theorem dX1_known_23 : decode cX1_known 23 = .ok (.ifCond .eq 7, 3) := by decide +kernel
theorem dX1_known_26 : decode cX1_known 26 = .ok (.iconst 0, 1) := by decide +kernel
theorem dX1_known_27 : decode cX1_known 27 = .ok (.goto 4, 3) := by decide +kernel
theorem dX1_known_30 : decode cX1_known 30 = .ok (.iconst 1, 1) := by decide +kernel
theorem dX1_known_31 : decode cX1_known 31 = .ok (.iadd, 1) := by decide +kernel
theorem dX1_known_32 : decode cX1_known 32 = .ok (.istore_n 1, 1) := by decide +kernel
theorem dX1_known_33 : decode cX1_known 33 = .ok (.iinc 2 1, 3) := by decide +kernel
theorem dX1_known_36 : decode cX1_known 36 = .ok (.goto (-27), 3) := by decide +kernel
theorem dX1_known_39 : decode cX1_known 39 = .ok (.iload_n 1, 1) := by decide +kernel
theorem dX1_known_40 : decode cX1_known 40 = .ok (.ireturn, 1) := by decide +kernel
set_option maxRecDepth 20000 in
theorem ggX1_isKnown_X1_rank : GoodIn wsX1_isKnown wsX1_rank := goodIn_r _ [7, 8, 9, 10, 11, 6, 12, 13] (by decide +kernel) (by decide +kernel)
set_option maxRecDepth 20000 in
theorem gX1_isKnown_X1_rank : GoodIn wsX1_isKnown (va_wsS RX1 44 yX1_rank wsX1_rank) := goodIn_app (goodIn_of _ (by decide +kernel)) ggX1_isKnown_X1_rank
set_option maxRecDepth 20000 in
theorem ggX1_isKnown_X1_place : GoodIn wsX1_isKnown wsX1_place := goodIn_r _ [17, 1, 18, 19, 20, 6, 21, 2, 3, 22, 4, 5, 7, 8, 9, 10, 11, 12, 13, 23, 24, 25, 26, 27, 28, 29] (by decide +kernel) (by decide +kernel)
set_option maxRecDepth 20000 in
theorem gX1_isKnown_X1_place : GoodIn wsX1_isKnown (wsV RX1 59 RX1 yX1_place wsX1_place) := goodIn_app (goodIn_of _ (by decide +kernel)) ggX1_isKnown_X1_place
theorem dX1_isKnown_0 : decode cX1_isKnown 0 = .ok (.aload_n 0, 1) := by decide +kernel
theorem dX1_isKnown_1 : decode cX1_isKnown 1 = .ok (.iload_n 1, 1) := by decide +kernel
theorem dX1_isKnown_2 : decode cX1_isKnown 2 = .ok (.iload_n 2, 1) := by decide +kernel
theorem dX1_isKnown_3 : decode cX1_isKnown 3 = .ok (.iconst 0, 1) := by decide +kernel
theorem dX1_isKnown_4 : decode cX1_isKnown 4 = .ok (.invokestatic 44, 3) := by decide +kernel
theorem dX1_isKnown_7 : decode cX1_isKnown 7 = .ok (.invokevirtual 59, 3) := by decide +kernel
theorem dX1_isKnown_10 : decode cX1_isKnown 10 = .ok (.istore_n 3, 1) := by decide +kernel
theorem dX1_isKnown_11 : decode cX1_isKnown 11 = .ok (.iload_n 3, 1) := by decide +kernel
theorem dX1_isKnown_12 : decode cX1_isKnown 12 = .ok (.aload_n 0, 1) := by decide +kernel
theorem dX1_isKnown_13 : decode cX1_isKnown 13 = .ok (.getfield 48, 3) := by decide +kernel
theorem dX1_isKnown_16 : decode cX1_isKnown 16 = .ok (.if_icmp .ge 27, 3) := by decide +kernel
theorem dX1_isKnown_19 : decode cX1_isKnown 19 = .ok (.aload_n 0, 1) := by decide +kernel
theorem dX1_isKnown_20 : decode cX1_isKnown 20 = .ok (.getfield 7, 3) := by decide +kernel
theorem dX1_isKnown_23 : decode cX1_isKnown 23 = .ok (.iload_n 3, 1) := by decide +kernel
theorem dX1_isKnown_24 : decode cX1_isKnown 24 = .ok (.iaload, 1) := by decide +kernel
theorem dX1_isKnown_25 : decode cX1_isKnown 25 = .ok (.iload_n 1, 1) := by decide +kernel
theorem dX1_isKnown_26 : decode cX1_isKnown 26 = .ok (.if_icmp .ne 17, 3) := by decide +kernel
theorem dX1_isKnown_29 : decode cX1_isKnown 29 = .ok (.aload_n 0, 1) := by decide +kernel
theorem dX1_isKnown_30 : decode cX1_isKnown 30 = .ok (.getfield 13, 3) := by decide +kernel
theorem dX1_isKnown_33 : decode cX1_isKnown 33 = .ok (.iload_n 3, 1) := by decide +kernel
theorem dX1_isKnown_34 : decode cX1_isKnown 34 = .ok (.iaload, 1) := by decide +kernel
theorem dX1_isKnown_35 : decode cX1_isKnown 35 = .ok (.iload_n 2, 1) := by decide +kernel
theorem dX1_isKnown_36 : decode cX1_isKnown 36 = .ok (.if_icmp .ne 7, 3) := by decide +kernel
theorem dX1_isKnown_39 : decode cX1_isKnown 39 = .ok (.iconst 1, 1) := by decide +kernel
theorem dX1_isKnown_40 : decode cX1_isKnown 40 = .ok (.goto 4, 3) := by decide +kernel
theorem dX1_isKnown_43 : decode cX1_isKnown 43 = .ok (.iconst 0, 1) := by decide +kernel
theorem dX1_isKnown_44 : decode cX1_isKnown 44 = .ok (.ireturn, 1) := by decide +kernel
set_option maxRecDepth 20000 in
theorem ggX1_nodes_X1_isMore : GoodIn wsX1_nodes wsX1_isMore := goodIn_r _ [8, 3, 9, 39, 40, 41, 42, 43, 44, 45] (by decide +kernel) (by decide +kernel)
set_option maxRecDepth 20000 in
theorem gX1_nodes_X1_isMore : GoodIn wsX1_nodes (wsV RX1 80 RX1 yX1_isMore wsX1_isMore) := goodIn_app (goodIn_of _ (by decide +kernel)) ggX1_nodes_X1_isMore
set_option maxRecDepth 20000 in
theorem ggX1_nodes_X1_has : GoodIn wsX1_nodes wsX1_has := goodIn_r _ [13, 3, 9, 14, 15, 7, 16, 39, 40, 41, 42, 43, 44, 45] (by decide +kernel) (by decide +kernel)
set_option maxRecDepth 20000 in
theorem gX1_nodes_X1_has : GoodIn wsX1_nodes (wsV RX1 84 RX1 yX1_has wsX1_has) := goodIn_app (goodIn_of _ (by decide +kernel)) ggX1_nodes_X1_has
set_option maxRecDepth 20000 in
theorem ggX1_nodes_X1_mask : GoodIn wsX1_nodes wsX1_mask := goodIn_r _ [16] (by decide +kernel) (by decide +kernel)
set_option maxRecDepth 20000 in
theorem gX1_nodes_X1_mask : GoodIn wsX1_nodes (va_wsS RX1 32 yX1_mask wsX1_mask) := goodIn_app (goodIn_of _ (by decide +kernel)) ggX1_nodes_X1_mask
set_option maxRecDepth 20000 in
theorem ggX1_nodes_X1_isKnown : GoodIn wsX1_nodes wsX1_isKnown := goodIn_r _ [20, 2, 3, 9, 21, 22, 7, 23, 24, 25, 26, 27, 28, 29, 30, 31, 32, 33, 34, 35, 36, 37, 38, 39, 40, 41, 42, 43, 44, 45] (by decide +kernel) (by decide +kernel)
set_option maxRecDepth 20000 in
theorem gX1_nodes_X1_isKnown : GoodIn wsX1_nodes (wsV RX1 91 RX1 yX1_isKnown wsX1_isKnown) := goodIn_app (goodIn_of _ (by decide +kernel)) ggX1_nodes_X1_isKnown
theorem dX1_nodes_0 : decode cX1_nodes 0 = .ok (.aload_n 0, 1) := by decide +kernel
theorem dX1_nodes_1 : decode cX1_nodes 1 = .ok (.iconst 0, 1) := by decide +kernel
theorem dX1_nodes_2 : decode cX1_nodes 2 = .ok (.putfield 26, 3) := by decide +kernel
theorem dX1_nodes_5 : decode cX1_nodes 5 = .ok (.iconst 0, 1) := by decide +kernel
theorem dX1_nodes_6 : decode cX1_nodes 6 = .ok (.istore_n 1, 1) := by decide +kernel
theorem dX1_nodes_7 : decode cX1_nodes 7 = .ok (.iconst 0, 1) := by decide +kernel
theorem dX1_nodes_8 : decode cX1_nodes 8 = .ok (.istore_n 2, 1) := by decide +kernel
theorem dX1_nodes_9 : decode cX1_nodes 9 = .ok (.iload_n 2, 1) := by decide +kernel
theorem dX1_nodes_10 : decode cX1_nodes 10 = .ok (.aload_n 0, 1) := by decide +kernel
theorem dX1_nodes_11 : decode cX1_nodes 11 = .ok (.getfield 48, 3) := by decide +kernel
theorem dX1_nodes_14 : decode cX1_nodes 14 = .ok (.if_icmp .ge 100, 3) := by decide +kernel
theorem dX1_nodes_17 : decode cX1_nodes 17 = .ok (.aload_n 0, 1) := by decide +kernel
theorem dX1_nodes_18 : decode cX1_nodes 18 = .ok (.iload_n 2, 1) := by decide +kernel
theorem dX1_nodes_19 : decode cX1_nodes 19 = .ok (.invokevirtual 80, 3) := by decide +kernel
theorem dX1_nodes_22 : decode cX1_nodes 22 = .ok (.ifCond .ne 86, 3) := by decide +kernel
theorem dX1_nodes_25 : decode cX1_nodes 25 = .ok (.iinc 1 1, 3) := by decide +kernel
theorem dX1_nodes_28 : decode cX1_nodes 28 = .ok (.iload_n 2, 1) := by decide +kernel
theorem dX1_nodes_29 : decode cX1_nodes 29 = .ok (.ifCond .le 79, 3) := by decide +kernel
theorem dX1_nodes_32 : decode cX1_nodes 32 = .ok (.aload_n 0, 1) := by decide +kernel
theorem dX1_nodes_33 : decode cX1_nodes 33 = .ok (.iload_n 2, 1) := by decide +kernel
theorem dX1_nodes_34 : decode cX1_nodes 34 = .ok (.iconst 1, 1) := by decide +kernel
theorem dX1_nodes_35 : decode cX1_nodes 35 = .ok (.isub, 1) := by decide +kernel
theorem dX1_nodes_36 : decode cX1_nodes 36 = .ok (.aload_n 0, 1) := by decide +kernel
theorem dX1_nodes_37 : decode cX1_nodes 37 = .ok (.getfield 7, 3) := by decide +kernel
theorem dX1_nodes_40 : decode cX1_nodes 40 = .ok (.iload_n 2, 1) := by decide +kernel
theorem dX1_nodes_41 : decode cX1_nodes 41 = .ok (.iaload, 1) := by decide +kernel
theorem dX1_nodes_42 : decode cX1_nodes 42 = .ok (.invokevirtual 84, 3) := by decide +kernel
theorem dX1_nodes_45 : decode cX1_nodes 45 = .ok (.ifCond .ne 63, 3) := by decide +kernel
theorem dX1_nodes_48 : decode cX1_nodes 48 = .ok (.iconst 0, 1) := by decide +kernel
theorem dX1_nodes_49 : decode cX1_nodes 49 = .ok (.istore_n 3, 1) := by decide +kernel
theorem dX1_nodes_50 : decode cX1_nodes 50 = .ok (.aload_n 0, 1) := by decide +kernel
theorem dX1_nodes_51 : decode cX1_nodes 51 = .ok (.getfield 7, 3) := by decide +kernel
theorem dX1_nodes_54 : decode cX1_nodes 54 = .ok (.iload_n 2, 1) := by decide +kernel
theorem dX1_nodes_55 : decode cX1_nodes 55 = .ok (.iaload, 1) := by decide +kernel
theorem dX1_nodes_56 : decode cX1_nodes 56 = .ok (.aload_n 0, 1) := by decide +kernel
theorem dX1_nodes_57 : decode cX1_nodes 57 = .ok (.getfield 7, 3) := by decide +kernel
theorem dX1_nodes_60 : decode cX1_nodes 60 = .ok (.iload_n 2, 1) := by decide +kernel
theorem dX1_nodes_61 : decode cX1_nodes 61 = .ok (.iconst 1, 1) := by decide +kernel
theorem dX1_nodes_62 : decode cX1_nodes 62 = .ok (.isub, 1) := by decide +kernel
theorem dX1_nodes_63 : decode cX1_nodes 63 = .ok (.iaload, 1) := by decide +kernel
theorem dX1_nodes_64 : decode cX1_nodes 64 = .ok (.ixor, 1) := by decide +kernel
theorem dX1_nodes_65 : decode cX1_nodes 65 = .ok (.iload_n 3, 1) := by decide +kernel
theorem dX1_nodes_66 : decode cX1_nodes 66 = .ok (.iconst 1, 1) := by decide +kernel
theorem dX1_nodes_67 : decode cX1_nodes 67 = .ok (.iadd, 1) := by decide +kernel
theorem dX1_nodes_68 : decode cX1_nodes 68 = .ok (.invokestatic 32, 3) := by decide +kernel
theorem dX1_nodes_71 : decode cX1_nodes 71 = .ok (.iand, 1) := by decide +kernel
theorem dX1_nodes_72 : decode cX1_nodes 72 = .ok (.ifCond .ne 9, 3) := by decide +kernel
theorem dX1_nodes_75 : decode cX1_nodes 75 = .ok (.iinc 3 1, 3) := by decide +kernel
theorem dX1_nodes_78 : decode cX1_nodes 78 = .ok (.goto (-28), 3) := by decide +kernel
theorem dX1_nodes_81 : decode cX1_nodes 81 = .ok (.iload_n 1, 1) := by decide +kernel
theorem dX1_nodes_82 : decode cX1_nodes 82 = .ok (.aload_n 0, 1) := by decide +kernel
theorem dX1_nodes_83 : decode cX1_nodes 83 = .ok (.aload_n 0, 1) := by decide +kernel
theorem dX1_nodes_84 : decode cX1_nodes 84 = .ok (.getfield 7, 3) := by decide +kernel
theorem dX1_nodes_87 : decode cX1_nodes 87 = .ok (.iload_n 2, 1) := by decide +kernel
theorem dX1_nodes_88 : decode cX1_nodes 88 = .ok (.iaload, 1) := by decide +kernel
theorem dX1_nodes_89 : decode cX1_nodes 89 = .ok (.iload_n 3, 1) := by decide +kernel
theorem dX1_nodes_90 : decode cX1_nodes 90 = .ok (.invokestatic 32, 3) := by decide +kernel
theorem dX1_nodes_93 : decode cX1_nodes 93 = .ok (.iand, 1) := by decide +kernel
theorem dX1_nodes_94 : decode cX1_nodes 94 = .ok (.iload_n 3, 1) := by decide +kernel
theorem dX1_nodes_95 : decode cX1_nodes 95 = .ok (.invokevirtual 91, 3) := by decide +kernel
theorem dX1_nodes_98 : decode cX1_nodes 98 = .ok (.ifCond .eq 7, 3) := by decide +kernel
theorem dX1_nodes_101 : decode cX1_nodes 101 = .ok (.iconst 0, 1) := by decide +kernel
theorem dX1_nodes_102 : decode cX1_nodes 102 = .ok (.goto 4, 3) := by decide +kernel
theorem dX1_nodes_105 : decode cX1_nodes 105 = .ok (.iconst 1, 1) := by decide +kernel
theorem dX1_nodes_106 : decode cX1_nodes 106 = .ok (.iadd, 1) := by decide +kernel
theorem dX1_nodes_107 : decode cX1_nodes 107 = .ok (.istore_n 1, 1) := by decide +kernel
theorem dX1_nodes_108 : decode cX1_nodes 108 = .ok (.iinc 2 1, 3) := by decide +kernel
theorem dX1_nodes_111 : decode cX1_nodes 111 = .ok (.goto (-102), 3) := by decide +kernel
theorem dX1_nodes_114 : decode cX1_nodes 114 = .ok (.iload_n 1, 1) := by decide +kernel
theorem dX1_nodes_115 : decode cX1_nodes 115 = .ok (.ireturn, 1) := by decide +kernel
theorem dJ6_numberOfLeadingZeros_0f7a4_0 : decode cJ6_numberOfLeadingZeros_0f7a4 0 = .ok (.iload_n 0, 1) := by decide +kernel
theorem dJ6_numberOfLeadingZeros_0f7a4_1 : decode cJ6_numberOfLeadingZeros_0f7a4 1 = .ok (.ifCond .gt 14, 3) := by decide +kernel
theorem dJ6_numberOfLeadingZeros_0f7a4_4 : decode cJ6_numberOfLeadingZeros_0f7a4 4 = .ok (.iload_n 0, 1) := by decide +kernel
theorem dJ6_numberOfLeadingZeros_0f7a4_5 : decode cJ6_numberOfLeadingZeros_0f7a4 5 = .ok (.ifCond .ne 8, 3) := by decide +kernel
theorem dJ6_numberOfLeadingZeros_0f7a4_8 : decode cJ6_numberOfLeadingZeros_0f7a4 8 = .ok (.bipush 32, 2) := by decide +kernel
theorem dJ6_numberOfLeadingZeros_0f7a4_10 : decode cJ6_numberOfLeadingZeros_0f7a4 10 = .ok (.goto 4, 3) := by decide +kernel
theorem dJ6_numberOfLeadingZeros_0f7a4_13 : decode cJ6_numberOfLeadingZeros_0f7a4 13 = .ok (.iconst 0, 1) := by decide +kernel
theorem dJ6_numberOfLeadingZeros_0f7a4_14 : decode cJ6_numberOfLeadingZeros_0f7a4 14 = .ok (.ireturn, 1) := by decide +kernel
theorem dJ6_numberOfLeadingZeros_0f7a4_15 : decode cJ6_numberOfLeadingZeros_0f7a4 15 = .ok (.bipush 31, 2) := by decide +kernel
theorem dJ6_numberOfLeadingZeros_0f7a4_17 : decode cJ6_numberOfLeadingZeros_0f7a4 17 = .ok (.istore_n 1, 1) := by decide +kernel
theorem dJ6_numberOfLeadingZeros_0f7a4_18 : decode cJ6_numberOfLeadingZeros_0f7a4 18 = .ok (.iload_n 0, 1) := by decide +kernel
theorem dJ6_numberOfLeadingZeros_0f7a4_19 : decode cJ6_numberOfLeadingZeros_0f7a4 19 = .ok (.ldc_w 264, 3) := by decide +kernel
theorem dJ6_numberOfLeadingZeros_0f7a4_22 : decode cJ6_numberOfLeadingZeros_0f7a4 22 = .ok (.if_icmp .lt 11, 3) := by decide +kernel
theorem dJ6_numberOfLeadingZeros_0f7a4_25 : decode cJ6_numberOfLeadingZeros_0f7a4 25 = .ok (.iinc 1 (-16), 3) := by decide +kernel
theorem dJ6_numberOfLeadingZeros_0f7a4_28 : decode cJ6_numberOfLeadingZeros_0f7a4 28 = .ok (.iload_n 0, 1) := by decide +kernel
theorem dJ6_numberOfLeadingZeros_0f7a4_29 : decode cJ6_numberOfLeadingZeros_0f7a4 29 = .ok (.bipush 16, 2) := by decide +kernel
theorem dJ6_numberOfLeadingZeros_0f7a4_31 : decode cJ6_numberOfLeadingZeros_0f7a4 31 = .ok (.iushr, 1) := by decide +kernel
theorem dJ6_numberOfLeadingZeros_0f7a4_32 : decode cJ6_numberOfLeadingZeros_0f7a4 32 = .ok (.istore_n 0, 1) := by decide +kernel
theorem dJ6_numberOfLeadingZeros_0f7a4_33 : decode cJ6_numberOfLeadingZeros_0f7a4 33 = .ok (.iload_n 0, 1) := by decide +kernel
theorem dJ6_numberOfLeadingZeros_0f7a4_34 : decode cJ6_numberOfLeadingZeros_0f7a4 34 = .ok (.sipush 256, 3) := by decide +kernel
theorem dJ6_numberOfLeadingZeros_0f7a4_37 : decode cJ6_numberOfLeadingZeros_0f7a4 37 = .ok (.if_icmp .lt 11, 3) := by decide +kernel
theorem dJ6_numberOfLeadingZeros_0f7a4_40 : decode cJ6_numberOfLeadingZeros_0f7a4 40 = .ok (.iinc 1 (-8), 3) := by decide +kernel
theorem dJ6_numberOfLeadingZeros_0f7a4_43 : decode cJ6_numberOfLeadingZeros_0f7a4 43 = .ok (.iload_n 0, 1) := by decide +kernel
theorem dJ6_numberOfLeadingZeros_0f7a4_44 : decode cJ6_numberOfLeadingZeros_0f7a4 44 = .ok (.bipush 8, 2) := by decide +kernel
theorem dJ6_numberOfLeadingZeros_0f7a4_46 : decode cJ6_numberOfLeadingZeros_0f7a4 46 = .ok (.iushr, 1) := by decide +kernel
theorem dJ6_numberOfLeadingZeros_0f7a4_47 : decode cJ6_numberOfLeadingZeros_0f7a4 47 = .ok (.istore_n 0, 1) := by decide +kernel
theorem dJ6_numberOfLeadingZeros_0f7a4_48 : decode cJ6_numberOfLeadingZeros_0f7a4 48 = .ok (.iload_n 0, 1) := by decide +kernel
theorem dJ6_numberOfLeadingZeros_0f7a4_49 : decode cJ6_numberOfLeadingZeros_0f7a4 49 = .ok (.bipush 16, 2) := by decide +kernel
theorem dJ6_numberOfLeadingZeros_0f7a4_51 : decode cJ6_numberOfLeadingZeros_0f7a4 51 = .ok (.if_icmp .lt 10, 3) := by decide +kernel
theorem dJ6_numberOfLeadingZeros_0f7a4_54 : decode cJ6_numberOfLeadingZeros_0f7a4 54 = .ok (.iinc 1 (-4), 3) := by decide +kernel
theorem dJ6_numberOfLeadingZeros_0f7a4_57 : decode cJ6_numberOfLeadingZeros_0f7a4 57 = .ok (.iload_n 0, 1) := by decide +kernel
theorem dJ6_numberOfLeadingZeros_0f7a4_58 : decode cJ6_numberOfLeadingZeros_0f7a4 58 = .ok (.iconst 4, 1) := by decide +kernel
theorem dJ6_numberOfLeadingZeros_0f7a4_59 : decode cJ6_numberOfLeadingZeros_0f7a4 59 = .ok (.iushr, 1) := by decide +kernel
theorem dJ6_numberOfLeadingZeros_0f7a4_60 : decode cJ6_numberOfLeadingZeros_0f7a4 60 = .ok (.istore_n 0, 1) := by decide +kernel
theorem dJ6_numberOfLeadingZeros_0f7a4_61 : decode cJ6_numberOfLeadingZeros_0f7a4 61 = .ok (.iload_n 0, 1) := by decide +kernel
theorem dJ6_numberOfLeadingZeros_0f7a4_62 : decode cJ6_numberOfLeadingZeros_0f7a4 62 = .ok (.iconst 4, 1) := by decide +kernel
theorem dJ6_numberOfLeadingZeros_0f7a4_63 : decode cJ6_numberOfLeadingZeros_0f7a4 63 = .ok (.if_icmp .lt 10, 3) := by decide +kernel
theorem dJ6_numberOfLeadingZeros_0f7a4_66 : decode cJ6_numberOfLeadingZeros_0f7a4 66 = .ok (.iinc 1 (-2), 3) := by decide +kernel
theorem dJ6_numberOfLeadingZeros_0f7a4_69 : decode cJ6_numberOfLeadingZeros_0f7a4 69 = .ok (.iload_n 0, 1) := by decide +kernel
theorem dJ6_numberOfLeadingZeros_0f7a4_70 : decode cJ6_numberOfLeadingZeros_0f7a4 70 = .ok (.iconst 2, 1) := by decide +kernel
theorem dJ6_numberOfLeadingZeros_0f7a4_71 : decode cJ6_numberOfLeadingZeros_0f7a4 71 = .ok (.iushr, 1) := by decide +kernel
theorem dJ6_numberOfLeadingZeros_0f7a4_72 : decode cJ6_numberOfLeadingZeros_0f7a4 72 = .ok (.istore_n 0, 1) := by decide +kernel
theorem dJ6_numberOfLeadingZeros_0f7a4_73 : decode cJ6_numberOfLeadingZeros_0f7a4 73 = .ok (.iload_n 1, 1) := by decide +kernel
theorem dJ6_numberOfLeadingZeros_0f7a4_74 : decode cJ6_numberOfLeadingZeros_0f7a4 74 = .ok (.iload_n 0, 1) := by decide +kernel
theorem dJ6_numberOfLeadingZeros_0f7a4_75 : decode cJ6_numberOfLeadingZeros_0f7a4 75 = .ok (.iconst 1, 1) := by decide +kernel
theorem dJ6_numberOfLeadingZeros_0f7a4_76 : decode cJ6_numberOfLeadingZeros_0f7a4 76 = .ok (.iushr, 1) := by decide +kernel
theorem dJ6_numberOfLeadingZeros_0f7a4_77 : decode cJ6_numberOfLeadingZeros_0f7a4 77 = .ok (.isub, 1) := by decide +kernel
theorem dJ6_numberOfLeadingZeros_0f7a4_78 : decode cJ6_numberOfLeadingZeros_0f7a4 78 = .ok (.ireturn, 1) := by decide +kernel
theorem dJ13_bitCount_95d88_0 : decode cJ13_bitCount_95d88 0 = .ok (.lload_n 0, 1) := by decide +kernel
theorem dJ13_bitCount_95d88_1 : decode cJ13_bitCount_95d88 1 = .ok (.lload_n 0, 1) := by decide +kernel
theorem dJ13_bitCount_95d88_2 : decode cJ13_bitCount_95d88 2 = .ok (.iconst 1, 1) := by decide +kernel
theorem dJ13_bitCount_95d88_3 : decode cJ13_bitCount_95d88 3 = .ok (.lushr, 1) := by decide +kernel
theorem dJ13_bitCount_95d88_4 : decode cJ13_bitCount_95d88 4 = .ok (.ldc2_w 314, 3) := by decide +kernel
theorem dJ13_bitCount_95d88_7 : decode cJ13_bitCount_95d88 7 = .ok (.land, 1) := by decide +kernel
theorem dJ13_bitCount_95d88_8 : decode cJ13_bitCount_95d88 8 = .ok (.lsub, 1) := by decide +kernel
theorem dJ13_bitCount_95d88_9 : decode cJ13_bitCount_95d88 9 = .ok (.lstore_n 0, 1) := by decide +kernel
theorem dJ13_bitCount_95d88_10 : decode cJ13_bitCount_95d88 10 = .ok (.lload_n 0, 1) := by decide +kernel
theorem dJ13_bitCount_95d88_11 : decode cJ13_bitCount_95d88 11 = .ok (.ldc2_w 316, 3) := by decide +kernel
theorem dJ13_bitCount_95d88_14 : decode cJ13_bitCount_95d88 14 = .ok (.land, 1) := by decide +kernel
theorem dJ13_bitCount_95d88_15 : decode cJ13_bitCount_95d88 15 = .ok (.lload_n 0, 1) := by decide +kernel
theorem dJ13_bitCount_95d88_16 : decode cJ13_bitCount_95d88 16 = .ok (.iconst 2, 1) := by decide +kernel
theorem dJ13_bitCount_95d88_17 : decode cJ13_bitCount_95d88 17 = .ok (.lushr, 1) := by decide +kernel
theorem dJ13_bitCount_95d88_18 : decode cJ13_bitCount_95d88 18 = .ok (.ldc2_w 316, 3) := by decide +kernel
theorem dJ13_bitCount_95d88_21 : decode cJ13_bitCount_95d88 21 = .ok (.land, 1) := by decide +kernel
theorem dJ13_bitCount_95d88_22 : decode cJ13_bitCount_95d88 22 = .ok (.ladd, 1) := by decide +kernel
theorem dJ13_bitCount_95d88_23 : decode cJ13_bitCount_95d88 23 = .ok (.lstore_n 0, 1) := by decide +kernel
theorem dJ13_bitCount_95d88_24 : decode cJ13_bitCount_95d88 24 = .ok (.lload_n 0, 1) := by decide +kernel
theorem dJ13_bitCount_95d88_25 : decode cJ13_bitCount_95d88 25 = .ok (.lload_n 0, 1) := by decide +kernel
theorem dJ13_bitCount_95d88_26 : decode cJ13_bitCount_95d88 26 = .ok (.iconst 4, 1) := by decide +kernel
theorem dJ13_bitCount_95d88_27 : decode cJ13_bitCount_95d88 27 = .ok (.lushr, 1) := by decide +kernel
theorem dJ13_bitCount_95d88_28 : decode cJ13_bitCount_95d88 28 = .ok (.ladd, 1) := by decide +kernel
theorem dJ13_bitCount_95d88_29 : decode cJ13_bitCount_95d88 29 = .ok (.ldc2_w 318, 3) := by decide +kernel
theorem dJ13_bitCount_95d88_32 : decode cJ13_bitCount_95d88 32 = .ok (.land, 1) := by decide +kernel
theorem dJ13_bitCount_95d88_33 : decode cJ13_bitCount_95d88 33 = .ok (.lstore_n 0, 1) := by decide +kernel
theorem dJ13_bitCount_95d88_34 : decode cJ13_bitCount_95d88 34 = .ok (.lload_n 0, 1) := by decide +kernel
theorem dJ13_bitCount_95d88_35 : decode cJ13_bitCount_95d88 35 = .ok (.lload_n 0, 1) := by decide +kernel
theorem dJ13_bitCount_95d88_36 : decode cJ13_bitCount_95d88 36 = .ok (.bipush 8, 2) := by decide +kernel
theorem dJ13_bitCount_95d88_38 : decode cJ13_bitCount_95d88 38 = .ok (.lushr, 1) := by decide +kernel
theorem dJ13_bitCount_95d88_39 : decode cJ13_bitCount_95d88 39 = .ok (.ladd, 1) := by decide +kernel
theorem dJ13_bitCount_95d88_40 : decode cJ13_bitCount_95d88 40 = .ok (.lstore_n 0, 1) := by decide +kernel
theorem dJ13_bitCount_95d88_41 : decode cJ13_bitCount_95d88 41 = .ok (.lload_n 0, 1) := by decide +kernel
theorem dJ13_bitCount_95d88_42 : decode cJ13_bitCount_95d88 42 = .ok (.lload_n 0, 1) := by decide +kernel
theorem dJ13_bitCount_95d88_43 : decode cJ13_bitCount_95d88 43 = .ok (.bipush 16, 2) := by decide +kernel
theorem dJ13_bitCount_95d88_45 : decode cJ13_bitCount_95d88 45 = .ok (.lushr, 1) := by decide +kernel
theorem dJ13_bitCount_95d88_46 : decode cJ13_bitCount_95d88 46 = .ok (.ladd, 1) := by decide +kernel
theorem dJ13_bitCount_95d88_47 : decode cJ13_bitCount_95d88 47 = .ok (.lstore_n 0, 1) := by decide +kernel
theorem dJ13_bitCount_95d88_48 : decode cJ13_bitCount_95d88 48 = .ok (.lload_n 0, 1) := by decide +kernel
theorem dJ13_bitCount_95d88_49 : decode cJ13_bitCount_95d88 49 = .ok (.lload_n 0, 1) := by decide +kernel
theorem dJ13_bitCount_95d88_50 : decode cJ13_bitCount_95d88 50 = .ok (.bipush 32, 2) := by decide +kernel
theorem dJ13_bitCount_95d88_52 : decode cJ13_bitCount_95d88 52 = .ok (.lushr, 1) := by decide +kernel
theorem dJ13_bitCount_95d88_53 : decode cJ13_bitCount_95d88 53 = .ok (.ladd, 1) := by decide +kernel
theorem dJ13_bitCount_95d88_54 : decode cJ13_bitCount_95d88 54 = .ok (.lstore_n 0, 1) := by decide +kernel
theorem dJ13_bitCount_95d88_55 : decode cJ13_bitCount_95d88 55 = .ok (.lload_n 0, 1) := by decide +kernel
theorem dJ13_bitCount_95d88_56 : decode cJ13_bitCount_95d88 56 = .ok (.l2i, 1) := by decide +kernel
theorem dJ13_bitCount_95d88_57 : decode cJ13_bitCount_95d88 57 = .ok (.bipush 127, 2) := by decide +kernel
theorem dJ13_bitCount_95d88_59 : decode cJ13_bitCount_95d88 59 = .ok (.iand, 1) := by decide +kernel
theorem dJ13_bitCount_95d88_60 : decode cJ13_bitCount_95d88 60 = .ok (.ireturn, 1) := by decide +kernel
theorem dJ9_min_7cf53_0 : decode cJ9_min_7cf53 0 = .ok (.iload_n 0, 1) := by decide +kernel
theorem dJ9_min_7cf53_1 : decode cJ9_min_7cf53 1 = .ok (.iload_n 1, 1) := by decide +kernel
theorem dJ9_min_7cf53_2 : decode cJ9_min_7cf53 2 = .ok (.if_icmp .gt 7, 3) := by decide +kernel
theorem dJ9_min_7cf53_5 : decode cJ9_min_7cf53 5 = .ok (.iload_n 0, 1) := by decide +kernel
theorem dJ9_min_7cf53_6 : decode cJ9_min_7cf53 6 = .ok (.goto 4, 3) := by decide +kernel
theorem dJ9_min_7cf53_9 : decode cJ9_min_7cf53 9 = .ok (.iload_n 1, 1) := by decide +kernel
theorem dJ9_min_7cf53_10 : decode cJ9_min_7cf53 10 = .ok (.ireturn, 1) := by decide +kernel
theorem dJ7_copyOf_59c91_0 : decode cJ7_copyOf_59c91 0 = .ok (.iload_n 1, 1) := by decide +kernel
theorem dJ7_copyOf_59c91_1 : decode cJ7_copyOf_59c91 1 = .ok (.aload_n 0, 1) := by decide +kernel
theorem dJ7_copyOf_59c91_2 : decode cJ7_copyOf_59c91 2 = .ok (.arraylength, 1) := by decide +kernel
theorem dJ7_copyOf_59c91_3 : decode cJ7_copyOf_59c91 3 = .ok (.if_icmp .ne 11, 3) := by decide +kernel
theorem dJ7_copyOf_59c91_6 : decode cJ7_copyOf_59c91 6 = .ok (.aload_n 0, 1) := by decide +kernel
theorem dJ7_copyOf_59c91_7 : decode cJ7_copyOf_59c91 7 = .ok (.invokevirtual 316, 3) := by decide +kernel
theorem dJ7_copyOf_59c91_10 : decode cJ7_copyOf_59c91 10 = .ok (.checkcast 317, 3) := by decide +kernel
theorem dJ7_copyOf_59c91_13 : decode cJ7_copyOf_59c91 13 = .ok (.areturn, 1) := by decide +kernel
theorem dJ7_copyOf_59c91_14 : decode cJ7_copyOf_59c91 14 = .ok (.iload_n 1, 1) := by decide +kernel
theorem dJ7_copyOf_59c91_15 : decode cJ7_copyOf_59c91 15 = .ok (.newarray .int, 2) := by decide +kernel
theorem dJ7_copyOf_59c91_17 : decode cJ7_copyOf_59c91 17 = .ok (.astore_n 2, 1) := by decide +kernel
theorem dJ7_copyOf_59c91_18 : decode cJ7_copyOf_59c91 18 = .ok (.aload_n 0, 1) := by decide +kernel
theorem dJ7_copyOf_59c91_19 : decode cJ7_copyOf_59c91 19 = .ok (.iconst 0, 1) := by decide +kernel
theorem dJ7_copyOf_59c91_20 : decode cJ7_copyOf_59c91 20 = .ok (.aload_n 2, 1) := by decide +kernel
theorem dJ7_copyOf_59c91_21 : decode cJ7_copyOf_59c91 21 = .ok (.iconst 0, 1) := by decide +kernel
theorem dJ7_copyOf_59c91_22 : decode cJ7_copyOf_59c91 22 = .ok (.aload_n 0, 1) := by decide +kernel
theorem dJ7_copyOf_59c91_23 : decode cJ7_copyOf_59c91 23 = .ok (.arraylength, 1) := by decide +kernel
theorem dJ7_copyOf_59c91_24 : decode cJ7_copyOf_59c91 24 = .ok (.iload_n 1, 1) := by decide +kernel
theorem dJ7_copyOf_59c91_25 : decode cJ7_copyOf_59c91 25 = .ok (.invokestatic 304, 3) := by decide +kernel
theorem dJ7_copyOf_59c91_28 : decode cJ7_copyOf_59c91 28 = .ok (.invokestatic 150, 3) := by decide +kernel
theorem dJ7_copyOf_59c91_31 : decode cJ7_copyOf_59c91 31 = .ok (.aload_n 2, 1) := by decide +kernel
theorem dJ7_copyOf_59c91_32 : decode cJ7_copyOf_59c91 32 = .ok (.areturn, 1) := by decide +kernel
theorem dJ7_copyOf_c38d5_0 : decode cJ7_copyOf_c38d5 0 = .ok (.iload_n 1, 1) := by decide +kernel
theorem dJ7_copyOf_c38d5_1 : decode cJ7_copyOf_c38d5 1 = .ok (.aload_n 0, 1) := by decide +kernel
theorem dJ7_copyOf_c38d5_2 : decode cJ7_copyOf_c38d5 2 = .ok (.arraylength, 1) := by decide +kernel
theorem dJ7_copyOf_c38d5_3 : decode cJ7_copyOf_c38d5 3 = .ok (.if_icmp .ne 11, 3) := by decide +kernel
theorem dJ7_copyOf_c38d5_6 : decode cJ7_copyOf_c38d5 6 = .ok (.aload_n 0, 1) := by decide +kernel
theorem dJ7_copyOf_c38d5_7 : decode cJ7_copyOf_c38d5 7 = .ok (.invokevirtual 319, 3) := by decide +kernel
theorem dJ7_copyOf_c38d5_10 : decode cJ7_copyOf_c38d5 10 = .ok (.checkcast 320, 3) := by decide +kernel
theorem dJ7_copyOf_c38d5_13 : decode cJ7_copyOf_c38d5 13 = .ok (.areturn, 1) := by decide +kernel
theorem dJ7_copyOf_c38d5_14 : decode cJ7_copyOf_c38d5 14 = .ok (.iload_n 1, 1) := by decide +kernel
theorem dJ7_copyOf_c38d5_15 : decode cJ7_copyOf_c38d5 15 = .ok (.newarray .long, 2) := by decide +kernel
theorem dJ7_copyOf_c38d5_17 : decode cJ7_copyOf_c38d5 17 = .ok (.astore_n 2, 1) := by decide +kernel
theorem dJ7_copyOf_c38d5_18 : decode cJ7_copyOf_c38d5 18 = .ok (.aload_n 0, 1) := by decide +kernel
theorem dJ7_copyOf_c38d5_19 : decode cJ7_copyOf_c38d5 19 = .ok (.iconst 0, 1) := by decide +kernel
theorem dJ7_copyOf_c38d5_20 : decode cJ7_copyOf_c38d5 20 = .ok (.aload_n 2, 1) := by decide +kernel
theorem dJ7_copyOf_c38d5_21 : decode cJ7_copyOf_c38d5 21 = .ok (.iconst 0, 1) := by decide +kernel
theorem dJ7_copyOf_c38d5_22 : decode cJ7_copyOf_c38d5 22 = .ok (.aload_n 0, 1) := by decide +kernel
theorem dJ7_copyOf_c38d5_23 : decode cJ7_copyOf_c38d5 23 = .ok (.arraylength, 1) := by decide +kernel
theorem dJ7_copyOf_c38d5_24 : decode cJ7_copyOf_c38d5 24 = .ok (.iload_n 1, 1) := by decide +kernel
theorem dJ7_copyOf_c38d5_25 : decode cJ7_copyOf_c38d5 25 = .ok (.invokestatic 304, 3) := by decide +kernel
theorem dJ7_copyOf_c38d5_28 : decode cJ7_copyOf_c38d5 28 = .ok (.invokestatic 150, 3) := by decide +kernel
theorem dJ7_copyOf_c38d5_31 : decode cJ7_copyOf_c38d5 31 = .ok (.aload_n 2, 1) := by decide +kernel
theorem dJ7_copyOf_c38d5_32 : decode cJ7_copyOf_c38d5 32 = .ok (.areturn, 1) := by decide +kernel
set_option maxRecDepth 20000 in
theorem ggL_put_X0_put : GoodIn wsL_put wsX0_put := goodIn_ca (goodIn_ca (goodIn_r _ [7, 8, 9, 10, 6, 11, 12, 13, 14, 15, 16, 17, 18, 19, 20, 21, 22, 23, 24, 25, 26, 27, 28, 29, 30, 31, 32, 33, 34, 35, 36, 37, 38, 39, 40, 41, 42, 43, 44, 45, 46, 47, 48, 49, 50, 51, 52, 53, 54, 55, 56, 57, 58, 59, 60, 61, 62, 63, 64, 65, 66, 67, 68, 69, 70, 71, 72, 73, 74, 75, 76, 77, 78, 79, 80, 81, 82, 83, 84, 85, 86, 87, 88, 89, 90, 91, 92, 93, 94, 95, 96, 97, 98, 99, 100, 101, 102, 103, 104, 105, 106, 107] (by decide +kernel) (by decide +kernel)) (goodIn_sub (fun _ h => List.mem_cons_of_mem _ (List.mem_append_left _ (List.mem_append_right _ h))) (by decide +kernel))) (goodIn_sub (fun _ h => List.mem_cons_of_mem _ (List.mem_append_right _ h)) (by decide +kernel))
set_option maxRecDepth 20000 in
theorem gL_put_X0_put : GoodIn wsL_put (wsV RL 7 RX0 yX0_put wsX0_put) := goodIn_app (goodIn_of _ (by decide +kernel)) ggL_put_X0_put
theorem dL_put_0 : decode cL_put 0 = .ok (.aload 7, 2) := by decide +kernel
theorem dL_put_2 : decode cL_put 2 = .ok (.iconst 0, 1) := by decide +kernel
theorem dL_put_3 : decode cL_put 3 = .ok (.aload_n 0, 1) := by decide +kernel
theorem dL_put_4 : decode cL_put 4 = .ok (.iload_n 1, 1) := by decide +kernel
theorem dL_put_5 : decode cL_put 5 = .ok (.iload_n 2, 1) := by decide +kernel
theorem dL_put_6 : decode cL_put 6 = .ok (.iload_n 3, 1) := by decide +kernel
theorem dL_put_7 : decode cL_put 7 = .ok (.iload 4, 2) := by decide +kernel
theorem dL_put_9 : decode cL_put 9 = .ok (.lload 5, 2) := by decide +kernel
theorem dL_put_11 : decode cL_put 11 = .ok (.invokevirtual 7, 3) := by decide +kernel
theorem dL_put_14 : decode cL_put 14 = .ok (.i2l, 1) := by decide +kernel
theorem dL_put_15 : decode cL_put 15 = .ok (.lastore, 1) := by decide +kernel
theorem dL_put_16 : decode cL_put 16 = .ok (.goto 11, 3) := by decide +kernel
theorem dL_put_19 : decode cL_put 19 = .ok (.astore 8, 2) := by decide +kernel
theorem dL_put_21 : decode cL_put 21 = .ok (.iconst 1, 1) := by decide +kernel
theorem dL_put_22 : decode cL_put 22 = .ok (.ireturn, 1) := by decide +kernel
theorem dL_put_23 : decode cL_put 23 = .ok (.astore 8, 2) := by decide +kernel
theorem dL_put_25 : decode cL_put 25 = .ok (.iconst 2, 1) := by decide +kernel
theorem dL_put_26 : decode cL_put 26 = .ok (.ireturn, 1) := by decide +kernel
theorem dL_put_27 : decode cL_put 27 = .ok (.iconst 0, 1) := by decide +kernel
theorem dL_put_28 : decode cL_put 28 = .ok (.ireturn, 1) := by decide +kernel
set_option maxRecDepth 20000 in
theorem ggL_take_X0_take : GoodIn wsL_take wsX0_take := goodIn_ca (goodIn_r _ [6, 7, 8, 5, 9, 10, 11, 12, 13, 14, 15, 16, 17, 18, 19, 20, 21, 22, 23, 24, 25, 26, 27, 28, 29, 30, 31, 32, 33, 34, 35, 36, 37, 38, 39, 40, 41, 42, 43, 44, 45, 46, 47, 48, 49, 50, 51, 52, 53, 54, 55, 56, 57, 58, 59, 60, 61, 62, 63, 64, 65, 66, 67, 68, 69] (by decide +kernel) (by decide +kernel)) (goodIn_sub (fun _ h => List.mem_cons_of_mem _ (List.mem_append_right _ h)) (by decide +kernel))
set_option maxRecDepth 20000 in
theorem gL_take_X0_take : GoodIn wsL_take (wsV RL 17 RX0 yX0_take wsX0_take) := goodIn_app (goodIn_of _ (by decide +kernel)) ggL_take_X0_take
theorem dL_take_0 : decode cL_take 0 = .ok (.aload 4, 2) := by decide +kernel
theorem dL_take_2 : decode cL_take 2 = .ok (.iconst 0, 1) := by decide +kernel
theorem dL_take_3 : decode cL_take 3 = .ok (.aload_n 0, 1) := by decide +kernel
theorem dL_take_4 : decode cL_take 4 = .ok (.iload_n 1, 1) := by decide +kernel
theorem dL_take_5 : decode cL_take 5 = .ok (.iload_n 2, 1) := by decide +kernel
theorem dL_take_6 : decode cL_take 6 = .ok (.iload_n 3, 1) := by decide +kernel
theorem dL_take_7 : decode cL_take 7 = .ok (.invokevirtual 17, 3) := by decide +kernel
theorem dL_take_10 : decode cL_take 10 = .ok (.ifCond .eq 7, 3) := by decide +kernel
theorem dL_take_13 : decode cL_take 13 = .ok (.lconst 1, 1) := by decide +kernel
theorem dL_take_14 : decode cL_take 14 = .ok (.goto 4, 3) := by decide +kernel
theorem dL_take_17 : decode cL_take 17 = .ok (.lconst 0, 1) := by decide +kernel
theorem dL_take_18 : decode cL_take 18 = .ok (.lastore, 1) := by decide +kernel
theorem dL_take_19 : decode cL_take 19 = .ok (.goto 7, 3) := by decide +kernel
theorem dL_take_22 : decode cL_take 22 = .ok (.astore 5, 2) := by decide +kernel
theorem dL_take_24 : decode cL_take 24 = .ok (.iconst 1, 1) := by decide +kernel
theorem dL_take_25 : decode cL_take 25 = .ok (.ireturn, 1) := by decide +kernel
theorem dL_take_26 : decode cL_take 26 = .ok (.iconst 0, 1) := by decide +kernel
theorem dL_take_27 : decode cL_take 27 = .ok (.ireturn, 1) := by decide +kernel
set_option maxRecDepth 20000 in
theorem ggL_drop_X0_drop : GoodIn wsL_drop wsX0_drop := goodIn_ca (goodIn_r _ [6, 7, 8, 9, 5, 10, 11, 12, 13, 14, 15, 16, 17, 18, 19, 20, 21, 22, 23, 24, 25, 26, 27, 28, 29, 30, 31, 32, 33, 34, 35, 36, 37, 38, 39, 40, 41, 42, 43, 44, 45, 46, 47, 48, 49, 50, 51, 52, 53] (by decide +kernel) (by decide +kernel)) (goodIn_sub (fun _ h => List.mem_cons_of_mem _ (List.mem_append_right _ h)) (by decide +kernel))
set_option maxRecDepth 20000 in
theorem gL_drop_X0_drop : GoodIn wsL_drop (wsV RL 21 RX0 yX0_drop wsX0_drop) := goodIn_app (goodIn_of _ (by decide +kernel)) ggL_drop_X0_drop
theorem dL_drop_0 : decode cL_drop 0 = .ok (.aload_n 2, 1) := by decide +kernel
theorem dL_drop_1 : decode cL_drop 1 = .ok (.iconst 0, 1) := by decide +kernel
theorem dL_drop_2 : decode cL_drop 2 = .ok (.aload_n 0, 1) := by decide +kernel
theorem dL_drop_3 : decode cL_drop 3 = .ok (.iload_n 1, 1) := by decide +kernel
theorem dL_drop_4 : decode cL_drop 4 = .ok (.invokevirtual 21, 3) := by decide +kernel
theorem dL_drop_7 : decode cL_drop 7 = .ok (.i2l, 1) := by decide +kernel
theorem dL_drop_8 : decode cL_drop 8 = .ok (.lastore, 1) := by decide +kernel
theorem dL_drop_9 : decode cL_drop 9 = .ok (.goto 6, 3) := by decide +kernel
theorem dL_drop_12 : decode cL_drop 12 = .ok (.astore_n 3, 1) := by decide +kernel
theorem dL_drop_13 : decode cL_drop 13 = .ok (.iconst 1, 1) := by decide +kernel
theorem dL_drop_14 : decode cL_drop 14 = .ok (.ireturn, 1) := by decide +kernel
theorem dL_drop_15 : decode cL_drop 15 = .ok (.iconst 0, 1) := by decide +kernel
theorem dL_drop_16 : decode cL_drop 16 = .ok (.ireturn, 1) := by decide +kernel
set_option maxRecDepth 20000 in
theorem ggL_cut_X0_cut : GoodIn wsL_cut wsX0_cut := goodIn_ca (goodIn_r _ [6, 7, 8, 9, 10, 5, 11, 12, 13, 14, 15, 16, 17, 18, 19, 20, 21, 22, 23, 24, 25, 26, 27, 28, 29, 30, 31, 32, 33, 34, 35, 36, 37, 38, 39, 40, 41, 42, 43, 44] (by decide +kernel) (by decide +kernel)) (goodIn_sub (fun _ h => List.mem_cons_of_mem _ (List.mem_append_right _ h)) (by decide +kernel))
set_option maxRecDepth 20000 in
theorem gL_cut_X0_cut : GoodIn wsL_cut (wsV RL 25 RX0 yX0_cut wsX0_cut) := goodIn_app (goodIn_of _ (by decide +kernel)) ggL_cut_X0_cut
theorem dL_cut_0 : decode cL_cut 0 = .ok (.aload_n 2, 1) := by decide +kernel
theorem dL_cut_1 : decode cL_cut 1 = .ok (.iconst 0, 1) := by decide +kernel
theorem dL_cut_2 : decode cL_cut 2 = .ok (.aload_n 0, 1) := by decide +kernel
theorem dL_cut_3 : decode cL_cut 3 = .ok (.iload_n 1, 1) := by decide +kernel
theorem dL_cut_4 : decode cL_cut 4 = .ok (.invokevirtual 25, 3) := by decide +kernel
theorem dL_cut_7 : decode cL_cut 7 = .ok (.i2l, 1) := by decide +kernel
theorem dL_cut_8 : decode cL_cut 8 = .ok (.lastore, 1) := by decide +kernel
theorem dL_cut_9 : decode cL_cut 9 = .ok (.goto 6, 3) := by decide +kernel
theorem dL_cut_12 : decode cL_cut 12 = .ok (.astore_n 3, 1) := by decide +kernel
theorem dL_cut_13 : decode cL_cut 13 = .ok (.iconst 1, 1) := by decide +kernel
theorem dL_cut_14 : decode cL_cut 14 = .ok (.ireturn, 1) := by decide +kernel
theorem dL_cut_15 : decode cL_cut 15 = .ok (.iconst 0, 1) := by decide +kernel
theorem dL_cut_16 : decode cL_cut 16 = .ok (.ireturn, 1) := by decide +kernel
set_option maxRecDepth 20000 in
theorem ggL_route_X0_route : GoodIn wsL_route wsX0_route := goodIn_ca (goodIn_r _ [6, 7, 8, 5, 9, 10, 11, 12, 13, 14, 15, 16, 17, 18, 19, 20, 21, 22, 23, 24, 25, 26, 27, 28, 29, 30, 31, 32, 33, 34, 35, 36, 37, 38, 39, 40, 41, 42, 43, 44, 45, 46, 47, 48, 49, 50, 51, 52, 53, 54, 55, 56, 57, 58, 59, 60, 61, 62, 63, 64, 65, 66, 67, 68, 69, 70, 71, 72, 73, 74, 75, 76, 77, 78, 79, 80, 81, 82, 83, 84, 85, 86, 87, 88] (by decide +kernel) (by decide +kernel)) (goodIn_sub (fun _ h => List.mem_cons_of_mem _ (List.mem_append_right _ h)) (by decide +kernel))
set_option maxRecDepth 20000 in
theorem gL_route_X0_route : GoodIn wsL_route (wsV RL 28 RX0 yX0_route wsX0_route) := goodIn_app (goodIn_of _ (by decide +kernel)) ggL_route_X0_route
theorem dL_route_0 : decode cL_route 0 = .ok (.aload 5, 2) := by decide +kernel
theorem dL_route_2 : decode cL_route 2 = .ok (.iconst 0, 1) := by decide +kernel
theorem dL_route_3 : decode cL_route 3 = .ok (.aload_n 0, 1) := by decide +kernel
theorem dL_route_4 : decode cL_route 4 = .ok (.iload_n 1, 1) := by decide +kernel
theorem dL_route_5 : decode cL_route 5 = .ok (.iload_n 2, 1) := by decide +kernel
theorem dL_route_6 : decode cL_route 6 = .ok (.iload_n 3, 1) := by decide +kernel
theorem dL_route_7 : decode cL_route 7 = .ok (.iload 4, 2) := by decide +kernel
theorem dL_route_9 : decode cL_route 9 = .ok (.invokevirtual 28, 3) := by decide +kernel
theorem dL_route_12 : decode cL_route 12 = .ok (.i2l, 1) := by decide +kernel
theorem dL_route_13 : decode cL_route 13 = .ok (.lastore, 1) := by decide +kernel
theorem dL_route_14 : decode cL_route 14 = .ok (.goto 7, 3) := by decide +kernel
theorem dL_route_17 : decode cL_route 17 = .ok (.astore 6, 2) := by decide +kernel
theorem dL_route_19 : decode cL_route 19 = .ok (.iconst 1, 1) := by decide +kernel
theorem dL_route_20 : decode cL_route 20 = .ok (.ireturn, 1) := by decide +kernel
theorem dL_route_21 : decode cL_route 21 = .ok (.iconst 0, 1) := by decide +kernel
theorem dL_route_22 : decode cL_route 22 = .ok (.ireturn, 1) := by decide +kernel
set_option maxRecDepth 20000 in
theorem ggL_shorter_X0_shorter : GoodIn wsL_shorter wsX0_shorter := goodIn_ca (goodIn_r _ [6, 7, 8, 9, 10, 11, 5, 12, 13, 14, 15, 16, 17, 18, 19, 20, 21, 22, 23, 24, 25, 26, 27, 28, 29, 30, 31, 32, 33, 34, 35, 36, 37, 38, 39, 40, 41, 42, 43, 44, 45, 46, 47, 48, 49, 50, 51, 52, 53, 54, 55, 56, 57, 58, 59, 60, 61, 62, 63] (by decide +kernel) (by decide +kernel)) (goodIn_sub (fun _ h => List.mem_cons_of_mem _ (List.mem_append_right _ h)) (by decide +kernel))
set_option maxRecDepth 20000 in
theorem gL_shorter_X0_shorter : GoodIn wsL_shorter (wsV RL 32 RX0 yX0_shorter wsX0_shorter) := goodIn_app (goodIn_of _ (by decide +kernel)) ggL_shorter_X0_shorter
theorem dL_shorter_0 : decode cL_shorter 0 = .ok (.aload_n 3, 1) := by decide +kernel
theorem dL_shorter_1 : decode cL_shorter 1 = .ok (.iconst 0, 1) := by decide +kernel
theorem dL_shorter_2 : decode cL_shorter 2 = .ok (.aload_n 0, 1) := by decide +kernel
theorem dL_shorter_3 : decode cL_shorter 3 = .ok (.iload_n 1, 1) := by decide +kernel
theorem dL_shorter_4 : decode cL_shorter 4 = .ok (.iload_n 2, 1) := by decide +kernel
theorem dL_shorter_5 : decode cL_shorter 5 = .ok (.invokevirtual 32, 3) := by decide +kernel
theorem dL_shorter_8 : decode cL_shorter 8 = .ok (.i2l, 1) := by decide +kernel
theorem dL_shorter_9 : decode cL_shorter 9 = .ok (.lastore, 1) := by decide +kernel
theorem dL_shorter_10 : decode cL_shorter 10 = .ok (.goto 7, 3) := by decide +kernel
theorem dL_shorter_13 : decode cL_shorter 13 = .ok (.astore 4, 2) := by decide +kernel
theorem dL_shorter_15 : decode cL_shorter 15 = .ok (.iconst 1, 1) := by decide +kernel
theorem dL_shorter_16 : decode cL_shorter 16 = .ok (.ireturn, 1) := by decide +kernel
theorem dL_shorter_17 : decode cL_shorter 17 = .ok (.iconst 0, 1) := by decide +kernel
theorem dL_shorter_18 : decode cL_shorter 18 = .ok (.ireturn, 1) := by decide +kernel
set_option maxRecDepth 20000 in
theorem ggL_after_X0_after : GoodIn wsL_after wsX0_after := goodIn_ca (goodIn_r _ [6, 7, 8, 5, 9, 10, 11, 12, 13, 14, 15, 16, 17, 18, 19, 20, 21, 22, 23, 24, 25, 26, 27, 28, 29, 30, 31, 32, 33, 34, 35, 36, 37, 38, 39, 40, 41, 42, 43, 44, 45, 46, 47, 48, 49, 50] (by decide +kernel) (by decide +kernel)) (goodIn_sub (fun _ h => List.mem_cons_of_mem _ (List.mem_append_right _ h)) (by decide +kernel))
set_option maxRecDepth 20000 in
theorem gL_after_X0_after : GoodIn wsL_after (wsV RL 36 RX0 yX0_after wsX0_after) := goodIn_app (goodIn_of _ (by decide +kernel)) ggL_after_X0_after
theorem dL_after_0 : decode cL_after 0 = .ok (.aload_n 3, 1) := by decide +kernel
theorem dL_after_1 : decode cL_after 1 = .ok (.iconst 0, 1) := by decide +kernel
theorem dL_after_2 : decode cL_after 2 = .ok (.aload_n 0, 1) := by decide +kernel
theorem dL_after_3 : decode cL_after 3 = .ok (.iload_n 1, 1) := by decide +kernel
theorem dL_after_4 : decode cL_after 4 = .ok (.iload_n 2, 1) := by decide +kernel
theorem dL_after_5 : decode cL_after 5 = .ok (.invokevirtual 36, 3) := by decide +kernel
theorem dL_after_8 : decode cL_after 8 = .ok (.lastore, 1) := by decide +kernel
theorem dL_after_9 : decode cL_after 9 = .ok (.goto 7, 3) := by decide +kernel
theorem dL_after_12 : decode cL_after 12 = .ok (.astore 4, 2) := by decide +kernel
theorem dL_after_14 : decode cL_after 14 = .ok (.iconst 1, 1) := by decide +kernel
theorem dL_after_15 : decode cL_after 15 = .ok (.ireturn, 1) := by decide +kernel
theorem dL_after_16 : decode cL_after 16 = .ok (.iconst 0, 1) := by decide +kernel
theorem dL_after_17 : decode cL_after 17 = .ok (.ireturn, 1) := by decide +kernel
set_option maxRecDepth 20000 in
theorem ggL_within_X0_within : GoodIn wsL_within wsX0_within := goodIn_ca (goodIn_r _ [6, 7, 8, 5, 9, 10, 11, 12, 13, 14, 15, 16, 17, 18, 19, 20, 21, 22, 23, 24, 25, 26, 27, 28, 29, 30, 31, 32, 33, 34, 35, 36, 37, 38, 39, 40, 41, 42, 43, 44, 45, 46, 47, 48, 49, 50, 51, 52, 53, 54, 55, 56, 57, 58] (by decide +kernel) (by decide +kernel)) (goodIn_sub (fun _ h => List.mem_cons_of_mem _ (List.mem_append_right _ h)) (by decide +kernel))
set_option maxRecDepth 20000 in
theorem gL_within_X0_within : GoodIn wsL_within (wsV RL 40 RX0 yX0_within wsX0_within) := goodIn_app (goodIn_of _ (by decide +kernel)) ggL_within_X0_within
theorem dL_within_0 : decode cL_within 0 = .ok (.aload_n 3, 1) := by decide +kernel
theorem dL_within_1 : decode cL_within 1 = .ok (.iconst 0, 1) := by decide +kernel
theorem dL_within_2 : decode cL_within 2 = .ok (.aload_n 0, 1) := by decide +kernel
theorem dL_within_3 : decode cL_within 3 = .ok (.iload_n 1, 1) := by decide +kernel
theorem dL_within_4 : decode cL_within 4 = .ok (.iload_n 2, 1) := by decide +kernel
theorem dL_within_5 : decode cL_within 5 = .ok (.invokevirtual 40, 3) := by decide +kernel
theorem dL_within_8 : decode cL_within 8 = .ok (.i2l, 1) := by decide +kernel
theorem dL_within_9 : decode cL_within 9 = .ok (.lastore, 1) := by decide +kernel
theorem dL_within_10 : decode cL_within 10 = .ok (.goto 7, 3) := by decide +kernel
theorem dL_within_13 : decode cL_within 13 = .ok (.astore 4, 2) := by decide +kernel
theorem dL_within_15 : decode cL_within 15 = .ok (.iconst 1, 1) := by decide +kernel
theorem dL_within_16 : decode cL_within 16 = .ok (.ireturn, 1) := by decide +kernel
theorem dL_within_17 : decode cL_within 17 = .ok (.iconst 0, 1) := by decide +kernel
theorem dL_within_18 : decode cL_within 18 = .ok (.ireturn, 1) := by decide +kernel
set_option maxRecDepth 20000 in
theorem ggL_law_X0_init : GoodIn wsL_law wsX0_init := goodIn_r _ [10, 11, 12, 13, 6, 14, 15, 16, 17, 18, 400, 401, 402, 403] (by decide +kernel) (by decide +kernel)
set_option maxRecDepth 20000 in
theorem gL_law_X0_init : GoodIn wsL_law (wsX0_init) := ggL_law_X0_init
set_option maxRecDepth 20000 in
theorem ggL_law_X1_init : GoodIn wsL_law wsX1_init := goodIn_r _ [21, 22, 12, 13, 15, 23, 24, 25, 26, 6, 27, 404, 405, 406, 407, 408, 409, 410] (by decide +kernel) (by decide +kernel)
set_option maxRecDepth 20000 in
theorem gL_law_X1_init : GoodIn wsL_law (wsX1_init) := ggL_law_X1_init
set_option maxRecDepth 20000 in
theorem ggL_law_L_put : GoodIn wsL_law wsL_put := goodIn_ca (goodIn_ca (goodIn_r _ [31, 32, 33, 34, 35, 36, 2, 37, 18, 38, 39, 40, 41, 42, 43, 44, 45, 46, 47, 48, 49, 50, 51, 52, 53, 54, 55, 56, 57, 58, 59, 60, 61, 62, 63, 64, 65, 66, 67, 14, 68, 69, 70, 71, 72, 16, 17, 73, 74, 75, 76, 77, 78, 79, 80, 81, 82, 83, 84, 85, 86, 87, 88, 89, 90, 91, 92, 93, 94, 95, 96, 6, 97, 98, 99, 100, 101, 102, 103, 104, 105, 106, 107, 108, 109, 110, 111, 15, 112, 113, 114, 115, 116, 117, 118, 119, 120, 121, 122, 123, 124, 125, 126, 127, 400, 401, 402, 403] (by decide +kernel) (by decide +kernel)) (goodIn_sub (fun _ h => List.mem_append_left _ (List.mem_append_right _ h)) (by decide +kernel))) (goodIn_sub (fun _ h => List.mem_append_right _ h) (by decide +kernel))
set_option maxRecDepth 20000 in
theorem gL_law_L_put : GoodIn wsL_law (va_wsS RL 49 yL_put wsL_put) := goodIn_app (goodIn_of _ (by decide +kernel)) ggL_law_L_put
set_option maxRecDepth 20000 in
theorem ggL_law_X1_put : GoodIn wsL_law wsX1_put := goodIn_r _ [131, 132, 133, 134, 23, 24, 25, 26, 27, 135, 136, 5, 137, 138, 139, 140, 141, 142, 143, 144, 145, 146, 147, 148, 149, 150, 151, 152, 153, 154, 155, 156, 157, 158, 159, 160, 161, 162, 163, 164, 165, 404, 405, 406, 407, 408, 409, 410] (by decide +kernel) (by decide +kernel)
set_option maxRecDepth 20000 in
theorem gL_law_X1_put : GoodIn wsL_law (wsV RL 54 RX1 yX1_put wsX1_put) := goodIn_app (goodIn_of _ (by decide +kernel)) ggL_law_X1_put
set_option maxRecDepth 20000 in
theorem ggL_law_X1_thrown : GoodIn wsL_law wsX1_thrown := goodIn_r _ [169, 134, 404, 405, 406, 407, 408, 409, 410] (by decide +kernel) (by decide +kernel)
set_option maxRecDepth 20000 in
theorem gL_law_X1_thrown : GoodIn wsL_law (wsV RL 55 RX1 yX1_thrown wsX1_thrown) := goodIn_app (goodIn_of _ (by decide +kernel)) ggL_law_X1_thrown
set_option maxRecDepth 20000 in
theorem ggL_law_L_take : GoodIn wsL_law wsL_take := goodIn_ca (goodIn_r _ [172, 32, 173, 174, 175, 2, 176, 38, 39, 40, 41, 42, 43, 44, 45, 46, 47, 48, 53, 54, 55, 56, 177, 178, 179, 180, 57, 58, 59, 60, 61, 62, 63, 18, 64, 65, 66, 67, 14, 68, 69, 70, 71, 72, 16, 17, 181, 182, 183, 184, 112, 113, 114, 115, 116, 117, 118, 119, 120, 121, 122, 123, 124, 125, 126, 127, 400, 401, 402, 403] (by decide +kernel) (by decide +kernel)) (goodIn_sub (fun _ h => List.mem_append_left _ (List.mem_append_right _ h)) (by decide +kernel))
set_option maxRecDepth 20000 in
theorem gL_law_L_take : GoodIn wsL_law (va_wsS RL 59 yL_take wsL_take) := goodIn_app (goodIn_of _ (by decide +kernel)) ggL_law_L_take
set_option maxRecDepth 20000 in
theorem ggL_law_X1_take : GoodIn wsL_law wsX1_take := goodIn_r _ [188, 134, 27, 135, 136, 5, 137, 138, 139, 140, 141, 142, 143, 144, 145, 146, 147, 148, 149, 150, 151, 152, 153, 133, 154, 155, 156, 157, 23, 24, 25, 158, 159, 160, 161, 189, 190, 191, 192, 162, 163, 164, 165, 26, 404, 405, 406, 407, 408, 409, 410] (by decide +kernel) (by decide +kernel)
set_option maxRecDepth 20000 in
theorem gL_law_X1_take : GoodIn wsL_law (wsV RL 62 RX1 yX1_take wsX1_take) := goodIn_app (goodIn_of _ (by decide +kernel)) ggL_law_X1_take
set_option maxRecDepth 20000 in
theorem ggL_law_L_drop : GoodIn wsL_law wsL_drop := goodIn_ca (goodIn_r _ [195, 32, 196, 197, 198, 2, 199, 18, 46, 47, 48, 41, 42, 200, 201, 202, 203, 204, 69, 70, 71, 72, 14, 16, 17, 64, 65, 66, 67, 68, 112, 113, 114, 115, 116, 117, 118, 119, 120, 121, 122, 123, 124, 125, 126, 127, 205, 206, 207, 208, 400, 401, 402, 403] (by decide +kernel) (by decide +kernel)) (goodIn_sub (fun _ h => List.mem_append_left _ (List.mem_append_right _ h)) (by decide +kernel))
set_option maxRecDepth 20000 in
theorem gL_law_L_drop : GoodIn wsL_law (va_wsS RL 63 yL_drop wsL_drop) := goodIn_app (goodIn_of _ (by decide +kernel)) ggL_law_L_drop
set_option maxRecDepth 20000 in
theorem ggL_law_X1_drop : GoodIn wsL_law wsX1_drop := goodIn_r _ [212, 134, 133, 27, 25, 189, 190, 191, 5, 192, 162, 163, 164, 165, 23, 24, 26, 404, 405, 406, 407, 408, 409, 410] (by decide +kernel) (by decide +kernel)
set_option maxRecDepth 20000 in
theorem gL_law_X1_drop : GoodIn wsL_law (wsV RL 66 RX1 yX1_drop wsX1_drop) := goodIn_app (goodIn_of _ (by decide +kernel)) ggL_law_X1_drop
set_option maxRecDepth 20000 in
theorem ggL_law_L_cut : GoodIn wsL_law wsL_cut := goodIn_ca (goodIn_r _ [215, 32, 216, 217, 218, 2, 219, 68, 18, 220, 221, 222, 41, 42, 120, 121, 122, 123, 17, 69, 70, 71, 72, 14, 16, 64, 65, 66, 67, 116, 117, 118, 119, 124, 125, 126, 127, 205, 206, 207, 208, 400, 401, 402, 403] (by decide +kernel) (by decide +kernel)) (goodIn_sub (fun _ h => List.mem_append_left _ (List.mem_append_right _ h)) (by decide +kernel))
set_option maxRecDepth 20000 in
theorem gL_law_L_cut : GoodIn wsL_law (va_wsS RL 67 yL_cut wsL_cut) := goodIn_app (goodIn_of _ (by decide +kernel)) ggL_law_L_cut
set_option maxRecDepth 20000 in
theorem ggL_law_X1_cut : GoodIn wsL_law wsX1_cut := goodIn_r _ [226, 134, 133, 27, 227, 189, 190, 191, 5, 192, 162, 163, 164, 165, 23, 24, 25, 26, 404, 405, 406, 407, 408, 409, 410] (by decide +kernel) (by decide +kernel)
set_option maxRecDepth 20000 in
theorem gL_law_X1_cut : GoodIn wsL_law (wsV RL 69 RX1 yX1_cut wsX1_cut) := goodIn_app (goodIn_of _ (by decide +kernel)) ggL_law_X1_cut
set_option maxRecDepth 20000 in
theorem ggL_law_L_route : GoodIn wsL_law wsL_route := goodIn_ca (goodIn_r _ [230, 32, 231, 232, 233, 2, 234, 38, 39, 40, 41, 42, 43, 44, 45, 46, 47, 48, 235, 236, 237, 53, 54, 55, 56, 238, 239, 240, 241, 242, 243, 244, 245, 57, 58, 59, 60, 61, 62, 63, 18, 64, 65, 66, 67, 14, 68, 69, 70, 71, 72, 16, 17, 246, 247, 248, 249, 177, 178, 179, 180, 250, 251, 252, 253, 116, 117, 118, 119, 200, 201, 202, 203, 204, 120, 121, 122, 123, 254, 255, 256, 257, 258, 259, 260, 400, 401, 402, 403] (by decide +kernel) (by decide +kernel)) (goodIn_sub (fun _ h => List.mem_append_left _ (List.mem_append_right _ h)) (by decide +kernel))
set_option maxRecDepth 20000 in
theorem gL_law_L_route : GoodIn wsL_law (va_wsS RL 70 yL_route wsL_route) := goodIn_app (goodIn_of _ (by decide +kernel)) ggL_law_L_route
set_option maxRecDepth 20000 in
theorem ggL_law_X1_route : GoodIn wsL_law wsX1_route := goodIn_r _ [264, 134, 133, 23, 24, 26, 25, 27, 135, 136, 5, 137, 138, 139, 140, 141, 142, 143, 144, 145, 146, 147, 148, 149, 150, 151, 152, 153, 154, 155, 156, 157, 158, 159, 160, 161, 265, 266, 267, 404, 405, 406, 407, 408, 409, 410] (by decide +kernel) (by decide +kernel)
set_option maxRecDepth 20000 in
theorem gL_law_X1_route : GoodIn wsL_law (wsV RL 73 RX1 yX1_route wsX1_route) := goodIn_app (goodIn_of _ (by decide +kernel)) ggL_law_X1_route
set_option maxRecDepth 20000 in
theorem ggL_law_X0_look : GoodIn wsL_law wsX0_look := goodIn_r _ [271, 272, 273, 274, 2, 275, 43, 44, 45, 53, 54, 55, 56, 238, 239, 240, 241, 242, 243, 244, 245, 57, 58, 59, 60, 61, 62, 63, 18, 64, 65, 66, 67, 14, 68, 69, 70, 71, 72, 16, 17, 246, 247, 248, 249, 276, 277, 278, 279, 280, 281, 282, 283, 400, 401, 402, 403] (by decide +kernel) (by decide +kernel)
set_option maxRecDepth 20000 in
theorem gL_law_X0_look : GoodIn wsL_law (wsV RL 74 RX0 yX0_look wsX0_look) := goodIn_app (goodIn_of _ (by decide +kernel)) ggL_law_X0_look
set_option maxRecDepth 20000 in
theorem ggL_law_X1_look : GoodIn wsL_law wsX1_look := goodIn_r _ [287, 134, 24, 288, 289, 290, 5, 291, 133, 292, 293, 294, 295, 23, 296, 297, 298, 299, 138, 139, 140, 404, 405, 406, 407, 408, 409, 410] (by decide +kernel) (by decide +kernel)
set_option maxRecDepth 20000 in
theorem gL_law_X1_look : GoodIn wsL_law (wsV RL 77 RX1 yX1_look wsX1_look) := goodIn_app (goodIn_of _ (by decide +kernel)) ggL_law_X1_look
set_option maxRecDepth 20000 in
theorem ggL_law_X0_hops : GoodIn wsL_law wsX0_hops := goodIn_r _ [303, 272, 273, 274, 2, 275, 43, 44, 45, 53, 54, 55, 56, 238, 239, 240, 241, 242, 243, 244, 245, 57, 58, 59, 60, 61, 62, 63, 18, 64, 65, 66, 67, 14, 68, 69, 70, 71, 72, 16, 17, 246, 247, 248, 249, 120, 121, 122, 123, 400, 401, 402, 403] (by decide +kernel) (by decide +kernel)
set_option maxRecDepth 20000 in
theorem gL_law_X0_hops : GoodIn wsL_law (wsV RL 78 RX0 yX0_hops wsX0_hops) := goodIn_app (goodIn_of _ (by decide +kernel)) ggL_law_X0_hops
set_option maxRecDepth 20000 in
theorem ggL_law_X1_hops : GoodIn wsL_law wsX1_hops := goodIn_r _ [307, 134, 27, 288, 289, 290, 5, 291, 133, 24, 292, 293, 294, 295, 23, 296, 297, 298, 299, 138, 139, 140, 404, 405, 406, 407, 408, 409, 410] (by decide +kernel) (by decide +kernel)
set_option maxRecDepth 20000 in
theorem gL_law_X1_hops : GoodIn wsL_law (wsV RL 82 RX1 yX1_hops wsX1_hops) := goodIn_app (goodIn_of _ (by decide +kernel)) ggL_law_X1_hops
set_option maxRecDepth 20000 in
theorem ggL_law_X0_hop : GoodIn wsL_law wsX0_hop := goodIn_r _ [311, 56, 272, 273, 274, 2, 275, 43, 44, 45, 53, 54, 55, 238, 239, 240, 241, 242, 243, 244, 245, 57, 58, 59, 60, 61, 62, 63, 18, 64, 65, 66, 67, 14, 68, 69, 70, 71, 72, 16, 17, 246, 247, 248, 249, 120, 121, 122, 123, 254, 255, 256, 257, 258, 259, 260, 312, 313, 314, 400, 401, 402, 403] (by decide +kernel) (by decide +kernel)
set_option maxRecDepth 20000 in
theorem gL_law_X0_hop : GoodIn wsL_law (wsV RL 83 RX0 yX0_hop wsX0_hop) := goodIn_app (goodIn_of _ (by decide +kernel)) ggL_law_X0_hop
set_option maxRecDepth 20000 in
theorem ggL_law_X1_hop : GoodIn wsL_law wsX1_hop := goodIn_r _ [318, 134, 27, 288, 289, 290, 5, 291, 133, 24, 292, 293, 294, 295, 23, 296, 297, 298, 299, 138, 139, 140, 146, 147, 148, 149, 265, 266, 267, 404, 405, 406, 407, 408, 409, 410] (by decide +kernel) (by decide +kernel)
set_option maxRecDepth 20000 in
theorem gL_law_X1_hop : GoodIn wsL_law (wsV RL 86 RX1 yX1_hop wsX1_hop) := goodIn_app (goodIn_of _ (by decide +kernel)) ggL_law_X1_hop
set_option maxRecDepth 20000 in
theorem ggL_law_L_shorter : GoodIn wsL_law wsL_shorter := goodIn_ca (goodIn_r _ [321, 32, 322, 323, 324, 2, 325, 41, 42, 272, 273, 274, 275, 43, 44, 45, 53, 54, 55, 56, 238, 239, 240, 241, 242, 243, 244, 245, 57, 58, 59, 60, 61, 62, 63, 18, 64, 65, 66, 67, 14, 68, 69, 70, 71, 72, 16, 17, 246, 247, 248, 249, 276, 277, 278, 279, 280, 281, 282, 283, 400, 401, 402, 403] (by decide +kernel) (by decide +kernel)) (goodIn_sub (fun _ h => List.mem_append_left _ (List.mem_append_right _ h)) (by decide +kernel))
set_option maxRecDepth 20000 in
theorem gL_law_L_shorter : GoodIn wsL_law (va_wsS RL 87 yL_shorter wsL_shorter) := goodIn_app (goodIn_of _ (by decide +kernel)) ggL_law_L_shorter
set_option maxRecDepth 20000 in
theorem ggL_law_X1_shorter : GoodIn wsL_law wsX1_shorter := goodIn_r _ [329, 134, 24, 288, 289, 290, 5, 291, 133, 292, 293, 294, 295, 23, 296, 297, 298, 299, 138, 139, 140, 404, 405, 406, 407, 408, 409, 410] (by decide +kernel) (by decide +kernel)
set_option maxRecDepth 20000 in
theorem gL_law_X1_shorter : GoodIn wsL_law (wsV RL 90 RX1 yX1_shorter wsX1_shorter) := goodIn_app (goodIn_of _ (by decide +kernel)) ggL_law_X1_shorter
set_option maxRecDepth 20000 in
theorem ggL_law_L_after : GoodIn wsL_law wsL_after := goodIn_ca (goodIn_r _ [332, 32, 333, 334, 335, 2, 336, 38, 39, 40, 41, 42, 43, 44, 45, 53, 54, 55, 56, 242, 243, 244, 245, 57, 58, 59, 60, 61, 62, 63, 18, 64, 65, 66, 67, 14, 68, 69, 70, 71, 72, 16, 17, 246, 247, 248, 249, 400, 401, 402, 403] (by decide +kernel) (by decide +kernel)) (goodIn_sub (fun _ h => List.mem_append_left _ (List.mem_append_right _ h)) (by decide +kernel))
set_option maxRecDepth 20000 in
theorem gL_law_L_after : GoodIn wsL_law (va_wsS RL 91 yL_after wsL_after) := goodIn_app (goodIn_of _ (by decide +kernel)) ggL_law_L_after
set_option maxRecDepth 20000 in
theorem ggL_law_X1_after : GoodIn wsL_law wsX1_after := goodIn_r _ [340, 134, 133, 227, 144, 23, 24, 135, 136, 5, 137, 138, 139, 140, 141, 142, 143, 145, 146, 147, 148, 149, 150, 151, 152, 153, 154, 155, 156, 157, 25, 404, 405, 406, 407, 408, 409, 410] (by decide +kernel) (by decide +kernel)
set_option maxRecDepth 20000 in
theorem gL_law_X1_after : GoodIn wsL_law (wsV RL 93 RX1 yX1_after wsX1_after) := goodIn_app (goodIn_of _ (by decide +kernel)) ggL_law_X1_after
set_option maxRecDepth 20000 in
theorem ggL_law_L_within : GoodIn wsL_law wsL_within := goodIn_ca (goodIn_r _ [343, 32, 344, 345, 346, 2, 347, 38, 39, 40, 41, 42, 43, 44, 45, 53, 54, 55, 56, 242, 243, 244, 245, 57, 58, 59, 60, 61, 62, 63, 18, 64, 65, 66, 67, 14, 68, 69, 70, 71, 72, 16, 17, 348, 349, 350, 351, 352, 353, 354, 355, 246, 247, 248, 249, 400, 401, 402, 403] (by decide +kernel) (by decide +kernel)) (goodIn_sub (fun _ h => List.mem_append_left _ (List.mem_append_right _ h)) (by decide +kernel))
set_option maxRecDepth 20000 in
theorem gL_law_L_within : GoodIn wsL_law (va_wsS RL 94 yL_within wsL_within) := goodIn_app (goodIn_of _ (by decide +kernel)) ggL_law_L_within
set_option maxRecDepth 20000 in
theorem ggL_law_X1_within : GoodIn wsL_law wsX1_within := goodIn_r _ [359, 134, 133, 24, 23, 135, 136, 5, 137, 138, 139, 140, 292, 293, 294, 295, 404, 405, 406, 407, 408, 409, 410] (by decide +kernel) (by decide +kernel)
set_option maxRecDepth 20000 in
theorem gL_law_X1_within : GoodIn wsL_law (wsV RL 96 RX1 yX1_within wsX1_within) := goodIn_app (goodIn_of _ (by decide +kernel)) ggL_law_X1_within
set_option maxRecDepth 20000 in
theorem ggL_law_X0_routes : GoodIn wsL_law wsX0_routes := goodIn_r _ [363, 18, 400, 401, 402, 403] (by decide +kernel) (by decide +kernel)
set_option maxRecDepth 20000 in
theorem gL_law_X0_routes : GoodIn wsL_law (wsV RL 97 RX0 yX0_routes wsX0_routes) := goodIn_app (goodIn_of _ (by decide +kernel)) ggL_law_X0_routes
set_option maxRecDepth 20000 in
theorem ggL_law_X1_routes : GoodIn wsL_law wsX1_routes := goodIn_r _ [367, 134, 133, 404, 405, 406, 407, 408, 409, 410] (by decide +kernel) (by decide +kernel)
set_option maxRecDepth 20000 in
theorem gL_law_X1_routes : GoodIn wsL_law (wsV RL 100 RX1 yX1_routes wsX1_routes) := goodIn_app (goodIn_of _ (by decide +kernel)) ggL_law_X1_routes
set_option maxRecDepth 20000 in
theorem ggL_law_X0_known : GoodIn wsL_law wsX0_known := goodIn_r _ [371, 18, 348, 349, 350, 2, 351, 352, 353, 354, 355, 246, 247, 248, 249, 64, 65, 66, 67, 14, 68, 69, 70, 71, 72, 16, 17, 400, 401, 402, 403] (by decide +kernel) (by decide +kernel)
set_option maxRecDepth 20000 in
theorem gL_law_X0_known : GoodIn wsL_law (wsV RL 101 RX0 yX0_known wsX0_known) := goodIn_app (goodIn_of _ (by decide +kernel)) ggL_law_X0_known
set_option maxRecDepth 20000 in
theorem ggL_law_X1_known : GoodIn wsL_law wsX1_known := goodIn_r _ [375, 134, 133, 292, 293, 294, 5, 295, 23, 24, 404, 405, 406, 407, 408, 409, 410] (by decide +kernel) (by decide +kernel)
set_option maxRecDepth 20000 in
theorem gL_law_X1_known : GoodIn wsL_law (wsV RL 104 RX1 yX1_known wsX1_known) := goodIn_app (goodIn_of _ (by decide +kernel)) ggL_law_X1_known
set_option maxRecDepth 20000 in
theorem ggL_law_X0_nodes : GoodIn wsL_law wsX0_nodes := goodIn_r _ [379, 18, 352, 353, 354, 2, 355, 246, 247, 248, 249, 64, 65, 66, 67, 14, 68, 69, 70, 71, 72, 16, 17, 380, 381, 382, 383, 384, 385, 386, 387, 388, 389, 390, 391, 280, 281, 282, 283, 43, 44, 45, 53, 54, 55, 56, 238, 239, 240, 241, 242, 243, 244, 245, 57, 58, 59, 60, 61, 62, 63, 400, 401, 402, 403] (by decide +kernel) (by decide +kernel)
set_option maxRecDepth 20000 in
theorem gL_law_X0_nodes : GoodIn wsL_law (wsV RL 105 RX0 yX0_nodes wsX0_nodes) := goodIn_app (goodIn_of _ (by decide +kernel)) ggL_law_X0_nodes
set_option maxRecDepth 20000 in
theorem ggL_law_X1_nodes : GoodIn wsL_law wsX1_nodes := goodIn_r _ [395, 134, 133, 23, 292, 293, 294, 5, 295, 24, 296, 297, 298, 299, 138, 139, 140, 396, 397, 398, 399, 141, 142, 143, 144, 145, 146, 147, 148, 149, 150, 151, 152, 153, 154, 155, 156, 157, 25, 404, 405, 406, 407, 408, 409, 410] (by decide +kernel) (by decide +kernel)
set_option maxRecDepth 20000 in
theorem gL_law_X1_nodes : GoodIn wsL_law (wsV RL 108 RX1 yX1_nodes wsX1_nodes) := goodIn_app (goodIn_of _ (by decide +kernel)) ggL_law_X1_nodes
theorem dL_law_0 : decode cL_law 0 = .ok (.new 8, 3) := by decide +kernel
theorem dL_law_3 : decode cL_law 3 = .ok (.dup, 1) := by decide +kernel
theorem dL_law_4 : decode cL_law 4 = .ok (.invokespecial 43, 3) := by decide +kernel
theorem dL_law_7 : decode cL_law 7 = .ok (.astore_n 1, 1) := by decide +kernel
theorem dL_law_8 : decode cL_law 8 = .ok (.new 44, 3) := by decide +kernel
theorem dL_law_11 : decode cL_law 11 = .ok (.dup, 1) := by decide +kernel
theorem dL_law_12 : decode cL_law 12 = .ok (.invokespecial 46, 3) := by decide +kernel
theorem dL_law_15 : decode cL_law 15 = .ok (.astore_n 2, 1) := by decide +kernel
theorem dL_law_16 : decode cL_law 16 = .ok (.iconst 1, 1) := by decide +kernel
theorem dL_law_17 : decode cL_law 17 = .ok (.newarray .long, 2) := by decide +kernel
theorem dL_law_19 : decode cL_law 19 = .ok (.astore_n 3, 1) := by decide +kernel
theorem dL_law_20 : decode cL_law 20 = .ok (.iconst 0, 1) := by decide +kernel
theorem dL_law_21 : decode cL_law 21 = .ok (.istore 4, 2) := by decide +kernel
theorem dL_law_23 : decode cL_law 23 = .ok (.iload 4, 2) := by decide +kernel
theorem dL_law_25 : decode cL_law 25 = .ok (.aload_n 0, 1) := by decide +kernel
theorem dL_law_26 : decode cL_law 26 = .ok (.arraylength, 1) := by decide +kernel
theorem dL_law_27 : decode cL_law 27 = .ok (.bipush 7, 2) := by decide +kernel
theorem dL_law_29 : decode cL_law 29 = .ok (.isub, 1) := by decide +kernel
theorem dL_law_30 : decode cL_law 30 = .ok (.if_icmp .gt 847, 3) := by decide +kernel
theorem dL_law_33 : decode cL_law 33 = .ok (.aload_n 0, 1) := by decide +kernel
theorem dL_law_34 : decode cL_law 34 = .ok (.iload 4, 2) := by decide +kernel
theorem dL_law_36 : decode cL_law 36 = .ok (.iaload, 1) := by decide +kernel
theorem dL_law_37 : decode cL_law 37 = .ok (.bipush 15, 2) := by decide +kernel
theorem dL_law_39 : decode cL_law 39 = .ok (.iand, 1) := by decide +kernel
theorem dL_law_40 : decode cL_law 40 = .ok (.tableswitch 831 0 13 #[72, 210, 297, 353, 409, 501, 526, 552, 589, 657, 724, 792, 805, 818], 72) := by decide +kernel
theorem dL_law_112 : decode cL_law 112 = .ok (.aload_n 1, 1) := by decide +kernel
theorem dL_law_113 : decode cL_law 113 = .ok (.aload_n 0, 1) := by decide +kernel
theorem dL_law_114 : decode cL_law 114 = .ok (.iload 4, 2) := by decide +kernel
theorem dL_law_116 : decode cL_law 116 = .ok (.iconst 1, 1) := by decide +kernel
theorem dL_law_117 : decode cL_law 117 = .ok (.iadd, 1) := by decide +kernel
theorem dL_law_118 : decode cL_law 118 = .ok (.iaload, 1) := by decide +kernel
theorem dL_law_119 : decode cL_law 119 = .ok (.aload_n 0, 1) := by decide +kernel
theorem dL_law_120 : decode cL_law 120 = .ok (.iload 4, 2) := by decide +kernel
theorem dL_law_122 : decode cL_law 122 = .ok (.iconst 2, 1) := by decide +kernel
theorem dL_law_123 : decode cL_law 123 = .ok (.iadd, 1) := by decide +kernel
theorem dL_law_124 : decode cL_law 124 = .ok (.iaload, 1) := by decide +kernel
theorem dL_law_125 : decode cL_law 125 = .ok (.aload_n 0, 1) := by decide +kernel
theorem dL_law_126 : decode cL_law 126 = .ok (.iload 4, 2) := by decide +kernel
theorem dL_law_128 : decode cL_law 128 = .ok (.iconst 3, 1) := by decide +kernel
theorem dL_law_129 : decode cL_law 129 = .ok (.iadd, 1) := by decide +kernel
theorem dL_law_130 : decode cL_law 130 = .ok (.iaload, 1) := by decide +kernel
theorem dL_law_131 : decode cL_law 131 = .ok (.aload_n 0, 1) := by decide +kernel
theorem dL_law_132 : decode cL_law 132 = .ok (.iload 4, 2) := by decide +kernel
theorem dL_law_134 : decode cL_law 134 = .ok (.iconst 4, 1) := by decide +kernel
theorem dL_law_135 : decode cL_law 135 = .ok (.iadd, 1) := by decide +kernel
theorem dL_law_136 : decode cL_law 136 = .ok (.iaload, 1) := by decide +kernel
theorem dL_law_137 : decode cL_law 137 = .ok (.aload_n 0, 1) := by decide +kernel
theorem dL_law_138 : decode cL_law 138 = .ok (.iload 4, 2) := by decide +kernel
theorem dL_law_140 : decode cL_law 140 = .ok (.iconst 5, 1) := by decide +kernel
theorem dL_law_141 : decode cL_law 141 = .ok (.iadd, 1) := by decide +kernel
theorem dL_law_142 : decode cL_law 142 = .ok (.iaload, 1) := by decide +kernel
theorem dL_law_143 : decode cL_law 143 = .ok (.i2l, 1) := by decide +kernel
theorem dL_law_144 : decode cL_law 144 = .ok (.bipush 32, 2) := by decide +kernel
theorem dL_law_146 : decode cL_law 146 = .ok (.lshl, 1) := by decide +kernel
theorem dL_law_147 : decode cL_law 147 = .ok (.aload_n 0, 1) := by decide +kernel
theorem dL_law_148 : decode cL_law 148 = .ok (.iload 4, 2) := by decide +kernel
theorem dL_law_150 : decode cL_law 150 = .ok (.bipush 6, 2) := by decide +kernel
theorem dL_law_152 : decode cL_law 152 = .ok (.iadd, 1) := by decide +kernel
theorem dL_law_153 : decode cL_law 153 = .ok (.iaload, 1) := by decide +kernel
theorem dL_law_154 : decode cL_law 154 = .ok (.i2l, 1) := by decide +kernel
theorem dL_law_155 : decode cL_law 155 = .ok (.ldc2_w 47, 3) := by decide +kernel
theorem dL_law_158 : decode cL_law 158 = .ok (.land, 1) := by decide +kernel
theorem dL_law_159 : decode cL_law 159 = .ok (.lor, 1) := by decide +kernel
theorem dL_law_160 : decode cL_law 160 = .ok (.aload_n 3, 1) := by decide +kernel
theorem dL_law_161 : decode cL_law 161 = .ok (.invokestatic 49, 3) := by decide +kernel
theorem dL_law_164 : decode cL_law 164 = .ok (.istore 5, 2) := by decide +kernel
theorem dL_law_166 : decode cL_law 166 = .ok (.aload_n 2, 1) := by decide +kernel
theorem dL_law_167 : decode cL_law 167 = .ok (.aload_n 0, 1) := by decide +kernel
theorem dL_law_168 : decode cL_law 168 = .ok (.iload 4, 2) := by decide +kernel
theorem dL_law_170 : decode cL_law 170 = .ok (.iconst 1, 1) := by decide +kernel
theorem dL_law_171 : decode cL_law 171 = .ok (.iadd, 1) := by decide +kernel
theorem dL_law_172 : decode cL_law 172 = .ok (.iaload, 1) := by decide +kernel
theorem dL_law_173 : decode cL_law 173 = .ok (.aload_n 0, 1) := by decide +kernel
theorem dL_law_174 : decode cL_law 174 = .ok (.iload 4, 2) := by decide +kernel
theorem dL_law_176 : decode cL_law 176 = .ok (.iconst 2, 1) := by decide +kernel
theorem dL_law_177 : decode cL_law 177 = .ok (.iadd, 1) := by decide +kernel
theorem dL_law_178 : decode cL_law 178 = .ok (.iaload, 1) := by decide +kernel
theorem dL_law_179 : decode cL_law 179 = .ok (.aload_n 0, 1) := by decide +kernel
theorem dL_law_180 : decode cL_law 180 = .ok (.iload 4, 2) := by decide +kernel
theorem dL_law_182 : decode cL_law 182 = .ok (.iconst 3, 1) := by decide +kernel
theorem dL_law_183 : decode cL_law 183 = .ok (.iadd, 1) := by decide +kernel
theorem dL_law_184 : decode cL_law 184 = .ok (.iaload, 1) := by decide +kernel
theorem dL_law_185 : decode cL_law 185 = .ok (.aload_n 0, 1) := by decide +kernel
theorem dL_law_186 : decode cL_law 186 = .ok (.iload 4, 2) := by decide +kernel
theorem dL_law_188 : decode cL_law 188 = .ok (.iconst 4, 1) := by decide +kernel
theorem dL_law_189 : decode cL_law 189 = .ok (.iadd, 1) := by decide +kernel
theorem dL_law_190 : decode cL_law 190 = .ok (.iaload, 1) := by decide +kernel
theorem dL_law_191 : decode cL_law 191 = .ok (.aload_n 0, 1) := by decide +kernel
theorem dL_law_192 : decode cL_law 192 = .ok (.iload 4, 2) := by decide +kernel
theorem dL_law_194 : decode cL_law 194 = .ok (.iconst 5, 1) := by decide +kernel
theorem dL_law_195 : decode cL_law 195 = .ok (.iadd, 1) := by decide +kernel
theorem dL_law_196 : decode cL_law 196 = .ok (.iaload, 1) := by decide +kernel
theorem dL_law_197 : decode cL_law 197 = .ok (.i2l, 1) := by decide +kernel
theorem dL_law_198 : decode cL_law 198 = .ok (.bipush 32, 2) := by decide +kernel
theorem dL_law_200 : decode cL_law 200 = .ok (.lshl, 1) := by decide +kernel
theorem dL_law_201 : decode cL_law 201 = .ok (.aload_n 0, 1) := by decide +kernel
theorem dL_law_202 : decode cL_law 202 = .ok (.iload 4, 2) := by decide +kernel
theorem dL_law_204 : decode cL_law 204 = .ok (.bipush 6, 2) := by decide +kernel
theorem dL_law_206 : decode cL_law 206 = .ok (.iadd, 1) := by decide +kernel
theorem dL_law_207 : decode cL_law 207 = .ok (.iaload, 1) := by decide +kernel
theorem dL_law_208 : decode cL_law 208 = .ok (.i2l, 1) := by decide +kernel
theorem dL_law_209 : decode cL_law 209 = .ok (.ldc2_w 47, 3) := by decide +kernel
theorem dL_law_212 : decode cL_law 212 = .ok (.land, 1) := by decide +kernel
theorem dL_law_213 : decode cL_law 213 = .ok (.lor, 1) := by decide +kernel
theorem dL_law_214 : decode cL_law 214 = .ok (.invokevirtual 54, 3) := by decide +kernel
theorem dL_law_217 : decode cL_law 217 = .ok (.istore 6, 2) := by decide +kernel
theorem dL_law_219 : decode cL_law 219 = .ok (.aload_n 2, 1) := by decide +kernel
theorem dL_law_220 : decode cL_law 220 = .ok (.invokevirtual 55, 3) := by decide +kernel
theorem dL_law_223 : decode cL_law 223 = .ok (.iload 5, 2) := by decide +kernel
theorem dL_law_225 : decode cL_law 225 = .ok (.if_icmp .eq 5, 3) := by decide +kernel
theorem dL_law_228 : decode cL_law 228 = .ok (.iconst 0, 1) := by decide +kernel
theorem dL_law_229 : decode cL_law 229 = .ok (.ireturn, 1) := by decide +kernel
theorem dL_law_230 : decode cL_law 230 = .ok (.iload 5, 2) := by decide +kernel
theorem dL_law_232 : decode cL_law 232 = .ok (.ifCond .ne 15, 3) := by decide +kernel
theorem dL_law_235 : decode cL_law 235 = .ok (.aload_n 3, 1) := by decide +kernel
theorem dL_law_236 : decode cL_law 236 = .ok (.iconst 0, 1) := by decide +kernel
theorem dL_law_237 : decode cL_law 237 = .ok (.laload, 1) := by decide +kernel
theorem dL_law_238 : decode cL_law 238 = .ok (.iload 6, 2) := by decide +kernel
theorem dL_law_240 : decode cL_law 240 = .ok (.i2l, 1) := by decide +kernel
theorem dL_law_241 : decode cL_law 241 = .ok (.lcmp, 1) := by decide +kernel
theorem dL_law_242 : decode cL_law 242 = .ok (.ifCond .eq 5, 3) := by decide +kernel
theorem dL_law_245 : decode cL_law 245 = .ok (.iconst 0, 1) := by decide +kernel
theorem dL_law_246 : decode cL_law 246 = .ok (.ireturn, 1) := by decide +kernel
theorem dL_law_247 : decode cL_law 247 = .ok (.goto 624, 3) := by decide +kernel
theorem dL_law_250 : decode cL_law 250 = .ok (.aload_n 1, 1) := by decide +kernel
theorem dL_law_251 : decode cL_law 251 = .ok (.aload_n 0, 1) := by decide +kernel
theorem dL_law_252 : decode cL_law 252 = .ok (.iload 4, 2) := by decide +kernel
theorem dL_law_254 : decode cL_law 254 = .ok (.iconst 1, 1) := by decide +kernel
theorem dL_law_255 : decode cL_law 255 = .ok (.iadd, 1) := by decide +kernel
theorem dL_law_256 : decode cL_law 256 = .ok (.iaload, 1) := by decide +kernel
theorem dL_law_257 : decode cL_law 257 = .ok (.aload_n 0, 1) := by decide +kernel
theorem dL_law_258 : decode cL_law 258 = .ok (.iload 4, 2) := by decide +kernel
theorem dL_law_260 : decode cL_law 260 = .ok (.iconst 2, 1) := by decide +kernel
theorem dL_law_261 : decode cL_law 261 = .ok (.iadd, 1) := by decide +kernel
theorem dL_law_262 : decode cL_law 262 = .ok (.iaload, 1) := by decide +kernel
theorem dL_law_263 : decode cL_law 263 = .ok (.aload_n 0, 1) := by decide +kernel
theorem dL_law_264 : decode cL_law 264 = .ok (.iload 4, 2) := by decide +kernel
theorem dL_law_266 : decode cL_law 266 = .ok (.iconst 3, 1) := by decide +kernel
theorem dL_law_267 : decode cL_law 267 = .ok (.iadd, 1) := by decide +kernel
theorem dL_law_268 : decode cL_law 268 = .ok (.iaload, 1) := by decide +kernel
theorem dL_law_269 : decode cL_law 269 = .ok (.aload_n 3, 1) := by decide +kernel
theorem dL_law_270 : decode cL_law 270 = .ok (.invokestatic 59, 3) := by decide +kernel
theorem dL_law_273 : decode cL_law 273 = .ok (.istore 5, 2) := by decide +kernel
theorem dL_law_275 : decode cL_law 275 = .ok (.aload_n 2, 1) := by decide +kernel
theorem dL_law_276 : decode cL_law 276 = .ok (.aload_n 0, 1) := by decide +kernel
theorem dL_law_277 : decode cL_law 277 = .ok (.iload 4, 2) := by decide +kernel
theorem dL_law_279 : decode cL_law 279 = .ok (.iconst 1, 1) := by decide +kernel
theorem dL_law_280 : decode cL_law 280 = .ok (.iadd, 1) := by decide +kernel
theorem dL_law_281 : decode cL_law 281 = .ok (.iaload, 1) := by decide +kernel
theorem dL_law_282 : decode cL_law 282 = .ok (.aload_n 0, 1) := by decide +kernel
theorem dL_law_283 : decode cL_law 283 = .ok (.iload 4, 2) := by decide +kernel
theorem dL_law_285 : decode cL_law 285 = .ok (.iconst 2, 1) := by decide +kernel
theorem dL_law_286 : decode cL_law 286 = .ok (.iadd, 1) := by decide +kernel
theorem dL_law_287 : decode cL_law 287 = .ok (.iaload, 1) := by decide +kernel
theorem dL_law_288 : decode cL_law 288 = .ok (.aload_n 0, 1) := by decide +kernel
theorem dL_law_289 : decode cL_law 289 = .ok (.iload 4, 2) := by decide +kernel
theorem dL_law_291 : decode cL_law 291 = .ok (.iconst 3, 1) := by decide +kernel
theorem dL_law_292 : decode cL_law 292 = .ok (.iadd, 1) := by decide +kernel
theorem dL_law_293 : decode cL_law 293 = .ok (.iaload, 1) := by decide +kernel
theorem dL_law_294 : decode cL_law 294 = .ok (.invokevirtual 62, 3) := by decide +kernel
theorem dL_law_297 : decode cL_law 297 = .ok (.istore 6, 2) := by decide +kernel
theorem dL_law_299 : decode cL_law 299 = .ok (.aload_n 2, 1) := by decide +kernel
theorem dL_law_300 : decode cL_law 300 = .ok (.invokevirtual 55, 3) := by decide +kernel
theorem dL_law_303 : decode cL_law 303 = .ok (.iload 5, 2) := by decide +kernel
theorem dL_law_305 : decode cL_law 305 = .ok (.if_icmp .eq 5, 3) := by decide +kernel
theorem dL_law_308 : decode cL_law 308 = .ok (.iconst 0, 1) := by decide +kernel
theorem dL_law_309 : decode cL_law 309 = .ok (.ireturn, 1) := by decide +kernel
theorem dL_law_310 : decode cL_law 310 = .ok (.iload 5, 2) := by decide +kernel
theorem dL_law_312 : decode cL_law 312 = .ok (.ifCond .ne 22, 3) := by decide +kernel
theorem dL_law_315 : decode cL_law 315 = .ok (.aload_n 3, 1) := by decide +kernel
theorem dL_law_316 : decode cL_law 316 = .ok (.iconst 0, 1) := by decide +kernel
theorem dL_law_317 : decode cL_law 317 = .ok (.laload, 1) := by decide +kernel
theorem dL_law_318 : decode cL_law 318 = .ok (.iload 6, 2) := by decide +kernel
theorem dL_law_320 : decode cL_law 320 = .ok (.ifCond .eq 7, 3) := by decide +kernel
theorem dL_law_323 : decode cL_law 323 = .ok (.lconst 1, 1) := by decide +kernel
theorem dL_law_324 : decode cL_law 324 = .ok (.goto 4, 3) := by decide +kernel
theorem dL_law_327 : decode cL_law 327 = .ok (.lconst 0, 1) := by decide +kernel
theorem dL_law_328 : decode cL_law 328 = .ok (.lcmp, 1) := by decide +kernel
theorem dL_law_329 : decode cL_law 329 = .ok (.ifCond .eq 5, 3) := by decide +kernel
theorem dL_law_332 : decode cL_law 332 = .ok (.iconst 0, 1) := by decide +kernel
theorem dL_law_333 : decode cL_law 333 = .ok (.ireturn, 1) := by decide +kernel
theorem dL_law_334 : decode cL_law 334 = .ok (.goto 537, 3) := by decide +kernel
theorem dL_law_337 : decode cL_law 337 = .ok (.aload_n 1, 1) := by decide +kernel
theorem dL_law_338 : decode cL_law 338 = .ok (.aload_n 0, 1) := by decide +kernel
theorem dL_law_339 : decode cL_law 339 = .ok (.iload 4, 2) := by decide +kernel
theorem dL_law_341 : decode cL_law 341 = .ok (.iconst 1, 1) := by decide +kernel
theorem dL_law_342 : decode cL_law 342 = .ok (.iadd, 1) := by decide +kernel
theorem dL_law_343 : decode cL_law 343 = .ok (.iaload, 1) := by decide +kernel
theorem dL_law_344 : decode cL_law 344 = .ok (.aload_n 3, 1) := by decide +kernel
theorem dL_law_345 : decode cL_law 345 = .ok (.invokestatic 63, 3) := by decide +kernel
theorem dL_law_348 : decode cL_law 348 = .ok (.istore 5, 2) := by decide +kernel
theorem dL_law_350 : decode cL_law 350 = .ok (.aload_n 2, 1) := by decide +kernel
theorem dL_law_351 : decode cL_law 351 = .ok (.aload_n 0, 1) := by decide +kernel
theorem dL_law_352 : decode cL_law 352 = .ok (.iload 4, 2) := by decide +kernel
theorem dL_law_354 : decode cL_law 354 = .ok (.iconst 1, 1) := by decide +kernel
theorem dL_law_355 : decode cL_law 355 = .ok (.iadd, 1) := by decide +kernel
theorem dL_law_356 : decode cL_law 356 = .ok (.iaload, 1) := by decide +kernel
theorem dL_law_357 : decode cL_law 357 = .ok (.invokevirtual 66, 3) := by decide +kernel
theorem dL_law_360 : decode cL_law 360 = .ok (.istore 6, 2) := by decide +kernel
theorem dL_law_362 : decode cL_law 362 = .ok (.aload_n 2, 1) := by decide +kernel
theorem dL_law_363 : decode cL_law 363 = .ok (.invokevirtual 55, 3) := by decide +kernel
theorem dL_law_366 : decode cL_law 366 = .ok (.iload 5, 2) := by decide +kernel
theorem dL_law_368 : decode cL_law 368 = .ok (.if_icmp .eq 5, 3) := by decide +kernel
theorem dL_law_371 : decode cL_law 371 = .ok (.iconst 0, 1) := by decide +kernel
theorem dL_law_372 : decode cL_law 372 = .ok (.ireturn, 1) := by decide +kernel
theorem dL_law_373 : decode cL_law 373 = .ok (.iload 5, 2) := by decide +kernel
theorem dL_law_375 : decode cL_law 375 = .ok (.ifCond .ne 15, 3) := by decide +kernel
theorem dL_law_378 : decode cL_law 378 = .ok (.aload_n 3, 1) := by decide +kernel
theorem dL_law_379 : decode cL_law 379 = .ok (.iconst 0, 1) := by decide +kernel
theorem dL_law_380 : decode cL_law 380 = .ok (.laload, 1) := by decide +kernel
theorem dL_law_381 : decode cL_law 381 = .ok (.iload 6, 2) := by decide +kernel
theorem dL_law_383 : decode cL_law 383 = .ok (.i2l, 1) := by decide +kernel
theorem dL_law_384 : decode cL_law 384 = .ok (.lcmp, 1) := by decide +kernel
theorem dL_law_385 : decode cL_law 385 = .ok (.ifCond .eq 5, 3) := by decide +kernel
theorem dL_law_388 : decode cL_law 388 = .ok (.iconst 0, 1) := by decide +kernel
theorem dL_law_389 : decode cL_law 389 = .ok (.ireturn, 1) := by decide +kernel
theorem dL_law_390 : decode cL_law 390 = .ok (.goto 481, 3) := by decide +kernel
theorem dL_law_393 : decode cL_law 393 = .ok (.aload_n 1, 1) := by decide +kernel
theorem dL_law_394 : decode cL_law 394 = .ok (.aload_n 0, 1) := by decide +kernel
theorem dL_law_395 : decode cL_law 395 = .ok (.iload 4, 2) := by decide +kernel
theorem dL_law_397 : decode cL_law 397 = .ok (.iconst 1, 1) := by decide +kernel
theorem dL_law_398 : decode cL_law 398 = .ok (.iadd, 1) := by decide +kernel
theorem dL_law_399 : decode cL_law 399 = .ok (.iaload, 1) := by decide +kernel
theorem dL_law_400 : decode cL_law 400 = .ok (.aload_n 3, 1) := by decide +kernel
theorem dL_law_401 : decode cL_law 401 = .ok (.invokestatic 67, 3) := by decide +kernel
theorem dL_law_404 : decode cL_law 404 = .ok (.istore 5, 2) := by decide +kernel
theorem dL_law_406 : decode cL_law 406 = .ok (.aload_n 2, 1) := by decide +kernel
theorem dL_law_407 : decode cL_law 407 = .ok (.aload_n 0, 1) := by decide +kernel
theorem dL_law_408 : decode cL_law 408 = .ok (.iload 4, 2) := by decide +kernel
theorem dL_law_410 : decode cL_law 410 = .ok (.iconst 1, 1) := by decide +kernel
theorem dL_law_411 : decode cL_law 411 = .ok (.iadd, 1) := by decide +kernel
theorem dL_law_412 : decode cL_law 412 = .ok (.iaload, 1) := by decide +kernel
theorem dL_law_413 : decode cL_law 413 = .ok (.invokevirtual 69, 3) := by decide +kernel
theorem dL_law_416 : decode cL_law 416 = .ok (.istore 6, 2) := by decide +kernel
theorem dL_law_418 : decode cL_law 418 = .ok (.aload_n 2, 1) := by decide +kernel
theorem dL_law_419 : decode cL_law 419 = .ok (.invokevirtual 55, 3) := by decide +kernel
theorem dL_law_422 : decode cL_law 422 = .ok (.iload 5, 2) := by decide +kernel
theorem dL_law_424 : decode cL_law 424 = .ok (.if_icmp .eq 5, 3) := by decide +kernel
theorem dL_law_427 : decode cL_law 427 = .ok (.iconst 0, 1) := by decide +kernel
theorem dL_law_428 : decode cL_law 428 = .ok (.ireturn, 1) := by decide +kernel
theorem dL_law_429 : decode cL_law 429 = .ok (.iload 5, 2) := by decide +kernel
theorem dL_law_431 : decode cL_law 431 = .ok (.ifCond .ne 15, 3) := by decide +kernel
theorem dL_law_434 : decode cL_law 434 = .ok (.aload_n 3, 1) := by decide +kernel
theorem dL_law_435 : decode cL_law 435 = .ok (.iconst 0, 1) := by decide +kernel
theorem dL_law_436 : decode cL_law 436 = .ok (.laload, 1) := by decide +kernel
theorem dL_law_437 : decode cL_law 437 = .ok (.iload 6, 2) := by decide +kernel
theorem dL_law_439 : decode cL_law 439 = .ok (.i2l, 1) := by decide +kernel
theorem dL_law_440 : decode cL_law 440 = .ok (.lcmp, 1) := by decide +kernel
theorem dL_law_441 : decode cL_law 441 = .ok (.ifCond .eq 5, 3) := by decide +kernel
theorem dL_law_444 : decode cL_law 444 = .ok (.iconst 0, 1) := by decide +kernel
theorem dL_law_445 : decode cL_law 445 = .ok (.ireturn, 1) := by decide +kernel
theorem dL_law_446 : decode cL_law 446 = .ok (.goto 425, 3) := by decide +kernel
theorem dL_law_449 : decode cL_law 449 = .ok (.aload_n 1, 1) := by decide +kernel
theorem dL_law_450 : decode cL_law 450 = .ok (.aload_n 0, 1) := by decide +kernel
theorem dL_law_451 : decode cL_law 451 = .ok (.iload 4, 2) := by decide +kernel
theorem dL_law_453 : decode cL_law 453 = .ok (.iconst 1, 1) := by decide +kernel
theorem dL_law_454 : decode cL_law 454 = .ok (.iadd, 1) := by decide +kernel
theorem dL_law_455 : decode cL_law 455 = .ok (.iaload, 1) := by decide +kernel
theorem dL_law_456 : decode cL_law 456 = .ok (.aload_n 0, 1) := by decide +kernel
theorem dL_law_457 : decode cL_law 457 = .ok (.iload 4, 2) := by decide +kernel
theorem dL_law_459 : decode cL_law 459 = .ok (.iconst 2, 1) := by decide +kernel
theorem dL_law_460 : decode cL_law 460 = .ok (.iadd, 1) := by decide +kernel
theorem dL_law_461 : decode cL_law 461 = .ok (.iaload, 1) := by decide +kernel
theorem dL_law_462 : decode cL_law 462 = .ok (.aload_n 0, 1) := by decide +kernel
theorem dL_law_463 : decode cL_law 463 = .ok (.iload 4, 2) := by decide +kernel
theorem dL_law_465 : decode cL_law 465 = .ok (.iconst 3, 1) := by decide +kernel
theorem dL_law_466 : decode cL_law 466 = .ok (.iadd, 1) := by decide +kernel
theorem dL_law_467 : decode cL_law 467 = .ok (.iaload, 1) := by decide +kernel
theorem dL_law_468 : decode cL_law 468 = .ok (.aload_n 0, 1) := by decide +kernel
theorem dL_law_469 : decode cL_law 469 = .ok (.iload 4, 2) := by decide +kernel
theorem dL_law_471 : decode cL_law 471 = .ok (.iconst 4, 1) := by decide +kernel
theorem dL_law_472 : decode cL_law 472 = .ok (.iadd, 1) := by decide +kernel
theorem dL_law_473 : decode cL_law 473 = .ok (.iaload, 1) := by decide +kernel
theorem dL_law_474 : decode cL_law 474 = .ok (.aload_n 3, 1) := by decide +kernel
theorem dL_law_475 : decode cL_law 475 = .ok (.invokestatic 70, 3) := by decide +kernel
theorem dL_law_478 : decode cL_law 478 = .ok (.istore 5, 2) := by decide +kernel
theorem dL_law_480 : decode cL_law 480 = .ok (.aload_n 2, 1) := by decide +kernel
theorem dL_law_481 : decode cL_law 481 = .ok (.aload_n 0, 1) := by decide +kernel
theorem dL_law_482 : decode cL_law 482 = .ok (.iload 4, 2) := by decide +kernel
theorem dL_law_484 : decode cL_law 484 = .ok (.iconst 1, 1) := by decide +kernel
theorem dL_law_485 : decode cL_law 485 = .ok (.iadd, 1) := by decide +kernel
theorem dL_law_486 : decode cL_law 486 = .ok (.iaload, 1) := by decide +kernel
theorem dL_law_487 : decode cL_law 487 = .ok (.aload_n 0, 1) := by decide +kernel
theorem dL_law_488 : decode cL_law 488 = .ok (.iload 4, 2) := by decide +kernel
theorem dL_law_490 : decode cL_law 490 = .ok (.iconst 2, 1) := by decide +kernel
theorem dL_law_491 : decode cL_law 491 = .ok (.iadd, 1) := by decide +kernel
theorem dL_law_492 : decode cL_law 492 = .ok (.iaload, 1) := by decide +kernel
theorem dL_law_493 : decode cL_law 493 = .ok (.aload_n 0, 1) := by decide +kernel
theorem dL_law_494 : decode cL_law 494 = .ok (.iload 4, 2) := by decide +kernel
theorem dL_law_496 : decode cL_law 496 = .ok (.iconst 3, 1) := by decide +kernel
theorem dL_law_497 : decode cL_law 497 = .ok (.iadd, 1) := by decide +kernel
theorem dL_law_498 : decode cL_law 498 = .ok (.iaload, 1) := by decide +kernel
theorem dL_law_499 : decode cL_law 499 = .ok (.aload_n 0, 1) := by decide +kernel
theorem dL_law_500 : decode cL_law 500 = .ok (.iload 4, 2) := by decide +kernel
theorem dL_law_502 : decode cL_law 502 = .ok (.iconst 4, 1) := by decide +kernel
theorem dL_law_503 : decode cL_law 503 = .ok (.iadd, 1) := by decide +kernel
theorem dL_law_504 : decode cL_law 504 = .ok (.iaload, 1) := by decide +kernel
theorem dL_law_505 : decode cL_law 505 = .ok (.invokevirtual 73, 3) := by decide +kernel
theorem dL_law_508 : decode cL_law 508 = .ok (.istore 6, 2) := by decide +kernel
theorem dL_law_510 : decode cL_law 510 = .ok (.aload_n 2, 1) := by decide +kernel
theorem dL_law_511 : decode cL_law 511 = .ok (.invokevirtual 55, 3) := by decide +kernel
theorem dL_law_514 : decode cL_law 514 = .ok (.iload 5, 2) := by decide +kernel
theorem dL_law_516 : decode cL_law 516 = .ok (.if_icmp .eq 5, 3) := by decide +kernel
theorem dL_law_519 : decode cL_law 519 = .ok (.iconst 0, 1) := by decide +kernel
theorem dL_law_520 : decode cL_law 520 = .ok (.ireturn, 1) := by decide +kernel
theorem dL_law_521 : decode cL_law 521 = .ok (.iload 5, 2) := by decide +kernel
theorem dL_law_523 : decode cL_law 523 = .ok (.ifCond .ne 15, 3) := by decide +kernel
theorem dL_law_526 : decode cL_law 526 = .ok (.aload_n 3, 1) := by decide +kernel
theorem dL_law_527 : decode cL_law 527 = .ok (.iconst 0, 1) := by decide +kernel
theorem dL_law_528 : decode cL_law 528 = .ok (.laload, 1) := by decide +kernel
theorem dL_law_529 : decode cL_law 529 = .ok (.iload 6, 2) := by decide +kernel
theorem dL_law_531 : decode cL_law 531 = .ok (.i2l, 1) := by decide +kernel
theorem dL_law_532 : decode cL_law 532 = .ok (.lcmp, 1) := by decide +kernel
theorem dL_law_533 : decode cL_law 533 = .ok (.ifCond .eq 5, 3) := by decide +kernel
theorem dL_law_536 : decode cL_law 536 = .ok (.iconst 0, 1) := by decide +kernel
theorem dL_law_537 : decode cL_law 537 = .ok (.ireturn, 1) := by decide +kernel
theorem dL_law_538 : decode cL_law 538 = .ok (.goto 333, 3) := by decide +kernel
theorem dL_law_541 : decode cL_law 541 = .ok (.aload_n 1, 1) := by decide +kernel
theorem dL_law_542 : decode cL_law 542 = .ok (.aload_n 0, 1) := by decide +kernel
theorem dL_law_543 : decode cL_law 543 = .ok (.iload 4, 2) := by decide +kernel
theorem dL_law_545 : decode cL_law 545 = .ok (.iconst 1, 1) := by decide +kernel
theorem dL_law_546 : decode cL_law 546 = .ok (.iadd, 1) := by decide +kernel
theorem dL_law_547 : decode cL_law 547 = .ok (.iaload, 1) := by decide +kernel
theorem dL_law_548 : decode cL_law 548 = .ok (.invokevirtual 74, 3) := by decide +kernel
theorem dL_law_551 : decode cL_law 551 = .ok (.aload_n 2, 1) := by decide +kernel
theorem dL_law_552 : decode cL_law 552 = .ok (.aload_n 0, 1) := by decide +kernel
theorem dL_law_553 : decode cL_law 553 = .ok (.iload 4, 2) := by decide +kernel
theorem dL_law_555 : decode cL_law 555 = .ok (.iconst 1, 1) := by decide +kernel
theorem dL_law_556 : decode cL_law 556 = .ok (.iadd, 1) := by decide +kernel
theorem dL_law_557 : decode cL_law 557 = .ok (.iaload, 1) := by decide +kernel
theorem dL_law_558 : decode cL_law 558 = .ok (.invokevirtual 77, 3) := by decide +kernel
theorem dL_law_561 : decode cL_law 561 = .ok (.if_icmp .eq 310, 3) := by decide +kernel
theorem dL_law_564 : decode cL_law 564 = .ok (.iconst 0, 1) := by decide +kernel
theorem dL_law_565 : decode cL_law 565 = .ok (.ireturn, 1) := by decide +kernel
theorem dL_law_566 : decode cL_law 566 = .ok (.aload_n 1, 1) := by decide +kernel
theorem dL_law_567 : decode cL_law 567 = .ok (.aload_n 0, 1) := by decide +kernel
theorem dL_law_568 : decode cL_law 568 = .ok (.iload 4, 2) := by decide +kernel
theorem dL_law_570 : decode cL_law 570 = .ok (.iconst 1, 1) := by decide +kernel
theorem dL_law_571 : decode cL_law 571 = .ok (.iadd, 1) := by decide +kernel
theorem dL_law_572 : decode cL_law 572 = .ok (.iaload, 1) := by decide +kernel
theorem dL_law_573 : decode cL_law 573 = .ok (.invokevirtual 78, 3) := by decide +kernel
theorem dL_law_576 : decode cL_law 576 = .ok (.aload_n 2, 1) := by decide +kernel
theorem dL_law_577 : decode cL_law 577 = .ok (.aload_n 0, 1) := by decide +kernel
theorem dL_law_578 : decode cL_law 578 = .ok (.iload 4, 2) := by decide +kernel
theorem dL_law_580 : decode cL_law 580 = .ok (.iconst 1, 1) := by decide +kernel
theorem dL_law_581 : decode cL_law 581 = .ok (.iadd, 1) := by decide +kernel
theorem dL_law_582 : decode cL_law 582 = .ok (.iaload, 1) := by decide +kernel
theorem dL_law_583 : decode cL_law 583 = .ok (.invokevirtual 82, 3) := by decide +kernel
theorem dL_law_586 : decode cL_law 586 = .ok (.lcmp, 1) := by decide +kernel
theorem dL_law_587 : decode cL_law 587 = .ok (.ifCond .eq 284, 3) := by decide +kernel
theorem dL_law_590 : decode cL_law 590 = .ok (.iconst 0, 1) := by decide +kernel
theorem dL_law_591 : decode cL_law 591 = .ok (.ireturn, 1) := by decide +kernel
theorem dL_law_592 : decode cL_law 592 = .ok (.aload_n 1, 1) := by decide +kernel
theorem dL_law_593 : decode cL_law 593 = .ok (.aload_n 0, 1) := by decide +kernel
theorem dL_law_594 : decode cL_law 594 = .ok (.iload 4, 2) := by decide +kernel
theorem dL_law_596 : decode cL_law 596 = .ok (.iconst 1, 1) := by decide +kernel
theorem dL_law_597 : decode cL_law 597 = .ok (.iadd, 1) := by decide +kernel
theorem dL_law_598 : decode cL_law 598 = .ok (.iaload, 1) := by decide +kernel
theorem dL_law_599 : decode cL_law 599 = .ok (.aload_n 0, 1) := by decide +kernel
theorem dL_law_600 : decode cL_law 600 = .ok (.iload 4, 2) := by decide +kernel
theorem dL_law_602 : decode cL_law 602 = .ok (.iconst 2, 1) := by decide +kernel
theorem dL_law_603 : decode cL_law 603 = .ok (.iadd, 1) := by decide +kernel
theorem dL_law_604 : decode cL_law 604 = .ok (.iaload, 1) := by decide +kernel
theorem dL_law_605 : decode cL_law 605 = .ok (.invokevirtual 83, 3) := by decide +kernel
theorem dL_law_608 : decode cL_law 608 = .ok (.aload_n 2, 1) := by decide +kernel
theorem dL_law_609 : decode cL_law 609 = .ok (.aload_n 0, 1) := by decide +kernel
theorem dL_law_610 : decode cL_law 610 = .ok (.iload 4, 2) := by decide +kernel
theorem dL_law_612 : decode cL_law 612 = .ok (.iconst 1, 1) := by decide +kernel
theorem dL_law_613 : decode cL_law 613 = .ok (.iadd, 1) := by decide +kernel
theorem dL_law_614 : decode cL_law 614 = .ok (.iaload, 1) := by decide +kernel
theorem dL_law_615 : decode cL_law 615 = .ok (.aload_n 0, 1) := by decide +kernel
theorem dL_law_616 : decode cL_law 616 = .ok (.iload 4, 2) := by decide +kernel
theorem dL_law_618 : decode cL_law 618 = .ok (.iconst 2, 1) := by decide +kernel
theorem dL_law_619 : decode cL_law 619 = .ok (.iadd, 1) := by decide +kernel
theorem dL_law_620 : decode cL_law 620 = .ok (.iaload, 1) := by decide +kernel
theorem dL_law_621 : decode cL_law 621 = .ok (.invokevirtual 86, 3) := by decide +kernel
theorem dL_law_624 : decode cL_law 624 = .ok (.if_icmp .eq 247, 3) := by decide +kernel
theorem dL_law_627 : decode cL_law 627 = .ok (.iconst 0, 1) := by decide +kernel
theorem dL_law_628 : decode cL_law 628 = .ok (.ireturn, 1) := by decide +kernel
theorem dL_law_629 : decode cL_law 629 = .ok (.aload_n 1, 1) := by decide +kernel
theorem dL_law_630 : decode cL_law 630 = .ok (.aload_n 0, 1) := by decide +kernel
theorem dL_law_631 : decode cL_law 631 = .ok (.iload 4, 2) := by decide +kernel
theorem dL_law_633 : decode cL_law 633 = .ok (.iconst 1, 1) := by decide +kernel
theorem dL_law_634 : decode cL_law 634 = .ok (.iadd, 1) := by decide +kernel
theorem dL_law_635 : decode cL_law 635 = .ok (.iaload, 1) := by decide +kernel
theorem dL_law_636 : decode cL_law 636 = .ok (.aload_n 0, 1) := by decide +kernel
theorem dL_law_637 : decode cL_law 637 = .ok (.iload 4, 2) := by decide +kernel
theorem dL_law_639 : decode cL_law 639 = .ok (.iconst 2, 1) := by decide +kernel
theorem dL_law_640 : decode cL_law 640 = .ok (.iadd, 1) := by decide +kernel
theorem dL_law_641 : decode cL_law 641 = .ok (.iaload, 1) := by decide +kernel
theorem dL_law_642 : decode cL_law 642 = .ok (.aload_n 3, 1) := by decide +kernel
theorem dL_law_643 : decode cL_law 643 = .ok (.invokestatic 87, 3) := by decide +kernel
theorem dL_law_646 : decode cL_law 646 = .ok (.istore 5, 2) := by decide +kernel
theorem dL_law_648 : decode cL_law 648 = .ok (.aload_n 2, 1) := by decide +kernel
theorem dL_law_649 : decode cL_law 649 = .ok (.aload_n 0, 1) := by decide +kernel
theorem dL_law_650 : decode cL_law 650 = .ok (.iload 4, 2) := by decide +kernel
theorem dL_law_652 : decode cL_law 652 = .ok (.iconst 1, 1) := by decide +kernel
theorem dL_law_653 : decode cL_law 653 = .ok (.iadd, 1) := by decide +kernel
theorem dL_law_654 : decode cL_law 654 = .ok (.iaload, 1) := by decide +kernel
theorem dL_law_655 : decode cL_law 655 = .ok (.aload_n 0, 1) := by decide +kernel
theorem dL_law_656 : decode cL_law 656 = .ok (.iload 4, 2) := by decide +kernel
theorem dL_law_658 : decode cL_law 658 = .ok (.iconst 2, 1) := by decide +kernel
theorem dL_law_659 : decode cL_law 659 = .ok (.iadd, 1) := by decide +kernel
theorem dL_law_660 : decode cL_law 660 = .ok (.iaload, 1) := by decide +kernel
theorem dL_law_661 : decode cL_law 661 = .ok (.invokevirtual 90, 3) := by decide +kernel
theorem dL_law_664 : decode cL_law 664 = .ok (.istore 6, 2) := by decide +kernel
theorem dL_law_666 : decode cL_law 666 = .ok (.aload_n 2, 1) := by decide +kernel
theorem dL_law_667 : decode cL_law 667 = .ok (.invokevirtual 55, 3) := by decide +kernel
theorem dL_law_670 : decode cL_law 670 = .ok (.iload 5, 2) := by decide +kernel
theorem dL_law_672 : decode cL_law 672 = .ok (.if_icmp .eq 5, 3) := by decide +kernel
theorem dL_law_675 : decode cL_law 675 = .ok (.iconst 0, 1) := by decide +kernel
theorem dL_law_676 : decode cL_law 676 = .ok (.ireturn, 1) := by decide +kernel
theorem dL_law_677 : decode cL_law 677 = .ok (.iload 5, 2) := by decide +kernel
theorem dL_law_679 : decode cL_law 679 = .ok (.ifCond .ne 15, 3) := by decide +kernel
theorem dL_law_682 : decode cL_law 682 = .ok (.aload_n 3, 1) := by decide +kernel
theorem dL_law_683 : decode cL_law 683 = .ok (.iconst 0, 1) := by decide +kernel
theorem dL_law_684 : decode cL_law 684 = .ok (.laload, 1) := by decide +kernel
theorem dL_law_685 : decode cL_law 685 = .ok (.iload 6, 2) := by decide +kernel
theorem dL_law_687 : decode cL_law 687 = .ok (.i2l, 1) := by decide +kernel
theorem dL_law_688 : decode cL_law 688 = .ok (.lcmp, 1) := by decide +kernel
theorem dL_law_689 : decode cL_law 689 = .ok (.ifCond .eq 5, 3) := by decide +kernel
theorem dL_law_692 : decode cL_law 692 = .ok (.iconst 0, 1) := by decide +kernel
theorem dL_law_693 : decode cL_law 693 = .ok (.ireturn, 1) := by decide +kernel
theorem dL_law_694 : decode cL_law 694 = .ok (.goto 177, 3) := by decide +kernel
theorem dL_law_697 : decode cL_law 697 = .ok (.aload_n 1, 1) := by decide +kernel
theorem dL_law_698 : decode cL_law 698 = .ok (.aload_n 0, 1) := by decide +kernel
theorem dL_law_699 : decode cL_law 699 = .ok (.iload 4, 2) := by decide +kernel
theorem dL_law_701 : decode cL_law 701 = .ok (.iconst 1, 1) := by decide +kernel
theorem dL_law_702 : decode cL_law 702 = .ok (.iadd, 1) := by decide +kernel
theorem dL_law_703 : decode cL_law 703 = .ok (.iaload, 1) := by decide +kernel
theorem dL_law_704 : decode cL_law 704 = .ok (.aload_n 0, 1) := by decide +kernel
theorem dL_law_705 : decode cL_law 705 = .ok (.iload 4, 2) := by decide +kernel
theorem dL_law_707 : decode cL_law 707 = .ok (.iconst 2, 1) := by decide +kernel
theorem dL_law_708 : decode cL_law 708 = .ok (.iadd, 1) := by decide +kernel
theorem dL_law_709 : decode cL_law 709 = .ok (.iaload, 1) := by decide +kernel
theorem dL_law_710 : decode cL_law 710 = .ok (.aload_n 3, 1) := by decide +kernel
theorem dL_law_711 : decode cL_law 711 = .ok (.invokestatic 91, 3) := by decide +kernel
theorem dL_law_714 : decode cL_law 714 = .ok (.istore 5, 2) := by decide +kernel
theorem dL_law_716 : decode cL_law 716 = .ok (.aload_n 2, 1) := by decide +kernel
theorem dL_law_717 : decode cL_law 717 = .ok (.aload_n 0, 1) := by decide +kernel
theorem dL_law_718 : decode cL_law 718 = .ok (.iload 4, 2) := by decide +kernel
theorem dL_law_720 : decode cL_law 720 = .ok (.iconst 1, 1) := by decide +kernel
theorem dL_law_721 : decode cL_law 721 = .ok (.iadd, 1) := by decide +kernel
theorem dL_law_722 : decode cL_law 722 = .ok (.iaload, 1) := by decide +kernel
theorem dL_law_723 : decode cL_law 723 = .ok (.aload_n 0, 1) := by decide +kernel
theorem dL_law_724 : decode cL_law 724 = .ok (.iload 4, 2) := by decide +kernel
theorem dL_law_726 : decode cL_law 726 = .ok (.iconst 2, 1) := by decide +kernel
theorem dL_law_727 : decode cL_law 727 = .ok (.iadd, 1) := by decide +kernel
theorem dL_law_728 : decode cL_law 728 = .ok (.iaload, 1) := by decide +kernel
theorem dL_law_729 : decode cL_law 729 = .ok (.invokevirtual 93, 3) := by decide +kernel
theorem dL_law_732 : decode cL_law 732 = .ok (.lstore 6, 2) := by decide +kernel
theorem dL_law_734 : decode cL_law 734 = .ok (.aload_n 2, 1) := by decide +kernel
theorem dL_law_735 : decode cL_law 735 = .ok (.invokevirtual 55, 3) := by decide +kernel
theorem dL_law_738 : decode cL_law 738 = .ok (.iload 5, 2) := by decide +kernel
theorem dL_law_740 : decode cL_law 740 = .ok (.if_icmp .eq 5, 3) := by decide +kernel
theorem dL_law_743 : decode cL_law 743 = .ok (.iconst 0, 1) := by decide +kernel
theorem dL_law_744 : decode cL_law 744 = .ok (.ireturn, 1) := by decide +kernel
theorem dL_law_745 : decode cL_law 745 = .ok (.iload 5, 2) := by decide +kernel
theorem dL_law_747 : decode cL_law 747 = .ok (.ifCond .ne 14, 3) := by decide +kernel
theorem dL_law_750 : decode cL_law 750 = .ok (.aload_n 3, 1) := by decide +kernel
theorem dL_law_751 : decode cL_law 751 = .ok (.iconst 0, 1) := by decide +kernel
theorem dL_law_752 : decode cL_law 752 = .ok (.laload, 1) := by decide +kernel
theorem dL_law_753 : decode cL_law 753 = .ok (.lload 6, 2) := by decide +kernel
theorem dL_law_755 : decode cL_law 755 = .ok (.lcmp, 1) := by decide +kernel
theorem dL_law_756 : decode cL_law 756 = .ok (.ifCond .eq 5, 3) := by decide +kernel
theorem dL_law_759 : decode cL_law 759 = .ok (.iconst 0, 1) := by decide +kernel
theorem dL_law_760 : decode cL_law 760 = .ok (.ireturn, 1) := by decide +kernel
theorem dL_law_761 : decode cL_law 761 = .ok (.goto 110, 3) := by decide +kernel
theorem dL_law_764 : decode cL_law 764 = .ok (.aload_n 1, 1) := by decide +kernel
theorem dL_law_765 : decode cL_law 765 = .ok (.aload_n 0, 1) := by decide +kernel
theorem dL_law_766 : decode cL_law 766 = .ok (.iload 4, 2) := by decide +kernel
theorem dL_law_768 : decode cL_law 768 = .ok (.iconst 1, 1) := by decide +kernel
theorem dL_law_769 : decode cL_law 769 = .ok (.iadd, 1) := by decide +kernel
theorem dL_law_770 : decode cL_law 770 = .ok (.iaload, 1) := by decide +kernel
theorem dL_law_771 : decode cL_law 771 = .ok (.aload_n 0, 1) := by decide +kernel
theorem dL_law_772 : decode cL_law 772 = .ok (.iload 4, 2) := by decide +kernel
theorem dL_law_774 : decode cL_law 774 = .ok (.iconst 2, 1) := by decide +kernel
theorem dL_law_775 : decode cL_law 775 = .ok (.iadd, 1) := by decide +kernel
theorem dL_law_776 : decode cL_law 776 = .ok (.iaload, 1) := by decide +kernel
theorem dL_law_777 : decode cL_law 777 = .ok (.aload_n 3, 1) := by decide +kernel
theorem dL_law_778 : decode cL_law 778 = .ok (.invokestatic 94, 3) := by decide +kernel
theorem dL_law_781 : decode cL_law 781 = .ok (.istore 5, 2) := by decide +kernel
theorem dL_law_783 : decode cL_law 783 = .ok (.aload_n 2, 1) := by decide +kernel
theorem dL_law_784 : decode cL_law 784 = .ok (.aload_n 0, 1) := by decide +kernel
theorem dL_law_785 : decode cL_law 785 = .ok (.iload 4, 2) := by decide +kernel
theorem dL_law_787 : decode cL_law 787 = .ok (.iconst 1, 1) := by decide +kernel
theorem dL_law_788 : decode cL_law 788 = .ok (.iadd, 1) := by decide +kernel
theorem dL_law_789 : decode cL_law 789 = .ok (.iaload, 1) := by decide +kernel
theorem dL_law_790 : decode cL_law 790 = .ok (.aload_n 0, 1) := by decide +kernel
theorem dL_law_791 : decode cL_law 791 = .ok (.iload 4, 2) := by decide +kernel
theorem dL_law_793 : decode cL_law 793 = .ok (.iconst 2, 1) := by decide +kernel
theorem dL_law_794 : decode cL_law 794 = .ok (.iadd, 1) := by decide +kernel
theorem dL_law_795 : decode cL_law 795 = .ok (.iaload, 1) := by decide +kernel
theorem dL_law_796 : decode cL_law 796 = .ok (.invokevirtual 96, 3) := by decide +kernel
theorem dL_law_799 : decode cL_law 799 = .ok (.istore 6, 2) := by decide +kernel
theorem dL_law_801 : decode cL_law 801 = .ok (.aload_n 2, 1) := by decide +kernel
theorem dL_law_802 : decode cL_law 802 = .ok (.invokevirtual 55, 3) := by decide +kernel
theorem dL_law_805 : decode cL_law 805 = .ok (.iload 5, 2) := by decide +kernel
theorem dL_law_807 : decode cL_law 807 = .ok (.if_icmp .eq 5, 3) := by decide +kernel
theorem dL_law_810 : decode cL_law 810 = .ok (.iconst 0, 1) := by decide +kernel
theorem dL_law_811 : decode cL_law 811 = .ok (.ireturn, 1) := by decide +kernel
theorem dL_law_812 : decode cL_law 812 = .ok (.iload 5, 2) := by decide +kernel
theorem dL_law_814 : decode cL_law 814 = .ok (.ifCond .ne 15, 3) := by decide +kernel
theorem dL_law_817 : decode cL_law 817 = .ok (.aload_n 3, 1) := by decide +kernel
theorem dL_law_818 : decode cL_law 818 = .ok (.iconst 0, 1) := by decide +kernel
theorem dL_law_819 : decode cL_law 819 = .ok (.laload, 1) := by decide +kernel
theorem dL_law_820 : decode cL_law 820 = .ok (.iload 6, 2) := by decide +kernel
theorem dL_law_822 : decode cL_law 822 = .ok (.i2l, 1) := by decide +kernel
theorem dL_law_823 : decode cL_law 823 = .ok (.lcmp, 1) := by decide +kernel
theorem dL_law_824 : decode cL_law 824 = .ok (.ifCond .eq 5, 3) := by decide +kernel
theorem dL_law_827 : decode cL_law 827 = .ok (.iconst 0, 1) := by decide +kernel
theorem dL_law_828 : decode cL_law 828 = .ok (.ireturn, 1) := by decide +kernel
theorem dL_law_829 : decode cL_law 829 = .ok (.goto 42, 3) := by decide +kernel
theorem dL_law_832 : decode cL_law 832 = .ok (.aload_n 1, 1) := by decide +kernel
theorem dL_law_833 : decode cL_law 833 = .ok (.invokevirtual 97, 3) := by decide +kernel
theorem dL_law_836 : decode cL_law 836 = .ok (.aload_n 2, 1) := by decide +kernel
theorem dL_law_837 : decode cL_law 837 = .ok (.invokevirtual 100, 3) := by decide +kernel
theorem dL_law_840 : decode cL_law 840 = .ok (.if_icmp .eq 31, 3) := by decide +kernel
theorem dL_law_843 : decode cL_law 843 = .ok (.iconst 0, 1) := by decide +kernel
theorem dL_law_844 : decode cL_law 844 = .ok (.ireturn, 1) := by decide +kernel
theorem dL_law_845 : decode cL_law 845 = .ok (.aload_n 1, 1) := by decide +kernel
theorem dL_law_846 : decode cL_law 846 = .ok (.invokevirtual 101, 3) := by decide +kernel
theorem dL_law_849 : decode cL_law 849 = .ok (.aload_n 2, 1) := by decide +kernel
theorem dL_law_850 : decode cL_law 850 = .ok (.invokevirtual 104, 3) := by decide +kernel
theorem dL_law_853 : decode cL_law 853 = .ok (.if_icmp .eq 18, 3) := by decide +kernel
theorem dL_law_856 : decode cL_law 856 = .ok (.iconst 0, 1) := by decide +kernel
theorem dL_law_857 : decode cL_law 857 = .ok (.ireturn, 1) := by decide +kernel
theorem dL_law_858 : decode cL_law 858 = .ok (.aload_n 1, 1) := by decide +kernel
theorem dL_law_859 : decode cL_law 859 = .ok (.invokevirtual 105, 3) := by decide +kernel
theorem dL_law_862 : decode cL_law 862 = .ok (.aload_n 2, 1) := by decide +kernel
theorem dL_law_863 : decode cL_law 863 = .ok (.invokevirtual 108, 3) := by decide +kernel
theorem dL_law_866 : decode cL_law 866 = .ok (.if_icmp .eq 5, 3) := by decide +kernel
theorem dL_law_869 : decode cL_law 869 = .ok (.iconst 0, 1) := by decide +kernel
theorem dL_law_870 : decode cL_law 870 = .ok (.ireturn, 1) := by decide +kernel
theorem dL_law_871 : decode cL_law 871 = .ok (.iinc 4 7, 3) := by decide +kernel
theorem dL_law_874 : decode cL_law 874 = .ok (.goto (-851), 3) := by decide +kernel
theorem dL_law_877 : decode cL_law 877 = .ok (.iconst 1, 1) := by decide +kernel
theorem dL_law_878 : decode cL_law 878 = .ok (.ireturn, 1) := by decide +kernel
abbrev vwCl : List vw_C := [(RX0, TX0, 4), (RX1, TX1, 7)]
end
section
/-! BASE: contracts of methods that only read (exact answers), entry, calls, joins and loops of a walk; places of arrays by natural numbers. -/
section PB0
abbrev pb_Rt : Type := Nat × Int32 × Int64
abbrev pb_R (fr lo : Nat) : Room := { frames := fr, cells := 0, slots := 0, locals := lo }
abbrev pb_No : Addr → Prop := fun _ => False
abbrev pb_Rd (l : Launch) (y : MethodName) (ws : List Cond) (fr lo : Nat) (Pc : Array Value → State → Prop) (v : Value) : Prop := Met l y ws (pb_R fr lo) Pc (k2_QcV v) 0 0 pb_No
abbrev pb_Vd (l : Launch) (y : MethodName) (ws : List Cond) (fr lo : Nat) (Pc : Array Value → State → Prop) : Prop := Met l y ws (pb_R fr lo) Pc (va_Sv (fun _ => True)) 0 0 pb_No
def pb_X (av : List Value) (D : va_G) (tys : List (ClassId × FieldType)) (wd : va_W) : Array Value → State → Prop := va_Pc av (fun U => va_P D vwCl wd U.heap ∧ va_K D vwCl tys U)
def pb_S (av : List Value) : Array Value → State → Prop := va_Pc av (fun _ => True)
theorem pb_X_blind {av : List Value} {D : va_G} {tys : List (ClassId × FieldType)} {wd : va_W} : FrameBlind (pb_X av D tys wd) := fun a U g mk q => ⟨q.1, q.2.1, va_K.moved (u := U) (U := U.calling g mk a) (Vm.Alike.refl U.vm) q.2.2⟩
theorem pb_S_blind {av : List Value} : FrameBlind (pb_S av) := fun a U g mk q => ⟨q.1, trivial⟩
theorem pb_X_pre {av : List Value} {D : va_G} {tys : List (ClassId × FieldType)} {wd : va_W} {s : State} {H : Heap} (hP : va_P D vwCl wd H) (hK : va_K D vwCl tys s) : ∀ U : State, U.heap = H → s.WarmedH U.vm → pb_X av D tys wd av.toArray U := fun U hU hW => ⟨rfl, by rw [hU]; exact hP, va_K.moved hW.alike hK⟩
theorem pb_S_pre {av : List Value} {s : State} {H : Heap} : ∀ U : State, U.heap = H → s.WarmedH U.vm → pb_S av av.toArray U := fun _ _ _ => ⟨rfl, trivial⟩
/-- the entry of a method that reads a world -/
theorem pb_ofX {l : Launch} {y : MethodName} {ws ws' : List Cond} {rm : Room} {Qc : Array Value → State → Outcome → State → Prop} {av : List Value} {D : va_G} {tys : List (ClassId × FieldType)} {wd : va_W} {cc : ByteArray} {maxL : Nat} {ret : Option FieldType} (own : String) (hy : plainName y.cls = true) (hw : ws = Cond.code y cc maxL ret :: ws') (ho : y.cls = own) (hlen : (lg_sl av).length ≤ maxL)
    (body : ∀ (p : Program) (e : Env) (s : State) (m : MethodId) (args : Array Value) (below : List Frame) (meth : Method) (c : Code) (ls : Array Slot), p.tables.exec = Jvm.exec → c.code = cc → c.maxLocals = maxL → meth.sig.returnType = ret → meth.locks = false → s.vm.findClass own = some m.cls → (∀ w ∈ ws, w.before args s = true) → va_P D vwCl wd s.heap → va_K D vwCl tys s → lv_has ls maxL (lv_args 0 av) →
      W p l e rm s m args below meth c s.heap [] 0 0 (MQ below Qc args s 0 0 pb_No) (F0 m 0 ls [])) : Met l y ws rm (pb_X av D tys wd) Qc 0 0 pb_No := by
  refine Met.ofW (cc := cc) (maxL := maxL) (ret := ret) hy hw ?_
  intro p e s m args below meth c s₁ B hml hv
  obtain ⟨rfl, hP, hK⟩ := hv
  rw [lg_entry_eq]
  exact body p e s m _ below meth c _ B.exec B.bytes hml B.returns B.notSynchronized (by rw [← ho]; exact findClass_of_methodNamed B.named) (atoms_spec (ws := ws) B.pre) hP hK (lv_entry av hlen)
/-- the entry of a method without a world -/
theorem pb_ofS {l : Launch} {y : MethodName} {ws ws' : List Cond} {rm : Room} {Qc : Array Value → State → Outcome → State → Prop} {av : List Value} {cc : ByteArray} {maxL : Nat} {ret : Option FieldType} (own : String) (hy : plainName y.cls = true) (hw : ws = Cond.code y cc maxL ret :: ws') (ho : y.cls = own) (hlen : (lg_sl av).length ≤ maxL)
    (body : ∀ (p : Program) (e : Env) (s : State) (m : MethodId) (args : Array Value) (below : List Frame) (meth : Method) (c : Code) (ls : Array Slot), p.tables.exec = Jvm.exec → c.code = cc → c.maxLocals = maxL → meth.sig.returnType = ret → meth.locks = false → s.vm.findClass own = some m.cls → (∀ w ∈ ws, w.before args s = true) → lv_has ls maxL (lv_args 0 av) →
      W p l e rm s m args below meth c s.heap [] 0 0 (MQ below Qc args s 0 0 pb_No) (F0 m 0 ls [])) : Met l y ws rm (pb_S av) Qc 0 0 pb_No := by
  refine Met.ofW (cc := cc) (maxL := maxL) (ret := ret) hy hw ?_
  intro p e s m args below meth c s₁ B hml hv
  obtain ⟨rfl, -⟩ := hv
  rw [lg_entry_eq]
  exact body p e s m _ below meth c _ B.exec B.bytes hml B.returns B.notSynchronized (by rw [← ho]; exact findClass_of_methodNamed B.named) (atoms_spec (ws := ws) B.pre) (lv_entry av hlen)
section
variable {p : Program} {l : Launch} {e : Env} {R : Room} {s : State} {m : MethodId} {args : Array Value} {below : List Frame} {meth : Method} {c : Code} {H : Heap} {locs : List Loc} {cells slots : Nat} {Q : State → Prop}
variable {pc : Nat} {ls : Array Slot} {rest st0 : List Value} {cc bytes : ByteArray} {nL maxL index n : Nat} {own C : String} {y : MethodName} {ret : Option FieldType} {ws Ts : List Cond} {rm : Room} {Pc : Array Value → State → Prop} {av As : List Value} {b : Addr} {v : Value} {D : va_G} {cl : List vw_C} {tys : List (ClassId × FieldType)} {wd : va_W} {lv : List (Nat × Value)}
theorem pb_callV (S : CallFix p m c cc nL s args Ts own) (hM : Met l y ws rm (pb_X (.ref b :: As) D tys wd) (k2_QcV v) 0 0 pb_No) (cw : CallW R s args own C index y bytes maxL ret ws rm 0 0 n) (hP : va_P D vwCl wd H) (hK : va_K D vwCl tys s)
    (hr : ∃ cellB : Cell, H[b]? = some cellB ∧ cellB.vm.isStatics = false ∧ s.vm.findClass C = some cellB.cls) (hst : st0 = As.reverse ++ .ref b :: rest) (hn : As.length = n) (hl : lv_has ls nL lv) (hW : (rest.map fun v => v.category).sum ≤ 8) (hdg : decode cc pc = .ok (.invokevirtual index, 3)) (hf : cells ≤ R.cells ∧ slots ≤ R.slots)
    (kk : W p l e R s m args below meth c H locs cells slots Q (F0 m (pc + 3) ls (v :: rest))) : W p l e R s m args below meth c H locs cells slots Q (F0 m pc ls st0) :=
  W.callV (W.runV (g := F0 m pc ls st0) S hM cw ⟨pb_X_blind, hr, pb_X_pre hP hK⟩ rfl hn hl.1 hst (lv_room hW) hdg hf) kk
theorem pb_callS (S : CallFix p m c cc nL s args Ts own) (hM : Met l y ws rm (pb_S As) (k2_QcV v) 0 0 pb_No) (cw : CallB R s args own index y bytes maxL ret ws rm 0 0 n ∧ (Cond.static y).before args s = true)
    (hst : st0 = As.reverse ++ rest) (hn : As.length = n) (hl : lv_has ls nL lv) (hW : (rest.map fun v => v.category).sum ≤ 8) (hdg : decode cc pc = .ok (.invokestatic index, 3)) (hf : cells ≤ R.cells ∧ slots ≤ R.slots)
    (kk : W p l e R s m args below meth c H locs cells slots Q (F0 m (pc + 3) ls (v :: rest))) : W p l e R s m args below meth c H locs cells slots Q (F0 m pc ls st0) :=
  W.callV (W.runS (g := F0 m pc ls st0) S hM cw ⟨pb_S_blind, pb_S_pre⟩ rfl hn hl.1 hst (lv_room hW) hdg hf) kk
theorem pb_callSv (S : CallFix p m c cc nL s args Ts own) (hM : Met l y ws rm (pb_S As) (va_Sv (fun _ => True)) 0 0 pb_No) (cw : CallB R s args own index y bytes maxL ret ws rm 0 0 n ∧ (Cond.static y).before args s = true)
    (hst : st0 = As.reverse ++ rest) (hn : As.length = n) (hl : lv_has ls nL lv) (hW : (rest.map fun v => v.category).sum ≤ 8) (hdg : decode cc pc = .ok (.invokestatic index, 3)) (hf : cells ≤ R.cells ∧ slots ≤ R.slots)
    (kk : W p l e R s m args below meth c H locs cells slots Q (F0 m (pc + 3) ls rest)) : W p l e R s m args below meth c H locs cells slots Q (F0 m pc ls st0) :=
  va_csv (W.runS (g := F0 m pc ls st0) S hM cw ⟨pb_S_blind, pb_S_pre⟩ rfl hn hl.1 hst (lv_room hW) hdg hf) (fun _ => kk)
theorem pb_callVv (S : CallFix p m c cc nL s args Ts own) (hM : Met l y ws rm (pb_X (.ref b :: As) D tys wd) (va_Sv (fun _ => True)) 0 0 pb_No) (cw : CallW R s args own C index y bytes maxL ret ws rm 0 0 n) (hP : va_P D vwCl wd H) (hK : va_K D vwCl tys s)
    (hr : ∃ cellB : Cell, H[b]? = some cellB ∧ cellB.vm.isStatics = false ∧ s.vm.findClass C = some cellB.cls) (hst : st0 = As.reverse ++ .ref b :: rest) (hn : As.length = n) (hl : lv_has ls nL lv) (hW : (rest.map fun v => v.category).sum ≤ 8) (hdg : decode cc pc = .ok (.invokevirtual index, 3)) (hf : cells ≤ R.cells ∧ slots ≤ R.slots)
    (kk : W p l e R s m args below meth c H locs cells slots Q (F0 m (pc + 3) ls rest)) : W p l e R s m args below meth c H locs cells slots Q (F0 m pc ls st0) :=
  va_csv (W.runV (g := F0 m pc ls st0) S hM cw ⟨pb_X_blind, hr, pb_X_pre hP hK⟩ rfl hn hl.1 hst (lv_room hW) hdg hf) (fun _ => kk)
theorem pb_join {g : JFrame} (P : Array Slot → Prop) (pc2 : Nat) (st2 : List Value) (h : ∀ ls2 : Array Slot, P ls2 → W p l e R s m args below meth c H locs cells slots Q (F0 m pc2 ls2 st2))
    (k : (∀ ls2 : Array Slot, P ls2 → W p l e R s m args below meth c H locs cells slots Q (F0 m pc2 ls2 st2)) → W p l e R s m args below meth c H locs cells slots Q g) : W p l e R s m args below meth c H locs cells slots Q g := k h
/-- a loop that changes no cell: a measure falls -/
theorem pb_loop {g : JFrame} (I : Nat → Array Slot → Prop) (pc2 : Nat) (st2 : List Value)
    (h : ∀ (k : Nat) (ls2 : Array Slot), I k ls2 → (∀ (k' : Nat) (ls' : Array Slot), k' < k → I k' ls' → W p l e R s m args below meth c H locs cells slots Q (F0 m pc2 ls' st2)) → W p l e R s m args below meth c H locs cells slots Q (F0 m pc2 ls2 st2))
    (k : (∀ (k : Nat) (ls2 : Array Slot), I k ls2 → W p l e R s m args below meth c H locs cells slots Q (F0 m pc2 ls2 st2)) → W p l e R s m args below meth c H locs cells slots Q g) : W p l e R s m args below meth c H locs cells slots Q g := by
  refine k (fun k => ?_)
  induction k using Nat.strongRecOn with
  | ind k ih => exact fun ls2 hI => h k ls2 hI (fun k' ls' hk hI' => ih k' hk ls' hI')
/-- a loop that changes cells -/
theorem pb_loopH {g : JFrame} (I : Nat → Heap → List Loc → Array Slot → Prop) (pc2 : Nat) (st2 : List Value)
    (h : ∀ (k : Nat) (H2 : Heap) (locs2 : List Loc) (ls2 : Array Slot), I k H2 locs2 ls2 → (∀ (k' : Nat) (H' : Heap) (locs' : List Loc) (ls' : Array Slot), k' < k → I k' H' locs' ls' → W p l e R s m args below meth c H' locs' cells slots Q (F0 m pc2 ls' st2)) → W p l e R s m args below meth c H2 locs2 cells slots Q (F0 m pc2 ls2 st2))
    (k : (∀ (k : Nat) (H2 : Heap) (locs2 : List Loc) (ls2 : Array Slot), I k H2 locs2 ls2 → W p l e R s m args below meth c H2 locs2 cells slots Q (F0 m pc2 ls2 st2)) → W p l e R s m args below meth c H locs cells slots Q g) : W p l e R s m args below meth c H locs cells slots Q g := by
  refine k (fun k => ?_)
  induction k using Nat.strongRecOn with
  | ind k ih => exact fun H2 locs2 ls2 hI => h k H2 locs2 ls2 hI (fun k' H' locs' ls' hk hI' => ih k' hk H' locs' ls' hI')
theorem pb_topi {x z : Int32} (h : x = z) (k : W p l e R s m args below meth c H locs cells slots Q (F0 m pc ls (.int z :: rest))) : W p l e R s m args below meth c H locs cells slots Q (F0 m pc ls (.int x :: rest)) := by rw [h]; exact k
theorem pb_topl {x z : Int64} (h : x = z) (k : W p l e R s m args below meth c H locs cells slots Q (F0 m pc ls (.long z :: rest))) : W p l e R s m args below meth c H locs cells slots Q (F0 m pc ls (.long x :: rest)) := by rw [h]; exact k
theorem pb_iret {x : Int32} {A : Addr → Prop} (hx : p.tables.exec = Jvm.exec) (hb : c.code = cc) (hr : meth.sig.returnType = some .int) (hlocks : meth.locks = false) (hdg : decode cc pc = .ok (.ireturn, 1)) (hv : v = .int x) : W p l e R s m args below meth c s.heap [] 0 0 (MQ below (k2_QcV v) args s 0 0 A) (F0 m pc ls [.int x]) :=
  W.iret hx hb hr (fun t ht _ => ⟨by rw [hv], ht⟩) (fun _ h => nomatch h) hdg hlocks
theorem pb_zret {x : Int32} {A : Addr → Prop} (hx : p.tables.exec = Jvm.exec) (hb : c.code = cc) (hr : meth.sig.returnType = some .boolean) (hlocks : meth.locks = false) (hdg : decode cc pc = .ok (.ireturn, 1)) (h01 : x = 0 ∨ x = 1) (hv : v = .int x) : W p l e R s m args below meth c s.heap [] 0 0 (MQ below (k2_QcV v) args s 0 0 A) (F0 m pc ls [.int x]) :=
  W.zret hx hb hr (by rcases h01 with h | h <;> rw [h] <;> rfl) (fun t ht _ => ⟨by rw [hv], ht⟩) (fun _ h => nomatch h) hdg hlocks
theorem pb_lret {x : Int64} {A : Addr → Prop} (hx : p.tables.exec = Jvm.exec) (hb : c.code = cc) (hr : meth.sig.returnType = some .long) (hlocks : meth.locks = false) (hdg : decode cc pc = .ok (.lreturn, 1)) (hv : v = .long x) : W p l e R s m args below meth c s.heap [] 0 0 (MQ below (k2_QcV v) args s 0 0 A) (F0 m pc ls [.long x]) :=
  W.lret hx hb hr (fun t ht _ => ⟨by rw [hv], ht⟩) (fun _ h => nomatch h) hdg hlocks
theorem pb_vret {A : Addr → Prop} (hx : p.tables.exec = Jvm.exec) (hb : c.code = cc) (hr : meth.sig.returnType = none) (hlocks : meth.locks = false) (hdg : decode cc pc = .ok (.return_, 1)) : W p l e R s m args below meth c s.heap [] 0 0 (MQ below (va_Sv (fun _ => True)) args s 0 0 A) (F0 m pc ls []) :=
  W.vret hx hb hr (fun t ht _ => ⟨rfl, trivial, ht⟩) (fun _ h => nomatch h) hdg hlocks
-- arrays, by natural places
theorem pb_iald (hx : p.tables.exec = Jvm.exec) (hb : c.code = cc) (hK : va_K D cl tys s) (hP : va_P D cl wd H) (q0 t0 : Nat) {a : Nat} {cA : ClassId} {N : Nat} {f : Nat → Int32} (ha : wd[q0]? = some (a, .inl (cA, N, .inl f))) (ht : tys[t0]? = some (cA, .int)) {i : Int32} (j : Nat) (hi : i = nI j) (hj : j < N ∧ N < 2 ^ 31) (hdg : decode cc pc = .ok (.iaload, 1))
    (kk : W p l e R s m args below meth c H locs cells slots Q (F0 m (pc + 1) ls (.int (f j) :: rest))) : W p l e R s m args below meth c H locs cells slots Q (F0 m pc ls (.int i :: .ref a :: rest)) := by
  subst hi
  exact va_iald hx hb hK hP q0 t0 ha ht (vp_in_nI hj.1 hj.2) hdg (by rw [nI_clamp (Nat.lt_trans hj.1 hj.2)]; exact kk)
theorem pb_lald (hx : p.tables.exec = Jvm.exec) (hb : c.code = cc) (hK : va_K D cl tys s) (hP : va_P D cl wd H) (q0 t0 : Nat) {a : Nat} {cA : ClassId} {N : Nat} {f : Nat → Int64} (ha : wd[q0]? = some (a, .inl (cA, N, .inr (.inl f)))) (ht : tys[t0]? = some (cA, .long)) {i : Int32} (j : Nat) (hi : i = nI j) (hj : j < N ∧ N < 2 ^ 31) (hdg : decode cc pc = .ok (.laload, 1))
    (kk : W p l e R s m args below meth c H locs cells slots Q (F0 m (pc + 1) ls (.long (f j) :: rest))) : W p l e R s m args below meth c H locs cells slots Q (F0 m pc ls (.int i :: .ref a :: rest)) := by
  subst hi
  exact va_lald hx hb hK hP q0 t0 ha ht (vp_in_nI hj.1 hj.2) hdg (by rw [nI_clamp (Nat.lt_trans hj.1 hj.2)]; exact kk)
variable {A : Nat → Prop} {H0 : Heap}
theorem pb_iast (hx : p.tables.exec = Jvm.exec) (hb : c.code = cc) (hK : va_K D cl tys s) (hP : va_P D cl wd H) (hD : va_D A wd) (hS : va_S A H0 H locs) (q0 t0 : Nat) {a : Nat} {cA : ClassId} {N : Nat} {f : Nat → Int32} (ha : wd[q0]? = some (a, .inl (cA, N, .inl f))) (ht : tys[t0]? = some (cA, .int)) {i z : Int32} (j : Nat) (hi : i = nI j) (hj : j < N ∧ N < 2 ^ 31) (hdg : decode cc pc = .ok (.iastore, 1))
    (kk : ∀ (H1 : Heap) (locs1 : List Loc), va_P D cl (wd.set q0 (a, .inl (cA, N, .inl (va_up f j z)))) H1 → va_D A (wd.set q0 (a, .inl (cA, N, .inl (va_up f j z)))) → va_S A H0 H1 locs1 → W p l e R s m args below meth c H1 locs1 cells slots Q (F0 m (pc + 1) ls rest)) : W p l e R s m args below meth c H locs cells slots Q (F0 m pc ls (.int z :: .int i :: .ref a :: rest)) := by
  subst hi
  refine va_iast hx hb hK hP hD hS q0 t0 ha ht (vp_in_nI hj.1 hj.2) hdg ?_
  rw [nI_clamp (Nat.lt_trans hj.1 hj.2)]
  exact kk
theorem pb_last (hx : p.tables.exec = Jvm.exec) (hb : c.code = cc) (hK : va_K D cl tys s) (hP : va_P D cl wd H) (hD : va_D A wd) (hS : va_S A H0 H locs) (q0 t0 : Nat) {a : Nat} {cA : ClassId} {N : Nat} {f : Nat → Int64} (ha : wd[q0]? = some (a, .inl (cA, N, .inr (.inl f)))) (ht : tys[t0]? = some (cA, .long)) {i : Int32} {z : Int64} (j : Nat) (hi : i = nI j) (hj : j < N ∧ N < 2 ^ 31) (hdg : decode cc pc = .ok (.lastore, 1))
    (kk : ∀ (H1 : Heap) (locs1 : List Loc), va_P D cl (wd.set q0 (a, .inl (cA, N, .inr (.inl (va_up f j z))))) H1 → va_D A (wd.set q0 (a, .inl (cA, N, .inr (.inl (va_up f j z))))) → va_S A H0 H1 locs1 → W p l e R s m args below meth c H1 locs1 cells slots Q (F0 m (pc + 1) ls rest)) : W p l e R s m args below meth c H locs cells slots Q (F0 m pc ls (.long z :: .int i :: .ref a :: rest)) := by
  subst hi
  refine va_last hx hb hK hP hD hS q0 t0 ha ht (vp_in_nI hj.1 hj.2) hdg ?_
  rw [nI_clamp (Nat.lt_trans hj.1 hj.2)]
  exact kk
end
end PB0
end
section
/-! rows on bits, shifts and unsigned numbers, to paste: each family out of a closed proof of our own, whole with what it rests on; each by itself clean at Lean in its own claim (generation 39, form 5). Take a family whole -/
/-! ===== Int32 by its bits: bt x i ===== -/
def bt (x : Int32) (i : Nat) : Bool := x.toBitVec.getLsbD i
theorem b_ext {x y : Int32} (h : ∀ i, i < 32 → bt x i = bt y i) : x = y := Int32.toBitVec_inj.mp (BitVec.eq_of_getLsbD_eq (fun i hi => h i hi))
theorem b_or (x y : Int32) (i : Nat) : bt (x ||| y) i = (bt x i || bt y i) := by unfold bt; rw [Int32.toBitVec_or, BitVec.getLsbD_or]
theorem b_and (x y : Int32) (i : Nat) : bt (x &&& y) i = (bt x i && bt y i) := by unfold bt; rw [Int32.toBitVec_and, BitVec.getLsbD_and]
theorem b_xor (x y : Int32) (i : Nat) : bt (x ^^^ y) i = (bt x i ^^ bt y i) := by unfold bt; rw [Int32.toBitVec_xor, BitVec.getLsbD_xor]
theorem b_big {x : Int32} {i : Nat} (h : 32 ≤ i) : bt x i = false := BitVec.getLsbD_of_ge _ _ h
theorem b_255 (i : Nat) : bt 255 i = decide (i < 8) := by
  rcases Nat.lt_or_ge i 32 with h | h
  · exact (by decide +kernel : ∀ i, i < 32 → bt 255 i = decide (i < 8)) i h
  · rw [b_big h, decide_eq_false (by omega)]
theorem b_65535 (i : Nat) : bt 65535 i = decide (i < 16) := by
  rcases Nat.lt_or_ge i 32 with h | h
  · exact (by decide +kernel : ∀ i, i < 32 → bt 65535 i = decide (i < 16)) i h
  · rw [b_big h, decide_eq_false (by omega)]
theorem b_m1 : ∀ i, i < 32 → bt (-1) i = true := by decide +kernel
theorem b_0 (i : Nat) : bt 0 i = false := BitVec.getLsbD_zero
theorem s_l : ∀ n, n < 32 → ((nI n &&& 31).toBitVec.smod 32).toNat = n := by decide +kernel
theorem s_u : ∀ n, n < 32 → (((nI n).toUInt32 &&& Int32.toUInt32 31).toBitVec % 32).toNat = n := by decide +kernel
theorem b_shl (n : Nat) (hn : n < 32) (x : Int32) {i : Nat} (hi : i < 32) : bt (x <<< (nI n &&& 31)) i = (decide (n ≤ i) && bt x (i - n)) := by
  unfold bt
  rw [Int32.toBitVec_shiftLeft]
  show (x.toBitVec <<< ((nI n &&& 31).toBitVec.smod 32).toNat).getLsbD i = _
  rw [s_l n hn, BitVec.getLsbD_shiftLeft]
  rcases Nat.lt_or_ge i n with h | h
  · simp [h, Nat.not_le.mpr h]
  · simp [hi, h, Nat.not_lt.mpr h]
theorem b_ushr (n : Nat) (hn : n < 32) (x : Int32) (i : Nat) : bt ((x.toUInt32 >>> ((nI n).toUInt32 &&& Int32.toUInt32 31)).toInt32) i = bt x (n + i) := by
  show (x.toUInt32 >>> ((nI n).toUInt32 &&& Int32.toUInt32 31)).toBitVec.getLsbD i = x.toUInt32.toBitVec.getLsbD (n + i)
  rw [UInt32.toBitVec_shiftRight]
  show (x.toUInt32.toBitVec >>> (((nI n).toUInt32 &&& Int32.toUInt32 31).toBitVec % 32).toNat).getLsbD i = _
  rw [s_u n hn, BitVec.getLsbD_ushiftRight]
theorem b_sshr (n : Nat) (hn : n < 32) (x : Int32) {i : Nat} (hi : i < 32) : bt (x >>> (nI n &&& 31)) i = if n + i < 32 then bt x (n + i) else bt x 31 := by
  unfold bt
  rw [Int32.toBitVec_shiftRight]
  show (x.toBitVec.sshiftRight ((nI n &&& 31).toBitVec.smod 32).toNat).getLsbD i = _
  rw [s_l n hn, BitVec.getLsbD_sshiftRight, BitVec.msb_eq_getLsbD_last]
  simp [hi]
theorem b_shl8 (x : Int32) {i : Nat} (hi : i < 32) : bt (x <<< ((8 : Int32) &&& 31)) i = (decide (8 ≤ i) && bt x (i - 8)) := b_shl 8 (by omega) x hi
theorem b_shl16 (x : Int32) {i : Nat} (hi : i < 32) : bt (x <<< ((16 : Int32) &&& 31)) i = (decide (16 ≤ i) && bt x (i - 16)) := b_shl 16 (by omega) x hi
theorem b_shl24 (x : Int32) {i : Nat} (hi : i < 32) : bt (x <<< ((24 : Int32) &&& 31)) i = (decide (24 ≤ i) && bt x (i - 24)) := b_shl 24 (by omega) x hi
theorem b_sshr8 (x : Int32) {i : Nat} (hi : i < 32) : bt (x >>> ((8 : Int32) &&& 31)) i = if 8 + i < 32 then bt x (8 + i) else bt x 31 := b_sshr 8 (by omega) x hi
/-! ===== nI under and, xor, >>>, one bit, 65535 ===== -/
theorem nx_and (a b : Nat) : nI a &&& nI b = nI (a &&& b) := by
  apply Int32.toBitVec_inj.1
  show BitVec.ofNat 32 a &&& BitVec.ofNat 32 b = BitVec.ofNat 32 (a &&& b)
  apply BitVec.eq_of_getLsbD_eq
  intro i hi
  simp [hi]
theorem nx_xor (a b : Nat) : nI a ^^^ nI b = nI (a ^^^ b) := by
  apply Int32.toBitVec_inj.1
  show BitVec.ofNat 32 a ^^^ BitVec.ofNat 32 b = BitVec.ofNat 32 (a ^^^ b)
  apply BitVec.eq_of_getLsbD_eq
  intro i hi
  simp [hi]
theorem nx_cnt : ∀ j : Fin 32, (UInt32.ofNat j.val &&& Int32.toUInt32 31).toNat % 32 = j.val := by decide +kernel
theorem nx_ush {k j : Nat} (hk : k < 65536) (hj : j < 32) : ((nI k).toUInt32 >>> ((nI j).toUInt32 &&& Int32.toUInt32 31)).toInt32 = nI (k >>> j) := by
  have hs : k >>> j ≤ k := by
    rw [Nat.shiftRight_eq_div_pow]
    exact Nat.div_le_self _ _
  have e2 : UInt32.ofNat k >>> (UInt32.ofNat j &&& Int32.toUInt32 31) = UInt32.ofNat (k >>> j) := by
    apply UInt32.toNat_inj.1
    have h1 : (UInt32.ofNat k).toNat = k := Nat.mod_eq_of_lt (by omega)
    have h2 : (UInt32.ofNat (k >>> j)).toNat = k >>> j := Nat.mod_eq_of_lt (by omega)
    rw [UInt32.toNat_shiftRight, nx_cnt ⟨j, hj⟩, h1, h2]
  show (UInt32.ofNat k >>> (UInt32.ofNat j &&& Int32.toUInt32 31)).toInt32 = _
  rw [e2]
  rfl
theorem nx_bit {k j : Nat} (hk : k < 65536) (hj : j < 16) : (((nI k).toUInt32 >>> ((nI j).toUInt32 &&& Int32.toUInt32 31)).toInt32 &&& 1) = 0 ↔ k.testBit j = false := by
  rw [nx_ush hk (by omega)]
  show nI (k >>> j) &&& nI 1 = 0 ↔ _
  rw [nx_and, Nat.and_one_is_mod, ← nI_0, nI_eq (by omega) (by omega), Nat.testBit_eq_decide_div_mod_eq, Nat.shiftRight_eq_div_pow, decide_eq_false_iff_not]
  generalize k / 2 ^ j = z
  omega
theorem nx_mod (k : Nat) : nI k &&& 65535 = nI (k % 65536) := by
  show nI k &&& nI 65535 = _
  rw [nx_and, show (65535 : Nat) = 2 ^ 16 - 1 from rfl, Nat.and_two_pow_sub_one_eq_mod]
theorem nx_m16 {k : Nat} (h : k < 65536) : nI k &&& 65535 = nI k := by rw [nx_mod, Nat.mod_eq_of_lt h]
theorem nx_mask (x : Int32) : ∃ k, k < 65536 ∧ x &&& 65535 = nI k := by
  have e : x = nI x.toBitVec.toNat := by
    apply Int32.toBitVec_inj.1
    show x.toBitVec = BitVec.ofNat 32 x.toBitVec.toNat
    simp
  refine ⟨x.toBitVec.toNat % 65536, Nat.mod_lt _ (by omega), ?_⟩
  rw [← nx_mod, ← e]
/-! ===== Int32 as a set of bits: test, set ===== -/
def nf_M (m : Int32) : Nat := 4294967296 - m.toBitVec.toNat
theorem nf_sh : ∀ l, l < 32 → ((1 : Int32) <<< (nI l &&& 31)).toBitVec = BitVec.twoPow 32 l := by decide +kernel
theorem nf_sl : ∀ l, l < 32 → (((nI l).toUInt32 &&& Int32.toUInt32 31).toBitVec % 32).toNat = l := by decide +kernel
theorem nf_tp : ∀ l, l < 32 → BitVec.twoPow 32 l ≠ 0#32 := by decide +kernel
theorem nf_bit (m : Int32) (l : Nat) (hl : l < 32) : ((m.toUInt32 >>> ((nI l).toUInt32 &&& Int32.toUInt32 31)).toInt32 &&& 1) = 0 ↔ (m &&& ((1 : Int32) <<< (nI l &&& 31))) = 0 := by
  have e : ((m.toUInt32 >>> ((nI l).toUInt32 &&& Int32.toUInt32 31)).toInt32).toBitVec = m.toBitVec >>> l := by
    show m.toBitVec >>> (((nI l).toUInt32 &&& Int32.toUInt32 31).toBitVec % 32) = m.toBitVec >>> l
    rw [BitVec.ushiftRight_eq', nf_sl l hl]
  rw [← Int32.toBitVec_inj, ← Int32.toBitVec_inj, Int32.toBitVec_and, Int32.toBitVec_and, nf_sh l hl, e, BitVec.and_twoPow]
  show (m.toBitVec >>> l &&& 1#32) = 0#32 ↔ _ = 0#32
  rw [BitVec.and_one_eq_setWidth_ofBool_getLsbD, BitVec.getLsbD_ushiftRight, Nat.add_zero]
  cases hb : m.toBitVec.getLsbD l
  · exact ⟨fun _ => by simp, fun _ => by decide⟩
  · exact ⟨fun z => absurd z (by decide), fun z => absurd ((if_pos rfl).symm.trans z) (nf_tp l hl)⟩
theorem nf_gr (m k : Int32) (h : m &&& k = 0) (hk : k ≠ 0) : nf_M (m ||| k) < nf_M m := by
  have hm := m.toBitVec.isLt
  have hm' := (m ||| k).toBitVec.isLt
  have h1 : m.toBitVec.toNat ≤ (m ||| k).toBitVec.toNat := by
    rw [Int32.toBitVec_or, BitVec.toNat_or]
    exact Nat.left_le_or
  have h2 : m.toBitVec.toNat ≠ (m ||| k).toBitVec.toNat := by
    intro e
    have e2 : m = m ||| k := Int32.toBitVec_inj.mp (BitVec.eq_of_toNat_eq e)
    apply hk
    apply Int32.toBitVec_inj.mp
    show k.toBitVec = 0#32
    apply BitVec.eq_of_getLsbD_eq
    intro i hi
    have a : m.toBitVec.getLsbD i = (m.toBitVec.getLsbD i || k.toBitVec.getLsbD i) := by rw [← BitVec.getLsbD_or, ← Int32.toBitVec_or, ← e2]
    have b : (m.toBitVec.getLsbD i && k.toBitVec.getLsbD i) = false := by
      rw [← BitVec.getLsbD_and, ← Int32.toBitVec_and, h]
      exact BitVec.getLsbD_zero
    rw [BitVec.getLsbD_zero]
    revert a b
    cases m.toBitVec.getLsbD i <;> cases k.toBitVec.getLsbD i <;> simp
  unfold nf_M
  omega
/-! ===== a byte read unsigned ===== -/
theorem bp_b (x : Int32) : x.toInt8.toInt32 &&& 255 = x &&& 255 := by
  apply Int32.toBitVec_inj.mp
  rw [Int32.toBitVec_and, Int32.toBitVec_and, Int8.toBitVec_toInt32, Int32.toBitVec_toInt8]
  apply BitVec.eq_of_getLsbD_eq
  intro i hi
  rw [BitVec.getLsbD_and, BitVec.getLsbD_and]
  have hm : ∀ i < 32, 8 ≤ i → (255 : Int32).toBitVec.getLsbD i = false := by decide
  rcases Nat.lt_or_ge i 8 with z | z
  · rw [BitVec.getLsbD_signExtend, BitVec.getLsbD_signExtend, if_pos z, if_pos hi]
    simp only [z, hi, decide_true, Bool.true_and]
  · rw [hm i hi z]; simp
/-! ===== the char cast and 65535 ===== -/
/-! ===== Int64 as a set of bits: test, set, clear ===== -/
theorem ts_nf {x : Bool} (h : ¬ x = false) : x = true := by cases x <;> first | rfl | exact absurd rfl h
theorem ts_nt {x : Bool} (h : ¬ x = true) : x = false := by cases x <;> first | rfl | exact absurd rfl h
theorem ts_bit {w : Int64} {s : UInt64} {j : Nat} (hj : j < 64) (hs : s.toNat = j) : ((w.toUInt64 >>> s).toInt64 &&& 1) = 0 ↔ w.toBitVec.getLsbD j = false := by
  have e : (w.toUInt64 >>> s).toInt64.toBitVec = w.toBitVec >>> j := by
    apply BitVec.eq_of_toNat_eq
    show (w.toUInt64 >>> s).toNat = _
    rw [UInt64.toNat_shiftRight, hs, Nat.mod_eq_of_lt hj, BitVec.toNat_ushiftRight]
    rfl
  rw [← Int64.toBitVec_inj, Int64.toBitVec_and, e]
  show w.toBitVec >>> j &&& 1#64 = 0#64 ↔ _
  constructor
  · intro h
    have t := congrArg (fun x => x.getLsbD 0) h
    simpa using t
  · intro h
    apply BitVec.eq_of_getLsbD_eq
    intro i hi
    cases i with
    | zero => simp [h]
    | succ i => simp
theorem ts_or {w m : Int64} {j : Nat} (hj : j < 64) (hm : m.toBitVec = BitVec.twoPow 64 j) : (w ||| m) = w ↔ w.toBitVec.getLsbD j = true := by
  rw [← Int64.toBitVec_inj, Int64.toBitVec_or, hm]
  constructor
  · intro h
    have t := congrArg (fun x => x.getLsbD j) h
    simp only [BitVec.getLsbD_or, BitVec.getLsbD_twoPow] at t
    simpa [hj] using t.symm
  · intro h
    apply BitVec.eq_of_getLsbD_eq
    intro i hi
    rw [BitVec.getLsbD_or, BitVec.getLsbD_twoPow]
    by_cases e : j = i
    · subst e; rw [h, Bool.true_or]
    · simp [e]
theorem ts_and {w m : Int64} {j : Nat} (hj : j < 64) (hm : m.toBitVec = BitVec.twoPow 64 j) : (w &&& (m ^^^ (-1))) = w ↔ w.toBitVec.getLsbD j = false := by
  have ha : (-1 : Int64).toBitVec = BitVec.allOnes 64 := by decide
  rw [← Int64.toBitVec_inj, Int64.toBitVec_and, Int64.toBitVec_xor, hm, ha]
  constructor
  · intro h
    have t := congrArg (fun x => x.getLsbD j) h
    simp only [BitVec.getLsbD_and, BitVec.getLsbD_xor, BitVec.getLsbD_twoPow, BitVec.getLsbD_allOnes] at t
    simpa [hj] using t.symm
  · intro h
    apply BitVec.eq_of_getLsbD_eq
    intro i hi
    rw [BitVec.getLsbD_and, BitVec.getLsbD_xor, BitVec.getLsbD_twoPow, BitVec.getLsbD_allOnes]
    by_cases e : j = i
    · subst e; rw [h, Bool.false_and]
    · simp [e, hi]
/-! ===== lN n to 2^64: shifts, and, or, masks, one bit ===== -/
theorem wb_tb (n : Nat) : (lN n).toBitVec = BitVec.ofNat 64 n := rfl
theorem wb_inj {a b : Int64} (h : a.toBitVec = b.toBitVec) : a = b := Int64.toBitVec_inj.mp h
theorem wb_tn {n : Nat} (h : n < 2 ^ 64) : (lN n).toBitVec.toNat = n := by rw [wb_tb, BitVec.toNat_ofNat, Nat.mod_eq_of_lt h]
theorem wb_of (x : Int64) : ∃ n, n < 2 ^ 64 ∧ x = lN n := ⟨x.toBitVec.toNat, x.toBitVec.isLt, wb_inj (by rw [wb_tb]; simp)⟩
theorem wb_of32 (x : Int32) : ∃ n, n < 2 ^ 32 ∧ x = nI n := ⟨x.toBitVec.toNat, x.toBitVec.isLt, Int32.toBitVec_inj.mp (by show _ = BitVec.ofNat 32 _; simp)⟩
theorem wb_c : ∀ k, k < 64 → ((nI k).toInt64 &&& 63) = lN k := by decide +kernel
theorem wb_cu : ∀ k, k < 64 → ((nI k).toInt64.toUInt64 &&& Int64.toUInt64 63) = UInt64.ofNat k := by decide +kernel
theorem wb_sm : ∀ k, k < 64 → (BitVec.ofNat 64 k).smod 64 = BitVec.ofNat 64 k := by decide +kernel
theorem wb_pw {a b : Nat} (h : a ≤ b) : 2 ^ b = 2 ^ a * 2 ^ (b - a) := by rw [← Nat.pow_add]; congr 1; omega
theorem wb_lt2 {a b : Nat} (h : a < b) : 2 ^ a < 2 ^ b := Nat.pow_lt_pow_right (by decide) h
theorem wb_mod (n : Nat) : lN n = lN (n % 2 ^ 64) := wb_inj (by rw [wb_tb, wb_tb]; apply BitVec.eq_of_toNat_eq; rw [BitVec.toNat_ofNat, BitVec.toNat_ofNat, Nat.mod_mod])
theorem wb_shr {n k : Nat} (hn : n < 2 ^ 64) (hk : k < 64) : ((lN n).toUInt64 >>> ((nI k).toInt64.toUInt64 &&& Int64.toUInt64 63)).toInt64 = lN (n / 2 ^ k) := by
  rw [wb_cu k hk]
  apply wb_inj
  apply BitVec.eq_of_toNat_eq
  show ((lN n).toUInt64 >>> UInt64.ofNat k).toNat = (BitVec.ofNat 64 _).toNat
  have h1 : (UInt64.ofNat k).toNat = k := by
    show (BitVec.ofNat 64 k).toNat = k
    rw [BitVec.toNat_ofNat, Nat.mod_eq_of_lt (by omega)]
  have h2 : (lN n).toUInt64.toNat = n := wb_tn hn
  rw [UInt64.toNat_shiftRight, h1, h2, Nat.mod_eq_of_lt hk, Nat.shiftRight_eq_div_pow, BitVec.toNat_ofNat, Nat.mod_eq_of_lt (Nat.lt_of_le_of_lt (Nat.div_le_self _ _) hn)]
theorem wb_shl (n : Nat) {k : Nat} (hk : k < 64) : lN n <<< ((nI k).toInt64 &&& 63) = lN (n * 2 ^ k) := by
  rw [wb_c k hk]
  apply wb_inj
  rw [Int64.toBitVec_shiftLeft, wb_tb, wb_tb, wb_tb, wb_sm k hk]
  apply BitVec.eq_of_toNat_eq
  rw [BitVec.shiftLeft_eq', BitVec.toNat_shiftLeft, BitVec.toNat_ofNat, BitVec.toNat_ofNat, BitVec.toNat_ofNat, Nat.mod_eq_of_lt (show k < 2 ^ 64 by omega), Nat.shiftLeft_eq, Nat.mul_mod, Nat.mod_mod, ← Nat.mul_mod]
theorem wb_and {a b : Nat} (ha : a < 2 ^ 64) (hb : b < 2 ^ 64) : lN a &&& lN b = lN (a &&& b) := by
  apply wb_inj
  rw [Int64.toBitVec_and, wb_tb, wb_tb, wb_tb]
  apply BitVec.eq_of_toNat_eq
  rw [BitVec.toNat_and, BitVec.toNat_ofNat, BitVec.toNat_ofNat, BitVec.toNat_ofNat, Nat.mod_eq_of_lt ha, Nat.mod_eq_of_lt hb, Nat.mod_eq_of_lt (Nat.and_lt_two_pow _ hb)]
theorem wb_or {a b : Nat} (ha : a < 2 ^ 64) (hb : b < 2 ^ 64) : lN a ||| lN b = lN (a ||| b) := by
  apply wb_inj
  rw [Int64.toBitVec_or, wb_tb, wb_tb, wb_tb]
  apply BitVec.eq_of_toNat_eq
  rw [BitVec.toNat_or, BitVec.toNat_ofNat, BitVec.toNat_ofNat, BitVec.toNat_ofNat, Nat.mod_eq_of_lt ha, Nat.mod_eq_of_lt hb, Nat.mod_eq_of_lt (Nat.or_lt_two_pow ha hb)]
theorem wb_mask {n k : Nat} (hn : n < 2 ^ 64) (hk : k < 64) : lN n &&& lN (2 ^ k - 1) = lN (n % 2 ^ k) := by
  rw [wb_and hn (by have := wb_lt2 hk; omega), Nat.and_two_pow_sub_one_eq_mod]
theorem wb_a1 {n : Nat} (hn : n < 2 ^ 64) : lN n &&& 1 = lN (n % 2) := wb_mask (k := 1) hn (by decide)
theorem wb_bit {n k : Nat} (hn : n < 2 ^ 64) (hk : k < 64) : ((lN n).toUInt64 >>> ((nI k).toInt64.toUInt64 &&& Int64.toUInt64 63)).toInt64 &&& 1 = lN (n / 2 ^ k % 2) := by
  rw [wb_shr hn hk, wb_a1 (Nat.lt_of_le_of_lt (Nat.div_le_self _ _) hn)]
theorem wb_xor {q k : Nat} (hk : k < 63) (h : 2 ^ k ≤ q) (h2 : q < 2 ^ (k + 1)) : lN q ^^^ lN (2 ^ k) = lN (q - 2 ^ k) := by
  obtain ⟨r, rfl⟩ : ∃ r, q = 2 ^ k + r := ⟨q - 2 ^ k, by omega⟩
  have hr : r < 2 ^ k := by rw [Nat.pow_succ] at h2; omega
  have hx : (2 ^ k + r) ^^^ 2 ^ k = r := by
    apply Nat.eq_of_testBit_eq
    intro i
    rw [Nat.testBit_xor, Nat.testBit_two_pow]
    rcases Nat.lt_trichotomy i k with h | h | h
    · rw [Nat.testBit_two_pow_add_gt h]
      simp [show ¬ k = i by omega]
    · subst h
      rw [Nat.testBit_two_pow_add_eq]
      simp
    · have a1 : 2 ^ (k + 1) ≤ 2 ^ i := Nat.pow_le_pow_right (by decide) h
      rw [Nat.testBit_lt_two_pow (show 2 ^ k + r < 2 ^ i by omega), Nat.testBit_lt_two_pow (show r < 2 ^ i by omega)]
      simp [show ¬ k = i by omega]
  have b1 := wb_lt2 (show k + 1 < 64 by omega)
  have b2 := wb_lt2 (show k < 64 by omega)
  apply wb_inj
  rw [Int64.toBitVec_xor, wb_tb, wb_tb, wb_tb]
  apply BitVec.eq_of_toNat_eq
  rw [BitVec.toNat_xor, BitVec.toNat_ofNat, BitVec.toNat_ofNat, BitVec.toNat_ofNat, Nat.mod_eq_of_lt (by omega : 2 ^ k + r < 2 ^ 64), Nat.mod_eq_of_lt b2, hx, Nat.add_sub_cancel_left, Nat.mod_eq_of_lt (by omega)]
/-! ===== lN: masks, 'or' of parts that don't overlap is a sum ===== -/
theorem u_tn {n : Nat} (h : n < 2 ^ 64) : (UInt64.ofNat n).toNat = n := Nat.mod_eq_of_lt h
theorem g_and {a b c : Nat} (ha : a < 2 ^ 64) (hb : b < 2 ^ 64) (hc : a &&& b = c) : lN a &&& lN b = lN c := by
  subst hc
  have h : UInt64.ofNat a &&& UInt64.ofNat b = UInt64.ofNat (a &&& b) := UInt64.toNat_inj.mp (by rw [UInt64.toNat_and, u_tn ha, u_tn hb, u_tn (Nat.and_lt_two_pow a hb)])
  have h2 := congrArg UInt64.toInt64 h
  exact h2
theorem g_and1 {a : Nat} (ha : a < 2 ^ 64) : lN a &&& 1 = lN (a % 2) := g_and (b := 1) ha (by decide) (Nat.and_two_pow_sub_one_eq_mod a 1)
theorem g_mask {a s p : Nat} (hp : 2 ^ s = p) (hs : s < 64) (ha : a < 2 ^ 64) : lN a &&& lN (p - 1) = lN (a % p) := by
  subst hp
  have := Nat.pow_lt_pow_right (show 1 < 2 by decide) hs
  exact g_and ha (by omega) (Nat.and_two_pow_sub_one_eq_mod a s)
theorem g_or {k p a b : Nat} (hp : 2 ^ k = p) (ha : a < p) (h : b * p + a < 2 ^ 64) : lN (b * p) ||| lN a = lN (b * p + a) := by
  subst hp
  have h1 : b * 2 ^ k ||| a = b * 2 ^ k + a := by rw [← Nat.shiftLeft_eq, Nat.shiftLeft_add_eq_or_of_lt ha]
  have h3 : UInt64.ofNat (b * 2 ^ k) ||| UInt64.ofNat a = UInt64.ofNat (b * 2 ^ k + a) := UInt64.toNat_inj.mp (by rw [UInt64.toNat_or, u_tn (by omega), u_tn (by omega), u_tn h, h1])
  have h2 := congrArg UInt64.toInt64 h3
  exact h2
theorem g_or' {k p a b : Nat} (hp : 2 ^ k = p) (ha : a < p) (h : a + b * p < 2 ^ 64) : lN a ||| lN (b * p) = lN (a + b * p) := by
  rw [Int64.or_comm, g_or hp ha (by omega), Nat.add_comm]
theorem g_ushr {a k p : Nat} {y : UInt64} (hy : y = UInt64.ofNat k) (hk : k < 64) (hp : 2 ^ k = p) (ha : a < 2 ^ 64) : ((lN a).toUInt64 >>> y).toInt64 = lN (a / p) := by
  subst hy hp
  have h : UInt64.ofNat a >>> UInt64.ofNat k = UInt64.ofNat (a / 2 ^ k) := UInt64.toNat_inj.mp (by rw [UInt64.toNat_shiftRight, u_tn ha, u_tn (by omega), u_tn (Nat.lt_of_le_of_lt (Nat.div_le_self _ _) ha), Nat.mod_eq_of_lt hk, Nat.shiftRight_eq_div_pow])
  have h2 := congrArg UInt64.toInt64 h
  exact h2
theorem g_shl {a k p : Nat} {y : Int64} (hy : y.toBitVec.smod 64 = BitVec.ofNat 64 k) (hk : k < 64) (hp : 2 ^ k = p) (ha : a < 2 ^ 64) : lN a <<< y = lN (a * p) := by
  subst hp
  apply Int64.toBitVec_inj.mp
  rw [Int64.toBitVec_shiftLeft, hy]
  apply BitVec.eq_of_toNat_eq
  have hb : (lN a).toBitVec.toNat = a := Nat.mod_eq_of_lt ha
  have hk' : (BitVec.ofNat 64 k).toNat = k := Nat.mod_eq_of_lt (by omega)
  have h : ((lN a).toBitVec <<< BitVec.ofNat 64 k).toNat = (a * 2 ^ k) % 2 ^ 64 := by simp only [BitVec.shiftLeft_eq', BitVec.toNat_shiftLeft, hb, hk', Nat.shiftLeft_eq]
  exact h
/-! ===== lN to 2^62 under >> and >>> ===== -/
theorem pf_lI {a : Nat} (h : a < 2 ^ 63) : (lN a).toInt = (a : Int) := lg_ofNat_toInt h
theorem pf_shr {a d : Nat} {D : Int64} (hD : (D.toBitVec.smod 64).toNat = d) (h : a < 2 ^ 62) : lN a >>> D = lN (a / 2 ^ d) := by
  have hd : a / 2 ^ d ≤ a := Nat.div_le_self _ _
  apply Int64.toInt_inj.mp
  have e : (lN a >>> D).toInt = (lN a).toInt >>> d := by
    rw [← hD]
    exact BitVec.toInt_sshiftRight ..
  rw [e, Int.shiftRight_eq_div_pow, pf_lI (by omega), pf_lI (by omega)]
  rfl
theorem pf_ushr {a d : Nat} {D : UInt64} (hD : D.toNat % 64 = d) (h : a < 2 ^ 62) : ((lN a).toUInt64 >>> D).toInt64 = lN (a / 2 ^ d) := by
  have hd : a / 2 ^ d ≤ a := Nat.div_le_self _ _
  have e : (lN a).toUInt64 >>> D = UInt64.ofNat (a / 2 ^ d) := UInt64.toNat_inj.mp (by
    rw [UInt64.toNat_shiftRight, hD, Nat.shiftRight_eq_div_pow, UInt64.toNat_ofNat']
    show (UInt64.ofNat a).toNat / 2 ^ d = _
    rw [UInt64.toNat_ofNat', Nat.mod_eq_of_lt (by omega), Nat.mod_eq_of_lt (by omega)])
  rw [e]
  rfl
theorem pf_andw (x : Int64) : ∃ m, m < 2 ^ 32 ∧ x &&& 4294967295 = lN m := ⟨x.toBitVec.toNat % 2 ^ 32, Nat.mod_lt _ (by decide), Int64.toBitVec_inj.mp (BitVec.eq_of_toNat_eq (by
  show (x.toBitVec &&& 4294967295#64).toNat = (BitVec.ofNat 64 (x.toBitVec.toNat % 2 ^ 32)).toNat
  rw [BitVec.toNat_and, show (4294967295#64).toNat = 2 ^ 32 - 1 from by decide, Nat.and_two_pow_sub_one_eq_mod, BitVec.toNat_ofNat]
  omega))⟩
/-! ===== Int64 as an unsigned number: uN x ===== -/
def uN (x : Int64) : Nat := x.toUInt64.toNat
theorem uN_lt (x : Int64) : uN x < 18446744073709551616 := x.toUInt64.toNat_lt
theorem uN_inj {x y : Int64} (h : uN x = uN y) : x = y := congrArg UInt64.toInt64 (UInt64.toNat_inj.mp h)
theorem uN_add (x y : Int64) : uN (x + y) = (uN x + uN y) % 18446744073709551616 := by
  show (x.toUInt64 + y.toUInt64).toNat = _
  exact UInt64.toNat_add _ _
theorem uN_mul (x y : Int64) : uN (x * y) = (uN x * uN y) % 18446744073709551616 := by
  show (x.toUInt64 * y.toUInt64).toNat = _
  exact UInt64.toNat_mul _ _
theorem uN_shl (x : Int64) : uN (x <<< ((1 : Int32).toInt64 &&& 63)) = (2 * uN x) % 18446744073709551616 := by
  have h : (((1 : Int32).toInt64 &&& 63).toBitVec.smod 64).toNat = 1 := by decide
  show (x.toBitVec <<< (((1 : Int32).toInt64 &&& 63).toBitVec.smod 64).toNat).toNat = _
  rw [h, BitVec.toNat_shiftLeft, Nat.shiftLeft_eq, Nat.mul_comm]
  rfl
theorem uN_shr (x : Int64) (s : UInt64) : uN (x.toUInt64 >>> s).toInt64 = uN x / 2 ^ (s.toNat % 64) := by
  show (x.toUInt64 >>> s).toNat = _
  rw [UInt64.toNat_shiftRight, Nat.shiftRight_eq_div_pow]
  rfl
theorem uN_s32 (x : Int64) : uN (x.toUInt64 >>> ((32 : Int32).toInt64.toUInt64 &&& Int64.toUInt64 63)).toInt64 = uN x / 4294967296 := by
  have h : ((32 : Int32).toInt64.toUInt64 &&& Int64.toUInt64 63).toNat % 64 = 32 := by decide
  rw [uN_shr, h]
theorem uN_s63 (x : Int64) : uN (x.toUInt64 >>> ((63 : Int32).toInt64.toUInt64 &&& Int64.toUInt64 63)).toInt64 = uN x / 9223372036854775808 := by
  have h : ((63 : Int32).toInt64.toUInt64 &&& Int64.toUInt64 63).toNat % 64 = 63 := by decide
  rw [uN_shr, h]
theorem uN_lo (x : Int64) : uN (x &&& 4294967295) = uN x % 4294967296 := by
  show (x.toUInt64 &&& Int64.toUInt64 4294967295).toNat = _
  rw [UInt64.toNat_and]
  exact Nat.and_two_pow_sub_one_eq_mod _ 32
theorem uN_bit (x : Int64) : (x &&& 1) = 0 ↔ uN x % 2 = 0 := by
  have h : uN (x &&& 1) = uN x % 2 := by
    show (x.toUInt64 &&& Int64.toUInt64 1).toNat = _
    rw [UInt64.toNat_and]
    exact Nat.and_two_pow_sub_one_eq_mod _ 1
  rw [← h]
  exact ⟨fun z => by rw [z]; rfl, fun z => uN_inj (z.trans rfl)⟩
theorem uN_or {x y : Int64} (hy : uN y < 2) : uN ((x <<< ((1 : Int32).toInt64 &&& 63)) ||| y) = (2 * uN x) % 18446744073709551616 + uN y := by
  have h1 : uN ((x <<< ((1 : Int32).toInt64 &&& 63)) ||| y) = uN (x <<< ((1 : Int32).toInt64 &&& 63)) ||| uN y := UInt64.toNat_or _ _
  have h2 : (2 * uN x) % 18446744073709551616 = 2 ^ 1 * (uN x % 9223372036854775808) := by omega
  rw [h1, uN_shl, h2]
  exact (Nat.two_pow_add_eq_or_of_lt (i := 1) hy _).symm
theorem nat_xor {a : Nat} (h : a < 18446744073709551616) : a ^^^ 2 ^ 63 = (a + 9223372036854775808) % 18446744073709551616 := by
  have h1 : (a ^^^ 2 ^ 63) % 2 ^ 63 = a % 2 ^ 63 := by rw [Nat.xor_mod_two_pow, Nat.mod_self, Nat.xor_zero]
  have h2 : (a ^^^ 2 ^ 63) / 2 ^ 63 = (a / 2 ^ 63) ^^^ 1 := by rw [Nat.xor_div_two_pow, Nat.div_self (Nat.two_pow_pos 63)]
  have h3 : a / 2 ^ 63 = 0 ∨ a / 2 ^ 63 = 1 := by omega
  generalize a ^^^ 2 ^ 63 = t at h1 h2
  rcases h3 with h3 | h3
  · rw [h3] at h2
    have h2 : t / 2 ^ 63 = 1 := h2
    omega
  · rw [h3] at h2
    have h2 : t / 2 ^ 63 = 0 := h2
    omega
theorem uN_xor (x : Int64) : uN (x ^^^ (-9223372036854775808)) = (uN x + 9223372036854775808) % 18446744073709551616 := by
  rw [← nat_xor (uN_lt x)]
  exact UInt64.toNat_xor _ _
theorem uN_int (x : Int64) : x.toInt = if 2 * uN x < 18446744073709551616 then (uN x : Int) else (uN x : Int) - 18446744073709551616 := BitVec.toInt_eq_toNat_cond _
theorem uN_le (x y : Int64) : (x ^^^ (-9223372036854775808)) ≤ (y ^^^ (-9223372036854775808)) ↔ uN x ≤ uN y := by
  have hx := uN_lt x
  have hy := uN_lt y
  rw [Int64.le_iff_toInt_le, uN_int, uN_int, uN_xor, uN_xor]
  omega
theorem uN_sk (x : Int64) {k : Nat} (hk : k < 64) : uN (x.toUInt64 >>> ((nI k).toInt64.toUInt64 &&& Int64.toUInt64 63)).toInt64 = uN x / 2 ^ k := by
  have h : ((nI k).toInt64.toUInt64 &&& Int64.toUInt64 63).toNat % 64 = k := by
    rw [nI_l (by omega), UInt64.toNat_and]
    have e : (lN k).toUInt64.toNat = k % 2 ^ 64 := rfl
    have e2 : (Int64.toUInt64 63).toNat = 2 ^ 6 - 1 := by decide
    rw [e, e2, Nat.and_two_pow_sub_one_eq_mod]
    omega
  rw [uN_shr, h]
/-! ===== unsigned comparison by xor with the least ===== -/
theorem lN_bv (n : Nat) : (lN n).toBitVec = BitVec.ofNat 64 n := rfl
theorem lN_nat {n : Nat} (h : n < 2 ^ 64) : (lN n).toBitVec.toNat = n := by rw [lN_bv, BitVec.toNat_ofNat]; exact Nat.mod_eq_of_lt h
theorem lN_xor (a b : Nat) : lN a ^^^ lN b = lN (a ^^^ b) := by
  apply Int64.toBitVec_inj.mp; rw [Int64.toBitVec_xor, lN_bv, lN_bv, lN_bv]; apply BitVec.eq_of_getLsbD_eq; intro i hi; simp [BitVec.getLsbD_ofNat, Nat.testBit_xor, hi]
theorem lN_ti {m : Nat} (h : m < 2 ^ 64) : (lN m).toInt = if m < 2 ^ 63 then (m : Int) else (m : Int) - 2 ^ 64 := by
  have c := BitVec.toInt_eq_toNat_cond (lN m).toBitVec
  rw [lN_nat h] at c
  show (lN m).toBitVec.toInt = _
  rw [c]
  split <;> split <;> omega
theorem xor63 {x : Nat} (h : x < 2 ^ 63) : x ^^^ 2 ^ 63 = 2 ^ 63 + x := by
  apply Nat.eq_of_testBit_eq
  intro i
  rw [Nat.testBit_xor, Nat.testBit_two_pow]
  rcases Nat.lt_trichotomy i 63 with z | z | z
  · rw [Nat.testBit_two_pow_add_gt z, decide_eq_false (by omega)]; simp
  · subst z; rw [Nat.testBit_two_pow_add_eq]; simp
  · have hp : 2 ^ 64 ≤ 2 ^ i := Nat.pow_le_pow_right (by decide) z
    rw [Nat.testBit_lt_two_pow (show x < 2 ^ i by omega), Nat.testBit_lt_two_pow (show 2 ^ 63 + x < 2 ^ i by omega), decide_eq_false (by omega)]; rfl
theorem xorS {a : Nat} (h : a < 2 ^ 64) : (lN a ^^^ (-9223372036854775808)).toInt = (a : Int) - 2 ^ 63 := by
  rw [show (-9223372036854775808 : Int64) = lN (2 ^ 63) from by decide +kernel, lN_xor]
  rcases Nat.lt_or_ge a (2 ^ 63) with z | z
  · rw [xor63 z, lN_ti (by omega), if_neg (by omega)]; omega
  · obtain ⟨x, rfl⟩ : ∃ x, a = 2 ^ 63 + x := ⟨a - 2 ^ 63, by omega⟩
    rw [← xor63 (by omega), Nat.xor_assoc, Nat.xor_self, Nat.xor_zero, lN_ti (by omega), if_pos (by omega), xor63 (by omega)]; omega
theorem ultL {a b : Nat} (ha : a < 2 ^ 64) (hb : b < 2 ^ 64) : ((lN b ^^^ (-9223372036854775808)) ≤ (lN a ^^^ (-9223372036854775808))) ↔ b ≤ a := by
  rw [Int64.le_iff_toInt_le, xorS ha, xorS hb]; omega
/-! ===== Int64 masks of n low bits ===== -/
theorem cr_bits (W U M : BitVec 64) : ((W &&& U) &&& (U &&& (M ^^^ BitVec.allOnes 64))) = 0#64 ↔ (W &&& U) &&& M = W &&& U := by
  constructor
  · intro h
    apply BitVec.eq_of_getLsbD_eq
    intro i hi
    have e := congrArg (fun x => BitVec.getLsbD x i) h
    simp only [BitVec.getLsbD_and, BitVec.getLsbD_xor, BitVec.getLsbD_allOnes, BitVec.getLsbD_zero, hi, decide_true] at e ⊢
    revert e
    cases W.getLsbD i <;> cases U.getLsbD i <;> cases M.getLsbD i <;> decide
  · intro h
    apply BitVec.eq_of_getLsbD_eq
    intro i hi
    have e := congrArg (fun x => BitVec.getLsbD x i) h
    simp only [BitVec.getLsbD_and, BitVec.getLsbD_xor, BitVec.getLsbD_allOnes, BitVec.getLsbD_zero, hi, decide_true] at e ⊢
    revert e
    cases W.getLsbD i <;> cases U.getLsbD i <;> cases M.getLsbD i <;> decide
theorem cr_mask (w U m : Int64) (n : Nat) (hm : m.toBitVec.toNat = 2 ^ n - 1) : ((w &&& U) &&& (U &&& (m ^^^ (-1)))) = 0 ↔ (w &&& U).toBitVec.toNat < 2 ^ n := by
  have e0 : (-1 : Int64).toBitVec = BitVec.allOnes 64 := by decide
  have z0 : (0 : Int64).toBitVec = 0#64 := by decide
  rw [← Int64.toBitVec_inj, z0, Int64.toBitVec_and, Int64.toBitVec_and, Int64.toBitVec_and, Int64.toBitVec_xor, e0, cr_bits]
  generalize w.toBitVec &&& U.toBitVec = T
  rw [← BitVec.toNat_inj, BitVec.toNat_and, hm, Nat.and_two_pow_sub_one_eq_mod]
  constructor
  · intro h
    have t := Nat.mod_lt T.toNat (Nat.two_pow_pos n)
    rw [h] at t
    exact t
  · exact Nat.mod_eq_of_lt
theorem cr_shr (t : Int64) (x : UInt64) (n : Nat) (hx : x.toNat % 64 = n) : (t.toUInt64 >>> x).toInt64 = 0 ↔ t.toBitVec.toNat < 2 ^ n := by
  rw [← Int64.toBitVec_inj, ← BitVec.toNat_inj]
  show (t.toUInt64 >>> x).toNat = 0 ↔ t.toUInt64.toNat < 2 ^ n
  rw [UInt64.toNat_shiftRight, hx, Nat.shiftRight_eq_div_pow]
  constructor
  · intro h
    have d : t.toUInt64.toNat / 2 ^ n < 1 := by
      rw [h]
      decide
    have e := (Nat.div_lt_iff_lt_mul (Nat.two_pow_pos n)).mp d
    rw [Nat.one_mul] at e
    exact e
  · exact Nat.div_eq_of_lt
theorem cr_amt (s : Int64) : ∃ n, n < 64 ∧ s &&& 63 = lN n ∧ (s.toUInt64 &&& Int64.toUInt64 63).toNat % 64 = n := by
  have e : (s.toUInt64 &&& Int64.toUInt64 63).toNat = s.toUInt64.toNat % 2 ^ 6 := by
    rw [UInt64.toNat_and, show (Int64.toUInt64 63).toNat = 2 ^ 6 - 1 from by decide, Nat.and_two_pow_sub_one_eq_mod]
  refine ⟨s.toUInt64.toNat % 2 ^ 6, by omega, ?_, by omega⟩
  rw [← Int64.toBitVec_inj, ← BitVec.toNat_inj]
  show (s.toUInt64 &&& Int64.toUInt64 63).toNat = (BitVec.ofNat 64 (s.toUInt64.toNat % 2 ^ 6)).toNat
  rw [e, BitVec.toNat_ofNat]
  omega
end
section
/-! plain facts to paste, each family by itself; over the kit's nI, lN and upd -/
/-! ===== drawers: more things than places ===== -/
theorem fb_holes : ∀ (m n : Nat) (f : Nat → Nat), (∀ i, i < n → f i < m) → (∀ i j, i < j → j < n → f i ≠ f j) → n ≤ m := by
  intro m
  induction m with
  | zero =>
    intro n f h1 _
    rcases Nat.eq_zero_or_pos n with h | h
    · omega
    · exact absurd (h1 0 h) (Nat.not_lt_zero _)
  | succ m ih =>
    intro n f h1 h2
    by_cases hx : ∃ i, i < n ∧ f i = m
    · obtain ⟨a, ha, hfa⟩ := hx
      have hg := ih (n - 1) (fun i => if i < a then f i else f (i + 1)) (by
        intro i hi
        by_cases q : i < a
        · simp only [if_pos q]
          have b1 := h1 i (by omega)
          have b2 := h2 i a q ha
          omega
        · simp only [if_neg q]
          have b1 := h1 (i + 1) (by omega)
          have b2 := h2 a (i + 1) (by omega) (by omega)
          omega) (by
        intro i j hij hj
        by_cases q : i < a
        · by_cases r : j < a
          · simp only [if_pos q, if_pos r]
            exact h2 i j hij (by omega)
          · simp only [if_pos q, if_neg r]
            exact h2 i (j + 1) (by omega) (by omega)
        · have r : ¬ j < a := by omega
          simp only [if_neg q, if_neg r]
          exact h2 (i + 1) (j + 1) (by omega) (by omega))
      omega
    · have hg := ih n f (fun i hi => by
        have b1 := h1 i hi
        have b2 : f i ≠ m := fun e => hx ⟨i, hi, e⟩
        omega) h2
      omega
/-- two of them in one place -/
theorem fb_twice {m n : Nat} {f : Nat → Nat} (h : ∀ i, i < n → f i < m) (hm : m < n) : ∃ i j, i < j ∧ j < n ∧ f i = f j := by
  refine Classical.byContradiction fun hx => ?_
  have := fb_holes m n f h (fun i j hij hj e => hx ⟨i, j, hij, hj, e⟩)
  omega
/-- as many as places, none twice: each place is taken -/
theorem fb_onto {n : Nat} {f : Nat → Nat} (h : ∀ i, i < n → f i < n) (h2 : ∀ i j, i < j → j < n → f i ≠ f j) {y : Nat} (hy : y < n) : ∃ i, i < n ∧ f i = y := by
  refine Classical.byContradiction fun hx => ?_
  have hne : ∀ i, i < n → f i ≠ y := fun i hi e => hx ⟨i, hi, e⟩
  have := fb_holes (n - 1) n (fun i => if f i < y then f i else f i - 1) (by
    intro i hi
    have b1 := h i hi
    have b2 := hne i hi
    by_cases q : f i < y
    · simp only [if_pos q]; omega
    · simp only [if_neg q]; omega) (by
    intro i j hij hj
    have b1 := hne i (by omega)
    have b2 := hne j hj
    have b3 := h2 i j hij hj
    by_cases q : f i < y
    · by_cases r : f j < y
      · simp only [if_pos q, if_pos r]; exact b3
      · simp only [if_pos q, if_neg r]; omega
    · by_cases r : f j < y
      · simp only [if_neg q, if_pos r]; omega
      · simp only [if_neg q, if_neg r]; omega)
  omega
/-! ===== how many places have a property ===== -/
def fb_ct (p : Nat → Bool) : Nat → Nat
  | 0 => 0
  | n + 1 => fb_ct p n + (if p n then 1 else 0)
theorem fb_ct_succ (p : Nat → Bool) (n : Nat) : fb_ct p (n + 1) = fb_ct p n + (if p n then 1 else 0) := rfl
theorem fb_ct_le (p : Nat → Bool) : ∀ n, fb_ct p n ≤ n
  | 0 => Nat.le_refl _
  | n + 1 => by
    have h := fb_ct_le p n
    rw [fb_ct_succ]
    split <;> omega
theorem fb_ct_step (p : Nat → Bool) (m : Nat) : ∀ n, fb_ct p m ≤ fb_ct p (m + n)
  | 0 => Nat.le_refl _
  | n + 1 => by
    have h := fb_ct_step p m n
    show fb_ct p m ≤ fb_ct p (m + n + 1)
    rw [fb_ct_succ]
    omega
theorem fb_ct_mono (p : Nat → Bool) {m n : Nat} (h : m ≤ n) : fb_ct p m ≤ fb_ct p n := by
  have := fb_ct_step p m (n - m)
  rwa [Nat.add_sub_cancel' h] at this
theorem fb_ct_cong {p q : Nat → Bool} : ∀ {n : Nat}, (∀ k, k < n → p k = q k) → fb_ct p n = fb_ct q n
  | 0, _ => rfl
  | n + 1, h => by
    rw [fb_ct_succ, fb_ct_succ, fb_ct_cong (fun k hk => h k (by omega)), h n (by omega)]
/-- one place changed -/
theorem fb_ct_out (p : Nat → Bool) (b : Bool) {i n : Nat} (h : n ≤ i) : fb_ct (fun k => if k = i then b else p k) n = fb_ct p n :=
  fb_ct_cong fun k hk => if_neg (by omega)
theorem fb_ct_upd (p : Nat → Bool) (b : Bool) {i : Nat} : ∀ {n : Nat}, i < n → fb_ct (fun k => if k = i then b else p k) n + (if p i then 1 else 0) = fb_ct p n + (if b then 1 else 0)
  | 0, h => absurd h (Nat.not_lt_zero i)
  | n + 1, h => by
    rw [fb_ct_succ, fb_ct_succ]
    rcases Nat.lt_or_ge i n with q | q
    · have := fb_ct_upd p b q
      have e : (if n = i then b else p n) = p n := if_neg (by omega)
      rw [e]
      omega
    · have e : i = n := by omega
      subst e
      rw [fb_ct_out p b (Nat.le_refl _)]
      simp only [if_true]
      omega
theorem fb_ct_sub {p q : Nat → Bool} : ∀ {n : Nat}, (∀ k, k < n → p k = true → q k = true) → fb_ct p n ≤ fb_ct q n
  | 0, _ => Nat.le_refl _
  | n + 1, h => by
    have h1 := fb_ct_sub (n := n) (p := p) (q := q) (fun k hk => h k (by omega))
    have h2 := h n (by omega)
    rw [fb_ct_succ, fb_ct_succ]
    cases hp : p n <;> cases hq : q n <;> simp_all <;> omega
theorem fb_ct_or {p q : Nat → Bool} : ∀ {n : Nat}, (∀ k, k < n → ¬ (p k = true ∧ q k = true)) → fb_ct (fun k => p k || q k) n = fb_ct p n + fb_ct q n
  | 0, _ => rfl
  | n + 1, h => by
    have h1 := fb_ct_or (n := n) (p := p) (q := q) (fun k hk => h k (by omega))
    have h2 := h n (by omega)
    rw [fb_ct_succ, fb_ct_succ, fb_ct_succ, h1]
    cases hp : p n <;> cases hq : q n <;> simp_all <;> omega
theorem fb_ct_not (p : Nat → Bool) : ∀ n, fb_ct p n + fb_ct (fun k => !p k) n = n
  | 0 => rfl
  | n + 1 => by
    have h := fb_ct_not p n
    rw [fb_ct_succ, fb_ct_succ]
    cases p n <;> simp <;> omega
theorem fb_ct_split (p : Nat → Bool) (m : Nat) : ∀ n, fb_ct p (m + n) = fb_ct p m + fb_ct (fun k => p (m + k)) n
  | 0 => rfl
  | n + 1 => by
    have h := fb_ct_split p m n
    show fb_ct p (m + n + 1) = _
    rw [fb_ct_succ, fb_ct_succ, h, Nat.add_assoc]
theorem fb_ct_zero {p : Nat → Bool} : ∀ {n : Nat}, fb_ct p n = 0 ↔ ∀ k, k < n → p k = false
  | 0 => ⟨fun _ k hk => absurd hk (Nat.not_lt_zero k), fun _ => rfl⟩
  | n + 1 => by
    have h := fb_ct_zero (p := p) (n := n)
    rw [fb_ct_succ]
    constructor
    · intro e k hk
      have e1 : fb_ct p n = 0 := by omega
      rcases Nat.lt_or_ge k n with q | q
      · exact h.mp e1 k q
      · have ek : k = n := by omega
        subst ek
        cases hp : p k
        · rfl
        · simp [hp] at e
    · intro a
      rw [h.mpr (fun k hk => a k (by omega)), a n (by omega)]
      rfl
theorem fb_ct_pos {p : Nat → Bool} {n : Nat} : 0 < fb_ct p n ↔ ∃ k, k < n ∧ p k = true := by
  constructor
  · intro h
    refine Classical.byContradiction fun hx => ?_
    have := fb_ct_zero.mpr (fun k hk => by
      cases hp : p k
      · rfl
      · exact absurd ⟨k, hk, hp⟩ hx : ∀ k, k < n → p k = false)
    omega
  · rintro ⟨k, hk, hp⟩
    rcases Nat.eq_zero_or_pos (fb_ct p n) with e | e
    · have := fb_ct_zero.mp e k hk
      rw [this] at hp
      cases hp
    · exact e
theorem fb_ct_all {p : Nat → Bool} {n : Nat} : fb_ct p n = n ↔ ∀ k, k < n → p k = true := by
  have h := fb_ct_not p n
  constructor
  · intro e k hk
    have z : fb_ct (fun k => !p k) n = 0 := by omega
    have := fb_ct_zero.mp z k hk
    cases hp : p k
    · simp [hp] at this
    · rfl
  · intro a
    have z : fb_ct (fun k => !p k) n = 0 := fb_ct_zero.mpr (fun k hk => by simp [a k hk])
    omega
/-- the k-th place with the property -/
theorem fb_ct_kth {p : Nat → Bool} {k : Nat} : ∀ {n : Nat}, k < fb_ct p n → ∃ i, i < n ∧ p i = true ∧ fb_ct p i = k
  | 0, h => absurd h (Nat.not_lt_zero k)
  | n + 1, h => by
    rcases Nat.lt_or_ge k (fb_ct p n) with q | q
    · obtain ⟨i, h1, h2⟩ := fb_ct_kth q
      exact ⟨i, by omega, h2⟩
    · rw [fb_ct_succ] at h
      cases hp : p n
      · simp [hp] at h; omega
      · simp [hp] at h
        exact ⟨n, by omega, hp, by omega⟩
theorem fb_ct_kth_one {p : Nat → Bool} {i j : Nat} (hi : p i = true) (hj : p j = true) (e : fb_ct p i = fb_ct p j) : i = j := by
  have key : ∀ a b : Nat, a < b → p a = true → fb_ct p a < fb_ct p b := by
    intro a b hab ha
    have h := fb_ct_mono p (show a + 1 ≤ b from hab)
    rw [fb_ct_succ, ha] at h
    simp at h
    omega
  rcases Nat.lt_trichotomy i j with q | q | q
  · have := key i j q hi; omega
  · exact q
  · have := key j i q hj; omega
/-! ===== sums over a range: one place changed, parts, bounds ===== -/
def fb_sm (f : Nat → Nat) : Nat → Nat
  | 0 => 0
  | n + 1 => fb_sm f n + f n
theorem fb_sm_succ (f : Nat → Nat) (n : Nat) : fb_sm f (n + 1) = fb_sm f n + f n := rfl
theorem fb_sm_cong {f g : Nat → Nat} : ∀ {n : Nat}, (∀ k, k < n → f k = g k) → fb_sm f n = fb_sm g n
  | 0, _ => rfl
  | n + 1, h => by rw [fb_sm_succ, fb_sm_succ, fb_sm_cong (fun k hk => h k (by omega)), h n (by omega)]
theorem fb_sm_out (f : Nat → Nat) (v : Nat) {i n : Nat} (h : n ≤ i) : fb_sm (fun k => if k = i then v else f k) n = fb_sm f n :=
  fb_sm_cong fun k hk => if_neg (by omega)
theorem fb_sm_upd (f : Nat → Nat) (v : Nat) {i : Nat} : ∀ {n : Nat}, i < n → fb_sm (fun k => if k = i then v else f k) n + f i = fb_sm f n + v
  | 0, h => absurd h (Nat.not_lt_zero i)
  | n + 1, h => by
    rw [fb_sm_succ, fb_sm_succ]
    rcases Nat.lt_or_ge i n with q | q
    · have := fb_sm_upd f v q
      have e : (if n = i then v else f n) = f n := if_neg (by omega)
      rw [e]
      omega
    · have e : i = n := by omega
      subst e
      rw [fb_sm_out f v (Nat.le_refl _)]
      simp only [if_true]
      omega
theorem fb_sm_add (f g : Nat → Nat) : ∀ n, fb_sm (fun k => f k + g k) n = fb_sm f n + fb_sm g n
  | 0 => rfl
  | n + 1 => by
    have h := fb_sm_add f g n
    rw [fb_sm_succ, fb_sm_succ, fb_sm_succ, h]
    omega
theorem fb_sm_le {f g : Nat → Nat} : ∀ {n : Nat}, (∀ k, k < n → f k ≤ g k) → fb_sm f n ≤ fb_sm g n
  | 0, _ => Nat.le_refl _
  | n + 1, h => by
    have h1 := fb_sm_le (n := n) (f := f) (g := g) (fun k hk => h k (by omega))
    have h2 := h n (by omega)
    rw [fb_sm_succ, fb_sm_succ]
    omega
theorem fb_sm_const (c : Nat) : ∀ n, fb_sm (fun _ => c) n = n * c
  | 0 => by rw [Nat.zero_mul]; rfl
  | n + 1 => by rw [fb_sm_succ, fb_sm_const c n, Nat.succ_mul]
theorem fb_sm_bound {f : Nat → Nat} {c n : Nat} (h : ∀ k, k < n → f k ≤ c) : fb_sm f n ≤ n * c := by
  rw [← fb_sm_const c n]
  exact fb_sm_le h
theorem fb_sm_mono (f : Nat → Nat) (m : Nat) : ∀ n, fb_sm f m ≤ fb_sm f (m + n)
  | 0 => Nat.le_refl _
  | n + 1 => by
    have h := fb_sm_mono f m n
    show fb_sm f m ≤ fb_sm f (m + n + 1)
    rw [fb_sm_succ]
    omega
theorem fb_sm_part (f : Nat → Nat) {i n : Nat} (h : i < n) : fb_sm f i + f i ≤ fb_sm f n := by
  have := fb_sm_mono f (i + 1) (n - (i + 1))
  rw [fb_sm_succ, show i + 1 + (n - (i + 1)) = n by omega] at this
  exact this
theorem fb_sm_split (f : Nat → Nat) (m : Nat) : ∀ n, fb_sm f (m + n) = fb_sm f m + fb_sm (fun k => f (m + k)) n
  | 0 => rfl
  | n + 1 => by
    have h := fb_sm_split f m n
    show fb_sm f (m + n + 1) = _
    rw [fb_sm_succ, fb_sm_succ, h, Nat.add_assoc]
theorem fb_sm_zero {f : Nat → Nat} {n : Nat} (h : fb_sm f n = 0) : ∀ k, k < n → f k = 0 := fun k hk => by
  have := fb_sm_part f hk
  omega
/-- the same over whole numbers -/
def fb_si (f : Nat → Int) : Nat → Int
  | 0 => 0
  | n + 1 => fb_si f n + f n
theorem fb_si_succ (f : Nat → Int) (n : Nat) : fb_si f (n + 1) = fb_si f n + f n := rfl
theorem fb_si_cong {f g : Nat → Int} : ∀ {n : Nat}, (∀ k, k < n → f k = g k) → fb_si f n = fb_si g n
  | 0, _ => rfl
  | n + 1, h => by rw [fb_si_succ, fb_si_succ, fb_si_cong (fun k hk => h k (by omega)), h n (by omega)]
theorem fb_si_out (f : Nat → Int) (v : Int) {i n : Nat} (h : n ≤ i) : fb_si (fun k => if k = i then v else f k) n = fb_si f n :=
  fb_si_cong fun k hk => if_neg (by omega)
theorem fb_si_upd (f : Nat → Int) (v : Int) {i : Nat} : ∀ {n : Nat}, i < n → fb_si (fun k => if k = i then v else f k) n = fb_si f n - f i + v
  | 0, h => absurd h (Nat.not_lt_zero i)
  | n + 1, h => by
    rw [fb_si_succ, fb_si_succ]
    rcases Nat.lt_or_ge i n with q | q
    · have := fb_si_upd f v q
      have e : (if n = i then v else f n) = f n := if_neg (by omega)
      rw [e]
      omega
    · have e : i = n := by omega
      subst e
      rw [fb_si_out f v (Nat.le_refl _)]
      simp only [if_true]
      omega
theorem fb_si_add (f g : Nat → Int) : ∀ n, fb_si (fun k => f k + g k) n = fb_si f n + fb_si g n
  | 0 => rfl
  | n + 1 => by
    have h := fb_si_add f g n
    rw [fb_si_succ, fb_si_succ, fb_si_succ, h]
    omega
theorem fb_si_sub (f g : Nat → Int) : ∀ n, fb_si (fun k => f k - g k) n = fb_si f n - fb_si g n
  | 0 => rfl
  | n + 1 => by
    have h := fb_si_sub f g n
    rw [fb_si_succ, fb_si_succ, fb_si_succ, h]
    omega
theorem fb_si_mul (c : Int) (f : Nat → Int) : ∀ n, fb_si (fun k => c * f k) n = c * fb_si f n
  | 0 => (Int.mul_zero c).symm
  | n + 1 => by
    have h := fb_si_mul c f n
    rw [fb_si_succ, fb_si_succ, h, Int.mul_add]
theorem fb_si_split (f : Nat → Int) (m : Nat) : ∀ n, fb_si f (m + n) = fb_si f m + fb_si (fun k => f (m + k)) n
  | 0 => (Int.add_zero _).symm
  | n + 1 => by
    have h := fb_si_split f m n
    show fb_si f (m + n + 1) = _
    rw [fb_si_succ, fb_si_succ, h, Int.add_assoc]
theorem fb_si_nat (f : Nat → Nat) : ∀ n, fb_si (fun k => (f k : Int)) n = (fb_sm f n : Int)
  | 0 => rfl
  | n + 1 => by
    have h := fb_si_nat f n
    rw [fb_si_succ, fb_sm_succ, h]
    omega
theorem fb_si_bound {f : Nat → Int} {c : Int} (hc : 0 ≤ c) : ∀ {n : Nat}, (∀ k, k < n → -c ≤ f k ∧ f k ≤ c) → -(n * c) ≤ fb_si f n ∧ fb_si f n ≤ n * c
  | 0, _ => by simp [fb_si]
  | n + 1, h => by
    have h1 := fb_si_bound (n := n) (f := f) hc (fun k hk => h k (by omega))
    have h2 := h n (by omega)
    have e : ((n + 1 : Nat) : Int) * c = n * c + c := by rw [Int.natCast_add, Int.add_mul]; simp
    rw [fb_si_succ, e]
    omega
/-! ===== bits of a long that isn't negative ===== -/
theorem fb_andL (a b : Nat) : lN a &&& lN b = lN (a &&& b) := by
  apply Int64.toBitVec_inj.1
  show BitVec.ofNat 64 a &&& BitVec.ofNat 64 b = BitVec.ofNat 64 (a &&& b)
  apply BitVec.eq_of_getLsbD_eq
  intro i hi
  simp [hi]
theorem fb_orL (a b : Nat) : lN a ||| lN b = lN (a ||| b) := by
  apply Int64.toBitVec_inj.1
  show BitVec.ofNat 64 a ||| BitVec.ofNat 64 b = BitVec.ofNat 64 (a ||| b)
  apply BitVec.eq_of_getLsbD_eq
  intro i hi
  simp [hi]
theorem fb_xorL (a b : Nat) : lN a ^^^ lN b = lN (a ^^^ b) := by
  apply Int64.toBitVec_inj.1
  show BitVec.ofNat 64 a ^^^ BitVec.ofNat 64 b = BitVec.ofNat 64 (a ^^^ b)
  apply BitVec.eq_of_getLsbD_eq
  intro i hi
  simp [hi]
theorem fb_xorI (a b : Nat) : nI a ^^^ nI b = nI (a ^^^ b) := by
  apply Int32.toBitVec_inj.1
  show BitVec.ofNat 32 a ^^^ BitVec.ofNat 32 b = BitVec.ofNat 32 (a ^^^ b)
  apply BitVec.eq_of_getLsbD_eq
  intro i hi
  simp [hi]
theorem fb_maskL (n k : Nat) : lN n &&& lN (2 ^ k - 1) = lN (n % 2 ^ k) := by rw [fb_andL, Nat.and_two_pow_sub_one_eq_mod]
theorem fb_or_sumL {a k : Nat} (b : Nat) (h : a < 2 ^ k) : lN (2 ^ k * b) ||| lN a = lN (2 ^ k * b + a) := by rw [fb_orL, Nat.two_pow_add_eq_or_of_lt h]
theorem fb_lN_inj {a b : Nat} (ha : a < 2 ^ 63) (hb : b < 2 ^ 63) : lN a = lN b ↔ a = b := by
  constructor
  · intro h
    have h1 : (BitVec.ofNat 64 a).toNat = (BitVec.ofNat 64 b).toNat := congrArg (fun x : Int64 => x.toBitVec.toNat) h
    rw [BitVec.toNat_ofNat, BitVec.toNat_ofNat, Nat.mod_eq_of_lt (by omega), Nat.mod_eq_of_lt (by omega)] at h1
    exact h1
  · rintro rfl; rfl
theorem fb_bit_nat (n j : Nat) : n &&& 2 ^ j = 0 ↔ n.testBit j = false := by
  constructor
  · intro h
    have h1 : (n &&& 2 ^ j).testBit j = false := by rw [h]; simp
    rw [Nat.testBit_and] at h1
    simpa using h1
  · intro h
    apply Nat.eq_of_testBit_eq
    intro i
    rw [Nat.testBit_and]
    by_cases hi : j = i
    · subst hi; simp [h]
    · first | (simp [Nat.testBit_two_pow, hi]; done) | (simp [Nat.testBit_two_pow_of_ne hi]; done)
/-- one bit of a long -/
theorem fb_bitL {n j : Nat} (hj : j < 63) : lN n &&& lN (2 ^ j) = 0 ↔ n.testBit j = false := by
  have h2 : (2 : Nat) ^ j < 2 ^ 63 := Nat.pow_lt_pow_right (by decide) hj
  have hle : n &&& 2 ^ j ≤ 2 ^ j := Nat.and_le_right
  rw [fb_andL, ← fb_bit_nat, show (0 : Int64) = lN 0 from rfl]
  exact fb_lN_inj (by omega) (by decide)
/-- a bit set, a bit taken off -/
theorem fb_bit_set (n j i : Nat) : (n ||| 2 ^ j).testBit i = (n.testBit i || decide (i = j)) := by
  rw [Nat.testBit_or]
  by_cases h : j = i
  · subst h; simp
  · have h2 : ¬ i = j := fun e => h e.symm
    first | (simp [Nat.testBit_two_pow, h, h2]; done) | (simp [Nat.testBit_two_pow_of_ne h, h2]; done)
theorem fb_bit_flip (n j i : Nat) : (n ^^^ 2 ^ j).testBit i = (n.testBit i ^^ decide (i = j)) := by
  rw [Nat.testBit_xor]
  by_cases h : j = i
  · subst h; simp
  · have h2 : ¬ i = j := fun e => h e.symm
    first | (simp [Nat.testBit_two_pow, h, h2]; done) | (simp [Nat.testBit_two_pow_of_ne h, h2]; done)
/-! ===== a stretch of an array written over by a function ===== -/
def fb_put {α : Type} (f g : Nat → α) (a n : Nat) : Nat → α := fun k => if a ≤ k ∧ k < a + n then g (k - a) else f k
theorem fb_put_0 {α : Type} (f g : Nat → α) (a : Nat) : fb_put f g a 0 = f := funext fun k => if_neg (by omega)
theorem fb_put_in {α : Type} {f g : Nat → α} {a n k : Nat} (h1 : a ≤ k) (h2 : k < a + n) : fb_put f g a n k = g (k - a) := if_pos ⟨h1, h2⟩
theorem fb_put_out {α : Type} {f g : Nat → α} {a n k : Nat} (h : k < a ∨ a + n ≤ k) : fb_put f g a n k = f k := if_neg (by omega)
theorem fb_put_succ (f g : Nat → Int32) (a n : Nat) : upd (fb_put f g a n) (a + n) (g n) = fb_put f g a (n + 1) := by
  funext k
  by_cases h : k = a + n
  · subst h
    simp [upd, fb_put]
  · by_cases h1 : a ≤ k ∧ k < a + n
    · have h2 : a ≤ k ∧ k < a + (n + 1) := by omega
      simp only [upd, fb_put, if_neg h, if_pos h1, if_pos h2]
    · have h2 : ¬ (a ≤ k ∧ k < a + (n + 1)) := by omega
      simp only [upd, fb_put, if_neg h, if_neg h1, if_neg h2]
/-- .. from the far end down -/
theorem fb_put_down (f g : Nat → Int32) {a n m : Nat} (h : m < n) : upd (fb_put f (fun k => g (k + (m + 1))) (a + (m + 1)) (n - (m + 1))) (a + m) (g m) = fb_put f (fun k => g (k + m)) (a + m) (n - m) := by
  funext k
  by_cases h0 : k = a + m
  · subst h0
    simp only [upd, if_true]
    rw [fb_put_in (by omega) (by omega)]
    exact congrArg g (by omega)
  · simp only [upd, if_neg h0]
    by_cases h1 : a + (m + 1) ≤ k ∧ k < a + (m + 1) + (n - (m + 1))
    · rw [fb_put_in h1.1 h1.2, fb_put_in (by omega) (by omega)]
      exact congrArg g (by omega)
    · rw [fb_put_out (by omega), fb_put_out (by omega)]
theorem fb_put_cong {α : Type} {f f2 g g2 : Nat → α} {a n : Nat} (hf : ∀ k, (k < a ∨ a + n ≤ k) → f k = f2 k) (hg : ∀ k, k < n → g k = g2 k) : fb_put f g a n = fb_put f2 g2 a n := by
  funext k
  by_cases h : a ≤ k ∧ k < a + n
  · rw [fb_put_in h.1 h.2, fb_put_in h.1 h.2, hg _ (by omega)]
  · rw [fb_put_out (by omega), fb_put_out (by omega), hf _ (by omega)]
/-! ===== the least, the first, the best so far; that there is one alone ===== -/
theorem fb_first {p : Nat → Prop} [DecidablePred p] : ∀ {n : Nat}, (∃ i, i < n ∧ p i) → ∃ i, i < n ∧ p i ∧ ∀ j, j < i → ¬ p j
  | 0, h => by obtain ⟨i, hi, -⟩ := h; exact absurd hi (Nat.not_lt_zero i)
  | n + 1, h => by
    by_cases q : ∃ i, i < n ∧ p i
    · obtain ⟨i, h1, h2⟩ := fb_first q
      exact ⟨i, by omega, h2⟩
    · obtain ⟨i, h1, h2⟩ := h
      have e : i = n := by
        rcases Nat.lt_or_ge i n with r | r
        · exact absurd ⟨i, r, h2⟩ q
        · omega
      subst e
      exact ⟨i, by omega, h2, fun j hj hp => q ⟨j, hj, hp⟩⟩
theorem fb_first_one {p : Nat → Prop} {i j : Nat} (hi : p i) (hi2 : ∀ k, k < i → ¬ p k) (hj : p j) (hj2 : ∀ k, k < j → ¬ p k) : i = j := by
  rcases Nat.lt_trichotomy i j with q | q | q
  · exact absurd hi (hj2 i q)
  · exact q
  · exact absurd hj (hi2 j q)
theorem fb_last {p : Nat → Prop} [DecidablePred p] : ∀ {n : Nat}, (∃ i, i < n ∧ p i) → ∃ i, i < n ∧ p i ∧ ∀ j, i < j → j < n → ¬ p j
  | 0, h => by obtain ⟨i, hi, -⟩ := h; exact absurd hi (Nat.not_lt_zero i)
  | n + 1, h => by
    by_cases q : p n
    · exact ⟨n, by omega, q, fun j h1 h2 => by omega⟩
    · obtain ⟨i, h1, h2⟩ := h
      have hi : i < n := by
        rcases Nat.lt_or_ge i n with r | r
        · exact r
        · have e : i = n := by omega
          subst e
          exact absurd h2 q
      obtain ⟨i2, a1, a2, a3⟩ := fb_last (n := n) ⟨i, hi, h2⟩
      refine ⟨i2, by omega, a2, fun j b1 b2 => ?_⟩
      rcases Nat.lt_or_ge j n with r | r
      · exact a3 j b1 r
      · have e : j = n := by omega
        subst e
        exact q
/-- the first greatest -/
theorem fb_best (f : Nat → Int) : ∀ {n : Nat}, 0 < n → ∃ i, i < n ∧ (∀ j, j < n → f j ≤ f i) ∧ ∀ j, j < i → f j < f i
  | 0, h => absurd h (Nat.lt_irrefl 0)
  | 1, _ => ⟨0, by omega, fun j hj => by have e : j = 0 := by omega
                                         subst e; exact Int.le_refl _, fun j hj => absurd hj (Nat.not_lt_zero j)⟩
  | n + 2, _ => by
    obtain ⟨i, h1, h2, h3⟩ := fb_best f (n := n + 1) (by omega)
    by_cases q : f i < f (n + 1)
    · refine ⟨n + 1, by omega, fun j hj => ?_, fun j hj => ?_⟩
      · rcases Nat.lt_or_ge j (n + 1) with r | r
        · have := h2 j r; omega
        · have e : j = n + 1 := by omega
          subst e; exact Int.le_refl _
      · have := h2 j hj; omega
    · refine ⟨i, by omega, fun j hj => ?_, h3⟩
      rcases Nat.lt_or_ge j (n + 1) with r | r
      · exact h2 j r
      · have e : j = n + 1 := by omega
        subst e; omega
theorem fb_best_one {f : Nat → Int} {n i j : Nat} (hi : i < n) (hi2 : ∀ k, k < n → f k ≤ f i) (hi3 : ∀ k, k < i → f k < f i) (hj : j < n) (hj2 : ∀ k, k < n → f k ≤ f j) (hj3 : ∀ k, k < j → f k < f j) : i = j := by
  rcases Nat.lt_trichotomy i j with q | q | q
  · have a := hj3 i q
    have b := hi2 j hj
    omega
  · exact q
  · have a := hi3 j q
    have b := hj2 i hi
    omega
/-- the first least -/
theorem fb_low (f : Nat → Int) {n : Nat} (h : 0 < n) : ∃ i, i < n ∧ (∀ j, j < n → f i ≤ f j) ∧ ∀ j, j < i → f i < f j := by
  obtain ⟨i, h1, h2, h3⟩ := fb_best (fun k => -f k) h
  exact ⟨i, h1, fun j hj => by have := h2 j hj; omega, fun j hj => by have := h3 j hj; omega⟩
/-! ===== signed ints as whole numbers, within bounds ===== -/
theorem fb_rng (x : Int32) : -2147483648 ≤ x.toInt ∧ x.toInt < 2147483648 := by
  have h1 := Int32.le_toInt x
  have h2 := Int32.toInt_lt x
  omega
theorem fb_bmod {z : Int} (h1 : -2147483648 ≤ z) (h2 : z < 2147483648) : z.bmod (2 ^ 32) = z := by
  rw [Int.bmod_eq_of_le (by omega) (by omega)]
theorem fb_addI {x y : Int32} (h1 : -2147483648 ≤ x.toInt + y.toInt) (h2 : x.toInt + y.toInt < 2147483648) : (x + y).toInt = x.toInt + y.toInt := by
  rw [Int32.toInt_add, fb_bmod h1 h2]
theorem fb_subI {x y : Int32} (h1 : -2147483648 ≤ x.toInt - y.toInt) (h2 : x.toInt - y.toInt < 2147483648) : (x - y).toInt = x.toInt - y.toInt := by
  rw [Int32.toInt_sub, fb_bmod h1 h2]
theorem fb_mulI {x y : Int32} (h1 : -2147483648 ≤ x.toInt * y.toInt) (h2 : x.toInt * y.toInt < 2147483648) : (x * y).toInt = x.toInt * y.toInt := by
  rw [Int32.toInt_mul, fb_bmod h1 h2]
theorem fb_negI {x : Int32} (h : x.toInt ≠ -2147483648) : (-x).toInt = -x.toInt := by
  have := fb_rng x
  rw [Int32.toInt_neg, fb_bmod (by omega) (by omega)]
theorem fb_ofI {z : Int} (h1 : -2147483648 ≤ z) (h2 : z < 2147483648) : (Int32.ofInt z).toInt = z := by
  rw [Int32.toInt_ofInt, fb_bmod h1 h2]
theorem fb_asI (x : Int32) : Int32.ofInt x.toInt = x := Int32.ofInt_toInt x
theorem fb_rngL (x : Int64) : -9223372036854775808 ≤ x.toInt ∧ x.toInt < 9223372036854775808 := by
  have h1 := Int64.le_toInt x
  have h2 := Int64.toInt_lt x
  omega
theorem fb_bmodL {z : Int} (h1 : -9223372036854775808 ≤ z) (h2 : z < 9223372036854775808) : z.bmod (2 ^ 64) = z := by
  rw [Int.bmod_eq_of_le (by omega) (by omega)]
theorem fb_addL {x y : Int64} (h1 : -9223372036854775808 ≤ x.toInt + y.toInt) (h2 : x.toInt + y.toInt < 9223372036854775808) : (x + y).toInt = x.toInt + y.toInt := by
  rw [Int64.toInt_add, fb_bmodL h1 h2]
theorem fb_subL {x y : Int64} (h1 : -9223372036854775808 ≤ x.toInt - y.toInt) (h2 : x.toInt - y.toInt < 9223372036854775808) : (x - y).toInt = x.toInt - y.toInt := by
  rw [Int64.toInt_sub, fb_bmodL h1 h2]
theorem fb_mulL {x y : Int64} (h1 : -9223372036854775808 ≤ x.toInt * y.toInt) (h2 : x.toInt * y.toInt < 9223372036854775808) : (x * y).toInt = x.toInt * y.toInt := by
  rw [Int64.toInt_mul, fb_bmodL h1 h2]
/-! ===== cuts of what is narrow already ===== -/
theorem fb_byte {x : Int32} (h1 : -128 ≤ x.toInt) (h2 : x.toInt < 128) : x.toInt8.toInt32 = x := by
  apply Int32.toInt_inj.1
  rw [Int8.toInt_toInt32, Int32.toInt_toInt8, Int.bmod_eq_of_le (by omega) (by omega)]
theorem fb_short {x : Int32} (h1 : -32768 ≤ x.toInt) (h2 : x.toInt < 32768) : x.toInt16.toInt32 = x := by
  apply Int32.toInt_inj.1
  rw [Int16.toInt_toInt32, Int32.toInt_toInt16, Int.bmod_eq_of_le (by omega) (by omega)]
theorem fb_byte_rng (x : Int32) : -128 ≤ x.toInt8.toInt32.toInt ∧ x.toInt8.toInt32.toInt < 128 := by
  rw [Int8.toInt_toInt32]
  have h1 := Int8.le_toInt x.toInt8
  have h2 := Int8.toInt_lt x.toInt8
  omega
theorem fb_short_rng (x : Int32) : -32768 ≤ x.toInt16.toInt32.toInt ∧ x.toInt16.toInt32.toInt < 32768 := by
  rw [Int16.toInt_toInt32]
  have h1 := Int16.le_toInt x.toInt16
  have h2 := Int16.toInt_lt x.toInt16
  omega
theorem fb_byte_twice (x : Int32) : x.toInt8.toInt32.toInt8.toInt32 = x.toInt8.toInt32 := fb_byte (fb_byte_rng x).1 (fb_byte_rng x).2
theorem fb_short_twice (x : Int32) : x.toInt16.toInt32.toInt16.toInt32 = x.toInt16.toInt32 := fb_short (fb_short_rng x).1 (fb_short_rng x).2
theorem fb_char {n : Nat} (h : n < 65536) : (nI n).toUInt32.toUInt16.toUInt32.toInt32 = nI n := by
  apply Int32.toBitVec_inj.1
  apply BitVec.eq_of_toNat_eq
  have e1 : (nI n).toBitVec.toNat = n := by
    show (BitVec.ofNat 32 n).toNat = n
    rw [BitVec.toNat_ofNat, Nat.mod_eq_of_lt (by omega)]
  have e2 : ((nI n).toUInt32.toUInt16.toUInt32).toNat = n := by
    rw [UInt16.toNat_toUInt32, UInt32.toNat_toUInt16]
    show (nI n).toBitVec.toNat % 2 ^ 16 = n
    rw [e1, Nat.mod_eq_of_lt (by omega)]
  rw [e1]
  exact e2
end
section
/-! plain facts on numbers and arrays, to paste: each family by itself; over the kit's rows on nI and upd -/
/-! ===== order of ints, in all its forms, and through longs ===== -/
theorem fa_lt (a b : Int32) : a < b ↔ a.toInt < b.toInt := Int32.lt_iff_toInt_lt
theorem fa_le (a b : Int32) : a ≤ b ↔ a.toInt ≤ b.toInt := Int32.le_iff_toInt_le
theorem fa_eq (a b : Int32) : a = b ↔ a.toInt = b.toInt := Int32.toInt_inj.symm
theorem fa_lt64 (a b : Int64) : a < b ↔ a.toInt < b.toInt := Int64.lt_iff_toInt_lt
theorem fa_le64 (a b : Int64) : a ≤ b ↔ a.toInt ≤ b.toInt := Int64.le_iff_toInt_le
theorem fa_eq64 (a b : Int64) : a = b ↔ a.toInt = b.toInt := Int64.toInt_inj.symm
/-- a comparison of two ints taken as longs -/
theorem fa_wide_lt (a b : Int32) : a.toInt64 < b.toInt64 ↔ a < b := by rw [fa_lt64, fa_lt, Int32.toInt_toInt64, Int32.toInt_toInt64]
theorem fa_wide_le (a b : Int32) : a.toInt64 ≤ b.toInt64 ↔ a ≤ b := by rw [fa_le64, fa_le, Int32.toInt_toInt64, Int32.toInt_toInt64]
theorem fa_wide_eq (a b : Int32) : a.toInt64 = b.toInt64 ↔ a = b := by rw [fa_eq64, fa_eq, Int32.toInt_toInt64, Int32.toInt_toInt64]
/-- one strict comparison gives all the others -/
theorem fa_of_lt {a b : Int32} (h : a < b) : a ≤ b ∧ ¬ b ≤ a ∧ ¬ b < a ∧ a ≠ b ∧ b ≠ a := by
  rw [fa_lt] at h
  refine ⟨?_, ?_, ?_, ?_, ?_⟩
  · rw [fa_le]; omega
  · rw [fa_le]; omega
  · rw [fa_lt]; omega
  · intro e; rw [fa_eq] at e; omega
  · intro e; rw [fa_eq] at e; omega
theorem fa_of_nlt {a b : Int32} (h : ¬ a < b) : b ≤ a := by
  rw [fa_lt] at h
  rw [fa_le]
  omega
theorem fa_of_nle {a b : Int32} (h : ¬ a ≤ b) : b < a := by
  rw [fa_le] at h
  rw [fa_lt]
  omega
theorem fa_le_ne {a b : Int32} (h : a ≤ b) (h2 : a ≠ b) : a < b := by
  rw [fa_le] at h
  rw [fa_lt]
  have h3 : a.toInt ≠ b.toInt := fun e => h2 ((fa_eq a b).mpr e)
  omega
theorem fa_three (a b : Int32) : a < b ∨ a = b ∨ b < a := by
  rw [fa_lt, fa_lt, fa_eq]
  omega
theorem fa_trans {a b c : Int32} (h : a < b) (h2 : b ≤ c) : a < c := by
  rw [fa_lt] at *
  rw [fa_le] at h2
  omega
/-! ===== small literals as numbers ===== -/
theorem fa_lit (n : Nat) : (OfNat.ofNat n : Int32) = nI n := rfl
theorem fa_litL (n : Nat) : (OfNat.ofNat n : Int64) = lN n := rfl
/-! ===== bits of a number: 'or', masks, one bit ===== -/
theorem fa_and (a b : Nat) : nI a &&& nI b = nI (a &&& b) := by
  apply Int32.toBitVec_inj.1
  show BitVec.ofNat 32 a &&& BitVec.ofNat 32 b = BitVec.ofNat 32 (a &&& b)
  apply BitVec.eq_of_getLsbD_eq
  intro i hi
  simp [hi]
theorem fa_or (a b : Nat) : nI a ||| nI b = nI (a ||| b) := by
  apply Int32.toBitVec_inj.1
  show BitVec.ofNat 32 a ||| BitVec.ofNat 32 b = BitVec.ofNat 32 (a ||| b)
  apply BitVec.eq_of_getLsbD_eq
  intro i hi
  simp [hi]
/-- a remainder by a power of two, as a mask -/
theorem fa_mask (n k : Nat) : nI n &&& nI (2 ^ k - 1) = nI (n % 2 ^ k) := by rw [fa_and, Nat.and_two_pow_sub_one_eq_mod]
/-- 'or' of a high part and a low one that don't meet is their sum -/
theorem fa_or_sum {a k : Nat} (b : Nat) (h : a < 2 ^ k) : nI (2 ^ k * b) ||| nI a = nI (2 ^ k * b + a) := by rw [fa_or, Nat.two_pow_add_eq_or_of_lt h]
/-- one bit, by 'and' with a power of two -/
theorem fa_bit {n j : Nat} (hj : j < 31) : nI n &&& nI (2 ^ j) = 0 ↔ n.testBit j = false := by
  have h2 : (2 : Nat) ^ j < 2 ^ 31 := Nat.pow_lt_pow_right (by decide) hj
  have hle : n &&& 2 ^ j ≤ 2 ^ j := Nat.and_le_right
  have e : n &&& 2 ^ j = 0 ↔ n.testBit j = false := by
    constructor
    · intro h
      have h1 : (n &&& 2 ^ j).testBit j = false := by rw [h]; simp
      rw [Nat.testBit_and] at h1
      first | simpa using h1 | simpa [Nat.testBit_two_pow_self] using h1 | simpa [Nat.testBit_two_pow] using h1
    · intro h
      apply Nat.eq_of_testBit_eq
      intro i
      rw [Nat.testBit_and]
      by_cases hi : j = i
      · subst hi; simp [h]
      · first | (simp [Nat.testBit_two_pow, hi]; done) | (simp [Nat.testBit_two_pow_of_ne hi]; done)
  rw [fa_and]
  constructor
  · intro h
    apply e.mp
    rcases Nat.eq_zero_or_pos (n &&& 2 ^ j) with z | z
    · exact z
    · exact absurd h (nI_ne0 z (Nat.lt_of_le_of_lt hle h2))
  · intro h
    rw [e.mpr h]; exact nI_0
/-- a remainder by a power of two of a number that isn't negative, as Java divides -/
theorem fa_rem {a k : Nat} (ha : a < 2 ^ 31) (hk : k < 31) : nI a - nI a / nI (2 ^ k) * nI (2 ^ k) = nI (a % 2 ^ k) := pk_rem ha (Nat.two_pow_pos k) (Nat.pow_lt_pow_right (by decide) hk)
/-! ===== cuts to a byte, a short ===== -/
theorem fa_byte_xor (x y : Int32) : (x ^^^ y).toInt8 = x.toInt8 ^^^ y.toInt8 := by
  apply Int8.toBitVec_inj.1
  apply BitVec.eq_of_getLsbD_eq
  intro i hi
  first | (simp [hi]; done) | (simp [hi, BitVec.getLsbD_setWidth, BitVec.getLsbD_signExtend]; done)
theorem fa_short_xor (x y : Int32) : (x ^^^ y).toInt16 = x.toInt16 ^^^ y.toInt16 := by
  apply Int16.toBitVec_inj.1
  apply BitVec.eq_of_getLsbD_eq
  intro i hi
  first | (simp [hi]; done) | (simp [hi, BitVec.getLsbD_setWidth, BitVec.getLsbD_signExtend]; done)
/-- the cut to a byte sees the low byte alone -/
theorem fa_byte_low (x : Int32) : (x &&& 255).toInt8 = x.toInt8 := by
  apply Int8.toBitVec_inj.1
  apply BitVec.eq_of_getLsbD_eq
  intro i hi
  have h2 : (255 : Int32).toBitVec.getLsbD i = true := by
    have : ∀ j : Fin 8, (255 : Int32).toBitVec.getLsbD j.val = true := by decide +kernel
    exact this ⟨i, hi⟩
  have h4 : (x &&& 255).toBitVec.getLsbD i = x.toBitVec.getLsbD i := by
    show (x.toBitVec &&& (255 : Int32).toBitVec).getLsbD i = _
    rw [BitVec.getLsbD_and, h2, Bool.and_true]
  have h3 : i < 32 := by omega
  first
    | (show (((x &&& 255).toBitVec).signExtend 8).getLsbD i = (x.toBitVec.signExtend 8).getLsbD i; rw [BitVec.getLsbD_signExtend, BitVec.getLsbD_signExtend, if_pos h3, if_pos h3, h4])
    | (show (((x &&& 255).toBitVec).setWidth 8).getLsbD i = (x.toBitVec.setWidth 8).getLsbD i; rw [BitVec.getLsbD_setWidth, BitVec.getLsbD_setWidth, h4])
    | (simp [hi, h3, h4]; done)
theorem fa_short_low (x : Int32) : (x &&& 65535).toInt16 = x.toInt16 := by
  apply Int16.toBitVec_inj.1
  apply BitVec.eq_of_getLsbD_eq
  intro i hi
  have h2 : (65535 : Int32).toBitVec.getLsbD i = true := by
    have : ∀ j : Fin 16, (65535 : Int32).toBitVec.getLsbD j.val = true := by decide +kernel
    exact this ⟨i, hi⟩
  have h4 : (x &&& 65535).toBitVec.getLsbD i = x.toBitVec.getLsbD i := by
    show (x.toBitVec &&& (65535 : Int32).toBitVec).getLsbD i = _
    rw [BitVec.getLsbD_and, h2, Bool.and_true]
  have h3 : i < 32 := by omega
  first
    | (show (((x &&& 65535).toBitVec).signExtend 16).getLsbD i = (x.toBitVec.signExtend 16).getLsbD i; rw [BitVec.getLsbD_signExtend, BitVec.getLsbD_signExtend, if_pos h3, if_pos h3, h4])
    | (show (((x &&& 65535).toBitVec).setWidth 16).getLsbD i = (x.toBitVec.setWidth 16).getLsbD i; rw [BitVec.getLsbD_setWidth, BitVec.getLsbD_setWidth, h4])
    | (simp [hi, h3, h4]; done)
/-- a small number is its own byte, its own short -/
theorem fa_byte_small {n : Nat} (h : n < 128) : (nI n).toInt8.toInt32 = nI n := by
  have : ∀ j : Fin 128, (nI j.val).toInt8.toInt32 = nI j.val := by decide +kernel
  exact this ⟨n, h⟩
/-! ===== absolute difference ===== -/
theorem fa_absdiff {a b : Nat} (ha : a < 2 ^ 31) (hb : b < 2 ^ 31) : (if nI a < nI b then nI b - nI a else nI a - nI b) = nI (if a < b then b - a else a - b) := by
  by_cases h : a < b
  · rw [if_pos (nI_lt h hb), if_pos h]
    exact pk_sub (Nat.le_of_lt h)
  · rw [if_neg (nI_nlt (Nat.le_of_not_lt h) ha), if_neg h]
    exact pk_sub (Nat.le_of_not_lt h)
/-! ===== an array behind i stores, a conditional store, a row copied ===== -/
/-- f where k < i, what stood there else -/
def fa_fill {α : Type} (f g : Nat → α) (i : Nat) : Nat → α := fun k => if k < i then f k else g k
theorem fa_fill_0 {α : Type} (f g : Nat → α) : fa_fill f g 0 = g := funext fun k => if_neg (Nat.not_lt_zero k)
theorem fa_fill_in {α : Type} {f g : Nat → α} {i k : Nat} (h : k < i) : fa_fill f g i k = f k := if_pos h
theorem fa_fill_out {α : Type} {f g : Nat → α} {i k : Nat} (h : i ≤ k) : fa_fill f g i k = g k := if_neg (Nat.not_lt.mpr h)
theorem fa_fill_succ (f g : Nat → Int32) (i : Nat) : upd (fa_fill f g i) i (f i) = fa_fill f g (i + 1) := by
  funext k
  by_cases e : k = i
  · subst e
    rw [pk_us]
    exact (if_pos (Nat.lt_succ_self k)).symm
  · rw [pk_un e]
    by_cases h : k < i
    · rw [fa_fill_in h, fa_fill_in (Nat.lt_succ_of_lt h)]
    · rw [fa_fill_out (Nat.le_of_not_lt h), fa_fill_out (by omega)]
/-- a store that changes nothing -/
theorem fa_upd_same {f : Nat → Int32} {i : Nat} {x : Int32} (h : f i = x) : upd f i x = f := by
  funext k
  by_cases e : k = i
  · subst e
    rw [pk_us, h]
  · rw [pk_un e]
/-- a store under a condition, told as one -/
theorem fa_upd_if (c : Prop) [Decidable c] (f : Nat → Int32) (i : Nat) (x : Int32) : (if c then upd f i x else f) = upd f i (if c then x else f i) := by
  by_cases h : c
  · rw [if_pos h, if_pos h]
  · rw [if_neg h, if_neg h, fa_upd_same rfl]
/-- two stores at one place, at two -/
theorem fa_upd_twice (f : Nat → Int32) (i : Nat) (x y : Int32) : upd (upd f i x) i y = upd f i y := by
  funext k
  by_cases e : k = i
  · subst e
    rw [pk_us, pk_us]
  · rw [pk_un e, pk_un e, pk_un e]
theorem fa_upd_swap (f : Nat → Int32) {i j : Nat} (h : i ≠ j) (x y : Int32) : upd (upd f i x) j y = upd (upd f j y) i x := by
  funext k
  by_cases e : k = i
  · subst e
    rw [pk_un h, pk_us, pk_us]
  · by_cases e2 : k = j
    · subst e2
      rw [pk_us, pk_un e, pk_us]
    · rw [pk_un e2, pk_un e, pk_un e, pk_un e2]
/-! ===== the first index with a property; a count ===== -/
/-- the first k < n with p k, n if there is none -/
def fa_first (p : Nat → Bool) : Nat → Nat
  | 0 => 0
  | n + 1 => if fa_first p n < n then fa_first p n else if p n then n else n + 1
theorem fa_first_le (p : Nat → Bool) : ∀ n, fa_first p n ≤ n
  | 0 => Nat.le_refl 0
  | n + 1 => by
    have ih := fa_first_le p n
    unfold fa_first
    split
    · omega
    · split
      · omega
      · omega
theorem fa_first_no (p : Nat → Bool) : ∀ n k, k < fa_first p n → p k = false
  | 0, k, h => absurd h (Nat.not_lt_zero k)
  | n + 1, k, h => by
    have ih := fa_first_no p n
    have hl := fa_first_le p n
    unfold fa_first at h
    split at h
    · exact ih k h
    · rename_i h1
      split at h
      · exact ih k (by omega)
      · rename_i h2
        by_cases e : k = n
        · subst e
          exact Bool.eq_false_iff.mpr h2
        · exact ih k (by omega)
theorem fa_first_yes (p : Nat → Bool) : ∀ n, fa_first p n < n → p (fa_first p n) = true
  | 0, h => absurd h (Nat.not_lt_zero _)
  | n + 1, h => by
    have ih := fa_first_yes p n
    have hl := fa_first_le p n
    unfold fa_first at h ⊢
    split at h
    · rename_i h1
      rw [if_pos h1]
      exact ih h1
    · rename_i h1
      rw [if_neg h1]
      split at h
      · rename_i h2
        rw [if_pos h2]
        exact h2
      · omega
/-- how many k < n have p k -/
def fa_cnt (p : Nat → Bool) : Nat → Nat
  | 0 => 0
  | n + 1 => fa_cnt p n + if p n then 1 else 0
theorem fa_cnt_le (p : Nat → Bool) : ∀ n, fa_cnt p n ≤ n
  | 0 => Nat.le_refl 0
  | n + 1 => by
    have ih := fa_cnt_le p n
    unfold fa_cnt
    split
    · omega
    · omega
theorem fa_cnt_yes {p : Nat → Bool} {n : Nat} (h : p n = true) : fa_cnt p (n + 1) = fa_cnt p n + 1 := by rw [fa_cnt, if_pos h]
theorem fa_cnt_no {p : Nat → Bool} {n : Nat} (h : p n = false) : fa_cnt p (n + 1) = fa_cnt p n := by rw [fa_cnt, if_neg (by rw [h]; decide)]; rfl
theorem fa_cnt_cong {p q : Nat → Bool} : ∀ {n : Nat}, (∀ k, k < n → p k = q k) → fa_cnt p n = fa_cnt q n
  | 0, _ => rfl
  | n + 1, h => by rw [fa_cnt, fa_cnt, fa_cnt_cong (fun k hk => h k (Nat.lt_succ_of_lt hk)), h n (Nat.lt_succ_self n)]
/-! ===== an answer carried into a post; a branch on a boolean answer ===== -/
theorem fa_post {α : Type} {P : α → Prop} {x y : α} (h : x = y) (hp : P y) : P x := h ▸ hp
theorem fa_post2 {α β : Type} {P : α → β → Prop} {x y : α} {u v : β} (h : x = y) (h2 : u = v) (hp : P y v) : P x u := h ▸ h2 ▸ hp
theorem fa_bool {r : Int32} {b : Bool} (h : r = if b then 1 else 0) : (r = 0 ↔ b = false) ∧ (¬ r = 0 ↔ b = true) := by
  subst h
  cases b
  · exact ⟨⟨fun _ => rfl, fun _ => rfl⟩, ⟨fun h => absurd rfl h, fun h => absurd h (by decide)⟩⟩
  · exact ⟨⟨fun h => absurd h (by decide), fun h => absurd h (by decide)⟩, ⟨fun _ => rfl, fun _ => by decide⟩⟩
/-- a boolean's narrowing changes nothing -/
theorem fa_bool_and {r : Int32} (h : r = 0 ∨ r = 1) : r &&& 1 = r := by
  rcases h with rfl | rfl
  · decide
  · decide
theorem fa_bool_prop {c : Prop} [Decidable c] {r : Int32} (h : r = if c then 1 else 0) : (r = 0 ↔ ¬ c) ∧ (¬ r = 0 ↔ c) := by
  subst h
  by_cases hc : c
  · rw [if_pos hc]
    exact ⟨⟨fun h => absurd h (by decide), fun h => absurd hc h⟩, ⟨fun _ => hc, fun _ => by decide⟩⟩
  · rw [if_neg hc]
    exact ⟨⟨fun _ => hc, fun _ => rfl⟩, ⟨fun h => absurd rfl h, fun h => absurd h hc⟩⟩
end
section
/-! STATE: the worlds of the two objects, a list of routes, numbers, the place of a key. -/
section PB1
abbrev pb_ty (cI cJ : ClassId) : List (ClassId × FieldType) := [(cJ, .long), (cI, .int)]
abbrev pb_wX (cI cJ : ClassId) (h0 k1 c1 h1 cap : Nat) (Kf : Nat → Int64) (Cf : Nat → Int32) (Hf : Nat → Int64) (n : Int32) : va_W := [(h0, .inr (0, [.ref k1, .ref c1, .ref h1, .int n])), (k1, .inl (cJ, cap, .inr (.inl Kf))), (c1, .inl (cI, cap, .inl Cf)), (h1, .inl (cJ, cap, .inr (.inl Hf)))]
abbrev pb_wM (cI cJ : ClassId) (m0 a1 l1 o1 c1 h1 : Nat) (Af Lf Of Cf : Nat → Int32) (Hf : Nat → Int64) (co n : Int32) : va_W := [(m0, .inr (1, [.int co, .int n, .ref a1, .ref l1, .ref o1, .ref c1, .ref h1])), (a1, .inl (cI, 1001, .inl Af)), (l1, .inl (cI, 1001, .inl Lf)), (o1, .inl (cI, 1001, .inl Of)), (c1, .inl (cI, 1001, .inl Cf)), (h1, .inl (cJ, 1001, .inr (.inl Hf)))]
-- numbers
def pb_u (x : Int32) : Nat := x.toBitVec.toNat
theorem pb_u_lt (x : Int32) : pb_u x < 2 ^ 32 := x.toBitVec.isLt
theorem pb_u_of {a : Nat} (h : a < 2 ^ 32) : pb_u (nI a) = a := pk_tn h
theorem pb_u_nI (x : Int32) : nI (pb_u x) = x := by
  obtain ⟨n, h, rfl⟩ := wb_of32 x
  rw [pb_u_of h]
theorem pb_uns {a : Nat} (h : a < 2 ^ 32) : (nI a).toInt64 &&& 4294967295 = lN a := by
  apply wb_inj
  rw [Int64.toBitVec_and, Int32.toBitVec_toInt64, wb_tb]
  have hm : ∀ i, i < 64 → (4294967295 : Int64).toBitVec.getLsbD i = decide (i < 32) := by decide +kernel
  apply BitVec.eq_of_getLsbD_eq
  intro i hi
  rw [BitVec.getLsbD_and, BitVec.getLsbD_signExtend, hm i hi, BitVec.getLsbD_ofNat]
  have he : (nI a).toBitVec = BitVec.ofNat 32 a := rfl
  by_cases h32 : i < 32
  · rw [he, BitVec.getLsbD_ofNat]
    simp [h32, hi]
  · have ht : a.testBit i = false := Nat.testBit_lt_two_pow (Nat.lt_of_lt_of_le h (Nat.pow_le_pow_right (by decide) (by omega)))
    simp [h32, ht]
theorem pb_mod32 (a : Nat) : nI (a % 2 ^ 32) = nI a := by
  apply Int32.toBitVec_inj.mp
  show BitVec.ofNat 32 _ = BitVec.ofNat 32 _
  apply BitVec.eq_of_toNat_eq
  simp
/-- the mask of a length -/
def pb_mk (k : Nat) : Int32 := if k = 0 then 0 else (-1) <<< ((32 - nI k) &&& 31)
theorem pb_mk_n : ∀ k, k < 33 → pb_mk k = nI (2 ^ 32 - 2 ^ (32 - k)) := by decide +kernel
theorem pb_mk_c : ∀ k, k < 33 → pb_mk k ^^^ (-1) = nI (2 ^ (32 - k) - 1) := by decide +kernel
/-- the first bits of an address -/
def pb_cl (a k : Nat) : Nat := a / 2 ^ (32 - k) * 2 ^ (32 - k)
theorem pb_and_hi {a k : Nat} (h : a < 2 ^ 32) (hk : k ≤ 32) : a &&& (2 ^ 32 - 2 ^ k) = a / 2 ^ k * 2 ^ k := by
  have e1 : 2 ^ 32 - 2 ^ k = (2 ^ (32 - k) - 1) <<< k := by
    rw [Nat.shiftLeft_eq, Nat.sub_mul, ← Nat.pow_add, Nat.one_mul]
    rw [show 32 - k + k = 32 by omega]
  have e2 : a / 2 ^ k * 2 ^ k = (a >>> k) <<< k := by rw [Nat.shiftLeft_eq, Nat.shiftRight_eq_div_pow]
  rw [e1, e2]
  apply Nat.eq_of_testBit_eq
  intro i
  rw [Nat.testBit_and, Nat.testBit_shiftLeft, Nat.testBit_shiftLeft, Nat.testBit_shiftRight, Nat.testBit_two_pow_sub_one]
  by_cases hi : k ≤ i
  · have hki : k + (i - k) = i := by omega
    rw [hki]
    by_cases h2 : i - k < 32 - k
    · simp [hi, h2]
    · have ht : a.testBit i = false := Nat.testBit_lt_two_pow (Nat.lt_of_lt_of_le h (Nat.pow_le_pow_right (by decide) (by omega)))
      simp [ht]
  · simp [hi]
theorem pb_mk_and {a k : Nat} (h : a < 2 ^ 32) (hk : k ≤ 32) : nI a &&& pb_mk k = nI (pb_cl a k) := by
  rw [pb_mk_n k (by omega), nx_and, pb_and_hi h (by omega)]; rfl
theorem pb_mk_low {a k : Nat} (hk : k ≤ 32) : nI a &&& (pb_mk k ^^^ (-1)) = nI (a % 2 ^ (32 - k)) := by
  rw [pb_mk_c k (by omega), nx_and, Nat.and_two_pow_sub_one_eq_mod]
theorem pb_pow_le (k : Nat) : 2 ^ (32 - k) ≤ 2 ^ 32 := Nat.pow_le_pow_right (by decide) (by omega)
theorem pb_pow_pos (k : Nat) : 0 < 2 ^ (32 - k) := Nat.pow_pos (by decide)
theorem pb_mk_bad {a k : Nat} (hk : k ≤ 32) : (nI a &&& (pb_mk k ^^^ (-1))) = 0 ↔ a % 2 ^ (32 - k) = 0 := by
  rw [pb_mk_low hk]
  have h1 := Nat.mod_lt a (pb_pow_pos k)
  have h2 := pb_pow_le k
  constructor
  · intro h
    have := congrArg pb_u h
    rw [pb_u_of (by omega)] at this
    exact this
  · intro h; rw [h]; rfl
theorem pb_mk_or {a k : Nat} (hk : k ≤ 32) (h : a % 2 ^ (32 - k) = 0) : nI a ||| (pb_mk k ^^^ (-1)) = nI (a + (2 ^ (32 - k) - 1)) := by
  rw [pb_mk_c k (by omega)]
  have e : a = 2 ^ (32 - k) * (a / 2 ^ (32 - k)) := by
    have := Nat.div_add_mod a (2 ^ (32 - k))
    omega
  have hp := pb_pow_pos k
  rw [e, fa_or_sum _ (by omega), ← e]
theorem pb_cl_lt {a k : Nat} (h : a < 2 ^ 32) : pb_cl a k < 2 ^ 32 := Nat.lt_of_le_of_lt (Nat.div_mul_le_self _ _) h
theorem pb_cl_le (a k : Nat) : pb_cl a k ≤ a := Nat.div_mul_le_self _ _
theorem pb_cl_mod (a k : Nat) : pb_cl a k % 2 ^ (32 - k) = 0 := Nat.mul_mod_left _ _
theorem pb_cl_self {a k : Nat} (h : a % 2 ^ (32 - k) = 0) : pb_cl a k = a := by
  have := Nat.div_add_mod a (2 ^ (32 - k))
  have e : pb_cl a k = 2 ^ (32 - k) * (a / 2 ^ (32 - k)) := Nat.mul_comm _ _
  omega
/-- two addresses with the same first bits, by the exclusive or -/
theorem pb_xor_cl {a b k : Nat} (ha : a < 2 ^ 32) (hb : b < 2 ^ 32) (hk : k ≤ 32) : ((nI a ^^^ nI b) &&& pb_mk k) = 0 ↔ pb_cl a k = pb_cl b k := by
  have hx : a ^^^ b < 2 ^ 32 := Nat.xor_lt_two_pow ha hb
  rw [nx_xor, pb_mk_and hx hk]
  have h1 : (a ^^^ b) / 2 ^ (32 - k) = a / 2 ^ (32 - k) ^^^ b / 2 ^ (32 - k) := by
    rw [← Nat.shiftRight_eq_div_pow, ← Nat.shiftRight_eq_div_pow, ← Nat.shiftRight_eq_div_pow, Nat.shiftRight_xor_distrib]
  have hp := pb_pow_pos k
  have key : pb_cl (a ^^^ b) k = 0 ↔ a / 2 ^ (32 - k) = b / 2 ^ (32 - k) := by
    unfold pb_cl
    rw [h1]
    constructor
    · intro h
      rcases Nat.mul_eq_zero.mp h with h | h
      · have h2 : (a / 2 ^ (32 - k) ^^^ b / 2 ^ (32 - k)) ^^^ b / 2 ^ (32 - k) = 0 ^^^ b / 2 ^ (32 - k) := by rw [h]
        rwa [Nat.xor_assoc, Nat.xor_self, Nat.xor_zero, Nat.zero_xor] at h2
      · omega
    · intro h
      rw [h, Nat.xor_self, Nat.zero_mul]
  have hc := pb_cl_lt (k := k) hx
  constructor
  · intro h
    have h3 := congrArg pb_u h
    rw [pb_u_of hc] at h3
    unfold pb_cl
    rw [key.mp h3]
  · intro h
    have h4 : a / 2 ^ (32 - k) = b / 2 ^ (32 - k) := Nat.eq_of_mul_eq_mul_right hp h
    rw [key.mpr h4]; rfl
theorem pb_shl {a : Nat} (k : Nat) (hk : k < 64) : lN a <<< ((nI k).toInt64 &&& 63) = lN (a * 2 ^ k) := wb_shl a hk
theorem pb_shr {a : Nat} (k : Nat) (hk : k < 64) (h : a < 2 ^ 62) : lN a >>> ((nI k).toInt64 &&& 63) = lN (a / 2 ^ k) := by
  refine pf_shr (d := k) ?_ h
  have : ∀ k, k < 64 → (((nI k).toInt64 &&& 63).toBitVec.smod 64).toNat = k := by decide +kernel
  exact this k hk
/-- a prefix as a number, a route's key -/
abbrev pb_pre (a k : Nat) : Nat := 64 * a + k
theorem pb_preOf {a k : Nat} (ha : a < 2 ^ 32) (hk : k < 2 ^ 31) : (((nI a).toInt64 &&& 4294967295) <<< ((6 : Int32).toInt64 &&& 63)) + (nI k).toInt64 = lN (pb_pre a k) := by
  rw [pb_uns ha, show (6 : Int32) = nI 6 from rfl, pb_shl 6 (by decide), nI_l hk, lN_add, Nat.mul_comm a (2 ^ 6)]
theorem pb_keyOf {q o : Nat} (ho : o < 2 ^ 31) : (lN q <<< ((3 : Int32).toInt64 &&& 63)) + (nI o).toInt64 = lN (q * 8 + o) := by
  rw [show (3 : Int32) = nI 3 from rfl, pb_shl 3 (by decide), nI_l ho, lN_add]
theorem pb_adrOf {q : Nat} (h : q < 2 ^ 62) : (lN q >>> ((6 : Int32).toInt64 &&& 63)).toInt32 = nI (q / 64) := by
  rw [show (6 : Int32) = nI 6 from rfl, pb_shr 6 (by decide) h, lN_i]
theorem pb_lenOf (q : Nat) : (lN q &&& 63).toInt32 = nI (q % 64) := by
  rw [show (63 : Int64) = lN (2 ^ 6 - 1) from rfl, fb_maskL, lN_i]
theorem pb_orgOf (q : Nat) : (lN q &&& 7).toInt32 = nI (q % 8) := by
  rw [show (7 : Int64) = lN (2 ^ 3 - 1) from rfl, fb_maskL, lN_i]
-- the place of a key
def pb_so (T : List pb_Rt) : Prop := T.Pairwise (fun a b => a.1 < b.1)
def pb_lb (T : List pb_Rt) (k : Nat) : Nat := T.countP (fun r => decide (r.1 < k))
theorem pb_lb_le (T : List pb_Rt) (k : Nat) : pb_lb T k ≤ T.length := List.countP_le_length
theorem pb_lb_iff {T : List pb_Rt} (h : pb_so T) {k : Nat} : ∀ {j : Nat} {r : pb_Rt}, T[j]? = some r → (r.1 < k ↔ j < pb_lb T k) := by
  induction T with
  | nil => intro j r hj; simp at hj
  | cons t T ih =>
    intro j r hj
    obtain ⟨h1, h2⟩ := List.pairwise_cons.mp h
    have hz : ¬ t.1 < k → pb_lb T k = 0 := fun hn => List.countP_eq_zero.mpr fun b hb => by
      have := h1 b hb
      simp only [decide_eq_true_eq]
      omega
    have e : pb_lb (t :: T) k = pb_lb T k + if t.1 < k then 1 else 0 := by
      unfold pb_lb
      rw [List.countP_cons]
      simp
    rw [e]
    cases j with
    | zero =>
      rw [List.getElem?_cons_zero] at hj
      cases hj
      by_cases hn : t.1 < k
      · simp [hn]
      · simp [hn, hz hn]
    | succ j =>
      rw [List.getElem?_cons_succ] at hj
      have i1 := ih h2 hj
      by_cases hn : t.1 < k
      · simp only [hn, if_true]
        rw [i1]; omega
      · have := h1 r (List.mem_of_getElem? hj)
        simp only [hn, if_false, hz hn]
        omega
/-- the class's rows hold the routes -/
def pb_rX (T : List pb_Rt) (cap : Nat) (Kf : Nat → Int64) (Cf : Nat → Int32) (Hf : Nat → Int64) : Prop := (T.length ≤ cap ∧ cap < 2 ^ 30 ∧ 0 < cap) ∧ ∀ (j : Nat) (r : pb_Rt), T[j]? = some r → Kf j = lN r.1 ∧ Cf j = r.2.1 ∧ Hf j = r.2.2
/-- the reference's rows hold the routes -/
def pb_rM (T : List pb_Rt) (Af Lf Of Cf : Nat → Int32) (Hf : Nat → Int64) : Prop := T.length ≤ 1000 ∧ ∀ (j : Nat) (r : pb_Rt), T[j]? = some r → Af j = nI (r.1 / 512) ∧ Lf j = nI (r.1 / 8 % 64) ∧ Of j = nI (r.1 % 8) ∧ Cf j = r.2.1 ∧ Hf j = r.2.2
/-- a good route: its prefix is one, it has a hop -/
def pb_good (r : pb_Rt) : Prop := r.1 / 512 < 2 ^ 32 ∧ r.1 / 8 % 64 ≤ 32 ∧ (r.1 / 512) % 2 ^ (32 - r.1 / 8 % 64) = 0 ∧ r.2.2 ≠ 0
def pb_ok (T : List pb_Rt) : Prop := pb_so T ∧ ∀ r ∈ T, pb_good r
end PB1
end
