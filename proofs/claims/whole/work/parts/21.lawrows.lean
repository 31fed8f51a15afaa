/-! THE LAW's own rows: the state between two calls, calls over its parts. -/
section PB18
abbrev pb_wL (cI cJ : ClassId) (h0 k1 c1 h1 cap : Nat) (Kf : Nat → Int64) (Cf : Nat → Int32) (Hf : Nat → Int64) (n : Int32) (m0 a1 l1 o1 c2 h2 : Nat) (Af Lf Og Cg : Nat → Int32) (Hg : Nat → Int64) (co n2 : Int32) (ob : Nat) (Ou : Nat → Int64) : va_W := [(h0, .inr (0, [.ref k1, .ref c1, .ref h1, .int n])), (k1, .inl (cJ, cap, .inr (.inl Kf))), (c1, .inl (cI, cap, .inl Cf)), (h1, .inl (cJ, cap, .inr (.inl Hf))), (m0, .inr (1, [.int co, .int n2, .ref a1, .ref l1, .ref o1, .ref c2, .ref h2])), (a1, .inl (cI, 1001, .inl Af)), (l1, .inl (cI, 1001, .inl Lf)), (o1, .inl (cI, 1001, .inl Og)), (c2, .inl (cI, 1001, .inl Cg)), (h2, .inl (cJ, 1001, .inr (.inl Hg))), (ob, .inl (cJ, 1, .inr (.inl Ou)))]
/-- the class's object holds the routes TX, the reference's TM, its code is co, the long[1] holds a z with P z -/
def pb_LI (D : va_G) (cI cJ : ClassId) (A : Nat → Prop) (h0 m0 a1 l1 o1 c2 h2 ob : Nat) (TX TM : List pb_Rt) (co : Int32) (P : Int64 → Prop) (H : Heap) : Prop := ∃ (k1 c1 h1 cap : Nat) (Kf : Nat → Int64) (Cf : Nat → Int32) (Hf : Nat → Int64) (Af Lf Og Cg : Nat → Int32) (Hg Ou : Nat → Int64), (pb_rX TX cap Kf Cf Hf ∧ cap ≤ 1024) ∧ pb_rM TM Af Lf Og Cg Hg ∧ P (Ou 0) ∧ va_P D vwCl (pb_wL cI cJ h0 k1 c1 h1 cap Kf Cf Hf (nI TX.length) m0 a1 l1 o1 c2 h2 Af Lf Og Cg Hg co (nI TM.length) ob Ou) H ∧ va_D A (pb_wL cI cJ h0 k1 c1 h1 cap Kf Cf Hf (nI TX.length) m0 a1 l1 o1 c2 h2 Af Lf Og Cg Hg co (nI TM.length) ob Ou)
theorem pb_LI_tt {D : va_G} {cI cJ : ClassId} {A : Nat → Prop} {h0 m0 a1 l1 o1 c2 h2 ob : Nat} {TX TM : List pb_Rt} {co : Int32} {P : Int64 → Prop} {H : Heap} (h : pb_LI D cI cJ A h0 m0 a1 l1 o1 c2 h2 ob TX TM co P H) : pb_LI D cI cJ A h0 m0 a1 l1 o1 c2 h2 ob TX TM co (fun _ => True) H := by
  obtain ⟨k1, c1, h1, cap, Kf, Cf, Hf, Af, Lf, Og, Cg, Hg, Ou, q1, q2, q3, q4⟩ := h
  exact ⟨k1, c1, h1, cap, Kf, Cf, Hf, Af, Lf, Og, Cg, Hg, Ou, q1, q2, trivial, q4⟩
section
variable {p : Program} {l : Launch} {e : Env} {R : Room} {s : State} {m : MethodId} {args : Array Value} {below : List Frame} {meth : Method} {c : Code} {H : Heap} {locs : List Loc} {cells slots : Nat} {Q : State → Prop}
variable {pc : Nat} {ls : Array Slot} {rest st0 : List Value} {cc bytes : ByteArray} {nL maxL index n fr lo : Nat} {own : String} {y : MethodName} {ret : Option FieldType} {ws Ts : List Cond} {As : List Value} {v : Value} {D : va_G} {cI cJ : ClassId} {lv : List (Nat × Value)} {A : Nat → Prop}
variable {h0 m0 a1 l1 o1 c2 h2 ob : Nat} {T TX TM T' : List pb_Rt} {co co9 r : Int32} {P P' : Int64 → Prop}
theorem pb_lawS {hh : List (Nat × Nat × Nat × Nat)} (S : CallFix p m c cc nL s args Ts own) (hok : pb_wrapOk l y ws As T T' r P') (cw : vx_CSW R s args own index y bytes maxL ret hh ws pb_RW 3 3072 n) (hI : pb_LI D cI cJ A h0 m0 a1 l1 o1 c2 h2 ob T TM co P H) (hK : va_K D vwCl (pb_ty cI cJ) s) (hE : ∀ U : State, U.heap = H → s.WarmedH U.vm → pb_E U) (hS : va_S A s.heap H locs) (hA : ∀ q : Nat, s.heap.size ≤ q → A q)
    (hst : st0 = (.ref h0 :: (As ++ [.ref ob])).reverse ++ rest) (hn : (Value.ref h0 :: (As ++ [.ref ob])).length = n) (hl : lv_has ls nL lv) (hW : (rest.map fun v => v.category).sum ≤ 8) (hdg : decode cc pc = .ok (.invokestatic index, 3)) (hf : cells + 3 ≤ R.cells ∧ slots + 3072 ≤ R.slots)
    (kk : ∀ (H1 : Heap) (locs1 : List Loc), pb_LI D cI cJ A h0 m0 a1 l1 o1 c2 h2 ob T' TM co P' H1 → va_S A s.heap H1 locs1 → W p l e R s m args below meth c H1 locs1 (cells + 3) (slots + 3072) Q (F0 m (pc + 3) ls (.int r :: rest))) : W p l e R s m args below meth c H locs cells slots Q (F0 m pc ls st0) := by
  obtain ⟨k1, c1, h1, cap, Kf, Cf, Hf, Af, Lf, Og, Cg, Hg, Ou, hX, hM, hPo, hP, hD⟩ := hI
  refine pb_callSj S (hok D cI cJ h0 k1 c1 h1 cap Kf Cf Hf ob Ou H.size hX) cw hP hK hE hD hS hA [0, 1, 2, 3, 10] [4, 5, 6, 7, 8, 9] (wr := pb_wM cI cJ m0 a1 l1 o1 c2 h2 Af Lf Og Cg Hg co (nI TM.length)) rfl rfl rfl (by decide) (by decide) (by decide) hst hn hl hW hdg hf (fun t H1 locs1 hB hj hS1 => ?_)
  obtain ⟨k9, c9, h9, cap9, K9, C9, H9, O9, hX9, hP9, hB9⟩ := hB
  obtain ⟨hP1, hD1⟩ := hj _ hB9
  exact kk H1 locs1 ⟨k9, c9, h9, cap9, K9, C9, H9, Af, Lf, Og, Cg, Hg, O9, hX9, hM, hP9, hP1.sub [6, 7, 8, 9, 0, 1, 2, 3, 4, 5, 10] rfl, hD1.sub [6, 7, 8, 9, 0, 1, 2, 3, 4, 5, 10] (by decide) rfl⟩ hS1
theorem pb_lawM (S : CallFix p m c cc nL s args Ts own) (hok : pb_refOk l y ws fr lo As T T' v co9) (hlen : T'.length ≤ 1000) (cw : CallW R s args own RX1 index y bytes maxL ret ws ({ frames := fr, cells := 0, slots := 0, locals := lo } : Room) 0 0 n) (hI : pb_LI D cI cJ A h0 m0 a1 l1 o1 c2 h2 ob TX T co P H) (hK : va_K D vwCl (pb_ty cI cJ) s) (hS : va_S A s.heap H locs) (hA : ∀ q : Nat, s.heap.size ≤ q → A q)
    (hst : st0 = As.reverse ++ .ref m0 :: rest) (hn : As.length = n) (hl : lv_has ls nL lv) (hW : (rest.map fun v => v.category).sum ≤ 8) (hdg : decode cc pc = .ok (.invokevirtual index, 3)) (hf : cells ≤ R.cells ∧ slots ≤ R.slots)
    (kk : ∀ (H1 : Heap) (locs1 : List Loc), pb_LI D cI cJ A h0 m0 a1 l1 o1 c2 h2 ob TX T' co9 P H1 → va_S A s.heap H1 locs1 → W p l e R s m args below meth c H1 locs1 cells slots Q (F0 m (pc + 3) ls (v :: rest))) : W p l e R s m args below meth c H locs cells slots Q (F0 m pc ls st0) := by
  obtain ⟨k1, c1, h1, cap, Kf, Cf, Hf, Af, Lf, Og, Cg, Hg, Ou, hX, hM, hPo, hP, hD⟩ := hI
  refine pb_callWj S (hok D cI cJ m0 a1 l1 o1 c2 h2 Af Lf Og Cg Hg co H.size hM) cw hP hK hD hS hA [4, 5, 6, 7, 8, 9] [0, 1, 2, 3, 10] (wr := pb_wXo cI cJ h0 k1 c1 h1 cap Kf Cf Hf (nI TX.length) ob Ou) rfl rfl rfl (by decide) (by decide) (by decide) (va_recv hK hP (ci := 1) (q0 := 4) rfl rfl) hst hn hl hW hdg hf (fun t H1 locs1 hB hj hS1 => ?_)
  obtain ⟨A9, L9, O9, C9, H9, hM9, hB9⟩ := hB
  obtain ⟨hP1, hD1⟩ := hj _ hB9
  exact kk H1 locs1 ⟨k1, c1, h1, cap, Kf, Cf, Hf, A9, L9, O9, C9, H9, Ou, hX, ⟨hlen, hM9⟩, hPo, hP1.sub [0, 1, 2, 3, 5, 6, 7, 8, 9, 10, 4] rfl, hD1.sub [0, 1, 2, 3, 5, 6, 7, 8, 9, 10, 4] (by decide) rfl⟩ hS1
theorem pb_lawR (S : CallFix p m c cc nL s args Ts own) (hok : pb_rdOk l y ws fr lo As T v) (cw : CallW R s args own RX0 index y bytes maxL ret ws (pb_R fr lo) 0 0 n) (hI : pb_LI D cI cJ A h0 m0 a1 l1 o1 c2 h2 ob T TM co P H) (hK : va_K D vwCl (pb_ty cI cJ) s)
    (hst : st0 = As.reverse ++ .ref h0 :: rest) (hn : As.length = n) (hl : lv_has ls nL lv) (hW : (rest.map fun v => v.category).sum ≤ 8) (hdg : decode cc pc = .ok (.invokevirtual index, 3)) (hf : cells ≤ R.cells ∧ slots ≤ R.slots)
    (kk : W p l e R s m args below meth c H locs cells slots Q (F0 m (pc + 3) ls (v :: rest))) : W p l e R s m args below meth c H locs cells slots Q (F0 m pc ls st0) := by
  obtain ⟨k1, c1, h1, cap, Kf, Cf, Hf, Af, Lf, Og, Cg, Hg, Ou, hX, hM, hPo, hP, hD⟩ := hI
  exact pb_callV S (hok D cI cJ h0 k1 c1 h1 cap Kf Cf Hf hX.1) cw (hP.sub [0, 1, 2, 3] rfl) hK (va_recv hK hP (ci := 0) (q0 := 0) rfl rfl) hst hn hl hW hdg hf kk
theorem pb_lawT (S : CallFix p m c cc nL s args Ts own) (cw : CallW R s args own RX1 index yX1_thrown bytes maxL ret wsX1_thrown (pb_R 0 0) 0 0 0) (hI : pb_LI D cI cJ A h0 m0 a1 l1 o1 c2 h2 ob TX TM co P H) (hK : va_K D vwCl (pb_ty cI cJ) s)
    (hl : lv_has ls nL lv) (hW : (rest.map fun v => v.category).sum ≤ 8) (hdg : decode cc pc = .ok (.invokevirtual index, 3)) (hf : cells ≤ R.cells ∧ slots ≤ R.slots)
    (kk : W p l e R s m args below meth c H locs cells slots Q (F0 m (pc + 3) ls (.int co :: rest))) : W p l e R s m args below meth c H locs cells slots Q (F0 m pc ls (.ref m0 :: rest)) := by
  obtain ⟨k1, c1, h1, cap, Kf, Cf, Hf, Af, Lf, Og, Cg, Hg, Ou, hX, hM, hPo, hP, hD⟩ := hI
  exact pb_callV (As := []) S (c_X1_thrown (nI TM.length)) cw (hP.sub (ws' := pb_wM cI cJ m0 a1 l1 o1 c2 h2 Af Lf Og Cg Hg co (nI TM.length)) [4, 5, 6, 7, 8, 9] rfl) hK (va_recv hK hP (ci := 1) (q0 := 4) rfl rfl) rfl rfl hl hW hdg hf kk
theorem pb_lawO (hx : p.tables.exec = Jvm.exec) (hb : c.code = cc) (hI : pb_LI D cI cJ A h0 m0 a1 l1 o1 c2 h2 ob TX TM co P H) (hK : va_K D vwCl (pb_ty cI cJ) s) (hdg : decode cc pc = .ok (.laload, 1))
    (kk : ∀ z : Int64, P z → W p l e R s m args below meth c H locs cells slots Q (F0 m (pc + 1) ls (.long z :: rest))) : W p l e R s m args below meth c H locs cells slots Q (F0 m pc ls (.int 0 :: .ref ob :: rest)) := by
  obtain ⟨k1, c1, h1, cap, Kf, Cf, Hf, Af, Lf, Og, Cg, Hg, Ou, hX, hM, hPo, hP, hD⟩ := hI
  exact pb_lald hx hb hK hP 10 0 rfl rfl 0 rfl (by decide) hdg (kk _ hPo)
theorem pb_sld (hx : p.tables.exec = Jvm.exec) (hb : c.code = cc) {b L : Nat} {xs : Nat → Int32} (hX : va_X b L xs s s.heap) (hbl : b < s.heap.size) (hbA : ¬ A b) (hS : va_S A s.heap H locs) (hL : L ≤ 3584) {x : Int32} (j : Nat) (hx9 : x = nI j) (hj : j < L) (hdg : decode cc pc = .ok (.iaload, 1))
    (kk : W p l e R s m args below meth c H locs cells slots Q (F0 m (pc + 1) ls (.int (xs j) :: rest))) : W p l e R s m args below meth c H locs cells slots Q (F0 m pc ls (.int x :: .ref b :: rest)) := by
  subst hx9
  refine va_sld hx hb hX hbl hbA hS (vp_in_nI hj (by omega)) hdg ?_
  rw [nI_clamp (by omega)]
  exact kk
end
theorem pb_lend {L j : Nat} (hL : L ≤ 3584) (hj : 7 * j ≤ L) : (nI L - 7 < nI (7 * j)) ↔ L < 7 * j + 7 := by
  rcases Nat.lt_or_ge L 7 with h | h
  · have h0 : j = 0 := by omega
    subst h0
    have : ∀ L, L < 7 → nI L - 7 < nI (7 * 0) := by decide
    exact ⟨fun _ => by omega, fun _ => this L h⟩
  · have e : nI L - 7 = nI (L - 7) := by
      have e2 : nI L = nI (L - 7) + 7 := by
        rw [show (7 : Int32) = nI 7 from rfl, nI_add, Nat.sub_add_cancel h]
      rw [e2, Int32.add_sub_cancel]
    rw [e, nI_ltI (by omega) (by omega)]
    omega
theorem pb_and15 (x : Int32) : ∃ w : Nat, w < 16 ∧ x &&& 15 = nI w := by
  obtain ⟨n, h, rfl⟩ := wb_of32 x
  refine ⟨n % 2 ^ 4, Nat.mod_lt _ (by decide), ?_⟩
  rw [show (15 : Int32) = nI (2 ^ 4 - 1) from rfl, nx_and, Nat.and_two_pow_sub_one_eq_mod]
end PB18
