/-! THE LAW'S FOURTEEN CASES (laid by wip/gen/p22.py) -/
section PB19
/-- what stays the same through the law's run -/
def pb_LC (p : Program) (l : Launch) (s : State) (m : MethodId) (args : Array Value) (c : Code) (D : va_G) (cI cJ : ClassId) (b L : Nat) (xs : Nat → Int32) : Prop :=
  p.tables.exec = Jvm.exec ∧ c.code = cL_law ∧ c.maxLocals = 8 ∧ s.vm.findClass RL = some m.cls ∧ (∀ w ∈ wsL_law, w.before args s = true) ∧ va_X b L xs s s.heap ∧ b < s.heap.size ∧ va_K D vwCl (pb_ty cI cJ) s ∧ (∀ (H : Heap) (locs : List Loc), va_S (fun q : Nat => s.heap.size ≤ q) s.heap H locs → ∀ U : State, U.heap = H → s.WarmedH U.vm → pb_E U) ∧ l.stackTraces = false ∧ L ≤ 3584
section
variable {p : Program} {l : Launch} {e : Env} {s : State} {m : MethodId} {args : Array Value} {below : List Frame} {meth : Method} {c : Code} {Q : State → Prop} {D : va_G} {cI cJ : ClassId} {b L : Nat} {xs : Nat → Int32} {h0 m0 a1 l1 o1 c2 h2 ob : Nat} {T : List pb_Rt} {co : Int32} {H : Heap} {locs : List Loc} {ls : Array Slot} {j : Nat}
set_option maxHeartbeats 4000000 in
set_option maxRecDepth 100000 in
theorem law_w0 (C0 : pb_LC p l s m args c D cI cJ b L xs) (hT : pb_ok T) (hTl : T.length ≤ j) (hj : 7 * j + 7 ≤ L) (hI : pb_LI D cI cJ (fun q : Nat => s.heap.size ≤ q) h0 m0 a1 l1 o1 c2 h2 ob T T co (fun _ => True) H) (hS : va_S (fun q : Nat => s.heap.size ≤ q) s.heap H locs) (hl : lv_has ls 8 [(4, .int (nI (7 * j))), (0, .ref b), (1, .ref h0), (2, .ref m0), (3, .ref ob)])
    (kk : ∀ (T' : List pb_Rt) (co' : Int32) (H1 : Heap) (locs1 : List Loc) (ls1 : Array Slot), pb_ok T' → T'.length ≤ j + 1 → pb_LI D cI cJ (fun q : Nat => s.heap.size ≤ q) h0 m0 a1 l1 o1 c2 h2 ob T' T' co' (fun _ => True) H1 → va_S (fun q : Nat => s.heap.size ≤ q) s.heap H1 locs1 → lv_has ls1 8 [(4, .int (nI (7 * j))), (0, .ref b), (1, .ref h0), (2, .ref m0), (3, .ref ob)] → W p l e room_1 s m args below meth c H1 locs1 (16 + 3 * (j + 1)) (6000 + 3072 * (j + 1)) Q (F0 m 871 ls1 [])) : W p l e room_1 s m args below meth c H locs (16 + 3 * j) (6000 + 3072 * j) Q (F0 m 112 ls []) := by
  obtain ⟨hx, hb, hml, hown, hts, hX, hbl, hK, hE, hst0, hL⟩ := C0
  have hA : ∀ q : Nat, s.heap.size ≤ q → (fun q : Nat => s.heap.size ≤ q) q := fun _ h => h
  have hbA : ¬ (fun q : Nat => s.heap.size ≤ q) b := Nat.not_le.mpr hbl
  refine lv_aload_n hx hb dL_law_112 rfl (lv_at hl 2 rfl) ?_
  refine lv_aload_n hx hb dL_law_113 rfl (lv_at hl 1 rfl) ?_
  refine lv_iload hx hb dL_law_114 (lv_at hl 0 rfl) ?_
  refine lv_iconst (v := 1) hx hb dL_law_116 (by decide) ?_
  refine lv_iadd hx hb dL_law_117 ?_
  refine pb_sld hx hb hX hbl hbA hS hL (7 * j + 1) (by rw [show (1 : Int32) = nI 1 from rfl, nI_add]) (by omega) dL_law_118 ?_
  refine lv_aload_n hx hb dL_law_119 rfl (lv_at hl 1 rfl) ?_
  refine lv_iload hx hb dL_law_120 (lv_at hl 0 rfl) ?_
  refine lv_iconst (v := 2) hx hb dL_law_122 (by decide) ?_
  refine lv_iadd hx hb dL_law_123 ?_
  refine pb_sld hx hb hX hbl hbA hS hL (7 * j + 2) (by rw [show (2 : Int32) = nI 2 from rfl, nI_add]) (by omega) dL_law_124 ?_
  refine lv_aload_n hx hb dL_law_125 rfl (lv_at hl 1 rfl) ?_
  refine lv_iload hx hb dL_law_126 (lv_at hl 0 rfl) ?_
  refine lv_iconst (v := 3) hx hb dL_law_128 (by decide) ?_
  refine lv_iadd hx hb dL_law_129 ?_
  refine pb_sld hx hb hX hbl hbA hS hL (7 * j + 3) (by rw [show (3 : Int32) = nI 3 from rfl, nI_add]) (by omega) dL_law_130 ?_
  refine lv_aload_n hx hb dL_law_131 rfl (lv_at hl 1 rfl) ?_
  refine lv_iload hx hb dL_law_132 (lv_at hl 0 rfl) ?_
  refine lv_iconst (v := 4) hx hb dL_law_134 (by decide) ?_
  refine lv_iadd hx hb dL_law_135 ?_
  refine pb_sld hx hb hX hbl hbA hS hL (7 * j + 4) (by rw [show (4 : Int32) = nI 4 from rfl, nI_add]) (by omega) dL_law_136 ?_
  refine lv_aload_n hx hb dL_law_137 rfl (lv_at hl 1 rfl) ?_
  refine lv_iload hx hb dL_law_138 (lv_at hl 0 rfl) ?_
  refine lv_iconst (v := 5) hx hb dL_law_140 (by decide) ?_
  refine lv_iadd hx hb dL_law_141 ?_
  refine pb_sld hx hb hX hbl hbA hS hL (7 * j + 5) (by rw [show (5 : Int32) = nI 5 from rfl, nI_add]) (by omega) dL_law_142 ?_
  refine lv_i2l hx hb dL_law_143 rfl ?_
  refine lv_bipush (v := 32) hx hb dL_law_144 (by decide) ?_
  refine lv_lshl hx hb dL_law_146 rfl ?_
  refine lv_aload_n hx hb dL_law_147 rfl (lv_at hl 1 rfl) ?_
  refine lv_iload hx hb dL_law_148 (lv_at hl 0 rfl) ?_
  refine lv_bipush (v := 6) hx hb dL_law_150 (by decide) ?_
  refine lv_iadd hx hb dL_law_152 ?_
  refine pb_sld hx hb hX hbl hbA hS hL (7 * j + 6) (by rw [show (6 : Int32) = nI 6 from rfl, nI_add]) (by omega) dL_law_153 ?_
  refine lv_i2l hx hb dL_law_154 rfl ?_
  refine lv_ldc2 (v := 4294967295) hx hb hown (hts (.constantLong RL 47 4294967295) (by decide +kernel)) dL_law_155 ?_
  refine lv_land hx hb dL_law_158 ?_
  refine lv_lor hx hb dL_law_159 ?_
  refine lv_aload_n hx hb dL_law_160 rfl (lv_at hl 4 rfl) ?_
  obtain ⟨r, T9, P9, bv, hT9, hlen9, himp, hWr, hRf⟩ := pt_put hst0 hT (by omega) (xs (7 * j + 1)) (xs (7 * j + 2)) (xs (7 * j + 3)) (xs (7 * j + 4)) ((((xs (7 * j + 5)) : Int32).toInt64 <<< ((32 : Int32).toInt64 &&& 63)) ||| (((xs (7 * j + 6)) : Int32).toInt64 &&& 4294967295))
  refine pb_lawS (As := [.int (xs (7 * j + 1)), .int (xs (7 * j + 2)), .int (xs (7 * j + 3)), .int (xs (7 * j + 4)), .long ((((xs (7 * j + 5)) : Int32).toInt64 <<< ((32 : Int32).toInt64 &&& 63)) ||| (((xs (7 * j + 6)) : Int32).toInt64 &&& 4294967295))]) (rest := []) ⟨hx, hb, hml, hown, hts⟩ hWr (vx_cwSW 7 hts gL_law_L_put rfl rfl rfl (by decide +kernel) ⟨Nat.le_of_ble_eq_true rfl, Nat.le_of_ble_eq_true rfl⟩) hI hK (hE _ _ hS) hS hA rfl rfl hl (Nat.le_of_ble_eq_true rfl) dL_law_161 ⟨by show _ ≤ 601024; omega, by show _ ≤ 7293034; omega⟩ (fun H locs hI hS => ?_)
  refine lv_istore (lv' := [(5, .int r), (4, .int (nI (7 * j))), (0, .ref b), (1, .ref h0), (2, .ref m0), (3, .ref ob)]) hx hb dL_law_164 hl (by decide) rfl (fun ls hl => ?_)
  refine lv_aload_n hx hb dL_law_166 rfl (lv_at hl 4 rfl) ?_
  refine lv_aload_n hx hb dL_law_167 rfl (lv_at hl 2 rfl) ?_
  refine lv_iload hx hb dL_law_168 (lv_at hl 1 rfl) ?_
  refine lv_iconst (v := 1) hx hb dL_law_170 (by decide) ?_
  refine lv_iadd hx hb dL_law_171 ?_
  refine pb_sld hx hb hX hbl hbA hS hL (7 * j + 1) (by rw [show (1 : Int32) = nI 1 from rfl, nI_add]) (by omega) dL_law_172 ?_
  refine lv_aload_n hx hb dL_law_173 rfl (lv_at hl 2 rfl) ?_
  refine lv_iload hx hb dL_law_174 (lv_at hl 1 rfl) ?_
  refine lv_iconst (v := 2) hx hb dL_law_176 (by decide) ?_
  refine lv_iadd hx hb dL_law_177 ?_
  refine pb_sld hx hb hX hbl hbA hS hL (7 * j + 2) (by rw [show (2 : Int32) = nI 2 from rfl, nI_add]) (by omega) dL_law_178 ?_
  refine lv_aload_n hx hb dL_law_179 rfl (lv_at hl 2 rfl) ?_
  refine lv_iload hx hb dL_law_180 (lv_at hl 1 rfl) ?_
  refine lv_iconst (v := 3) hx hb dL_law_182 (by decide) ?_
  refine lv_iadd hx hb dL_law_183 ?_
  refine pb_sld hx hb hX hbl hbA hS hL (7 * j + 3) (by rw [show (3 : Int32) = nI 3 from rfl, nI_add]) (by omega) dL_law_184 ?_
  refine lv_aload_n hx hb dL_law_185 rfl (lv_at hl 2 rfl) ?_
  refine lv_iload hx hb dL_law_186 (lv_at hl 1 rfl) ?_
  refine lv_iconst (v := 4) hx hb dL_law_188 (by decide) ?_
  refine lv_iadd hx hb dL_law_189 ?_
  refine pb_sld hx hb hX hbl hbA hS hL (7 * j + 4) (by rw [show (4 : Int32) = nI 4 from rfl, nI_add]) (by omega) dL_law_190 ?_
  refine lv_aload_n hx hb dL_law_191 rfl (lv_at hl 2 rfl) ?_
  refine lv_iload hx hb dL_law_192 (lv_at hl 1 rfl) ?_
  refine lv_iconst (v := 5) hx hb dL_law_194 (by decide) ?_
  refine lv_iadd hx hb dL_law_195 ?_
  refine pb_sld hx hb hX hbl hbA hS hL (7 * j + 5) (by rw [show (5 : Int32) = nI 5 from rfl, nI_add]) (by omega) dL_law_196 ?_
  refine lv_i2l hx hb dL_law_197 rfl ?_
  refine lv_bipush (v := 32) hx hb dL_law_198 (by decide) ?_
  refine lv_lshl hx hb dL_law_200 rfl ?_
  refine lv_aload_n hx hb dL_law_201 rfl (lv_at hl 2 rfl) ?_
  refine lv_iload hx hb dL_law_202 (lv_at hl 1 rfl) ?_
  refine lv_bipush (v := 6) hx hb dL_law_204 (by decide) ?_
  refine lv_iadd hx hb dL_law_206 ?_
  refine pb_sld hx hb hX hbl hbA hS hL (7 * j + 6) (by rw [show (6 : Int32) = nI 6 from rfl, nI_add]) (by omega) dL_law_207 ?_
  refine lv_i2l hx hb dL_law_208 rfl ?_
  refine lv_ldc2 (v := 4294967295) hx hb hown (hts (.constantLong RL 47 4294967295) (by decide +kernel)) dL_law_209 ?_
  refine lv_land hx hb dL_law_212 ?_
  refine lv_lor hx hb dL_law_213 ?_
  refine pb_lawM (As := [.int (xs (7 * j + 1)), .int (xs (7 * j + 2)), .int (xs (7 * j + 3)), .int (xs (7 * j + 4)), .long ((((xs (7 * j + 5)) : Int32).toInt64 <<< ((32 : Int32).toInt64 &&& 63)) ||| (((xs (7 * j + 6)) : Int32).toInt64 &&& 4294967295))]) (rest := []) ⟨hx, hb, hml, hown, hts⟩ hRf (by omega) (cwV 5 hts gL_law_X1_put rfl rfl rfl (by decide +kernel) ⟨Nat.le_of_ble_eq_true rfl, Nat.le_of_ble_eq_true rfl⟩) hI hK hS hA rfl rfl hl (Nat.le_of_ble_eq_true rfl) dL_law_214 ⟨by show _ ≤ 601024; omega, by show _ ≤ 7293034; omega⟩ (fun H locs hI hS => ?_)
  refine lv_istore (lv' := [(6, .int bv), (5, .int r), (4, .int (nI (7 * j))), (0, .ref b), (1, .ref h0), (2, .ref m0), (3, .ref ob)]) hx hb dL_law_217 hl (by decide) rfl (fun ls hl => ?_)
  refine lv_aload_n hx hb dL_law_219 rfl (lv_at hl 5 rfl) ?_
  refine pb_lawT (rest := []) ⟨hx, hb, hml, hown, hts⟩ (cwV 0 hts gL_law_X1_thrown rfl rfl rfl (by decide +kernel) ⟨Nat.le_of_ble_eq_true rfl, Nat.le_of_ble_eq_true rfl⟩) hI hK hl (Nat.le_of_ble_eq_true rfl) dL_law_220 ⟨by show _ ≤ 601024; omega, by show _ ≤ 7293034; omega⟩ ?_
  refine lv_iload hx hb dL_law_223 (lv_at hl 1 rfl) ?_
  refine lv_icmp_eq (tgt := 230) hx hb dL_law_225 (by decide) (fun q225 => ?_) (fun q225 => absurd (rfl) q225)
  refine lv_iload hx hb dL_law_230 (lv_at hl 1 rfl) ?_
  refine lv_if_ne (tgt := 247) hx hb dL_law_232 (by decide) (fun q232 => ?_) (fun q232 => ?_)
  · refine lv_goto (tgt := 871) hx hb dL_law_247 (by decide) ?_
    refine W.widen (k := 16 + 3 * (j + 1)) (n := 6000 + 3072 * (j + 1)) (by omega) (by omega) ?_
    exact kk _ _ _ _ _ hT9 (by omega) (pb_LI_tt hI) hS (lv_sub hl [2, 3, 4, 5, 6] rfl)
  · refine lv_aload_n hx hb dL_law_235 rfl (lv_at hl 6 rfl) ?_
    refine lv_iconst (v := 0) hx hb dL_law_236 (by decide) ?_
    refine pb_lawO hx hb hI hK dL_law_237 (fun z hz => ?_)
    refine lv_iload hx hb dL_law_238 (lv_at hl 0 rfl) ?_
    refine lv_i2l hx hb dL_law_240 rfl ?_
    refine W.lcmp hx hb dL_law_241 ?_
    refine lv_if_eq (tgt := 247) hx hb dL_law_242 (by decide) (fun q242 => ?_) (fun q242 => absurd ((lg_cmp_eq _ _).mpr (himp q232 z hz)) q242)
    have q242 := (lg_cmp_eq _ _).mp q242
    refine lv_goto (tgt := 871) hx hb dL_law_247 (by decide) ?_
    refine W.widen (k := 16 + 3 * (j + 1)) (n := 6000 + 3072 * (j + 1)) (by omega) (by omega) ?_
    exact kk _ _ _ _ _ hT9 (by omega) (pb_LI_tt hI) hS (lv_sub hl [2, 3, 4, 5, 6] rfl)

set_option maxHeartbeats 4000000 in
set_option maxRecDepth 100000 in
theorem law_w1 (C0 : pb_LC p l s m args c D cI cJ b L xs) (hT : pb_ok T) (hTl : T.length ≤ j) (hj : 7 * j + 7 ≤ L) (hI : pb_LI D cI cJ (fun q : Nat => s.heap.size ≤ q) h0 m0 a1 l1 o1 c2 h2 ob T T co (fun _ => True) H) (hS : va_S (fun q : Nat => s.heap.size ≤ q) s.heap H locs) (hl : lv_has ls 8 [(4, .int (nI (7 * j))), (0, .ref b), (1, .ref h0), (2, .ref m0), (3, .ref ob)])
    (kk : ∀ (T' : List pb_Rt) (co' : Int32) (H1 : Heap) (locs1 : List Loc) (ls1 : Array Slot), pb_ok T' → T'.length ≤ j + 1 → pb_LI D cI cJ (fun q : Nat => s.heap.size ≤ q) h0 m0 a1 l1 o1 c2 h2 ob T' T' co' (fun _ => True) H1 → va_S (fun q : Nat => s.heap.size ≤ q) s.heap H1 locs1 → lv_has ls1 8 [(4, .int (nI (7 * j))), (0, .ref b), (1, .ref h0), (2, .ref m0), (3, .ref ob)] → W p l e room_1 s m args below meth c H1 locs1 (16 + 3 * (j + 1)) (6000 + 3072 * (j + 1)) Q (F0 m 871 ls1 [])) : W p l e room_1 s m args below meth c H locs (16 + 3 * j) (6000 + 3072 * j) Q (F0 m 250 ls []) := by
  obtain ⟨hx, hb, hml, hown, hts, hX, hbl, hK, hE, hst0, hL⟩ := C0
  have hA : ∀ q : Nat, s.heap.size ≤ q → (fun q : Nat => s.heap.size ≤ q) q := fun _ h => h
  have hbA : ¬ (fun q : Nat => s.heap.size ≤ q) b := Nat.not_le.mpr hbl
  refine lv_aload_n hx hb dL_law_250 rfl (lv_at hl 2 rfl) ?_
  refine lv_aload_n hx hb dL_law_251 rfl (lv_at hl 1 rfl) ?_
  refine lv_iload hx hb dL_law_252 (lv_at hl 0 rfl) ?_
  refine lv_iconst (v := 1) hx hb dL_law_254 (by decide) ?_
  refine lv_iadd hx hb dL_law_255 ?_
  refine pb_sld hx hb hX hbl hbA hS hL (7 * j + 1) (by rw [show (1 : Int32) = nI 1 from rfl, nI_add]) (by omega) dL_law_256 ?_
  refine lv_aload_n hx hb dL_law_257 rfl (lv_at hl 1 rfl) ?_
  refine lv_iload hx hb dL_law_258 (lv_at hl 0 rfl) ?_
  refine lv_iconst (v := 2) hx hb dL_law_260 (by decide) ?_
  refine lv_iadd hx hb dL_law_261 ?_
  refine pb_sld hx hb hX hbl hbA hS hL (7 * j + 2) (by rw [show (2 : Int32) = nI 2 from rfl, nI_add]) (by omega) dL_law_262 ?_
  refine lv_aload_n hx hb dL_law_263 rfl (lv_at hl 1 rfl) ?_
  refine lv_iload hx hb dL_law_264 (lv_at hl 0 rfl) ?_
  refine lv_iconst (v := 3) hx hb dL_law_266 (by decide) ?_
  refine lv_iadd hx hb dL_law_267 ?_
  refine pb_sld hx hb hX hbl hbA hS hL (7 * j + 3) (by rw [show (3 : Int32) = nI 3 from rfl, nI_add]) (by omega) dL_law_268 ?_
  refine lv_aload_n hx hb dL_law_269 rfl (lv_at hl 4 rfl) ?_
  obtain ⟨r, T9, P9, bv, hT9, hlen9, himp, hWr, hRf⟩ := pt_take hst0 hT (by omega) (xs (7 * j + 1)) (xs (7 * j + 2)) (xs (7 * j + 3))
  refine pb_lawS (As := [.int (xs (7 * j + 1)), .int (xs (7 * j + 2)), .int (xs (7 * j + 3))]) (rest := []) ⟨hx, hb, hml, hown, hts⟩ hWr (vx_cwSW 5 hts gL_law_L_take rfl rfl rfl (by decide +kernel) ⟨Nat.le_of_ble_eq_true rfl, Nat.le_of_ble_eq_true rfl⟩) hI hK (hE _ _ hS) hS hA rfl rfl hl (Nat.le_of_ble_eq_true rfl) dL_law_270 ⟨by show _ ≤ 601024; omega, by show _ ≤ 7293034; omega⟩ (fun H locs hI hS => ?_)
  refine lv_istore (lv' := [(5, .int r), (4, .int (nI (7 * j))), (0, .ref b), (1, .ref h0), (2, .ref m0), (3, .ref ob)]) hx hb dL_law_273 hl (by decide) rfl (fun ls hl => ?_)
  refine lv_aload_n hx hb dL_law_275 rfl (lv_at hl 4 rfl) ?_
  refine lv_aload_n hx hb dL_law_276 rfl (lv_at hl 2 rfl) ?_
  refine lv_iload hx hb dL_law_277 (lv_at hl 1 rfl) ?_
  refine lv_iconst (v := 1) hx hb dL_law_279 (by decide) ?_
  refine lv_iadd hx hb dL_law_280 ?_
  refine pb_sld hx hb hX hbl hbA hS hL (7 * j + 1) (by rw [show (1 : Int32) = nI 1 from rfl, nI_add]) (by omega) dL_law_281 ?_
  refine lv_aload_n hx hb dL_law_282 rfl (lv_at hl 2 rfl) ?_
  refine lv_iload hx hb dL_law_283 (lv_at hl 1 rfl) ?_
  refine lv_iconst (v := 2) hx hb dL_law_285 (by decide) ?_
  refine lv_iadd hx hb dL_law_286 ?_
  refine pb_sld hx hb hX hbl hbA hS hL (7 * j + 2) (by rw [show (2 : Int32) = nI 2 from rfl, nI_add]) (by omega) dL_law_287 ?_
  refine lv_aload_n hx hb dL_law_288 rfl (lv_at hl 2 rfl) ?_
  refine lv_iload hx hb dL_law_289 (lv_at hl 1 rfl) ?_
  refine lv_iconst (v := 3) hx hb dL_law_291 (by decide) ?_
  refine lv_iadd hx hb dL_law_292 ?_
  refine pb_sld hx hb hX hbl hbA hS hL (7 * j + 3) (by rw [show (3 : Int32) = nI 3 from rfl, nI_add]) (by omega) dL_law_293 ?_
  refine pb_lawM (As := [.int (xs (7 * j + 1)), .int (xs (7 * j + 2)), .int (xs (7 * j + 3))]) (rest := []) ⟨hx, hb, hml, hown, hts⟩ hRf (by omega) (cwV 3 hts gL_law_X1_take rfl rfl rfl (by decide +kernel) ⟨Nat.le_of_ble_eq_true rfl, Nat.le_of_ble_eq_true rfl⟩) hI hK hS hA rfl rfl hl (Nat.le_of_ble_eq_true rfl) dL_law_294 ⟨by show _ ≤ 601024; omega, by show _ ≤ 7293034; omega⟩ (fun H locs hI hS => ?_)
  refine lv_istore (lv' := [(6, .int bv), (5, .int r), (4, .int (nI (7 * j))), (0, .ref b), (1, .ref h0), (2, .ref m0), (3, .ref ob)]) hx hb dL_law_297 hl (by decide) rfl (fun ls hl => ?_)
  refine lv_aload_n hx hb dL_law_299 rfl (lv_at hl 5 rfl) ?_
  refine pb_lawT (rest := []) ⟨hx, hb, hml, hown, hts⟩ (cwV 0 hts gL_law_X1_thrown rfl rfl rfl (by decide +kernel) ⟨Nat.le_of_ble_eq_true rfl, Nat.le_of_ble_eq_true rfl⟩) hI hK hl (Nat.le_of_ble_eq_true rfl) dL_law_300 ⟨by show _ ≤ 601024; omega, by show _ ≤ 7293034; omega⟩ ?_
  refine lv_iload hx hb dL_law_303 (lv_at hl 1 rfl) ?_
  refine lv_icmp_eq (tgt := 310) hx hb dL_law_305 (by decide) (fun q305 => ?_) (fun q305 => absurd (rfl) q305)
  refine lv_iload hx hb dL_law_310 (lv_at hl 1 rfl) ?_
  refine lv_if_ne (tgt := 334) hx hb dL_law_312 (by decide) (fun q312 => ?_) (fun q312 => ?_)
  · refine lv_goto (tgt := 871) hx hb dL_law_334 (by decide) ?_
    refine W.widen (k := 16 + 3 * (j + 1)) (n := 6000 + 3072 * (j + 1)) (by omega) (by omega) ?_
    exact kk _ _ _ _ _ hT9 (by omega) (pb_LI_tt hI) hS (lv_sub hl [2, 3, 4, 5, 6] rfl)
  · refine lv_aload_n hx hb dL_law_315 rfl (lv_at hl 6 rfl) ?_
    refine lv_iconst (v := 0) hx hb dL_law_316 (by decide) ?_
    refine pb_lawO hx hb hI hK dL_law_317 (fun z hz => ?_)
    refine lv_iload hx hb dL_law_318 (lv_at hl 0 rfl) ?_
    refine lv_if_eq (tgt := 327) hx hb dL_law_320 (by decide) (fun q320 => ?_) (fun q320 => ?_)
    · 
      refine lv_lconst (v := 0) hx hb dL_law_327 (by decide) ?_
      refine W.lcmp hx hb dL_law_328 ?_
      refine lv_if_eq (tgt := 334) hx hb dL_law_329 (by decide) (fun q329 => ?_) (fun q329 => absurd ((lg_cmp_eq _ _).mpr (by rw [himp q312 z hz, if_pos q320])) q329)
      have q329 := (lg_cmp_eq _ _).mp q329
      refine lv_goto (tgt := 871) hx hb dL_law_334 (by decide) ?_
      refine W.widen (k := 16 + 3 * (j + 1)) (n := 6000 + 3072 * (j + 1)) (by omega) (by omega) ?_
      exact kk _ _ _ _ _ hT9 (by omega) (pb_LI_tt hI) hS (lv_sub hl [2, 3, 4, 5, 6] rfl)
    · 
      refine lv_lconst (v := 1) hx hb dL_law_323 (by decide) ?_
      refine lv_goto (tgt := 328) hx hb dL_law_324 (by decide) ?_
      refine W.lcmp hx hb dL_law_328 ?_
      refine lv_if_eq (tgt := 334) hx hb dL_law_329 (by decide) (fun q329 => ?_) (fun q329 => absurd ((lg_cmp_eq _ _).mpr (by rw [himp q312 z hz, if_neg q320])) q329)
      have q329 := (lg_cmp_eq _ _).mp q329
      refine lv_goto (tgt := 871) hx hb dL_law_334 (by decide) ?_
      refine W.widen (k := 16 + 3 * (j + 1)) (n := 6000 + 3072 * (j + 1)) (by omega) (by omega) ?_
      exact kk _ _ _ _ _ hT9 (by omega) (pb_LI_tt hI) hS (lv_sub hl [2, 3, 4, 5, 6] rfl)

set_option maxHeartbeats 4000000 in
set_option maxRecDepth 100000 in
theorem law_w2 (C0 : pb_LC p l s m args c D cI cJ b L xs) (hT : pb_ok T) (hTl : T.length ≤ j) (hj : 7 * j + 7 ≤ L) (hI : pb_LI D cI cJ (fun q : Nat => s.heap.size ≤ q) h0 m0 a1 l1 o1 c2 h2 ob T T co (fun _ => True) H) (hS : va_S (fun q : Nat => s.heap.size ≤ q) s.heap H locs) (hl : lv_has ls 8 [(4, .int (nI (7 * j))), (0, .ref b), (1, .ref h0), (2, .ref m0), (3, .ref ob)])
    (kk : ∀ (T' : List pb_Rt) (co' : Int32) (H1 : Heap) (locs1 : List Loc) (ls1 : Array Slot), pb_ok T' → T'.length ≤ j + 1 → pb_LI D cI cJ (fun q : Nat => s.heap.size ≤ q) h0 m0 a1 l1 o1 c2 h2 ob T' T' co' (fun _ => True) H1 → va_S (fun q : Nat => s.heap.size ≤ q) s.heap H1 locs1 → lv_has ls1 8 [(4, .int (nI (7 * j))), (0, .ref b), (1, .ref h0), (2, .ref m0), (3, .ref ob)] → W p l e room_1 s m args below meth c H1 locs1 (16 + 3 * (j + 1)) (6000 + 3072 * (j + 1)) Q (F0 m 871 ls1 [])) : W p l e room_1 s m args below meth c H locs (16 + 3 * j) (6000 + 3072 * j) Q (F0 m 337 ls []) := by
  obtain ⟨hx, hb, hml, hown, hts, hX, hbl, hK, hE, hst0, hL⟩ := C0
  have hA : ∀ q : Nat, s.heap.size ≤ q → (fun q : Nat => s.heap.size ≤ q) q := fun _ h => h
  have hbA : ¬ (fun q : Nat => s.heap.size ≤ q) b := Nat.not_le.mpr hbl
  refine lv_aload_n hx hb dL_law_337 rfl (lv_at hl 2 rfl) ?_
  refine lv_aload_n hx hb dL_law_338 rfl (lv_at hl 1 rfl) ?_
  refine lv_iload hx hb dL_law_339 (lv_at hl 0 rfl) ?_
  refine lv_iconst (v := 1) hx hb dL_law_341 (by decide) ?_
  refine lv_iadd hx hb dL_law_342 ?_
  refine pb_sld hx hb hX hbl hbA hS hL (7 * j + 1) (by rw [show (1 : Int32) = nI 1 from rfl, nI_add]) (by omega) dL_law_343 ?_
  refine lv_aload_n hx hb dL_law_344 rfl (lv_at hl 4 rfl) ?_
  obtain ⟨r, T9, P9, bv, hT9, hlen9, himp, hWr, hRf⟩ := pt_drop hst0 hT (by omega) (xs (7 * j + 1))
  refine pb_lawS (As := [.int (xs (7 * j + 1))]) (rest := []) ⟨hx, hb, hml, hown, hts⟩ hWr (vx_cwSW 3 hts gL_law_L_drop rfl rfl rfl (by decide +kernel) ⟨Nat.le_of_ble_eq_true rfl, Nat.le_of_ble_eq_true rfl⟩) hI hK (hE _ _ hS) hS hA rfl rfl hl (Nat.le_of_ble_eq_true rfl) dL_law_345 ⟨by show _ ≤ 601024; omega, by show _ ≤ 7293034; omega⟩ (fun H locs hI hS => ?_)
  refine lv_istore (lv' := [(5, .int r), (4, .int (nI (7 * j))), (0, .ref b), (1, .ref h0), (2, .ref m0), (3, .ref ob)]) hx hb dL_law_348 hl (by decide) rfl (fun ls hl => ?_)
  refine lv_aload_n hx hb dL_law_350 rfl (lv_at hl 4 rfl) ?_
  refine lv_aload_n hx hb dL_law_351 rfl (lv_at hl 2 rfl) ?_
  refine lv_iload hx hb dL_law_352 (lv_at hl 1 rfl) ?_
  refine lv_iconst (v := 1) hx hb dL_law_354 (by decide) ?_
  refine lv_iadd hx hb dL_law_355 ?_
  refine pb_sld hx hb hX hbl hbA hS hL (7 * j + 1) (by rw [show (1 : Int32) = nI 1 from rfl, nI_add]) (by omega) dL_law_356 ?_
  refine pb_lawM (As := [.int (xs (7 * j + 1))]) (rest := []) ⟨hx, hb, hml, hown, hts⟩ hRf (by omega) (cwV 1 hts gL_law_X1_drop rfl rfl rfl (by decide +kernel) ⟨Nat.le_of_ble_eq_true rfl, Nat.le_of_ble_eq_true rfl⟩) hI hK hS hA rfl rfl hl (Nat.le_of_ble_eq_true rfl) dL_law_357 ⟨by show _ ≤ 601024; omega, by show _ ≤ 7293034; omega⟩ (fun H locs hI hS => ?_)
  refine lv_istore (lv' := [(6, .int bv), (5, .int r), (4, .int (nI (7 * j))), (0, .ref b), (1, .ref h0), (2, .ref m0), (3, .ref ob)]) hx hb dL_law_360 hl (by decide) rfl (fun ls hl => ?_)
  refine lv_aload_n hx hb dL_law_362 rfl (lv_at hl 5 rfl) ?_
  refine pb_lawT (rest := []) ⟨hx, hb, hml, hown, hts⟩ (cwV 0 hts gL_law_X1_thrown rfl rfl rfl (by decide +kernel) ⟨Nat.le_of_ble_eq_true rfl, Nat.le_of_ble_eq_true rfl⟩) hI hK hl (Nat.le_of_ble_eq_true rfl) dL_law_363 ⟨by show _ ≤ 601024; omega, by show _ ≤ 7293034; omega⟩ ?_
  refine lv_iload hx hb dL_law_366 (lv_at hl 1 rfl) ?_
  refine lv_icmp_eq (tgt := 373) hx hb dL_law_368 (by decide) (fun q368 => ?_) (fun q368 => absurd (rfl) q368)
  refine lv_iload hx hb dL_law_373 (lv_at hl 1 rfl) ?_
  refine lv_if_ne (tgt := 390) hx hb dL_law_375 (by decide) (fun q375 => ?_) (fun q375 => ?_)
  · refine lv_goto (tgt := 871) hx hb dL_law_390 (by decide) ?_
    refine W.widen (k := 16 + 3 * (j + 1)) (n := 6000 + 3072 * (j + 1)) (by omega) (by omega) ?_
    exact kk _ _ _ _ _ hT9 (by omega) (pb_LI_tt hI) hS (lv_sub hl [2, 3, 4, 5, 6] rfl)
  · refine lv_aload_n hx hb dL_law_378 rfl (lv_at hl 6 rfl) ?_
    refine lv_iconst (v := 0) hx hb dL_law_379 (by decide) ?_
    refine pb_lawO hx hb hI hK dL_law_380 (fun z hz => ?_)
    refine lv_iload hx hb dL_law_381 (lv_at hl 0 rfl) ?_
    refine lv_i2l hx hb dL_law_383 rfl ?_
    refine W.lcmp hx hb dL_law_384 ?_
    refine lv_if_eq (tgt := 390) hx hb dL_law_385 (by decide) (fun q385 => ?_) (fun q385 => absurd ((lg_cmp_eq _ _).mpr (himp q375 z hz)) q385)
    have q385 := (lg_cmp_eq _ _).mp q385
    refine lv_goto (tgt := 871) hx hb dL_law_390 (by decide) ?_
    refine W.widen (k := 16 + 3 * (j + 1)) (n := 6000 + 3072 * (j + 1)) (by omega) (by omega) ?_
    exact kk _ _ _ _ _ hT9 (by omega) (pb_LI_tt hI) hS (lv_sub hl [2, 3, 4, 5, 6] rfl)

set_option maxHeartbeats 4000000 in
set_option maxRecDepth 100000 in
theorem law_w3 (C0 : pb_LC p l s m args c D cI cJ b L xs) (hT : pb_ok T) (hTl : T.length ≤ j) (hj : 7 * j + 7 ≤ L) (hI : pb_LI D cI cJ (fun q : Nat => s.heap.size ≤ q) h0 m0 a1 l1 o1 c2 h2 ob T T co (fun _ => True) H) (hS : va_S (fun q : Nat => s.heap.size ≤ q) s.heap H locs) (hl : lv_has ls 8 [(4, .int (nI (7 * j))), (0, .ref b), (1, .ref h0), (2, .ref m0), (3, .ref ob)])
    (kk : ∀ (T' : List pb_Rt) (co' : Int32) (H1 : Heap) (locs1 : List Loc) (ls1 : Array Slot), pb_ok T' → T'.length ≤ j + 1 → pb_LI D cI cJ (fun q : Nat => s.heap.size ≤ q) h0 m0 a1 l1 o1 c2 h2 ob T' T' co' (fun _ => True) H1 → va_S (fun q : Nat => s.heap.size ≤ q) s.heap H1 locs1 → lv_has ls1 8 [(4, .int (nI (7 * j))), (0, .ref b), (1, .ref h0), (2, .ref m0), (3, .ref ob)] → W p l e room_1 s m args below meth c H1 locs1 (16 + 3 * (j + 1)) (6000 + 3072 * (j + 1)) Q (F0 m 871 ls1 [])) : W p l e room_1 s m args below meth c H locs (16 + 3 * j) (6000 + 3072 * j) Q (F0 m 393 ls []) := by
  obtain ⟨hx, hb, hml, hown, hts, hX, hbl, hK, hE, hst0, hL⟩ := C0
  have hA : ∀ q : Nat, s.heap.size ≤ q → (fun q : Nat => s.heap.size ≤ q) q := fun _ h => h
  have hbA : ¬ (fun q : Nat => s.heap.size ≤ q) b := Nat.not_le.mpr hbl
  refine lv_aload_n hx hb dL_law_393 rfl (lv_at hl 2 rfl) ?_
  refine lv_aload_n hx hb dL_law_394 rfl (lv_at hl 1 rfl) ?_
  refine lv_iload hx hb dL_law_395 (lv_at hl 0 rfl) ?_
  refine lv_iconst (v := 1) hx hb dL_law_397 (by decide) ?_
  refine lv_iadd hx hb dL_law_398 ?_
  refine pb_sld hx hb hX hbl hbA hS hL (7 * j + 1) (by rw [show (1 : Int32) = nI 1 from rfl, nI_add]) (by omega) dL_law_399 ?_
  refine lv_aload_n hx hb dL_law_400 rfl (lv_at hl 4 rfl) ?_
  obtain ⟨r, T9, P9, bv, hT9, hlen9, himp, hWr, hRf⟩ := pt_cut hst0 hT (by omega) (xs (7 * j + 1))
  refine pb_lawS (As := [.int (xs (7 * j + 1))]) (rest := []) ⟨hx, hb, hml, hown, hts⟩ hWr (vx_cwSW 3 hts gL_law_L_cut rfl rfl rfl (by decide +kernel) ⟨Nat.le_of_ble_eq_true rfl, Nat.le_of_ble_eq_true rfl⟩) hI hK (hE _ _ hS) hS hA rfl rfl hl (Nat.le_of_ble_eq_true rfl) dL_law_401 ⟨by show _ ≤ 601024; omega, by show _ ≤ 7293034; omega⟩ (fun H locs hI hS => ?_)
  refine lv_istore (lv' := [(5, .int r), (4, .int (nI (7 * j))), (0, .ref b), (1, .ref h0), (2, .ref m0), (3, .ref ob)]) hx hb dL_law_404 hl (by decide) rfl (fun ls hl => ?_)
  refine lv_aload_n hx hb dL_law_406 rfl (lv_at hl 4 rfl) ?_
  refine lv_aload_n hx hb dL_law_407 rfl (lv_at hl 2 rfl) ?_
  refine lv_iload hx hb dL_law_408 (lv_at hl 1 rfl) ?_
  refine lv_iconst (v := 1) hx hb dL_law_410 (by decide) ?_
  refine lv_iadd hx hb dL_law_411 ?_
  refine pb_sld hx hb hX hbl hbA hS hL (7 * j + 1) (by rw [show (1 : Int32) = nI 1 from rfl, nI_add]) (by omega) dL_law_412 ?_
  refine pb_lawM (As := [.int (xs (7 * j + 1))]) (rest := []) ⟨hx, hb, hml, hown, hts⟩ hRf (by omega) (cwV 1 hts gL_law_X1_cut rfl rfl rfl (by decide +kernel) ⟨Nat.le_of_ble_eq_true rfl, Nat.le_of_ble_eq_true rfl⟩) hI hK hS hA rfl rfl hl (Nat.le_of_ble_eq_true rfl) dL_law_413 ⟨by show _ ≤ 601024; omega, by show _ ≤ 7293034; omega⟩ (fun H locs hI hS => ?_)
  refine lv_istore (lv' := [(6, .int bv), (5, .int r), (4, .int (nI (7 * j))), (0, .ref b), (1, .ref h0), (2, .ref m0), (3, .ref ob)]) hx hb dL_law_416 hl (by decide) rfl (fun ls hl => ?_)
  refine lv_aload_n hx hb dL_law_418 rfl (lv_at hl 5 rfl) ?_
  refine pb_lawT (rest := []) ⟨hx, hb, hml, hown, hts⟩ (cwV 0 hts gL_law_X1_thrown rfl rfl rfl (by decide +kernel) ⟨Nat.le_of_ble_eq_true rfl, Nat.le_of_ble_eq_true rfl⟩) hI hK hl (Nat.le_of_ble_eq_true rfl) dL_law_419 ⟨by show _ ≤ 601024; omega, by show _ ≤ 7293034; omega⟩ ?_
  refine lv_iload hx hb dL_law_422 (lv_at hl 1 rfl) ?_
  refine lv_icmp_eq (tgt := 429) hx hb dL_law_424 (by decide) (fun q424 => ?_) (fun q424 => absurd (rfl) q424)
  refine lv_iload hx hb dL_law_429 (lv_at hl 1 rfl) ?_
  refine lv_if_ne (tgt := 446) hx hb dL_law_431 (by decide) (fun q431 => ?_) (fun q431 => ?_)
  · refine lv_goto (tgt := 871) hx hb dL_law_446 (by decide) ?_
    refine W.widen (k := 16 + 3 * (j + 1)) (n := 6000 + 3072 * (j + 1)) (by omega) (by omega) ?_
    exact kk _ _ _ _ _ hT9 (by omega) (pb_LI_tt hI) hS (lv_sub hl [2, 3, 4, 5, 6] rfl)
  · refine lv_aload_n hx hb dL_law_434 rfl (lv_at hl 6 rfl) ?_
    refine lv_iconst (v := 0) hx hb dL_law_435 (by decide) ?_
    refine pb_lawO hx hb hI hK dL_law_436 (fun z hz => ?_)
    refine lv_iload hx hb dL_law_437 (lv_at hl 0 rfl) ?_
    refine lv_i2l hx hb dL_law_439 rfl ?_
    refine W.lcmp hx hb dL_law_440 ?_
    refine lv_if_eq (tgt := 446) hx hb dL_law_441 (by decide) (fun q441 => ?_) (fun q441 => absurd ((lg_cmp_eq _ _).mpr (himp q431 z hz)) q441)
    have q441 := (lg_cmp_eq _ _).mp q441
    refine lv_goto (tgt := 871) hx hb dL_law_446 (by decide) ?_
    refine W.widen (k := 16 + 3 * (j + 1)) (n := 6000 + 3072 * (j + 1)) (by omega) (by omega) ?_
    exact kk _ _ _ _ _ hT9 (by omega) (pb_LI_tt hI) hS (lv_sub hl [2, 3, 4, 5, 6] rfl)

set_option maxHeartbeats 4000000 in
set_option maxRecDepth 100000 in
theorem law_w4 (C0 : pb_LC p l s m args c D cI cJ b L xs) (hT : pb_ok T) (hTl : T.length ≤ j) (hj : 7 * j + 7 ≤ L) (hI : pb_LI D cI cJ (fun q : Nat => s.heap.size ≤ q) h0 m0 a1 l1 o1 c2 h2 ob T T co (fun _ => True) H) (hS : va_S (fun q : Nat => s.heap.size ≤ q) s.heap H locs) (hl : lv_has ls 8 [(4, .int (nI (7 * j))), (0, .ref b), (1, .ref h0), (2, .ref m0), (3, .ref ob)])
    (kk : ∀ (T' : List pb_Rt) (co' : Int32) (H1 : Heap) (locs1 : List Loc) (ls1 : Array Slot), pb_ok T' → T'.length ≤ j + 1 → pb_LI D cI cJ (fun q : Nat => s.heap.size ≤ q) h0 m0 a1 l1 o1 c2 h2 ob T' T' co' (fun _ => True) H1 → va_S (fun q : Nat => s.heap.size ≤ q) s.heap H1 locs1 → lv_has ls1 8 [(4, .int (nI (7 * j))), (0, .ref b), (1, .ref h0), (2, .ref m0), (3, .ref ob)] → W p l e room_1 s m args below meth c H1 locs1 (16 + 3 * (j + 1)) (6000 + 3072 * (j + 1)) Q (F0 m 871 ls1 [])) : W p l e room_1 s m args below meth c H locs (16 + 3 * j) (6000 + 3072 * j) Q (F0 m 449 ls []) := by
  obtain ⟨hx, hb, hml, hown, hts, hX, hbl, hK, hE, hst0, hL⟩ := C0
  have hA : ∀ q : Nat, s.heap.size ≤ q → (fun q : Nat => s.heap.size ≤ q) q := fun _ h => h
  have hbA : ¬ (fun q : Nat => s.heap.size ≤ q) b := Nat.not_le.mpr hbl
  refine lv_aload_n hx hb dL_law_449 rfl (lv_at hl 2 rfl) ?_
  refine lv_aload_n hx hb dL_law_450 rfl (lv_at hl 1 rfl) ?_
  refine lv_iload hx hb dL_law_451 (lv_at hl 0 rfl) ?_
  refine lv_iconst (v := 1) hx hb dL_law_453 (by decide) ?_
  refine lv_iadd hx hb dL_law_454 ?_
  refine pb_sld hx hb hX hbl hbA hS hL (7 * j + 1) (by rw [show (1 : Int32) = nI 1 from rfl, nI_add]) (by omega) dL_law_455 ?_
  refine lv_aload_n hx hb dL_law_456 rfl (lv_at hl 1 rfl) ?_
  refine lv_iload hx hb dL_law_457 (lv_at hl 0 rfl) ?_
  refine lv_iconst (v := 2) hx hb dL_law_459 (by decide) ?_
  refine lv_iadd hx hb dL_law_460 ?_
  refine pb_sld hx hb hX hbl hbA hS hL (7 * j + 2) (by rw [show (2 : Int32) = nI 2 from rfl, nI_add]) (by omega) dL_law_461 ?_
  refine lv_aload_n hx hb dL_law_462 rfl (lv_at hl 1 rfl) ?_
  refine lv_iload hx hb dL_law_463 (lv_at hl 0 rfl) ?_
  refine lv_iconst (v := 3) hx hb dL_law_465 (by decide) ?_
  refine lv_iadd hx hb dL_law_466 ?_
  refine pb_sld hx hb hX hbl hbA hS hL (7 * j + 3) (by rw [show (3 : Int32) = nI 3 from rfl, nI_add]) (by omega) dL_law_467 ?_
  refine lv_aload_n hx hb dL_law_468 rfl (lv_at hl 1 rfl) ?_
  refine lv_iload hx hb dL_law_469 (lv_at hl 0 rfl) ?_
  refine lv_iconst (v := 4) hx hb dL_law_471 (by decide) ?_
  refine lv_iadd hx hb dL_law_472 ?_
  refine pb_sld hx hb hX hbl hbA hS hL (7 * j + 4) (by rw [show (4 : Int32) = nI 4 from rfl, nI_add]) (by omega) dL_law_473 ?_
  refine lv_aload_n hx hb dL_law_474 rfl (lv_at hl 4 rfl) ?_
  obtain ⟨r, T9, P9, bv, hT9, hlen9, himp, hWr, hRf⟩ := pt_route hst0 hT (by omega) (xs (7 * j + 1)) (xs (7 * j + 2)) (xs (7 * j + 3)) (xs (7 * j + 4))
  refine pb_lawS (As := [.int (xs (7 * j + 1)), .int (xs (7 * j + 2)), .int (xs (7 * j + 3)), .int (xs (7 * j + 4))]) (rest := []) ⟨hx, hb, hml, hown, hts⟩ hWr (vx_cwSW 6 hts gL_law_L_route rfl rfl rfl (by decide +kernel) ⟨Nat.le_of_ble_eq_true rfl, Nat.le_of_ble_eq_true rfl⟩) hI hK (hE _ _ hS) hS hA rfl rfl hl (Nat.le_of_ble_eq_true rfl) dL_law_475 ⟨by show _ ≤ 601024; omega, by show _ ≤ 7293034; omega⟩ (fun H locs hI hS => ?_)
  refine lv_istore (lv' := [(5, .int r), (4, .int (nI (7 * j))), (0, .ref b), (1, .ref h0), (2, .ref m0), (3, .ref ob)]) hx hb dL_law_478 hl (by decide) rfl (fun ls hl => ?_)
  refine lv_aload_n hx hb dL_law_480 rfl (lv_at hl 4 rfl) ?_
  refine lv_aload_n hx hb dL_law_481 rfl (lv_at hl 2 rfl) ?_
  refine lv_iload hx hb dL_law_482 (lv_at hl 1 rfl) ?_
  refine lv_iconst (v := 1) hx hb dL_law_484 (by decide) ?_
  refine lv_iadd hx hb dL_law_485 ?_
  refine pb_sld hx hb hX hbl hbA hS hL (7 * j + 1) (by rw [show (1 : Int32) = nI 1 from rfl, nI_add]) (by omega) dL_law_486 ?_
  refine lv_aload_n hx hb dL_law_487 rfl (lv_at hl 2 rfl) ?_
  refine lv_iload hx hb dL_law_488 (lv_at hl 1 rfl) ?_
  refine lv_iconst (v := 2) hx hb dL_law_490 (by decide) ?_
  refine lv_iadd hx hb dL_law_491 ?_
  refine pb_sld hx hb hX hbl hbA hS hL (7 * j + 2) (by rw [show (2 : Int32) = nI 2 from rfl, nI_add]) (by omega) dL_law_492 ?_
  refine lv_aload_n hx hb dL_law_493 rfl (lv_at hl 2 rfl) ?_
  refine lv_iload hx hb dL_law_494 (lv_at hl 1 rfl) ?_
  refine lv_iconst (v := 3) hx hb dL_law_496 (by decide) ?_
  refine lv_iadd hx hb dL_law_497 ?_
  refine pb_sld hx hb hX hbl hbA hS hL (7 * j + 3) (by rw [show (3 : Int32) = nI 3 from rfl, nI_add]) (by omega) dL_law_498 ?_
  refine lv_aload_n hx hb dL_law_499 rfl (lv_at hl 2 rfl) ?_
  refine lv_iload hx hb dL_law_500 (lv_at hl 1 rfl) ?_
  refine lv_iconst (v := 4) hx hb dL_law_502 (by decide) ?_
  refine lv_iadd hx hb dL_law_503 ?_
  refine pb_sld hx hb hX hbl hbA hS hL (7 * j + 4) (by rw [show (4 : Int32) = nI 4 from rfl, nI_add]) (by omega) dL_law_504 ?_
  refine pb_lawM (As := [.int (xs (7 * j + 1)), .int (xs (7 * j + 2)), .int (xs (7 * j + 3)), .int (xs (7 * j + 4))]) (rest := []) ⟨hx, hb, hml, hown, hts⟩ hRf (by omega) (cwV 4 hts gL_law_X1_route rfl rfl rfl (by decide +kernel) ⟨Nat.le_of_ble_eq_true rfl, Nat.le_of_ble_eq_true rfl⟩) hI hK hS hA rfl rfl hl (Nat.le_of_ble_eq_true rfl) dL_law_505 ⟨by show _ ≤ 601024; omega, by show _ ≤ 7293034; omega⟩ (fun H locs hI hS => ?_)
  refine lv_istore (lv' := [(6, .int bv), (5, .int r), (4, .int (nI (7 * j))), (0, .ref b), (1, .ref h0), (2, .ref m0), (3, .ref ob)]) hx hb dL_law_508 hl (by decide) rfl (fun ls hl => ?_)
  refine lv_aload_n hx hb dL_law_510 rfl (lv_at hl 5 rfl) ?_
  refine pb_lawT (rest := []) ⟨hx, hb, hml, hown, hts⟩ (cwV 0 hts gL_law_X1_thrown rfl rfl rfl (by decide +kernel) ⟨Nat.le_of_ble_eq_true rfl, Nat.le_of_ble_eq_true rfl⟩) hI hK hl (Nat.le_of_ble_eq_true rfl) dL_law_511 ⟨by show _ ≤ 601024; omega, by show _ ≤ 7293034; omega⟩ ?_
  refine lv_iload hx hb dL_law_514 (lv_at hl 1 rfl) ?_
  refine lv_icmp_eq (tgt := 521) hx hb dL_law_516 (by decide) (fun q516 => ?_) (fun q516 => absurd (rfl) q516)
  refine lv_iload hx hb dL_law_521 (lv_at hl 1 rfl) ?_
  refine lv_if_ne (tgt := 538) hx hb dL_law_523 (by decide) (fun q523 => ?_) (fun q523 => ?_)
  · refine lv_goto (tgt := 871) hx hb dL_law_538 (by decide) ?_
    refine W.widen (k := 16 + 3 * (j + 1)) (n := 6000 + 3072 * (j + 1)) (by omega) (by omega) ?_
    exact kk _ _ _ _ _ hT9 (by omega) (pb_LI_tt hI) hS (lv_sub hl [2, 3, 4, 5, 6] rfl)
  · refine lv_aload_n hx hb dL_law_526 rfl (lv_at hl 6 rfl) ?_
    refine lv_iconst (v := 0) hx hb dL_law_527 (by decide) ?_
    refine pb_lawO hx hb hI hK dL_law_528 (fun z hz => ?_)
    refine lv_iload hx hb dL_law_529 (lv_at hl 0 rfl) ?_
    refine lv_i2l hx hb dL_law_531 rfl ?_
    refine W.lcmp hx hb dL_law_532 ?_
    refine lv_if_eq (tgt := 538) hx hb dL_law_533 (by decide) (fun q533 => ?_) (fun q533 => absurd ((lg_cmp_eq _ _).mpr (himp q523 z hz)) q533)
    have q533 := (lg_cmp_eq _ _).mp q533
    refine lv_goto (tgt := 871) hx hb dL_law_538 (by decide) ?_
    refine W.widen (k := 16 + 3 * (j + 1)) (n := 6000 + 3072 * (j + 1)) (by omega) (by omega) ?_
    exact kk _ _ _ _ _ hT9 (by omega) (pb_LI_tt hI) hS (lv_sub hl [2, 3, 4, 5, 6] rfl)

set_option maxHeartbeats 4000000 in
set_option maxRecDepth 100000 in
theorem law_w5 (C0 : pb_LC p l s m args c D cI cJ b L xs) (hT : pb_ok T) (hTl : T.length ≤ j) (hj : 7 * j + 7 ≤ L) (hI : pb_LI D cI cJ (fun q : Nat => s.heap.size ≤ q) h0 m0 a1 l1 o1 c2 h2 ob T T co (fun _ => True) H) (hS : va_S (fun q : Nat => s.heap.size ≤ q) s.heap H locs) (hl : lv_has ls 8 [(4, .int (nI (7 * j))), (0, .ref b), (1, .ref h0), (2, .ref m0), (3, .ref ob)])
    (kk : ∀ (T' : List pb_Rt) (co' : Int32) (H1 : Heap) (locs1 : List Loc) (ls1 : Array Slot), pb_ok T' → T'.length ≤ j + 1 → pb_LI D cI cJ (fun q : Nat => s.heap.size ≤ q) h0 m0 a1 l1 o1 c2 h2 ob T' T' co' (fun _ => True) H1 → va_S (fun q : Nat => s.heap.size ≤ q) s.heap H1 locs1 → lv_has ls1 8 [(4, .int (nI (7 * j))), (0, .ref b), (1, .ref h0), (2, .ref m0), (3, .ref ob)] → W p l e room_1 s m args below meth c H1 locs1 (16 + 3 * (j + 1)) (6000 + 3072 * (j + 1)) Q (F0 m 871 ls1 [])) : W p l e room_1 s m args below meth c H locs (16 + 3 * j) (6000 + 3072 * j) Q (F0 m 541 ls []) := by
  obtain ⟨hx, hb, hml, hown, hts, hX, hbl, hK, hE, hst0, hL⟩ := C0
  have hA : ∀ q : Nat, s.heap.size ≤ q → (fun q : Nat => s.heap.size ≤ q) q := fun _ h => h
  have hbA : ¬ (fun q : Nat => s.heap.size ≤ q) b := Nat.not_le.mpr hbl
  refine lv_aload_n hx hb dL_law_541 rfl (lv_at hl 2 rfl) ?_
  refine lv_aload_n hx hb dL_law_542 rfl (lv_at hl 1 rfl) ?_
  refine lv_iload hx hb dL_law_543 (lv_at hl 0 rfl) ?_
  refine lv_iconst (v := 1) hx hb dL_law_545 (by decide) ?_
  refine lv_iadd hx hb dL_law_546 ?_
  refine pb_sld hx hb hX hbl hbA hS hL (7 * j + 1) (by rw [show (1 : Int32) = nI 1 from rfl, nI_add]) (by omega) dL_law_547 ?_
  obtain ⟨bv, hXr, hRf⟩ := pt_look hT (by omega) (xs (7 * j + 1))
  refine pb_lawR (As := [.int (xs (7 * j + 1))]) (rest := []) ⟨hx, hb, hml, hown, hts⟩ hXr (cwV 1 hts gL_law_X0_look rfl rfl rfl (by decide +kernel) ⟨Nat.le_of_ble_eq_true rfl, Nat.le_of_ble_eq_true rfl⟩) hI hK rfl rfl hl (Nat.le_of_ble_eq_true rfl) dL_law_548 ⟨by show _ ≤ 601024; omega, by show _ ≤ 7293034; omega⟩ ?_
  refine lv_aload_n hx hb dL_law_551 rfl (lv_at hl 3 rfl) ?_
  refine lv_aload_n hx hb dL_law_552 rfl (lv_at hl 1 rfl) ?_
  refine lv_iload hx hb dL_law_553 (lv_at hl 0 rfl) ?_
  refine lv_iconst (v := 1) hx hb dL_law_555 (by decide) ?_
  refine lv_iadd hx hb dL_law_556 ?_
  refine pb_sld hx hb hX hbl hbA hS hL (7 * j + 1) (by rw [show (1 : Int32) = nI 1 from rfl, nI_add]) (by omega) dL_law_557 ?_
  refine pb_lawM (As := [.int (xs (7 * j + 1))]) (rest := [.int bv]) ⟨hx, hb, hml, hown, hts⟩ hRf (by omega) (cwV 1 hts gL_law_X1_look rfl rfl rfl (by decide +kernel) ⟨Nat.le_of_ble_eq_true rfl, Nat.le_of_ble_eq_true rfl⟩) hI hK hS hA rfl rfl hl (Nat.le_of_ble_eq_true rfl) dL_law_558 ⟨by show _ ≤ 601024; omega, by show _ ≤ 7293034; omega⟩ (fun H locs hI hS => ?_)
  refine lv_icmp_eq (tgt := 871) hx hb dL_law_561 (by decide) (fun q561 => ?_) (fun q561 => absurd (rfl) q561)
  refine W.widen (k := 16 + 3 * (j + 1)) (n := 6000 + 3072 * (j + 1)) (by omega) (by omega) ?_
  exact kk _ _ _ _ _ hT (by omega) (pb_LI_tt hI) hS (lv_sub hl [0, 1, 2, 3, 4] rfl)

set_option maxHeartbeats 4000000 in
set_option maxRecDepth 100000 in
theorem law_w6 (C0 : pb_LC p l s m args c D cI cJ b L xs) (hT : pb_ok T) (hTl : T.length ≤ j) (hj : 7 * j + 7 ≤ L) (hI : pb_LI D cI cJ (fun q : Nat => s.heap.size ≤ q) h0 m0 a1 l1 o1 c2 h2 ob T T co (fun _ => True) H) (hS : va_S (fun q : Nat => s.heap.size ≤ q) s.heap H locs) (hl : lv_has ls 8 [(4, .int (nI (7 * j))), (0, .ref b), (1, .ref h0), (2, .ref m0), (3, .ref ob)])
    (kk : ∀ (T' : List pb_Rt) (co' : Int32) (H1 : Heap) (locs1 : List Loc) (ls1 : Array Slot), pb_ok T' → T'.length ≤ j + 1 → pb_LI D cI cJ (fun q : Nat => s.heap.size ≤ q) h0 m0 a1 l1 o1 c2 h2 ob T' T' co' (fun _ => True) H1 → va_S (fun q : Nat => s.heap.size ≤ q) s.heap H1 locs1 → lv_has ls1 8 [(4, .int (nI (7 * j))), (0, .ref b), (1, .ref h0), (2, .ref m0), (3, .ref ob)] → W p l e room_1 s m args below meth c H1 locs1 (16 + 3 * (j + 1)) (6000 + 3072 * (j + 1)) Q (F0 m 871 ls1 [])) : W p l e room_1 s m args below meth c H locs (16 + 3 * j) (6000 + 3072 * j) Q (F0 m 566 ls []) := by
  obtain ⟨hx, hb, hml, hown, hts, hX, hbl, hK, hE, hst0, hL⟩ := C0
  have hA : ∀ q : Nat, s.heap.size ≤ q → (fun q : Nat => s.heap.size ≤ q) q := fun _ h => h
  have hbA : ¬ (fun q : Nat => s.heap.size ≤ q) b := Nat.not_le.mpr hbl
  refine lv_aload_n hx hb dL_law_566 rfl (lv_at hl 2 rfl) ?_
  refine lv_aload_n hx hb dL_law_567 rfl (lv_at hl 1 rfl) ?_
  refine lv_iload hx hb dL_law_568 (lv_at hl 0 rfl) ?_
  refine lv_iconst (v := 1) hx hb dL_law_570 (by decide) ?_
  refine lv_iadd hx hb dL_law_571 ?_
  refine pb_sld hx hb hX hbl hbA hS hL (7 * j + 1) (by rw [show (1 : Int32) = nI 1 from rfl, nI_add]) (by omega) dL_law_572 ?_
  obtain ⟨bv, hXr, hRf⟩ := pt_hops hT (by omega) (xs (7 * j + 1))
  refine pb_lawR (As := [.int (xs (7 * j + 1))]) (rest := []) ⟨hx, hb, hml, hown, hts⟩ hXr (cwV 1 hts gL_law_X0_hops rfl rfl rfl (by decide +kernel) ⟨Nat.le_of_ble_eq_true rfl, Nat.le_of_ble_eq_true rfl⟩) hI hK rfl rfl hl (Nat.le_of_ble_eq_true rfl) dL_law_573 ⟨by show _ ≤ 601024; omega, by show _ ≤ 7293034; omega⟩ ?_
  refine lv_aload_n hx hb dL_law_576 rfl (lv_at hl 3 rfl) ?_
  refine lv_aload_n hx hb dL_law_577 rfl (lv_at hl 1 rfl) ?_
  refine lv_iload hx hb dL_law_578 (lv_at hl 0 rfl) ?_
  refine lv_iconst (v := 1) hx hb dL_law_580 (by decide) ?_
  refine lv_iadd hx hb dL_law_581 ?_
  refine pb_sld hx hb hX hbl hbA hS hL (7 * j + 1) (by rw [show (1 : Int32) = nI 1 from rfl, nI_add]) (by omega) dL_law_582 ?_
  refine pb_lawM (As := [.int (xs (7 * j + 1))]) (rest := [.long bv]) ⟨hx, hb, hml, hown, hts⟩ hRf (by omega) (cwV 1 hts gL_law_X1_hops rfl rfl rfl (by decide +kernel) ⟨Nat.le_of_ble_eq_true rfl, Nat.le_of_ble_eq_true rfl⟩) hI hK hS hA rfl rfl hl (Nat.le_of_ble_eq_true rfl) dL_law_583 ⟨by show _ ≤ 601024; omega, by show _ ≤ 7293034; omega⟩ (fun H locs hI hS => ?_)
  refine W.lcmp hx hb dL_law_586 ?_
  refine lv_if_eq (tgt := 871) hx hb dL_law_587 (by decide) (fun q587 => ?_) (fun q587 => absurd ((lg_cmp_eq _ _).mpr (rfl)) q587)
  have q587 := (lg_cmp_eq _ _).mp q587
  refine W.widen (k := 16 + 3 * (j + 1)) (n := 6000 + 3072 * (j + 1)) (by omega) (by omega) ?_
  exact kk _ _ _ _ _ hT (by omega) (pb_LI_tt hI) hS (lv_sub hl [0, 1, 2, 3, 4] rfl)

set_option maxHeartbeats 4000000 in
set_option maxRecDepth 100000 in
theorem law_w7 (C0 : pb_LC p l s m args c D cI cJ b L xs) (hT : pb_ok T) (hTl : T.length ≤ j) (hj : 7 * j + 7 ≤ L) (hI : pb_LI D cI cJ (fun q : Nat => s.heap.size ≤ q) h0 m0 a1 l1 o1 c2 h2 ob T T co (fun _ => True) H) (hS : va_S (fun q : Nat => s.heap.size ≤ q) s.heap H locs) (hl : lv_has ls 8 [(4, .int (nI (7 * j))), (0, .ref b), (1, .ref h0), (2, .ref m0), (3, .ref ob)])
    (kk : ∀ (T' : List pb_Rt) (co' : Int32) (H1 : Heap) (locs1 : List Loc) (ls1 : Array Slot), pb_ok T' → T'.length ≤ j + 1 → pb_LI D cI cJ (fun q : Nat => s.heap.size ≤ q) h0 m0 a1 l1 o1 c2 h2 ob T' T' co' (fun _ => True) H1 → va_S (fun q : Nat => s.heap.size ≤ q) s.heap H1 locs1 → lv_has ls1 8 [(4, .int (nI (7 * j))), (0, .ref b), (1, .ref h0), (2, .ref m0), (3, .ref ob)] → W p l e room_1 s m args below meth c H1 locs1 (16 + 3 * (j + 1)) (6000 + 3072 * (j + 1)) Q (F0 m 871 ls1 [])) : W p l e room_1 s m args below meth c H locs (16 + 3 * j) (6000 + 3072 * j) Q (F0 m 592 ls []) := by
  obtain ⟨hx, hb, hml, hown, hts, hX, hbl, hK, hE, hst0, hL⟩ := C0
  have hA : ∀ q : Nat, s.heap.size ≤ q → (fun q : Nat => s.heap.size ≤ q) q := fun _ h => h
  have hbA : ¬ (fun q : Nat => s.heap.size ≤ q) b := Nat.not_le.mpr hbl
  refine lv_aload_n hx hb dL_law_592 rfl (lv_at hl 2 rfl) ?_
  refine lv_aload_n hx hb dL_law_593 rfl (lv_at hl 1 rfl) ?_
  refine lv_iload hx hb dL_law_594 (lv_at hl 0 rfl) ?_
  refine lv_iconst (v := 1) hx hb dL_law_596 (by decide) ?_
  refine lv_iadd hx hb dL_law_597 ?_
  refine pb_sld hx hb hX hbl hbA hS hL (7 * j + 1) (by rw [show (1 : Int32) = nI 1 from rfl, nI_add]) (by omega) dL_law_598 ?_
  refine lv_aload_n hx hb dL_law_599 rfl (lv_at hl 1 rfl) ?_
  refine lv_iload hx hb dL_law_600 (lv_at hl 0 rfl) ?_
  refine lv_iconst (v := 2) hx hb dL_law_602 (by decide) ?_
  refine lv_iadd hx hb dL_law_603 ?_
  refine pb_sld hx hb hX hbl hbA hS hL (7 * j + 2) (by rw [show (2 : Int32) = nI 2 from rfl, nI_add]) (by omega) dL_law_604 ?_
  obtain ⟨bv, hXr, hRf⟩ := pt_hop hT (by omega) (xs (7 * j + 1)) (xs (7 * j + 2))
  refine pb_lawR (As := [.int (xs (7 * j + 1)), .int (xs (7 * j + 2))]) (rest := []) ⟨hx, hb, hml, hown, hts⟩ hXr (cwV 2 hts gL_law_X0_hop rfl rfl rfl (by decide +kernel) ⟨Nat.le_of_ble_eq_true rfl, Nat.le_of_ble_eq_true rfl⟩) hI hK rfl rfl hl (Nat.le_of_ble_eq_true rfl) dL_law_605 ⟨by show _ ≤ 601024; omega, by show _ ≤ 7293034; omega⟩ ?_
  refine lv_aload_n hx hb dL_law_608 rfl (lv_at hl 3 rfl) ?_
  refine lv_aload_n hx hb dL_law_609 rfl (lv_at hl 1 rfl) ?_
  refine lv_iload hx hb dL_law_610 (lv_at hl 0 rfl) ?_
  refine lv_iconst (v := 1) hx hb dL_law_612 (by decide) ?_
  refine lv_iadd hx hb dL_law_613 ?_
  refine pb_sld hx hb hX hbl hbA hS hL (7 * j + 1) (by rw [show (1 : Int32) = nI 1 from rfl, nI_add]) (by omega) dL_law_614 ?_
  refine lv_aload_n hx hb dL_law_615 rfl (lv_at hl 1 rfl) ?_
  refine lv_iload hx hb dL_law_616 (lv_at hl 0 rfl) ?_
  refine lv_iconst (v := 2) hx hb dL_law_618 (by decide) ?_
  refine lv_iadd hx hb dL_law_619 ?_
  refine pb_sld hx hb hX hbl hbA hS hL (7 * j + 2) (by rw [show (2 : Int32) = nI 2 from rfl, nI_add]) (by omega) dL_law_620 ?_
  refine pb_lawM (As := [.int (xs (7 * j + 1)), .int (xs (7 * j + 2))]) (rest := [.int bv]) ⟨hx, hb, hml, hown, hts⟩ hRf (by omega) (cwV 2 hts gL_law_X1_hop rfl rfl rfl (by decide +kernel) ⟨Nat.le_of_ble_eq_true rfl, Nat.le_of_ble_eq_true rfl⟩) hI hK hS hA rfl rfl hl (Nat.le_of_ble_eq_true rfl) dL_law_621 ⟨by show _ ≤ 601024; omega, by show _ ≤ 7293034; omega⟩ (fun H locs hI hS => ?_)
  refine lv_icmp_eq (tgt := 871) hx hb dL_law_624 (by decide) (fun q624 => ?_) (fun q624 => absurd (rfl) q624)
  refine W.widen (k := 16 + 3 * (j + 1)) (n := 6000 + 3072 * (j + 1)) (by omega) (by omega) ?_
  exact kk _ _ _ _ _ hT (by omega) (pb_LI_tt hI) hS (lv_sub hl [0, 1, 2, 3, 4] rfl)

set_option maxHeartbeats 4000000 in
set_option maxRecDepth 100000 in
theorem law_w8 (C0 : pb_LC p l s m args c D cI cJ b L xs) (hT : pb_ok T) (hTl : T.length ≤ j) (hj : 7 * j + 7 ≤ L) (hI : pb_LI D cI cJ (fun q : Nat => s.heap.size ≤ q) h0 m0 a1 l1 o1 c2 h2 ob T T co (fun _ => True) H) (hS : va_S (fun q : Nat => s.heap.size ≤ q) s.heap H locs) (hl : lv_has ls 8 [(4, .int (nI (7 * j))), (0, .ref b), (1, .ref h0), (2, .ref m0), (3, .ref ob)])
    (kk : ∀ (T' : List pb_Rt) (co' : Int32) (H1 : Heap) (locs1 : List Loc) (ls1 : Array Slot), pb_ok T' → T'.length ≤ j + 1 → pb_LI D cI cJ (fun q : Nat => s.heap.size ≤ q) h0 m0 a1 l1 o1 c2 h2 ob T' T' co' (fun _ => True) H1 → va_S (fun q : Nat => s.heap.size ≤ q) s.heap H1 locs1 → lv_has ls1 8 [(4, .int (nI (7 * j))), (0, .ref b), (1, .ref h0), (2, .ref m0), (3, .ref ob)] → W p l e room_1 s m args below meth c H1 locs1 (16 + 3 * (j + 1)) (6000 + 3072 * (j + 1)) Q (F0 m 871 ls1 [])) : W p l e room_1 s m args below meth c H locs (16 + 3 * j) (6000 + 3072 * j) Q (F0 m 629 ls []) := by
  obtain ⟨hx, hb, hml, hown, hts, hX, hbl, hK, hE, hst0, hL⟩ := C0
  have hA : ∀ q : Nat, s.heap.size ≤ q → (fun q : Nat => s.heap.size ≤ q) q := fun _ h => h
  have hbA : ¬ (fun q : Nat => s.heap.size ≤ q) b := Nat.not_le.mpr hbl
  refine lv_aload_n hx hb dL_law_629 rfl (lv_at hl 2 rfl) ?_
  refine lv_aload_n hx hb dL_law_630 rfl (lv_at hl 1 rfl) ?_
  refine lv_iload hx hb dL_law_631 (lv_at hl 0 rfl) ?_
  refine lv_iconst (v := 1) hx hb dL_law_633 (by decide) ?_
  refine lv_iadd hx hb dL_law_634 ?_
  refine pb_sld hx hb hX hbl hbA hS hL (7 * j + 1) (by rw [show (1 : Int32) = nI 1 from rfl, nI_add]) (by omega) dL_law_635 ?_
  refine lv_aload_n hx hb dL_law_636 rfl (lv_at hl 1 rfl) ?_
  refine lv_iload hx hb dL_law_637 (lv_at hl 0 rfl) ?_
  refine lv_iconst (v := 2) hx hb dL_law_639 (by decide) ?_
  refine lv_iadd hx hb dL_law_640 ?_
  refine pb_sld hx hb hX hbl hbA hS hL (7 * j + 2) (by rw [show (2 : Int32) = nI 2 from rfl, nI_add]) (by omega) dL_law_641 ?_
  refine lv_aload_n hx hb dL_law_642 rfl (lv_at hl 4 rfl) ?_
  obtain ⟨r, T9, P9, bv, hT9, hlen9, himp, hWr, hRf⟩ := pt_shorter hst0 hT (by omega) (xs (7 * j + 1)) (xs (7 * j + 2))
  refine pb_lawS (As := [.int (xs (7 * j + 1)), .int (xs (7 * j + 2))]) (rest := []) ⟨hx, hb, hml, hown, hts⟩ hWr (vx_cwSW 4 hts gL_law_L_shorter rfl rfl rfl (by decide +kernel) ⟨Nat.le_of_ble_eq_true rfl, Nat.le_of_ble_eq_true rfl⟩) hI hK (hE _ _ hS) hS hA rfl rfl hl (Nat.le_of_ble_eq_true rfl) dL_law_643 ⟨by show _ ≤ 601024; omega, by show _ ≤ 7293034; omega⟩ (fun H locs hI hS => ?_)
  refine lv_istore (lv' := [(5, .int r), (4, .int (nI (7 * j))), (0, .ref b), (1, .ref h0), (2, .ref m0), (3, .ref ob)]) hx hb dL_law_646 hl (by decide) rfl (fun ls hl => ?_)
  refine lv_aload_n hx hb dL_law_648 rfl (lv_at hl 4 rfl) ?_
  refine lv_aload_n hx hb dL_law_649 rfl (lv_at hl 2 rfl) ?_
  refine lv_iload hx hb dL_law_650 (lv_at hl 1 rfl) ?_
  refine lv_iconst (v := 1) hx hb dL_law_652 (by decide) ?_
  refine lv_iadd hx hb dL_law_653 ?_
  refine pb_sld hx hb hX hbl hbA hS hL (7 * j + 1) (by rw [show (1 : Int32) = nI 1 from rfl, nI_add]) (by omega) dL_law_654 ?_
  refine lv_aload_n hx hb dL_law_655 rfl (lv_at hl 2 rfl) ?_
  refine lv_iload hx hb dL_law_656 (lv_at hl 1 rfl) ?_
  refine lv_iconst (v := 2) hx hb dL_law_658 (by decide) ?_
  refine lv_iadd hx hb dL_law_659 ?_
  refine pb_sld hx hb hX hbl hbA hS hL (7 * j + 2) (by rw [show (2 : Int32) = nI 2 from rfl, nI_add]) (by omega) dL_law_660 ?_
  refine pb_lawM (As := [.int (xs (7 * j + 1)), .int (xs (7 * j + 2))]) (rest := []) ⟨hx, hb, hml, hown, hts⟩ hRf (by omega) (cwV 2 hts gL_law_X1_shorter rfl rfl rfl (by decide +kernel) ⟨Nat.le_of_ble_eq_true rfl, Nat.le_of_ble_eq_true rfl⟩) hI hK hS hA rfl rfl hl (Nat.le_of_ble_eq_true rfl) dL_law_661 ⟨by show _ ≤ 601024; omega, by show _ ≤ 7293034; omega⟩ (fun H locs hI hS => ?_)
  refine lv_istore (lv' := [(6, .int bv), (5, .int r), (4, .int (nI (7 * j))), (0, .ref b), (1, .ref h0), (2, .ref m0), (3, .ref ob)]) hx hb dL_law_664 hl (by decide) rfl (fun ls hl => ?_)
  refine lv_aload_n hx hb dL_law_666 rfl (lv_at hl 5 rfl) ?_
  refine pb_lawT (rest := []) ⟨hx, hb, hml, hown, hts⟩ (cwV 0 hts gL_law_X1_thrown rfl rfl rfl (by decide +kernel) ⟨Nat.le_of_ble_eq_true rfl, Nat.le_of_ble_eq_true rfl⟩) hI hK hl (Nat.le_of_ble_eq_true rfl) dL_law_667 ⟨by show _ ≤ 601024; omega, by show _ ≤ 7293034; omega⟩ ?_
  refine lv_iload hx hb dL_law_670 (lv_at hl 1 rfl) ?_
  refine lv_icmp_eq (tgt := 677) hx hb dL_law_672 (by decide) (fun q672 => ?_) (fun q672 => absurd (rfl) q672)
  refine lv_iload hx hb dL_law_677 (lv_at hl 1 rfl) ?_
  refine lv_if_ne (tgt := 694) hx hb dL_law_679 (by decide) (fun q679 => ?_) (fun q679 => ?_)
  · refine lv_goto (tgt := 871) hx hb dL_law_694 (by decide) ?_
    refine W.widen (k := 16 + 3 * (j + 1)) (n := 6000 + 3072 * (j + 1)) (by omega) (by omega) ?_
    exact kk _ _ _ _ _ hT9 (by omega) (pb_LI_tt hI) hS (lv_sub hl [2, 3, 4, 5, 6] rfl)
  · refine lv_aload_n hx hb dL_law_682 rfl (lv_at hl 6 rfl) ?_
    refine lv_iconst (v := 0) hx hb dL_law_683 (by decide) ?_
    refine pb_lawO hx hb hI hK dL_law_684 (fun z hz => ?_)
    refine lv_iload hx hb dL_law_685 (lv_at hl 0 rfl) ?_
    refine lv_i2l hx hb dL_law_687 rfl ?_
    refine W.lcmp hx hb dL_law_688 ?_
    refine lv_if_eq (tgt := 694) hx hb dL_law_689 (by decide) (fun q689 => ?_) (fun q689 => absurd ((lg_cmp_eq _ _).mpr (himp q679 z hz)) q689)
    have q689 := (lg_cmp_eq _ _).mp q689
    refine lv_goto (tgt := 871) hx hb dL_law_694 (by decide) ?_
    refine W.widen (k := 16 + 3 * (j + 1)) (n := 6000 + 3072 * (j + 1)) (by omega) (by omega) ?_
    exact kk _ _ _ _ _ hT9 (by omega) (pb_LI_tt hI) hS (lv_sub hl [2, 3, 4, 5, 6] rfl)

set_option maxHeartbeats 4000000 in
set_option maxRecDepth 100000 in
theorem law_w9 (C0 : pb_LC p l s m args c D cI cJ b L xs) (hT : pb_ok T) (hTl : T.length ≤ j) (hj : 7 * j + 7 ≤ L) (hI : pb_LI D cI cJ (fun q : Nat => s.heap.size ≤ q) h0 m0 a1 l1 o1 c2 h2 ob T T co (fun _ => True) H) (hS : va_S (fun q : Nat => s.heap.size ≤ q) s.heap H locs) (hl : lv_has ls 8 [(4, .int (nI (7 * j))), (0, .ref b), (1, .ref h0), (2, .ref m0), (3, .ref ob)])
    (kk : ∀ (T' : List pb_Rt) (co' : Int32) (H1 : Heap) (locs1 : List Loc) (ls1 : Array Slot), pb_ok T' → T'.length ≤ j + 1 → pb_LI D cI cJ (fun q : Nat => s.heap.size ≤ q) h0 m0 a1 l1 o1 c2 h2 ob T' T' co' (fun _ => True) H1 → va_S (fun q : Nat => s.heap.size ≤ q) s.heap H1 locs1 → lv_has ls1 8 [(4, .int (nI (7 * j))), (0, .ref b), (1, .ref h0), (2, .ref m0), (3, .ref ob)] → W p l e room_1 s m args below meth c H1 locs1 (16 + 3 * (j + 1)) (6000 + 3072 * (j + 1)) Q (F0 m 871 ls1 [])) : W p l e room_1 s m args below meth c H locs (16 + 3 * j) (6000 + 3072 * j) Q (F0 m 697 ls []) := by
  obtain ⟨hx, hb, hml, hown, hts, hX, hbl, hK, hE, hst0, hL⟩ := C0
  have hA : ∀ q : Nat, s.heap.size ≤ q → (fun q : Nat => s.heap.size ≤ q) q := fun _ h => h
  have hbA : ¬ (fun q : Nat => s.heap.size ≤ q) b := Nat.not_le.mpr hbl
  refine lv_aload_n hx hb dL_law_697 rfl (lv_at hl 2 rfl) ?_
  refine lv_aload_n hx hb dL_law_698 rfl (lv_at hl 1 rfl) ?_
  refine lv_iload hx hb dL_law_699 (lv_at hl 0 rfl) ?_
  refine lv_iconst (v := 1) hx hb dL_law_701 (by decide) ?_
  refine lv_iadd hx hb dL_law_702 ?_
  refine pb_sld hx hb hX hbl hbA hS hL (7 * j + 1) (by rw [show (1 : Int32) = nI 1 from rfl, nI_add]) (by omega) dL_law_703 ?_
  refine lv_aload_n hx hb dL_law_704 rfl (lv_at hl 1 rfl) ?_
  refine lv_iload hx hb dL_law_705 (lv_at hl 0 rfl) ?_
  refine lv_iconst (v := 2) hx hb dL_law_707 (by decide) ?_
  refine lv_iadd hx hb dL_law_708 ?_
  refine pb_sld hx hb hX hbl hbA hS hL (7 * j + 2) (by rw [show (2 : Int32) = nI 2 from rfl, nI_add]) (by omega) dL_law_709 ?_
  refine lv_aload_n hx hb dL_law_710 rfl (lv_at hl 4 rfl) ?_
  obtain ⟨r, T9, P9, bv, hT9, hlen9, himp, hWr, hRf⟩ := pt_after hst0 hT (by omega) (xs (7 * j + 1)) (xs (7 * j + 2))
  refine pb_lawS (As := [.int (xs (7 * j + 1)), .int (xs (7 * j + 2))]) (rest := []) ⟨hx, hb, hml, hown, hts⟩ hWr (vx_cwSW 4 hts gL_law_L_after rfl rfl rfl (by decide +kernel) ⟨Nat.le_of_ble_eq_true rfl, Nat.le_of_ble_eq_true rfl⟩) hI hK (hE _ _ hS) hS hA rfl rfl hl (Nat.le_of_ble_eq_true rfl) dL_law_711 ⟨by show _ ≤ 601024; omega, by show _ ≤ 7293034; omega⟩ (fun H locs hI hS => ?_)
  refine lv_istore (lv' := [(5, .int r), (4, .int (nI (7 * j))), (0, .ref b), (1, .ref h0), (2, .ref m0), (3, .ref ob)]) hx hb dL_law_714 hl (by decide) rfl (fun ls hl => ?_)
  refine lv_aload_n hx hb dL_law_716 rfl (lv_at hl 4 rfl) ?_
  refine lv_aload_n hx hb dL_law_717 rfl (lv_at hl 2 rfl) ?_
  refine lv_iload hx hb dL_law_718 (lv_at hl 1 rfl) ?_
  refine lv_iconst (v := 1) hx hb dL_law_720 (by decide) ?_
  refine lv_iadd hx hb dL_law_721 ?_
  refine pb_sld hx hb hX hbl hbA hS hL (7 * j + 1) (by rw [show (1 : Int32) = nI 1 from rfl, nI_add]) (by omega) dL_law_722 ?_
  refine lv_aload_n hx hb dL_law_723 rfl (lv_at hl 2 rfl) ?_
  refine lv_iload hx hb dL_law_724 (lv_at hl 1 rfl) ?_
  refine lv_iconst (v := 2) hx hb dL_law_726 (by decide) ?_
  refine lv_iadd hx hb dL_law_727 ?_
  refine pb_sld hx hb hX hbl hbA hS hL (7 * j + 2) (by rw [show (2 : Int32) = nI 2 from rfl, nI_add]) (by omega) dL_law_728 ?_
  refine pb_lawM (As := [.int (xs (7 * j + 1)), .int (xs (7 * j + 2))]) (rest := []) ⟨hx, hb, hml, hown, hts⟩ hRf (by omega) (cwV 2 hts gL_law_X1_after rfl rfl rfl (by decide +kernel) ⟨Nat.le_of_ble_eq_true rfl, Nat.le_of_ble_eq_true rfl⟩) hI hK hS hA rfl rfl hl (Nat.le_of_ble_eq_true rfl) dL_law_729 ⟨by show _ ≤ 601024; omega, by show _ ≤ 7293034; omega⟩ (fun H locs hI hS => ?_)
  refine lv_lstore (lv' := [(6, .long bv), (5, .int r), (4, .int (nI (7 * j))), (0, .ref b), (1, .ref h0), (2, .ref m0), (3, .ref ob)]) hx hb dL_law_732 hl (by decide) rfl (fun ls hl => ?_)
  refine lv_aload_n hx hb dL_law_734 rfl (lv_at hl 5 rfl) ?_
  refine pb_lawT (rest := []) ⟨hx, hb, hml, hown, hts⟩ (cwV 0 hts gL_law_X1_thrown rfl rfl rfl (by decide +kernel) ⟨Nat.le_of_ble_eq_true rfl, Nat.le_of_ble_eq_true rfl⟩) hI hK hl (Nat.le_of_ble_eq_true rfl) dL_law_735 ⟨by show _ ≤ 601024; omega, by show _ ≤ 7293034; omega⟩ ?_
  refine lv_iload hx hb dL_law_738 (lv_at hl 1 rfl) ?_
  refine lv_icmp_eq (tgt := 745) hx hb dL_law_740 (by decide) (fun q740 => ?_) (fun q740 => absurd (rfl) q740)
  refine lv_iload hx hb dL_law_745 (lv_at hl 1 rfl) ?_
  refine lv_if_ne (tgt := 761) hx hb dL_law_747 (by decide) (fun q747 => ?_) (fun q747 => ?_)
  · refine lv_goto (tgt := 871) hx hb dL_law_761 (by decide) ?_
    refine W.widen (k := 16 + 3 * (j + 1)) (n := 6000 + 3072 * (j + 1)) (by omega) (by omega) ?_
    exact kk _ _ _ _ _ hT9 (by omega) (pb_LI_tt hI) hS (lv_sub hl [2, 3, 4, 5, 6] rfl)
  · refine lv_aload_n hx hb dL_law_750 rfl (lv_at hl 6 rfl) ?_
    refine lv_iconst (v := 0) hx hb dL_law_751 (by decide) ?_
    refine pb_lawO hx hb hI hK dL_law_752 (fun z hz => ?_)
    refine lv_lload hx hb dL_law_753 (lv_at hl 0 rfl) ?_
    refine W.lcmp hx hb dL_law_755 ?_
    refine lv_if_eq (tgt := 761) hx hb dL_law_756 (by decide) (fun q756 => ?_) (fun q756 => absurd ((lg_cmp_eq _ _).mpr (himp q747 z hz)) q756)
    have q756 := (lg_cmp_eq _ _).mp q756
    refine lv_goto (tgt := 871) hx hb dL_law_761 (by decide) ?_
    refine W.widen (k := 16 + 3 * (j + 1)) (n := 6000 + 3072 * (j + 1)) (by omega) (by omega) ?_
    exact kk _ _ _ _ _ hT9 (by omega) (pb_LI_tt hI) hS (lv_sub hl [2, 3, 4, 5, 6] rfl)

set_option maxHeartbeats 4000000 in
set_option maxRecDepth 100000 in
theorem law_w10 (C0 : pb_LC p l s m args c D cI cJ b L xs) (hT : pb_ok T) (hTl : T.length ≤ j) (hj : 7 * j + 7 ≤ L) (hI : pb_LI D cI cJ (fun q : Nat => s.heap.size ≤ q) h0 m0 a1 l1 o1 c2 h2 ob T T co (fun _ => True) H) (hS : va_S (fun q : Nat => s.heap.size ≤ q) s.heap H locs) (hl : lv_has ls 8 [(4, .int (nI (7 * j))), (0, .ref b), (1, .ref h0), (2, .ref m0), (3, .ref ob)])
    (kk : ∀ (T' : List pb_Rt) (co' : Int32) (H1 : Heap) (locs1 : List Loc) (ls1 : Array Slot), pb_ok T' → T'.length ≤ j + 1 → pb_LI D cI cJ (fun q : Nat => s.heap.size ≤ q) h0 m0 a1 l1 o1 c2 h2 ob T' T' co' (fun _ => True) H1 → va_S (fun q : Nat => s.heap.size ≤ q) s.heap H1 locs1 → lv_has ls1 8 [(4, .int (nI (7 * j))), (0, .ref b), (1, .ref h0), (2, .ref m0), (3, .ref ob)] → W p l e room_1 s m args below meth c H1 locs1 (16 + 3 * (j + 1)) (6000 + 3072 * (j + 1)) Q (F0 m 871 ls1 [])) : W p l e room_1 s m args below meth c H locs (16 + 3 * j) (6000 + 3072 * j) Q (F0 m 764 ls []) := by
  obtain ⟨hx, hb, hml, hown, hts, hX, hbl, hK, hE, hst0, hL⟩ := C0
  have hA : ∀ q : Nat, s.heap.size ≤ q → (fun q : Nat => s.heap.size ≤ q) q := fun _ h => h
  have hbA : ¬ (fun q : Nat => s.heap.size ≤ q) b := Nat.not_le.mpr hbl
  refine lv_aload_n hx hb dL_law_764 rfl (lv_at hl 2 rfl) ?_
  refine lv_aload_n hx hb dL_law_765 rfl (lv_at hl 1 rfl) ?_
  refine lv_iload hx hb dL_law_766 (lv_at hl 0 rfl) ?_
  refine lv_iconst (v := 1) hx hb dL_law_768 (by decide) ?_
  refine lv_iadd hx hb dL_law_769 ?_
  refine pb_sld hx hb hX hbl hbA hS hL (7 * j + 1) (by rw [show (1 : Int32) = nI 1 from rfl, nI_add]) (by omega) dL_law_770 ?_
  refine lv_aload_n hx hb dL_law_771 rfl (lv_at hl 1 rfl) ?_
  refine lv_iload hx hb dL_law_772 (lv_at hl 0 rfl) ?_
  refine lv_iconst (v := 2) hx hb dL_law_774 (by decide) ?_
  refine lv_iadd hx hb dL_law_775 ?_
  refine pb_sld hx hb hX hbl hbA hS hL (7 * j + 2) (by rw [show (2 : Int32) = nI 2 from rfl, nI_add]) (by omega) dL_law_776 ?_
  refine lv_aload_n hx hb dL_law_777 rfl (lv_at hl 4 rfl) ?_
  obtain ⟨r, T9, P9, bv, hT9, hlen9, himp, hWr, hRf⟩ := pt_within hst0 hT (by omega) (xs (7 * j + 1)) (xs (7 * j + 2))
  refine pb_lawS (As := [.int (xs (7 * j + 1)), .int (xs (7 * j + 2))]) (rest := []) ⟨hx, hb, hml, hown, hts⟩ hWr (vx_cwSW 4 hts gL_law_L_within rfl rfl rfl (by decide +kernel) ⟨Nat.le_of_ble_eq_true rfl, Nat.le_of_ble_eq_true rfl⟩) hI hK (hE _ _ hS) hS hA rfl rfl hl (Nat.le_of_ble_eq_true rfl) dL_law_778 ⟨by show _ ≤ 601024; omega, by show _ ≤ 7293034; omega⟩ (fun H locs hI hS => ?_)
  refine lv_istore (lv' := [(5, .int r), (4, .int (nI (7 * j))), (0, .ref b), (1, .ref h0), (2, .ref m0), (3, .ref ob)]) hx hb dL_law_781 hl (by decide) rfl (fun ls hl => ?_)
  refine lv_aload_n hx hb dL_law_783 rfl (lv_at hl 4 rfl) ?_
  refine lv_aload_n hx hb dL_law_784 rfl (lv_at hl 2 rfl) ?_
  refine lv_iload hx hb dL_law_785 (lv_at hl 1 rfl) ?_
  refine lv_iconst (v := 1) hx hb dL_law_787 (by decide) ?_
  refine lv_iadd hx hb dL_law_788 ?_
  refine pb_sld hx hb hX hbl hbA hS hL (7 * j + 1) (by rw [show (1 : Int32) = nI 1 from rfl, nI_add]) (by omega) dL_law_789 ?_
  refine lv_aload_n hx hb dL_law_790 rfl (lv_at hl 2 rfl) ?_
  refine lv_iload hx hb dL_law_791 (lv_at hl 1 rfl) ?_
  refine lv_iconst (v := 2) hx hb dL_law_793 (by decide) ?_
  refine lv_iadd hx hb dL_law_794 ?_
  refine pb_sld hx hb hX hbl hbA hS hL (7 * j + 2) (by rw [show (2 : Int32) = nI 2 from rfl, nI_add]) (by omega) dL_law_795 ?_
  refine pb_lawM (As := [.int (xs (7 * j + 1)), .int (xs (7 * j + 2))]) (rest := []) ⟨hx, hb, hml, hown, hts⟩ hRf (by omega) (cwV 2 hts gL_law_X1_within rfl rfl rfl (by decide +kernel) ⟨Nat.le_of_ble_eq_true rfl, Nat.le_of_ble_eq_true rfl⟩) hI hK hS hA rfl rfl hl (Nat.le_of_ble_eq_true rfl) dL_law_796 ⟨by show _ ≤ 601024; omega, by show _ ≤ 7293034; omega⟩ (fun H locs hI hS => ?_)
  refine lv_istore (lv' := [(6, .int bv), (5, .int r), (4, .int (nI (7 * j))), (0, .ref b), (1, .ref h0), (2, .ref m0), (3, .ref ob)]) hx hb dL_law_799 hl (by decide) rfl (fun ls hl => ?_)
  refine lv_aload_n hx hb dL_law_801 rfl (lv_at hl 5 rfl) ?_
  refine pb_lawT (rest := []) ⟨hx, hb, hml, hown, hts⟩ (cwV 0 hts gL_law_X1_thrown rfl rfl rfl (by decide +kernel) ⟨Nat.le_of_ble_eq_true rfl, Nat.le_of_ble_eq_true rfl⟩) hI hK hl (Nat.le_of_ble_eq_true rfl) dL_law_802 ⟨by show _ ≤ 601024; omega, by show _ ≤ 7293034; omega⟩ ?_
  refine lv_iload hx hb dL_law_805 (lv_at hl 1 rfl) ?_
  refine lv_icmp_eq (tgt := 812) hx hb dL_law_807 (by decide) (fun q807 => ?_) (fun q807 => absurd (rfl) q807)
  refine lv_iload hx hb dL_law_812 (lv_at hl 1 rfl) ?_
  refine lv_if_ne (tgt := 829) hx hb dL_law_814 (by decide) (fun q814 => ?_) (fun q814 => ?_)
  · refine lv_goto (tgt := 871) hx hb dL_law_829 (by decide) ?_
    refine W.widen (k := 16 + 3 * (j + 1)) (n := 6000 + 3072 * (j + 1)) (by omega) (by omega) ?_
    exact kk _ _ _ _ _ hT9 (by omega) (pb_LI_tt hI) hS (lv_sub hl [2, 3, 4, 5, 6] rfl)
  · refine lv_aload_n hx hb dL_law_817 rfl (lv_at hl 6 rfl) ?_
    refine lv_iconst (v := 0) hx hb dL_law_818 (by decide) ?_
    refine pb_lawO hx hb hI hK dL_law_819 (fun z hz => ?_)
    refine lv_iload hx hb dL_law_820 (lv_at hl 0 rfl) ?_
    refine lv_i2l hx hb dL_law_822 rfl ?_
    refine W.lcmp hx hb dL_law_823 ?_
    refine lv_if_eq (tgt := 829) hx hb dL_law_824 (by decide) (fun q824 => ?_) (fun q824 => absurd ((lg_cmp_eq _ _).mpr (himp q814 z hz)) q824)
    have q824 := (lg_cmp_eq _ _).mp q824
    refine lv_goto (tgt := 871) hx hb dL_law_829 (by decide) ?_
    refine W.widen (k := 16 + 3 * (j + 1)) (n := 6000 + 3072 * (j + 1)) (by omega) (by omega) ?_
    exact kk _ _ _ _ _ hT9 (by omega) (pb_LI_tt hI) hS (lv_sub hl [2, 3, 4, 5, 6] rfl)

set_option maxHeartbeats 4000000 in
set_option maxRecDepth 100000 in
theorem law_w11 (C0 : pb_LC p l s m args c D cI cJ b L xs) (hT : pb_ok T) (hTl : T.length ≤ j) (hj : 7 * j + 7 ≤ L) (hI : pb_LI D cI cJ (fun q : Nat => s.heap.size ≤ q) h0 m0 a1 l1 o1 c2 h2 ob T T co (fun _ => True) H) (hS : va_S (fun q : Nat => s.heap.size ≤ q) s.heap H locs) (hl : lv_has ls 8 [(4, .int (nI (7 * j))), (0, .ref b), (1, .ref h0), (2, .ref m0), (3, .ref ob)])
    (kk : ∀ (T' : List pb_Rt) (co' : Int32) (H1 : Heap) (locs1 : List Loc) (ls1 : Array Slot), pb_ok T' → T'.length ≤ j + 1 → pb_LI D cI cJ (fun q : Nat => s.heap.size ≤ q) h0 m0 a1 l1 o1 c2 h2 ob T' T' co' (fun _ => True) H1 → va_S (fun q : Nat => s.heap.size ≤ q) s.heap H1 locs1 → lv_has ls1 8 [(4, .int (nI (7 * j))), (0, .ref b), (1, .ref h0), (2, .ref m0), (3, .ref ob)] → W p l e room_1 s m args below meth c H1 locs1 (16 + 3 * (j + 1)) (6000 + 3072 * (j + 1)) Q (F0 m 871 ls1 [])) : W p l e room_1 s m args below meth c H locs (16 + 3 * j) (6000 + 3072 * j) Q (F0 m 832 ls []) := by
  obtain ⟨hx, hb, hml, hown, hts, hX, hbl, hK, hE, hst0, hL⟩ := C0
  have hA : ∀ q : Nat, s.heap.size ≤ q → (fun q : Nat => s.heap.size ≤ q) q := fun _ h => h
  have hbA : ¬ (fun q : Nat => s.heap.size ≤ q) b := Nat.not_le.mpr hbl
  refine lv_aload_n hx hb dL_law_832 rfl (lv_at hl 2 rfl) ?_
  obtain ⟨bv, hXr, hRf⟩ := pt_routes hT (by omega) 
  refine pb_lawR (As := []) (rest := []) ⟨hx, hb, hml, hown, hts⟩ hXr (cwV 0 hts gL_law_X0_routes rfl rfl rfl (by decide +kernel) ⟨Nat.le_of_ble_eq_true rfl, Nat.le_of_ble_eq_true rfl⟩) hI hK rfl rfl hl (Nat.le_of_ble_eq_true rfl) dL_law_833 ⟨by show _ ≤ 601024; omega, by show _ ≤ 7293034; omega⟩ ?_
  refine lv_aload_n hx hb dL_law_836 rfl (lv_at hl 3 rfl) ?_
  refine pb_lawM (As := []) (rest := [.int bv]) ⟨hx, hb, hml, hown, hts⟩ hRf (by omega) (cwV 0 hts gL_law_X1_routes rfl rfl rfl (by decide +kernel) ⟨Nat.le_of_ble_eq_true rfl, Nat.le_of_ble_eq_true rfl⟩) hI hK hS hA rfl rfl hl (Nat.le_of_ble_eq_true rfl) dL_law_837 ⟨by show _ ≤ 601024; omega, by show _ ≤ 7293034; omega⟩ (fun H locs hI hS => ?_)
  refine lv_icmp_eq (tgt := 871) hx hb dL_law_840 (by decide) (fun q840 => ?_) (fun q840 => absurd (rfl) q840)
  refine W.widen (k := 16 + 3 * (j + 1)) (n := 6000 + 3072 * (j + 1)) (by omega) (by omega) ?_
  exact kk _ _ _ _ _ hT (by omega) (pb_LI_tt hI) hS (lv_sub hl [0, 1, 2, 3, 4] rfl)

set_option maxHeartbeats 4000000 in
set_option maxRecDepth 100000 in
theorem law_w12 (C0 : pb_LC p l s m args c D cI cJ b L xs) (hT : pb_ok T) (hTl : T.length ≤ j) (hj : 7 * j + 7 ≤ L) (hI : pb_LI D cI cJ (fun q : Nat => s.heap.size ≤ q) h0 m0 a1 l1 o1 c2 h2 ob T T co (fun _ => True) H) (hS : va_S (fun q : Nat => s.heap.size ≤ q) s.heap H locs) (hl : lv_has ls 8 [(4, .int (nI (7 * j))), (0, .ref b), (1, .ref h0), (2, .ref m0), (3, .ref ob)])
    (kk : ∀ (T' : List pb_Rt) (co' : Int32) (H1 : Heap) (locs1 : List Loc) (ls1 : Array Slot), pb_ok T' → T'.length ≤ j + 1 → pb_LI D cI cJ (fun q : Nat => s.heap.size ≤ q) h0 m0 a1 l1 o1 c2 h2 ob T' T' co' (fun _ => True) H1 → va_S (fun q : Nat => s.heap.size ≤ q) s.heap H1 locs1 → lv_has ls1 8 [(4, .int (nI (7 * j))), (0, .ref b), (1, .ref h0), (2, .ref m0), (3, .ref ob)] → W p l e room_1 s m args below meth c H1 locs1 (16 + 3 * (j + 1)) (6000 + 3072 * (j + 1)) Q (F0 m 871 ls1 [])) : W p l e room_1 s m args below meth c H locs (16 + 3 * j) (6000 + 3072 * j) Q (F0 m 845 ls []) := by
  obtain ⟨hx, hb, hml, hown, hts, hX, hbl, hK, hE, hst0, hL⟩ := C0
  have hA : ∀ q : Nat, s.heap.size ≤ q → (fun q : Nat => s.heap.size ≤ q) q := fun _ h => h
  have hbA : ¬ (fun q : Nat => s.heap.size ≤ q) b := Nat.not_le.mpr hbl
  refine lv_aload_n hx hb dL_law_845 rfl (lv_at hl 2 rfl) ?_
  obtain ⟨bv, hXr, hRf⟩ := pt_known hT (by omega) 
  refine pb_lawR (As := []) (rest := []) ⟨hx, hb, hml, hown, hts⟩ hXr (cwV 0 hts gL_law_X0_known rfl rfl rfl (by decide +kernel) ⟨Nat.le_of_ble_eq_true rfl, Nat.le_of_ble_eq_true rfl⟩) hI hK rfl rfl hl (Nat.le_of_ble_eq_true rfl) dL_law_846 ⟨by show _ ≤ 601024; omega, by show _ ≤ 7293034; omega⟩ ?_
  refine lv_aload_n hx hb dL_law_849 rfl (lv_at hl 3 rfl) ?_
  refine pb_lawM (As := []) (rest := [.int bv]) ⟨hx, hb, hml, hown, hts⟩ hRf (by omega) (cwV 0 hts gL_law_X1_known rfl rfl rfl (by decide +kernel) ⟨Nat.le_of_ble_eq_true rfl, Nat.le_of_ble_eq_true rfl⟩) hI hK hS hA rfl rfl hl (Nat.le_of_ble_eq_true rfl) dL_law_850 ⟨by show _ ≤ 601024; omega, by show _ ≤ 7293034; omega⟩ (fun H locs hI hS => ?_)
  refine lv_icmp_eq (tgt := 871) hx hb dL_law_853 (by decide) (fun q853 => ?_) (fun q853 => absurd (rfl) q853)
  refine W.widen (k := 16 + 3 * (j + 1)) (n := 6000 + 3072 * (j + 1)) (by omega) (by omega) ?_
  exact kk _ _ _ _ _ hT (by omega) (pb_LI_tt hI) hS (lv_sub hl [0, 1, 2, 3, 4] rfl)

set_option maxHeartbeats 4000000 in
set_option maxRecDepth 100000 in
theorem law_w13 (C0 : pb_LC p l s m args c D cI cJ b L xs) (hT : pb_ok T) (hTl : T.length ≤ j) (hj : 7 * j + 7 ≤ L) (hI : pb_LI D cI cJ (fun q : Nat => s.heap.size ≤ q) h0 m0 a1 l1 o1 c2 h2 ob T T co (fun _ => True) H) (hS : va_S (fun q : Nat => s.heap.size ≤ q) s.heap H locs) (hl : lv_has ls 8 [(4, .int (nI (7 * j))), (0, .ref b), (1, .ref h0), (2, .ref m0), (3, .ref ob)])
    (kk : ∀ (T' : List pb_Rt) (co' : Int32) (H1 : Heap) (locs1 : List Loc) (ls1 : Array Slot), pb_ok T' → T'.length ≤ j + 1 → pb_LI D cI cJ (fun q : Nat => s.heap.size ≤ q) h0 m0 a1 l1 o1 c2 h2 ob T' T' co' (fun _ => True) H1 → va_S (fun q : Nat => s.heap.size ≤ q) s.heap H1 locs1 → lv_has ls1 8 [(4, .int (nI (7 * j))), (0, .ref b), (1, .ref h0), (2, .ref m0), (3, .ref ob)] → W p l e room_1 s m args below meth c H1 locs1 (16 + 3 * (j + 1)) (6000 + 3072 * (j + 1)) Q (F0 m 871 ls1 [])) : W p l e room_1 s m args below meth c H locs (16 + 3 * j) (6000 + 3072 * j) Q (F0 m 858 ls []) := by
  obtain ⟨hx, hb, hml, hown, hts, hX, hbl, hK, hE, hst0, hL⟩ := C0
  have hA : ∀ q : Nat, s.heap.size ≤ q → (fun q : Nat => s.heap.size ≤ q) q := fun _ h => h
  have hbA : ¬ (fun q : Nat => s.heap.size ≤ q) b := Nat.not_le.mpr hbl
  refine lv_aload_n hx hb dL_law_858 rfl (lv_at hl 2 rfl) ?_
  obtain ⟨bv, hXr, hRf⟩ := pt_nodes hT (by omega) 
  refine pb_lawR (As := []) (rest := []) ⟨hx, hb, hml, hown, hts⟩ hXr (cwV 0 hts gL_law_X0_nodes rfl rfl rfl (by decide +kernel) ⟨Nat.le_of_ble_eq_true rfl, Nat.le_of_ble_eq_true rfl⟩) hI hK rfl rfl hl (Nat.le_of_ble_eq_true rfl) dL_law_859 ⟨by show _ ≤ 601024; omega, by show _ ≤ 7293034; omega⟩ ?_
  refine lv_aload_n hx hb dL_law_862 rfl (lv_at hl 3 rfl) ?_
  refine pb_lawM (As := []) (rest := [.int bv]) ⟨hx, hb, hml, hown, hts⟩ hRf (by omega) (cwV 0 hts gL_law_X1_nodes rfl rfl rfl (by decide +kernel) ⟨Nat.le_of_ble_eq_true rfl, Nat.le_of_ble_eq_true rfl⟩) hI hK hS hA rfl rfl hl (Nat.le_of_ble_eq_true rfl) dL_law_863 ⟨by show _ ≤ 601024; omega, by show _ ≤ 7293034; omega⟩ (fun H locs hI hS => ?_)
  refine lv_icmp_eq (tgt := 871) hx hb dL_law_866 (by decide) (fun q866 => ?_) (fun q866 => absurd (rfl) q866)
  refine W.widen (k := 16 + 3 * (j + 1)) (n := 6000 + 3072 * (j + 1)) (by omega) (by omega) ?_
  exact kk _ _ _ _ _ hT (by omega) (pb_LI_tt hI) hS (lv_sub hl [0, 1, 2, 3, 4] rfl)

end
end PB19
