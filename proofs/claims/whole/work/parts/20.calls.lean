/-! EVERY CALL, side by side: what the class answers and what the reference answers (laid by wip/gen/p20.py) -/
section PB17
/-- a wrapper's call: from a list of routes T to T', its answer r, what it leaves in the long[1] -/
def pb_wrapOk (l : Launch) (y : MethodName) (ws : List Cond) (As : List Value) (T T' : List pb_Rt) (r : Int32) (P : Int64 → Prop) : Prop := ∀ (D : va_G) (cI cJ : ClassId) (h0 k1 c1 h1 cap : Nat) (Kf : Nat → Int64) (Cf : Nat → Int32) (Hf : Nat → Int64) (ob : Nat) (Og : Nat → Int64) (sz : Nat), (pb_rX T cap Kf Cf Hf ∧ cap ≤ 1024) → pb_WqE l y ws (.ref h0 :: (As ++ [.ref ob])) D (pb_ty cI cJ) (pb_wXo cI cJ h0 k1 c1 h1 cap Kf Cf Hf (nI T.length) ob Og) sz r (pb_BO D cI cJ h0 ob T' P)
/-- a call of the reference -/
def pb_refOk (l : Launch) (y : MethodName) (ws : List Cond) (fr lo : Nat) (As : List Value) (T T' : List pb_Rt) (v : Value) (co9 : Int32) : Prop := ∀ (D : va_G) (cI cJ : ClassId) (m0 a1 l1 o1 c1 h1 : Nat) (Af Lf Of Cf : Nat → Int32) (Hf : Nat → Int64) (co : Int32) (sz : Nat), pb_rM T Af Lf Of Cf Hf → pb_Wq l y ws fr 0 0 lo (.ref m0 :: As) D (pb_ty cI cJ) (pb_wM cI cJ m0 a1 l1 o1 c1 h1 Af Lf Of Cf Hf co (nI T.length)) sz (some v) (pb_BM D cI cJ m0 a1 l1 o1 c1 h1 T' co9)
/-- a call of the class that only reads -/
def pb_rdOk (l : Launch) (y : MethodName) (ws : List Cond) (fr lo : Nat) (As : List Value) (T : List pb_Rt) (v : Value) : Prop := ∀ (D : va_G) (cI cJ : ClassId) (h0 k1 c1 h1 cap : Nat) (Kf : Nat → Int64) (Cf : Nat → Int32) (Hf : Nat → Int64), pb_rX T cap Kf Cf Hf → pb_Rd l y ws fr lo (pb_X (.ref h0 :: As) D (pb_ty cI cJ) (pb_wX cI cJ h0 k1 c1 h1 cap Kf Cf Hf (nI T.length))) v
section
variable {l : Launch} {D : va_G} {cI cJ : ClassId} {m0 a1 l1 o1 c1 h1 sz : Nat} {Af Lf Of Cf : Nat → Int32} {Hf : Nat → Int64} {co co9 : Int32}
theorem pb_toBM {y : MethodName} {ws : List Cond} {fr lo : Nat} {av : List Value} {wd : va_W} {r : Option Value} {T : List pb_Rt} (hM : pb_rM T Af Lf Of Cf Hf) (h : pb_Wq l y ws fr 0 0 lo av D (pb_ty cI cJ) wd sz r (pb_B D (pb_ty cI cJ) (pb_wM cI cJ m0 a1 l1 o1 c1 h1 Af Lf Of Cf Hf co9 (nI T.length)))) : pb_Wq l y ws fr 0 0 lo av D (pb_ty cI cJ) wd sz r (pb_BM D cI cJ m0 a1 l1 o1 c1 h1 T co9) :=
  MetFree.imp h fun a s o s9 q => ⟨⟨q.1.1, ⟨_, _, _, _, _, hM.2, q.1.2.1⟩, q.1.2.2⟩, q.2⟩
end
variable {l : Launch} {T : List pb_Rt}
theorem pt_put (hst0 : l.stackTraces = false) (hT : pb_ok T) (hn : T.length < 512) (xa xl xo xc : Int32) (hz : Int64) : ∃ (r : Int32) (T' : List pb_Rt) (P : Int64 → Prop) (bv : Int32), pb_ok T' ∧ T'.length ≤ T.length + 1 ∧ (r = 0 → ∀ z, P z → z = bv.toInt64) ∧ pb_wrapOk l yL_put wsL_put [.int xa, .int xl, .int xo, .int xc, .long hz] T T' r P ∧ pb_refOk l yX1_put wsX1_put 4 88 [.int xa, .int xl, .int xo, .int xc, .long hz] T T' (.int bv) r := by
  rcases Classical.em (pb_vp xa xl ∧ pb_vi xo 8 ∧ pb_vi xc 65536 ∧ hz ≠ 0) with hv | hv
  · obtain ⟨⟨a, k, rfl, rfl, ha, hk, hg⟩, ⟨o, ho, rfl⟩, ⟨cn, hcn, rfl⟩, hz0⟩ := hv
    exact ⟨0, _, _, _, pb_ok_put hT (pb_good_of ha hk hg ho hz0), pb_put_len _ _, fun _ z h => h, fun _ _ _ _ _ _ _ _ _ _ _ _ _ _ hR9 => w_put_g _ _ _ _ _ (fun sz => c_X0_put hT hR9.1 hR9.2 hn a k o ha hk hg ho cn hcn hz hz0), fun _ _ _ _ _ _ _ _ _ _ _ _ _ _ _ _ hM => c_X1_put hT hM hn a k o ha hk hg ho cn hcn hz hz0⟩
  · exact ⟨1, T, fun _ => True, 0, hT, by omega, fun h => absurd h (by decide), fun _ _ _ _ _ _ _ _ _ _ _ _ _ _ hR9 => w_put_b hst0 _ _ _ _ _ hR9 hv, fun _ _ _ _ _ _ _ _ _ _ _ _ _ _ _ _ hM => pb_toBM hM (c_X1_put_bad _ _ _ _ _ _ hv)⟩
theorem pt_take (hst0 : l.stackTraces = false) (hT : pb_ok T) (hn : T.length < 512) (xa xl xo : Int32) : ∃ (r : Int32) (T' : List pb_Rt) (P : Int64 → Prop) (bv : Int32), pb_ok T' ∧ T'.length ≤ T.length + 1 ∧ (r = 0 → ∀ z, P z → z = if bv = 0 then 0 else 1) ∧ pb_wrapOk l yL_take wsL_take [.int xa, .int xl, .int xo] T T' r P ∧ pb_refOk l yX1_take wsX1_take 4 88 [.int xa, .int xl, .int xo] T T' (.int bv) r := by
  rcases Classical.em (pb_vp xa xl ∧ pb_vi xo 8) with hv | hv
  · obtain ⟨⟨a, k, rfl, rfl, ha, hk, hg⟩, ⟨o, ho, rfl⟩⟩ := hv
    by_cases hh : pb_hs T (pb_pre a k * 8 + o) = true
    · rcases hd : T[(pb_lb T (pb_pre a k * 8 + o))]? with _ | r
      · rw [pb_hs_no hT.1 hd] at hh; exact absurd hh (by decide)
      · exact ⟨0, _, _, _, pb_ok_er hT _, pb_er_len _ _, fun _ z h => h, fun _ _ _ _ _ _ _ _ _ _ _ _ _ _ hR9 => w_take_g _ _ _ (fun sz => c_X0_take_s hT hR9.1 hR9.2 a k o ha hk hg ho hd hh), fun _ _ _ _ _ _ _ _ _ _ _ _ _ _ _ _ hM => c_X1_take_s hT hM a k o ha hk hg ho hd hh⟩
    · exact ⟨0, _, _, _, hT, Nat.le_succ _, fun _ z h => h, fun _ _ _ _ _ _ _ _ _ _ _ _ _ _ hR9 => w_take_g _ _ _ (fun sz => c_X0_take_n hT hR9.1 hR9.2 a k o ha hk hg ho (pb_bgT hh)), fun _ _ _ _ _ _ _ _ _ _ _ _ _ _ _ _ hM => pb_toBM hM (c_X1_take_n hT hM a k o ha hk hg ho (pb_bgT hh))⟩
  · exact ⟨1, T, fun _ => True, 0, hT, by omega, fun h => absurd h (by decide), fun _ _ _ _ _ _ _ _ _ _ _ _ _ _ hR9 => w_take_b hst0 _ _ _ hR9 hv, fun _ _ _ _ _ _ _ _ _ _ _ _ _ _ _ _ hM => pb_toBM hM (c_X1_take_bad _ _ _ _ hv)⟩
theorem pt_drop (hst0 : l.stackTraces = false) (hT : pb_ok T) (hn : T.length < 512) (xo : Int32) : ∃ (r : Int32) (T' : List pb_Rt) (P : Int64 → Prop) (bv : Int32), pb_ok T' ∧ T'.length ≤ T.length + 1 ∧ (r = 0 → ∀ z, P z → z = bv.toInt64) ∧ pb_wrapOk l yL_drop wsL_drop [.int xo] T T' r P ∧ pb_refOk l yX1_drop wsX1_drop 2 44 [.int xo] T T' (.int bv) r := by
  rcases Classical.em (pb_vi xo 8) with hv | hv
  · obtain ⟨o, ho, rfl⟩ := hv
    exact ⟨0, _, _, _, pb_ok_gd hT o, pb_fm_len _ _, fun _ z h => h, fun _ _ _ _ _ _ _ _ _ _ _ _ _ _ hR9 => w_drop_g _ (fun sz => c_X0_drop hT hR9.1 hR9.2 o ho), fun _ _ _ _ _ _ _ _ _ _ _ _ _ _ _ _ hM => by rw [← pb_drop_eq hT o]; exact c_X1_drop hM o ho⟩
  · exact ⟨1, T, fun _ => True, 0, hT, by omega, fun h => absurd h (by decide), fun _ _ _ _ _ _ _ _ _ _ _ _ _ _ hR9 => w_drop_b hst0 _ hR9 hv, fun _ _ _ _ _ _ _ _ _ _ _ _ _ _ _ _ hM => pb_toBM hM (c_X1_drop_bad _ _ hv)⟩
theorem pt_cut (hst0 : l.stackTraces = false) (hT : pb_ok T) (hn : T.length < 512) (xo : Int32) : ∃ (r : Int32) (T' : List pb_Rt) (P : Int64 → Prop) (bv : Int32), pb_ok T' ∧ T'.length ≤ T.length + 1 ∧ (r = 0 → ∀ z, P z → z = bv.toInt64) ∧ pb_wrapOk l yL_cut wsL_cut [.int xo] T T' r P ∧ pb_refOk l yX1_cut wsX1_cut 2 44 [.int xo] T T' (.int bv) r := by
  rcases Classical.em (pb_vi xo 64) with hv | hv
  · obtain ⟨o, ho, rfl⟩ := hv
    exact ⟨0, _, _, _, pb_ok_gc hT _, pb_fm_len _ _, fun _ z h => h, fun _ _ _ _ _ _ _ _ _ _ _ _ _ _ hR9 => w_cut_g _ (fun sz => c_X0_cut hT hR9.1 hR9.2 o ho), fun _ _ _ _ _ _ _ _ _ _ _ _ _ _ _ _ hM => by rw [← pb_cut_eq]; exact c_X1_cut hM o ho⟩
  · exact ⟨1, T, fun _ => True, 0, hT, by omega, fun h => absurd h (by decide), fun _ _ _ _ _ _ _ _ _ _ _ _ _ _ hR9 => w_cut_b hst0 _ hR9 hv, fun _ _ _ _ _ _ _ _ _ _ _ _ _ _ _ _ hM => pb_toBM hM (c_X1_cut_bad _ _ hv)⟩
theorem pt_route (hst0 : l.stackTraces = false) (hT : pb_ok T) (hn : T.length < 512) (xa xl xo xw : Int32) : ∃ (r : Int32) (T' : List pb_Rt) (P : Int64 → Prop) (bv : Int32), pb_ok T' ∧ T'.length ≤ T.length + 1 ∧ (r = 0 → ∀ z, P z → z = bv.toInt64) ∧ pb_wrapOk l yL_route wsL_route [.int xa, .int xl, .int xo, .int xw] T T' r P ∧ pb_refOk l yX1_route wsX1_route 4 88 [.int xa, .int xl, .int xo, .int xw] T T' (.int bv) r := by
  rcases Classical.em (pb_vp xa xl ∧ (xo = -1 ∨ pb_vi xo 8) ∧ pb_vi xw 3) with hv | hv
  · obtain ⟨⟨a, k, rfl, rfl, ha, hk, hg⟩, hxo, ⟨w, hw, rfl⟩⟩ := hv
    rcases hxo with rfl | ⟨o, ho, rfl⟩
    · by_cases hh : pb_kn T (pb_pre a k) = true
      · rcases hd : T[(pb_lb T (pb_pre a k * 8))]? with _ | r
        · rw [pb_kn_no hT.1 hd] at hh; exact absurd hh (by decide)
        · have hd' := hd
          rcases (show w = 0 ∨ w = 1 ∨ w = 2 by omega) with rfl | rfl | rfl
          · exact ⟨0, T, _, _, hT, Nat.le_succ _, fun _ z h => h, fun _ _ _ _ _ _ _ _ _ _ _ _ _ _ hR9 => w_route_g _ _ _ _ hR9 (c_X0_route_bs0 hT hR9.1 a k ha hk hg hd hh), fun _ _ _ _ _ _ _ _ _ _ _ _ _ _ _ _ hM => pb_toBM hM (c_X1_route_bs0 hT hM a k ha hk hg hd hh)⟩
          · exact ⟨0, T, _, _, hT, Nat.le_succ _, fun _ z h => h, fun _ _ _ _ _ _ _ _ _ _ _ _ _ _ hR9 => w_route_g _ _ _ _ hR9 (c_X0_route_bs1 hT hR9.1 a k ha hk hg hd hh), fun _ _ _ _ _ _ _ _ _ _ _ _ _ _ _ _ hM => pb_toBM hM (c_X1_route_bs1 hT hM a k ha hk hg hd hh)⟩
          · exact ⟨0, T, _, _, hT, Nat.le_succ _, fun _ z h => h, fun _ _ _ _ _ _ _ _ _ _ _ _ _ _ hR9 => w_route_g _ _ _ _ hR9 (c_X0_route_bs2 hT hR9.1 a k ha hk hg hd hh), fun _ _ _ _ _ _ _ _ _ _ _ _ _ _ _ _ hM => pb_toBM hM (c_X1_route_bs2 hT hM a k ha hk hg hd hh)⟩
      · have hh := pb_bgT hh
        rcases (show w = 0 ∨ w = 1 ∨ w = 2 by omega) with rfl | rfl | rfl
        · exact ⟨0, T, _, _, hT, Nat.le_succ _, fun _ z h => h, fun _ _ _ _ _ _ _ _ _ _ _ _ _ _ hR9 => w_route_g _ _ _ _ hR9 (c_X0_route_bn0 hT hR9.1 a k ha hk hg hh), fun _ _ _ _ _ _ _ _ _ _ _ _ _ _ _ _ hM => pb_toBM hM (c_X1_route_bn0 hT hM a k ha hk hg hh)⟩
        · exact ⟨0, T, _, _, hT, Nat.le_succ _, fun _ z h => h, fun _ _ _ _ _ _ _ _ _ _ _ _ _ _ hR9 => w_route_g _ _ _ _ hR9 (c_X0_route_bn1 hT hR9.1 a k ha hk hg hh), fun _ _ _ _ _ _ _ _ _ _ _ _ _ _ _ _ hM => pb_toBM hM (c_X1_route_bn1 hT hM a k ha hk hg hh)⟩
        · exact ⟨0, T, _, _, hT, Nat.le_succ _, fun _ z h => h, fun _ _ _ _ _ _ _ _ _ _ _ _ _ _ hR9 => w_route_g _ _ _ _ hR9 (c_X0_route_bn2 hT hR9.1 a k ha hk hg hh), fun _ _ _ _ _ _ _ _ _ _ _ _ _ _ _ _ hM => pb_toBM hM (c_X1_route_bn2 hT hM a k ha hk hg hh)⟩
    · by_cases hh : pb_hs T (pb_pre a k * 8 + o) = true
      · rcases hd : T[(pb_lb T (pb_pre a k * 8 + o))]? with _ | r
        · rw [pb_hs_no hT.1 hd] at hh; exact absurd hh (by decide)
        · have hd' := hd
          rcases (show w = 0 ∨ w = 1 ∨ w = 2 by omega) with rfl | rfl | rfl
          · exact ⟨0, T, _, _, hT, Nat.le_succ _, fun _ z h => h, fun _ _ _ _ _ _ _ _ _ _ _ _ _ _ hR9 => w_route_g _ _ _ _ hR9 (c_X0_route_os0 hT hR9.1 a k ha hk hg o ho hd hh), fun _ _ _ _ _ _ _ _ _ _ _ _ _ _ _ _ hM => pb_toBM hM (c_X1_route_os0 hT hM a k ha hk hg o ho hd hh)⟩
          · exact ⟨0, T, _, _, hT, Nat.le_succ _, fun _ z h => h, fun _ _ _ _ _ _ _ _ _ _ _ _ _ _ hR9 => w_route_g _ _ _ _ hR9 (c_X0_route_os1 hT hR9.1 a k ha hk hg o ho hd hh), fun _ _ _ _ _ _ _ _ _ _ _ _ _ _ _ _ hM => pb_toBM hM (c_X1_route_os1 hT hM a k ha hk hg o ho hd hh)⟩
          · exact ⟨0, T, _, _, hT, Nat.le_succ _, fun _ z h => h, fun _ _ _ _ _ _ _ _ _ _ _ _ _ _ hR9 => w_route_g _ _ _ _ hR9 (c_X0_route_os2 hT hR9.1 a k ha hk hg o ho hd hh), fun _ _ _ _ _ _ _ _ _ _ _ _ _ _ _ _ hM => pb_toBM hM (c_X1_route_os2 hT hM a k ha hk hg o ho hd hh)⟩
      · have hh := pb_bgT hh
        rcases (show w = 0 ∨ w = 1 ∨ w = 2 by omega) with rfl | rfl | rfl
        · exact ⟨0, T, _, _, hT, Nat.le_succ _, fun _ z h => h, fun _ _ _ _ _ _ _ _ _ _ _ _ _ _ hR9 => w_route_g _ _ _ _ hR9 (c_X0_route_on0 hT hR9.1 a k ha hk hg o ho hh), fun _ _ _ _ _ _ _ _ _ _ _ _ _ _ _ _ hM => pb_toBM hM (c_X1_route_on0 hT hM a k ha hk hg o ho hh)⟩
        · exact ⟨0, T, _, _, hT, Nat.le_succ _, fun _ z h => h, fun _ _ _ _ _ _ _ _ _ _ _ _ _ _ hR9 => w_route_g _ _ _ _ hR9 (c_X0_route_on1 hT hR9.1 a k ha hk hg o ho hh), fun _ _ _ _ _ _ _ _ _ _ _ _ _ _ _ _ hM => pb_toBM hM (c_X1_route_on1 hT hM a k ha hk hg o ho hh)⟩
        · exact ⟨0, T, _, _, hT, Nat.le_succ _, fun _ z h => h, fun _ _ _ _ _ _ _ _ _ _ _ _ _ _ hR9 => w_route_g _ _ _ _ hR9 (c_X0_route_on2 hT hR9.1 a k ha hk hg o ho hh), fun _ _ _ _ _ _ _ _ _ _ _ _ _ _ _ _ hM => pb_toBM hM (c_X1_route_on2 hT hM a k ha hk hg o ho hh)⟩
  · exact ⟨1, T, fun _ => True, 0, hT, by omega, fun h => absurd h (by decide), fun _ _ _ _ _ _ _ _ _ _ _ _ _ _ hR9 => w_route_b hst0 _ _ _ _ hR9 hv, fun _ _ _ _ _ _ _ _ _ _ _ _ _ _ _ _ hM => pb_toBM hM (c_X1_route_bad _ _ _ _ _ hv)⟩
theorem pt_shorter (hst0 : l.stackTraces = false) (hT : pb_ok T) (hn : T.length < 512) (xa xl : Int32) : ∃ (r : Int32) (T' : List pb_Rt) (P : Int64 → Prop) (bv : Int32), pb_ok T' ∧ T'.length ≤ T.length + 1 ∧ (r = 0 → ∀ z, P z → z = bv.toInt64) ∧ pb_wrapOk l yL_shorter wsL_shorter [.int xa, .int xl] T T' r P ∧ pb_refOk l yX1_shorter wsX1_shorter 3 67 [.int xa, .int xl] T T' (.int bv) r := by
  rcases Classical.em (pb_vi xl 34) with hv | hv
  · obtain ⟨lim, hl, rfl⟩ := hv
    obtain ⟨a, ha, rfl⟩ := wb_of32 xa
    rcases pb_lg_bs hT.1 a (lim := lim) (by omega) with ⟨h1, h2⟩ | ⟨i, hi, h1, h2⟩
    · exact ⟨0, T, _, _, hT, Nat.le_succ _, fun _ z h => h, fun _ _ _ _ _ _ _ _ _ _ _ _ _ _ hR9 => w_shorter_g _ _ hR9 (c_X0_shorter_n hT hR9.1 a lim ha (by omega) h2), fun _ _ _ _ _ _ _ _ _ _ _ _ _ _ _ _ hM => pb_toBM hM (c_X1_shorter_n hT hM a lim ha (by omega) h1)⟩
    · obtain ⟨r, hr, -⟩ := pb_get hi
      exact ⟨0, T, _, _, hT, Nat.le_succ _, fun _ z h => h, fun _ _ _ _ _ _ _ _ _ _ _ _ _ _ hR9 => w_shorter_g _ _ hR9 (c_X0_shorter_s hT hR9.1 a lim ha (by omega) i hr h2), fun _ _ _ _ _ _ _ _ _ _ _ _ _ _ _ _ hM => pb_toBM hM (c_X1_shorter_s hT hM a lim ha (by omega) i hr h1)⟩
  · exact ⟨1, T, fun _ => True, 0, hT, by omega, fun h => absurd h (by decide), fun _ _ _ _ _ _ _ _ _ _ _ _ _ _ hR9 => w_shorter_b hst0 _ _ hR9 hv, fun _ _ _ _ _ _ _ _ _ _ _ _ _ _ _ _ hM => pb_toBM hM (c_X1_shorter_bad _ _ _ hv)⟩
theorem pt_after (hst0 : l.stackTraces = false) (hT : pb_ok T) (hn : T.length < 512) (xa xl : Int32) : ∃ (r : Int32) (T' : List pb_Rt) (P : Int64 → Prop) (bv : Int64), pb_ok T' ∧ T'.length ≤ T.length + 1 ∧ (r = 0 → ∀ z, P z → z = bv) ∧ pb_wrapOk l yL_after wsL_after [.int xa, .int xl] T T' r P ∧ pb_refOk l yX1_after wsX1_after 4 88 [.int xa, .int xl] T T' (.long bv) r := by
  rcases Classical.em (pb_vp xa xl) with hv | hv
  · obtain ⟨a, k, rfl, rfl, ha, hk, hg⟩ := hv
    rcases hd : T[pb_lb T ((pb_pre a k + 1) * 8)]? with _ | r
    · exact ⟨0, T, _, _, hT, Nat.le_succ _, fun _ z h => h, fun _ _ _ _ _ _ _ _ _ _ _ _ _ _ hR9 => w_after_g _ _ hR9 (c_X0_after_n hT hR9.1 a k ha hk hg hd), fun _ _ _ _ _ _ _ _ _ _ _ _ _ _ _ _ hM => pb_toBM hM (c_X1_after_n hT hM a k ha hk hg hd)⟩
    · exact ⟨0, T, _, _, hT, Nat.le_succ _, fun _ z h => h, fun _ _ _ _ _ _ _ _ _ _ _ _ _ _ hR9 => w_after_g _ _ hR9 (c_X0_after_s hT hR9.1 a k ha hk hg hd), fun _ _ _ _ _ _ _ _ _ _ _ _ _ _ _ _ hM => pb_toBM hM (c_X1_after_s hT hM a k ha hk hg hd)⟩
  · exact ⟨1, T, fun _ => True, 0, hT, by omega, fun h => absurd h (by decide), fun _ _ _ _ _ _ _ _ _ _ _ _ _ _ hR9 => w_after_b hst0 _ _ hR9 hv, fun _ _ _ _ _ _ _ _ _ _ _ _ _ _ _ _ hM => pb_toBM hM (c_X1_after_bad _ _ _ hv)⟩
theorem pt_within (hst0 : l.stackTraces = false) (hT : pb_ok T) (hn : T.length < 512) (xa xl : Int32) : ∃ (r : Int32) (T' : List pb_Rt) (P : Int64 → Prop) (bv : Int32), pb_ok T' ∧ T'.length ≤ T.length + 1 ∧ (r = 0 → ∀ z, P z → z = bv.toInt64) ∧ pb_wrapOk l yL_within wsL_within [.int xa, .int xl] T T' r P ∧ pb_refOk l yX1_within wsX1_within 2 41 [.int xa, .int xl] T T' (.int bv) r := by
  rcases Classical.em (pb_vp xa xl) with hv | hv
  · obtain ⟨a, k, rfl, rfl, ha, hk, hg⟩ := hv
    exact ⟨0, T, _, _, hT, Nat.le_succ _, fun _ z h => h, fun _ _ _ _ _ _ _ _ _ _ _ _ _ _ hR9 => w_within_g _ _ hR9 (c_X0_within hT hR9.1 a k ha hk hg), fun _ _ _ _ _ _ _ _ _ _ _ _ _ _ _ _ hM => pb_toBM hM (by rw [pb_within_eq hT hk hg]; exact c_X1_within hT hM a k ha hk hg)⟩
  · exact ⟨1, T, fun _ => True, 0, hT, by omega, fun h => absurd h (by decide), fun _ _ _ _ _ _ _ _ _ _ _ _ _ _ hR9 => w_within_b hst0 _ _ hR9 hv, fun _ _ _ _ _ _ _ _ _ _ _ _ _ _ _ _ hM => pb_toBM hM (c_X1_within_bad _ _ _ hv)⟩
theorem pt_look (hT : pb_ok T) (hn : T.length < 512) (xa : Int32) : ∃ v : Int32, pb_rdOk l yX0_look wsX0_look 6 137 [.int xa] T (.int v) ∧ pb_refOk l yX1_look wsX1_look 3 67 [.int xa] T T (.int v) 0 := by
  obtain ⟨a, ha, rfl⟩ := wb_of32 xa
  rcases pb_lg_bs hT.1 a (lim := 33) (by omega) with ⟨h1, h2⟩ | ⟨i, hi, h1, h2⟩
  · exact ⟨_, fun _ _ _ _ _ _ _ _ _ _ _ hR => c_X0_look_n hT hR a ha h2, fun _ _ _ _ _ _ _ _ _ _ _ _ _ _ _ _ hM => pb_toBM hM (c_X1_look_n hT hM a ha h1)⟩
  · obtain ⟨r, hr, hrm⟩ := pb_get hi
    exact ⟨_, fun _ _ _ _ _ _ _ _ _ _ _ hR => c_X0_look_s hT hR a ha i hr h2, fun _ _ _ _ _ _ _ _ _ _ _ _ _ _ _ _ hM => pb_toBM hM (c_X1_look_s hT hM a ha i hr h1)⟩
theorem pt_hops (hT : pb_ok T) (hn : T.length < 512) (xa : Int32) : ∃ v : Int64, pb_rdOk l yX0_hops wsX0_hops 6 137 [.int xa] T (.long v) ∧ pb_refOk l yX1_hops wsX1_hops 3 67 [.int xa] T T (.long v) 0 := by
  obtain ⟨a, ha, rfl⟩ := wb_of32 xa
  rcases pb_lg_bs hT.1 a (lim := 33) (by omega) with ⟨h1, h2⟩ | ⟨i, hi, h1, h2⟩
  · exact ⟨_, fun _ _ _ _ _ _ _ _ _ _ _ hR => c_X0_hops_n hT hR a ha h2, fun _ _ _ _ _ _ _ _ _ _ _ _ _ _ _ _ hM => pb_toBM hM (c_X1_hops_n hT hM a ha h1)⟩
  · obtain ⟨r, hr, hrm⟩ := pb_get hi
    exact ⟨_, fun _ _ _ _ _ _ _ _ _ _ _ hR => c_X0_hops_s hT hR a ha i hr h2, fun _ _ _ _ _ _ _ _ _ _ _ _ _ _ _ _ hM => pb_toBM hM (c_X1_hops_s hT hM a ha i hr h1)⟩
theorem pt_hop (hT : pb_ok T) (hn : T.length < 512) (xa xf : Int32) : ∃ v : Int32, pb_rdOk l yX0_hop wsX0_hop 6 137 [.int xa, .int xf] T (.int v) ∧ pb_refOk l yX1_hop wsX1_hop 3 67 [.int xa, .int xf] T T (.int v) 0 := by
  obtain ⟨fl, hfl, rfl⟩ := wb_of32 xf
  obtain ⟨a, ha, rfl⟩ := wb_of32 xa
  rcases pb_lg_bs hT.1 a (lim := 33) (by omega) with ⟨h1, h2⟩ | ⟨i, hi, h1, h2⟩
  · exact ⟨_, fun _ _ _ _ _ _ _ _ _ _ _ hR => c_X0_hop_n hT hR fl a ha h2, fun _ _ _ _ _ _ _ _ _ _ _ _ _ _ _ _ hM => pb_toBM hM (c_X1_hop_n hT hM fl a ha h1)⟩
  · obtain ⟨r, hr, hrm⟩ := pb_get hi
    have hpos := pb_bits_pos (hT.2 r hrm).2.2.2
    obtain ⟨hz, hz64, hb1, hb2⟩ := pb_kth (uN r.2.2) 64 (fl % pb_bits (uN r.2.2) 64) (Nat.mod_lt _ hpos)
    exact ⟨_, fun _ _ _ _ _ _ _ _ _ _ _ hR => c_X0_hop_s hT hR fl hfl a ha i hr h2 hz hz64 hb1 hb2 hpos, fun _ _ _ _ _ _ _ _ _ _ _ _ _ _ _ _ hM => pb_toBM hM (c_X1_hop_s hT hM fl hfl a ha i hr h1 hz hz64 hb1 hb2 hpos)⟩
theorem pt_routes (hT : pb_ok T) (hn : T.length < 512)  : ∃ v : Int32, pb_rdOk l yX0_routes wsX0_routes 0 0 [] T (.int v) ∧ pb_refOk l yX1_routes wsX1_routes 0 0 [] T T (.int v) 0 := by
  exact ⟨_, fun _ _ _ _ _ _ _ _ _ _ _ hR => c_X0_routes _, fun _ _ _ _ _ _ _ _ _ _ _ _ _ _ _ _ hM => pb_toBM hM (c_X1_routes _)⟩
theorem pt_known (hT : pb_ok T) (hn : T.length < 512)  : ∃ v : Int32, pb_rdOk l yX0_known wsX0_known 5 108 [] T (.int v) ∧ pb_refOk l yX1_known wsX1_known 1 21 [] T T (.int v) 0 := by
  exact ⟨_, fun _ _ _ _ _ _ _ _ _ _ _ hR => c_X0_known hT hR, fun _ _ _ _ _ _ _ _ _ _ _ _ _ _ _ _ hM => pb_toBM hM (c_X1_known hT hM)⟩
theorem pt_nodes (hT : pb_ok T) (hn : T.length < 512)  : ∃ v : Int32, pb_rdOk l yX0_nodes wsX0_nodes 6 139 [] T (.int v) ∧ pb_refOk l yX1_nodes wsX1_nodes 5 111 [] T T (.int v) 0 := by
  exact ⟨_, fun _ _ _ _ _ _ _ _ _ _ _ hR => c_X0_nodes hT hR, fun _ _ _ _ _ _ _ _ _ _ _ _ _ _ _ _ hM => pb_toBM hM (c_X1_nodes hT hM)⟩
end PB17
