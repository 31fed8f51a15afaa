/-! MATHEMATICS of the list of routes: what the changes keep, the longest prefix, counts. -/
section PB16
theorem pb_k_lt {T : List pb_Rt} (hT : pb_so T) {i j : Nat} (hij : i < j) (hj : j < T.length) : pb_k T i < pb_k T j := by
  have hi : i < T.length := by omega
  rw [pb_k_of (List.getElem?_eq_getElem hi), pb_k_of (List.getElem?_eq_getElem hj)]
  exact List.pairwise_iff_getElem.mp hT i j hi hj hij
theorem pb_k_le {T : List pb_Rt} (hT : pb_so T) {i j : Nat} (hij : i ≤ j) (hj : j < T.length) : pb_k T i ≤ pb_k T j := by
  rcases Nat.lt_or_ge i j with h | h
  · exact Nat.le_of_lt (pb_k_lt hT h hj)
  · rw [show i = j by omega]; exact Nat.le_refl _
theorem pb_bg_lt {T : List pb_Rt} (hT : pb_so T) {i j : Nat} (hij : i < j) (hj : j < T.length) (hb : pb_bg T j = true) : pb_k T i / 8 < pb_k T j / 8 := by
  have h1 := pb_k_le hT (i := i) (j := j - 1) (by omega) (by omega)
  have h2 := pb_k_lt hT (i := j - 1) (j := j) (by omega) hj
  unfold pb_bg at hb
  rcases of_decide_eq_true hb with h | h
  · omega
  · omega
theorem pb_mt_iff {T : List pb_Rt} {a lim j : Nat} : pb_mt T a lim j = true ↔ pb_bg T j = true ∧ pb_ln T j < lim ∧ pb_k T j / 512 = pb_cl a (pb_ln T j) := by
  unfold pb_mt
  rw [Bool.and_eq_true, Bool.and_eq_true, decide_eq_true_eq, decide_eq_true_eq]
theorem pb_mt_uni {T : List pb_Rt} (hT : pb_so T) {a l1 l2 i j : Nat} (hi : i < T.length) (hj : j < T.length) (h1 : pb_mt T a l1 i = true) (h2 : pb_mt T a l2 j = true) (h : pb_ln T i = pb_ln T j) : i = j := by
  obtain ⟨b1, -, e1⟩ := pb_mt_iff.mp h1
  obtain ⟨b2, -, e2⟩ := pb_mt_iff.mp h2
  rw [h, ← e2] at e1
  unfold pb_ln at h
  rcases Nat.lt_trichotomy i j with q | q | q
  · have := pb_bg_lt hT q hj b2; omega
  · exact q
  · have := pb_bg_lt hT q hi b1; omega
theorem pb_bs_spec (T : List pb_Rt) (a lim : Nat) : ∀ n, (pb_bs T a lim n = none ∧ ∀ j, j < n → pb_mt T a lim j = false) ∨ ∃ i, pb_bs T a lim n = some i ∧ i < n ∧ pb_mt T a lim i = true ∧ ∀ j, j < n → pb_mt T a lim j = true → pb_ln T j ≤ pb_ln T i
  | 0 => Or.inl ⟨rfl, fun j h => absurd h (by omega)⟩
  | n + 1 => by
    by_cases h : pb_mt T a lim n = true
    · rcases pb_bs_spec T a lim n with ⟨h1, h2⟩ | ⟨i, h1, h2, h3, h4⟩
      · refine Or.inr ⟨n, pb_bs_0 h h1, by omega, h, fun j hj hm => ?_⟩
        by_cases hjn : j = n
        · rw [hjn]; exact Nat.le_refl _
        · have := h2 j (by omega)
          rw [this] at hm; cases hm
      · by_cases hlt : pb_ln T i < pb_ln T n
        · refine Or.inr ⟨n, pb_bs_1 h h1 hlt, by omega, h, fun j hj hm => ?_⟩
          by_cases hjn : j = n
          · rw [hjn]; exact Nat.le_refl _
          · have := h4 j (by omega) hm; omega
        · refine Or.inr ⟨i, pb_bs_2 h h1 hlt, by omega, h3, fun j hj hm => ?_⟩
          by_cases hjn : j = n
          · subst hjn; omega
          · exact h4 j (by omega) hm
    · have h := pb_bgT h
      rcases pb_bs_spec T a lim n with ⟨h1, h2⟩ | ⟨i, h1, h2, h3, h4⟩
      · refine Or.inl ⟨by rw [pb_bs_f h]; exact h1, fun j hj => ?_⟩
        by_cases hjn : j = n
        · rw [hjn]; exact h
        · exact h2 j (by omega)
      · refine Or.inr ⟨i, by rw [pb_bs_f h]; exact h1, by omega, h3, fun j hj hm => ?_⟩
        by_cases hjn : j = n
        · rw [hjn, h] at hm; cases hm
        · exact h4 j (by omega) hm
theorem pb_kn_mem {T : List pb_Rt} {q : Nat} : pb_kn T q = true ↔ ∃ j, j < T.length ∧ pb_k T j / 8 = q := by
  unfold pb_kn
  rw [List.any_eq_true]
  constructor
  · rintro ⟨r, hr, h⟩
    obtain ⟨j, hj⟩ := List.getElem?_of_mem hr
    exact ⟨j, (List.getElem?_eq_some_iff.mp hj).1, by rw [pb_k_of hj]; exact of_decide_eq_true h⟩
  · rintro ⟨j, hj, h⟩
    refine ⟨T[j], List.getElem_mem hj, decide_eq_true ?_⟩
    rw [pb_k_of (List.getElem?_eq_getElem hj)] at h
    exact h
theorem pb_lg_spec {T : List pb_Rt} (hT : pb_so T) (a : Nat) : ∀ lim, lim ≤ 33 → (pb_lg T a lim = -1 ∧ ∀ j, j < T.length → pb_mt T a lim j = false) ∨ ∃ i, pb_lg T a lim = nI i ∧ i < T.length ∧ pb_mt T a lim i = true ∧ ∀ j, j < T.length → pb_mt T a lim j = true → pb_ln T j ≤ pb_ln T i
  | 0, _ => Or.inl ⟨rfl, fun j hj => by
      by_cases h : pb_mt T a 0 j = true
      · have := (pb_mt_iff.mp h).2.1; omega
      · exact pb_bgT h⟩
  | k + 1, hl => by
    have hstep : ∀ j, j < T.length → pb_mt T a (k + 1) j = true → pb_mt T a k j = true ∨ pb_k T j / 8 = pb_pre (pb_cl a k) k := fun j hj hm => by
      obtain ⟨b1, b2, b3⟩ := pb_mt_iff.mp hm
      by_cases hk : pb_ln T j = k
      · rw [hk] at b3
        unfold pb_ln at hk
        refine Or.inr ?_
        show pb_k T j / 8 = 64 * pb_cl a k + k
        omega
      · exact Or.inl (pb_mt_iff.mpr ⟨b1, by omega, b3⟩)
    rw [pb_lg]
    split
    · rename_i hk
      rcases hd : T[pb_lb T (pb_pre (pb_cl a k) k * 8)]? with _ | r
      · rw [pb_kn_no hT hd] at hk; exact absurd hk (by decide)
      · have hr := (pb_kn_iff hT hd).mpr hk
        have hlt := (List.getElem?_eq_some_iff.mp hd).1
        have hkk := pb_k_of hd
        have hln : pb_ln T (pb_lb T (pb_pre (pb_cl a k) k * 8)) = k := by
          unfold pb_ln
          rw [hkk, hr]
          show (64 * pb_cl a k + k) % 64 = k
          omega
        have hr2 : r.1 / 8 = 64 * pb_cl a k + k := hr
        refine Or.inr ⟨_, rfl, hlt, pb_mt_iff.mpr ⟨?_, by omega, ?_⟩, fun j hj hm => ?_⟩
        · unfold pb_bg
          rw [decide_eq_true_eq]
          rcases Nat.eq_zero_or_pos (pb_lb T (pb_pre (pb_cl a k) k * 8)) with h0 | h0
          · exact Or.inl h0
          · refine Or.inr ?_
            obtain ⟨r2, hr2, -⟩ := pb_get (T := T) (j := pb_lb T (pb_pre (pb_cl a k) k * 8) - 1) (by omega)
            have := (pb_lb_iff hT (k := pb_pre (pb_cl a k) k * 8) hr2).mpr (by omega)
            rw [hkk, hr, pb_k_of hr2]
            omega
        · rw [hln, hkk]; omega
        · have := (pb_mt_iff.mp hm).2.1
          rw [hln]; omega
    · rename_i hk
      have hno : ∀ j, j < T.length → pb_mt T a (k + 1) j = true → pb_mt T a k j = true := fun j hj hm => (hstep j hj hm).elim id (fun h => absurd (pb_kn_mem.mpr ⟨j, hj, h⟩) hk)
      rcases pb_lg_spec hT a k (by omega) with ⟨h1, h2⟩ | ⟨i, h1, h2, h3, h4⟩
      · refine Or.inl ⟨h1, fun j hj => ?_⟩
        by_cases h : pb_mt T a (k + 1) j = true
        · have := h2 j hj
          rw [hno j hj h] at this; cases this
        · exact pb_bgT h
      · obtain ⟨b1, b2, b3⟩ := pb_mt_iff.mp h3
        exact Or.inr ⟨i, h1, h2, pb_mt_iff.mpr ⟨b1, by omega, b3⟩, fun j hj hm => h4 j hj (hno j hj hm)⟩
/-- the longest prefix: the reference's search and the class's find the same place -/
theorem pb_lg_bs {T : List pb_Rt} (hT : pb_so T) (a : Nat) {lim : Nat} (hl : lim ≤ 33) : (pb_bs T a lim T.length = none ∧ pb_lg T a lim = -1) ∨ ∃ i, i < T.length ∧ pb_bs T a lim T.length = some i ∧ pb_lg T a lim = nI i := by
  rcases pb_bs_spec T a lim T.length with ⟨h1, h2⟩ | ⟨i, h1, h2, h3, h4⟩
  · rcases pb_lg_spec hT a lim hl with ⟨g1, g2⟩ | ⟨i, g1, g2, g3, g4⟩
    · exact Or.inl ⟨h1, g1⟩
    · rw [h2 i g2] at g3; cases g3
  · rcases pb_lg_spec hT a lim hl with ⟨g1, g2⟩ | ⟨i2, g1, g2, g3, g4⟩
    · rw [g2 i h2] at h3; cases h3
    · have e : i = i2 := pb_mt_uni hT h2 g2 h3 g3 (Nat.le_antisymm (g4 i h2 h3) (h4 i2 g2 g3))
      exact Or.inr ⟨i, h2, h1, by rw [g1, e]⟩
-- counting within a prefix
theorem pb_ct_range (p : Nat → Bool) (f d n : Nat) (h : f + d ≤ n) : fb_ct (fun i => p i && decide (f ≤ i ∧ i < f + d)) n = fb_ct (fun i => p (f + i)) d := by
  obtain ⟨x, rfl⟩ : ∃ x, n = f + (d + x) := ⟨n - f - d, by omega⟩
  rw [fb_ct_split, fb_ct_split]
  have e1 : fb_ct (fun i => p i && decide (f ≤ i ∧ i < f + d)) f = 0 := fb_ct_zero.mpr fun k hk => by
    rw [show decide (f ≤ k ∧ k < f + d) = false from decide_eq_false (by omega), Bool.and_false]
  have e2 : fb_ct (fun k => p (f + (d + k)) && decide (f ≤ f + (d + k) ∧ f + (d + k) < f + d)) x = 0 := fb_ct_zero.mpr fun k hk => by
    rw [show decide (f ≤ f + (d + k) ∧ f + (d + k) < f + d) = false from decide_eq_false (by omega), Bool.and_false]
  have e3 : fb_ct (fun k => p (f + k) && decide (f ≤ f + k ∧ f + k < f + d)) d = fb_ct (fun i => p (f + i)) d := fb_ct_cong fun k hk => by
    rw [show decide (f ≤ f + k ∧ f + k < f + d) = true from decide_eq_true (by omega), Bool.and_true]
  rw [e1, e2, e3]; omega
theorem pb_in_iff {A L a k : Nat} (hk : k ≤ 32) (hL : L ≤ 32) (hA : A % 2 ^ (32 - L) = 0) (ha : a % 2 ^ (32 - k) = 0) : (k ≤ L ∧ pb_cl A k = pb_cl a k) ↔ (64 * a + k ≤ 64 * A + L ∧ A ≤ a + (2 ^ (32 - k) - 1)) := by
  have hp := pb_pow_pos k
  rw [pb_cl_self ha]
  have hc := Nat.div_add_mod A (2 ^ (32 - k))
  have hm := Nat.mod_lt A hp
  have hcl : pb_cl A k = 2 ^ (32 - k) * (A / 2 ^ (32 - k)) := Nat.mul_comm _ _
  constructor
  · rintro ⟨h1, h2⟩
    rw [hcl] at h2
    omega
  · rintro ⟨h1, h2⟩
    have ha2 : a ≤ A := by omega
    have hq : pb_cl A k = a := by
      rw [hcl]
      have e0 := Nat.div_add_mod a (2 ^ (32 - k))
      rw [ha, Nat.add_zero] at e0
      have h3 : A / 2 ^ (32 - k) = a / 2 ^ (32 - k) := by
        apply Nat.le_antisymm
        · have h5 : A / 2 ^ (32 - k) ≤ (a + (2 ^ (32 - k) - 1)) / 2 ^ (32 - k) := Nat.div_le_div_right h2
          have h6 : (a + (2 ^ (32 - k) - 1)) / 2 ^ (32 - k) = a / 2 ^ (32 - k) := by
            have e9 : a + (2 ^ (32 - k) - 1) = 2 ^ (32 - k) * (a / 2 ^ (32 - k)) + (2 ^ (32 - k) - 1) := by rw [e0]
            rw [e9, Nat.mul_add_div hp, Nat.div_eq_of_lt (show 2 ^ (32 - k) - 1 < 2 ^ (32 - k) by omega), Nat.add_zero]
          omega
        · exact Nat.div_le_div_right ha2
      rw [h3]; exact e0
    refine ⟨?_, hq⟩
    rcases Nat.lt_or_ge L k with hlt | hge
    · exfalso
      have hdvd : 2 ^ (32 - k) ∣ A := Nat.dvd_trans (Nat.pow_dvd_pow 2 (by omega)) (Nat.dvd_of_mod_eq_zero hA)
      have hz := Nat.mod_eq_zero_of_dvd hdvd
      have : pb_cl A k = A := pb_cl_self hz
      omega
    · exact hge
theorem pb_within_eq {T : List pb_Rt} (hT : pb_ok T) {a k : Nat} (hk : k ≤ 32) (hg : a % 2 ^ (32 - k) = 0) : pb_cn T (pb_lb T (pb_pre a k * 8)) (pb_lb T ((pb_pre (a + (2 ^ (32 - k) - 1)) 32 + 1) * 8) - pb_lb T (pb_pre a k * 8)) = pb_wt T a k T.length := by
  have hp := pb_pow_pos k
  have hmono : pb_lb T (pb_pre a k * 8) ≤ pb_lb T ((pb_pre (a + (2 ^ (32 - k) - 1)) 32 + 1) * 8) := pb_lb_mono T (by show (64 * a + k) * 8 ≤ (64 * (a + (2 ^ (32 - k) - 1)) + 32 + 1) * 8; omega)
  have hle := pb_lb_le T ((pb_pre (a + (2 ^ (32 - k) - 1)) 32 + 1) * 8)
  unfold pb_cn pb_wt
  rw [← pb_ct_range (pb_bg T) _ _ T.length (by omega)]
  refine fb_ct_cong fun i hi => ?_
  obtain ⟨r, hr, hrm⟩ := pb_get hi
  obtain ⟨g1, g2, g3, -⟩ := hT.2 r hrm
  have f1 := pb_lb_iff hT.1 (k := pb_pre a k * 8) hr
  have f2 := pb_lb_iff hT.1 (k := (pb_pre (a + (2 ^ (32 - k) - 1)) 32 + 1) * 8) hr
  congr 1
  rw [pb_ln_of hr, pb_k_of hr, ← Bool.decide_and]
  apply decide_eq_decide.mpr
  rw [pb_in_iff hk g2 g3 hg, show pb_lb T (pb_pre a k * 8) + (pb_lb T ((pb_pre (a + (2 ^ (32 - k) - 1)) 32 + 1) * 8) - pb_lb T (pb_pre a k * 8)) = pb_lb T ((pb_pre (a + (2 ^ (32 - k) - 1)) 32 + 1) * 8) by omega, ← f2]
  have e : pb_lb T (pb_pre a k * 8) ≤ i ↔ ¬ r.1 < pb_pre a k * 8 := by rw [f1]; omega
  rw [e]
  clear f1 f2 e hmono hle
  generalize 2 ^ (32 - k) - 1 = mm
  have p1 : pb_pre a k = 64 * a + k := rfl
  have p2 : pb_pre (a + mm) 32 = 64 * (a + mm) + 32 := rfl
  omega
-- the changes keep a list of routes in order
theorem pb_ok_fm {T : List pb_Rt} (hT : pb_ok T) (g : pb_Rt → Option pb_Rt) (hg : ∀ r r2, g r = some r2 → pb_good r → r2.1 = r.1 ∧ r2.2.2 ≠ 0) : pb_ok (T.filterMap g) := by
  have hg2 : ∀ r ∈ T, ∀ r2, g r = some r2 → r2.1 = r.1 ∧ r2.2.2 ≠ 0 := fun r hr r2 h => hg r r2 h (hT.2 r hr)
  constructor
  · unfold pb_so
    rw [List.pairwise_filterMap]
    exact hT.1.imp_of_mem fun {x y} hx hy hxy x2 h1 y2 h2 => by
      rw [(hg2 x hx x2 h1).1, (hg2 y hy y2 h2).1]; exact hxy
  · intro r2 h2
    obtain ⟨r, hr, h⟩ := List.mem_filterMap.mp h2
    obtain ⟨e1, e2⟩ := hg2 r hr r2 h
    obtain ⟨q1, q2, q3, -⟩ := hT.2 r hr
    exact ⟨by rw [e1]; exact q1, by rw [e1]; exact q2, by rw [e1]; exact q3, e2⟩
theorem pb_ok_gd {T : List pb_Rt} (hT : pb_ok T) (o : Nat) : pb_ok (T.filterMap (pb_gd o)) := pb_ok_fm hT _ fun r r2 h hgd => by
  unfold pb_gd at h
  split at h
  · cases h
  · cases h; exact ⟨rfl, hgd.2.2.2⟩
theorem pb_ok_gc {T : List pb_Rt} (hT : pb_ok T) (mz : Int64) : pb_ok (T.filterMap (pb_gc mz)) := pb_ok_fm hT _ fun r r2 h hgd => by
  unfold pb_gc at h
  split at h
  · cases h
  · rename_i h0
    cases h; exact ⟨rfl, h0⟩
theorem pb_ok_er {T : List pb_Rt} (hT : pb_ok T) (i : Nat) : pb_ok (T.eraseIdx i) := ⟨hT.1.sublist (List.eraseIdx_sublist T i), fun r hr => hT.2 r (List.mem_of_mem_eraseIdx hr)⟩
theorem pb_ok_put {T : List pb_Rt} (hT : pb_ok T) {r : pb_Rt} (hr : pb_good r) : pb_ok (pb_put T r) := by
  unfold pb_put
  split
  · rename_i hh
    rcases hd : T[pb_lb T r.1]? with _ | r0
    · rw [pb_hs_no hT.1 hd] at hh; exact absurd hh (by decide)
    · have hk := (pb_hs_iff hT.1 hd).mpr hh
      constructor
      · unfold pb_so
        refine List.pairwise_iff_getElem.mpr fun i j hi hj hij => ?_
        rw [List.length_set] at hi hj
        have h0 := List.pairwise_iff_getElem.mp hT.1 i j hi hj hij
        rw [List.getElem_set, List.getElem_set]
        obtain ⟨hl, hd⟩ := List.getElem?_eq_some_iff.mp hd
        split
        · rename_i e1
          subst e1
          rw [if_neg (by omega)]
          rw [hd, hk] at h0; exact h0
        · split
          · rename_i e1
            subst e1
            rw [hd, hk] at h0; exact h0
          · exact h0
      · intro x hx
        rcases List.mem_or_eq_of_mem_set hx with h | h
        · exact hT.2 x h
        · rw [h]; exact hr
  · rename_i hh
    have hne : ∀ x ∈ T, x.1 ≠ r.1 := fun x hx h => hh (List.any_eq_true.mpr ⟨x, hx, decide_eq_true h⟩)
    unfold pb_ins
    have ht : ∀ x ∈ T.take (pb_lb T r.1), x.1 < r.1 := fun x hx => by
      obtain ⟨j, hj⟩ := List.getElem?_of_mem hx
      rw [List.getElem?_take] at hj
      split at hj
      · rename_i hlt
        exact (pb_lb_iff hT.1 hj).mpr hlt
      · cases hj
    have hdr : ∀ x ∈ T.drop (pb_lb T r.1), r.1 < x.1 := fun x hx => by
      obtain ⟨j, hj⟩ := List.getElem?_of_mem hx
      rw [List.getElem?_drop] at hj
      have h1 := (not_congr (pb_lb_iff hT.1 (k := r.1) hj)).mpr (by omega)
      have h2 := hne x (List.mem_of_getElem? hj)
      omega
    constructor
    · unfold pb_so
      rw [List.pairwise_append, List.pairwise_cons]
      refine ⟨hT.1.sublist (List.take_sublist _ _), ⟨hdr, hT.1.sublist (List.drop_sublist _ _)⟩, fun x hx y hy => ?_⟩
      rcases List.mem_cons.mp hy with h | h
      · rw [h]; exact ht x hx
      · exact Nat.lt_trans (ht x hx) (hdr y h)
    · intro x hx
      rcases List.mem_append.mp hx with h | h
      · exact hT.2 x (List.mem_of_mem_take h)
      · rcases List.mem_cons.mp h with h | h
        · rw [h]; exact hr
        · exact hT.2 x (List.mem_of_mem_drop h)
theorem pb_put_len (T : List pb_Rt) (r : pb_Rt) : (pb_put T r).length ≤ T.length + 1 := by
  unfold pb_put
  split
  · rw [List.length_set]; omega
  · rw [pb_ins_len (pb_lb_le _ _)]; exact Nat.le_refl _
theorem pb_er_len (T : List pb_Rt) (i : Nat) : (T.eraseIdx i).length ≤ T.length + 1 := by
  have := (List.eraseIdx_sublist T i).length_le
  omega
theorem pb_fm_len (T : List pb_Rt) (g : pb_Rt → Option pb_Rt) : (T.filterMap g).length ≤ T.length + 1 := by
  have := List.length_filterMap_le g T
  omega
theorem pb_fm_cong {α β : Type} {f g : α → Option β} : ∀ {T : List α}, (∀ r ∈ T, f r = g r) → T.filterMap f = T.filterMap g
  | [], _ => rfl
  | x :: T, h => by
    rw [List.filterMap_cons, List.filterMap_cons, h x List.mem_cons_self, pb_fm_cong (T := T) (fun r hr => h r (List.mem_cons_of_mem _ hr))]
theorem pb_drop_eq {T : List pb_Rt} (hT : pb_ok T) (o : Nat) : (T.map (pb_mp (fun r : pb_Rt => if r.1 % 8 = o then 0 else r.2.2))).filterMap pb_gz = T.filterMap (pb_gd o) := by
  rw [List.filterMap_map]
  refine pb_fm_cong fun r hr => ?_
  show pb_gz (r.1, r.2.1, if r.1 % 8 = o then 0 else r.2.2) = pb_gd o r
  have h0 := (hT.2 r hr).2.2.2
  unfold pb_gz pb_gd
  by_cases h : r.1 % 8 = o
  · simp [h]
  · simp [h, h0]
theorem pb_cut_eq (T : List pb_Rt) (mz : Int64) : (T.map (pb_mp (fun r : pb_Rt => r.2.2 &&& mz))).filterMap pb_gz = T.filterMap (pb_gc mz) := by
  rw [List.filterMap_map]; rfl
theorem pb_good_of {a k o : Nat} (ha : a < 2 ^ 32) (hk : k ≤ 32) (hg : a % 2 ^ (32 - k) = 0) (ho : o < 8) {cn : Int32} {hz : Int64} (hz0 : hz ≠ 0) : pb_good (pb_pre a k * 8 + o, cn, hz) := by
  have e1 : (pb_pre a k * 8 + o) / 512 = a := by show ((64 * a + k) * 8 + o) / 512 = a; omega
  have e2 : (pb_pre a k * 8 + o) / 8 % 64 = k := by show ((64 * a + k) * 8 + o) / 8 % 64 = k; omega
  exact ⟨by show (pb_pre a k * 8 + o) / 512 < _; rw [e1]; exact ha, by show (pb_pre a k * 8 + o) / 8 % 64 ≤ _; rw [e2]; exact hk, by show (pb_pre a k * 8 + o) / 512 % 2 ^ (32 - (pb_pre a k * 8 + o) / 8 % 64) = 0; rw [e1, e2]; exact hg, hz0⟩
theorem pb_bits_0 (a : Nat) : ∀ n, pb_bits a n = 0 → a % 2 ^ n = 0
  | 0, _ => by rw [Nat.pow_zero, Nat.mod_one]
  | n + 1, h => by
    rw [pb_bits] at h
    have h1 := pb_bits_0 a n (by omega)
    rw [Nat.mod_pow_succ, h1, show a / 2 ^ n % 2 = 0 by omega, Nat.mul_zero]
theorem pb_bits_pos {x : Int64} (h : x ≠ 0) : 0 < pb_bits (uN x) 64 := by
  rcases Nat.eq_zero_or_pos (pb_bits (uN x) 64) with h0 | h0
  · exfalso
    have h1 := pb_bits_0 _ _ h0
    have h2 : uN x < 2 ^ 64 := x.toBitVec.isLt
    rw [Nat.mod_eq_of_lt h2] at h1
    apply h
    rw [← pb_uN x, h1]; rfl
  · exact h0
end PB16
