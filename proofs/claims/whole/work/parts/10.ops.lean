/-! OPERATIONS on the list of routes, and on rows: shifts, compaction. -/
section PB7
def pb_shL {α : Type} (F : Nat → α) (j f : Nat) : Nat → α := fun x => if j ≤ x ∧ x + 1 < f then F (x + 1) else F x
def pb_shR {α : Type} (F : Nat → α) (t n : Nat) : Nat → α := fun x => if t < x ∧ x ≤ n then F (x - 1) else F x
theorem pb_shL_0 {α : Type} (F : Nat → α) (j : Nat) : pb_shL F j (j + 1) = F := funext fun x => if_neg (by omega)
theorem pb_shL_s {α : Type} (F : Nat → α) {j f : Nat} (h : j + 1 ≤ f) : va_up (pb_shL F j f) (f - 1) (pb_shL F j f f) = pb_shL F j (f + 1) := by
  funext x
  unfold va_up pb_shL
  by_cases hx : x = f - 1
  · subst hx
    rw [if_pos rfl, if_neg (by omega), if_pos (by omega), show f - 1 + 1 = f by omega]
  · rw [if_neg hx]
    by_cases h2 : j ≤ x ∧ x + 1 < f
    · rw [if_pos h2, if_pos (by omega)]
    · rw [if_neg h2, if_neg (by omega)]
theorem pb_shR_0 {α : Type} (F : Nat → α) (n : Nat) : pb_shR F n n = F := funext fun x => if_neg (by omega)
theorem pb_shR_s {α : Type} (F : Nat → α) {t n : Nat} (h0 : 0 < t) (h : t ≤ n) : va_up (pb_shR F t n) t (pb_shR F t n (t - 1)) = pb_shR F (t - 1) n := by
  funext x
  unfold va_up pb_shR
  by_cases hx : x = t
  · subst hx
    rw [if_pos rfl, if_neg (by omega), if_pos (by omega)]
  · rw [if_neg hx]
    by_cases h2 : t < x ∧ x ≤ n
    · rw [if_pos h2, if_pos (by omega)]
    · rw [if_neg h2, if_neg (by omega)]
/-- rows that hold a list of routes -/
def pb_rep (T : List pb_Rt) (Kf : Nat → Int64) (Cf : Nat → Int32) (Hf : Nat → Int64) : Prop := ∀ (j : Nat) (r : pb_Rt), T[j]? = some r → Kf j = lN r.1 ∧ Cf j = r.2.1 ∧ Hf j = r.2.2
def pb_repM (T : List pb_Rt) (Af Lf Of Cf : Nat → Int32) (Hf : Nat → Int64) : Prop := ∀ (j : Nat) (r : pb_Rt), T[j]? = some r → Af j = nI (r.1 / 512) ∧ Lf j = nI (r.1 / 8 % 64) ∧ Of j = nI (r.1 % 8) ∧ Cf j = r.2.1 ∧ Hf j = r.2.2
theorem pb_rep_push {T : List pb_Rt} {Kf : Nat → Int64} {Cf : Nat → Int32} {Hf : Nat → Int64} (h : pb_rep T Kf Cf Hf) (r : pb_Rt) : pb_rep (T ++ [r]) (va_up Kf T.length (lN r.1)) (va_up Cf T.length r.2.1) (va_up Hf T.length r.2.2) := by
  intro j x hj
  unfold va_up
  by_cases hl : j < T.length
  · rw [List.getElem?_append_left hl] at hj
    rw [if_neg (by omega), if_neg (by omega), if_neg (by omega)]
    exact h j x hj
  · rw [List.getElem?_append_right (by omega)] at hj
    have hz : j - T.length < 1 := (List.getElem?_eq_some_iff.mp hj).1
    have hk : j = T.length := by omega
    subst hk
    rw [Nat.sub_self] at hj
    cases hj
    rw [if_pos rfl, if_pos rfl, if_pos rfl]
    exact ⟨rfl, rfl, rfl⟩
theorem pb_repM_push {T : List pb_Rt} {Af Lf Of Cf : Nat → Int32} {Hf : Nat → Int64} (h : pb_repM T Af Lf Of Cf Hf) (r : pb_Rt) : pb_repM (T ++ [r]) (va_up Af T.length (nI (r.1 / 512))) (va_up Lf T.length (nI (r.1 / 8 % 64))) (va_up Of T.length (nI (r.1 % 8))) (va_up Cf T.length r.2.1) (va_up Hf T.length r.2.2) := by
  intro j x hj
  unfold va_up
  by_cases hl : j < T.length
  · rw [List.getElem?_append_left hl] at hj
    rw [if_neg (by omega), if_neg (by omega), if_neg (by omega), if_neg (by omega), if_neg (by omega)]
    exact h j x hj
  · rw [List.getElem?_append_right (by omega)] at hj
    have hz : j - T.length < 1 := (List.getElem?_eq_some_iff.mp hj).1
    have hk : j = T.length := by omega
    subst hk
    rw [Nat.sub_self] at hj
    cases hj
    rw [if_pos rfl, if_pos rfl, if_pos rfl, if_pos rfl, if_pos rfl]
    exact ⟨rfl, rfl, rfl, rfl, rfl⟩
theorem pb_fm_s {T : List pb_Rt} {k : Nat} {r : pb_Rt} (g : pb_Rt → Option pb_Rt) (h : T[k]? = some r) : (T.take (k + 1)).filterMap g = (T.take k).filterMap g ++ (g r).toList := by
  rw [List.take_add_one, h, List.filterMap_append]
  cases hg : g r <;> simp [hg]
theorem pb_fm_le (T : List pb_Rt) (g : pb_Rt → Option pb_Rt) (k : Nat) : ((T.take k).filterMap g).length ≤ k := Nat.le_trans (List.length_filterMap_le _ _) (List.length_take_le _ _)
theorem pb_fm_all (T : List pb_Rt) (g : pb_Rt → Option pb_Rt) : (T.take T.length).filterMap g = T.filterMap g := by rw [List.take_length]
-- inserting, setting, erasing
theorem pb_rep_set {T : List pb_Rt} {Kf : Nat → Int64} {Cf : Nat → Int32} {Hf : Nat → Int64} (h : pb_rep T Kf Cf Hf) (i : Nat) (r : pb_Rt) : pb_rep (T.set i r) (va_up Kf i (lN r.1)) (va_up Cf i r.2.1) (va_up Hf i r.2.2) := by
  intro j x hj
  unfold va_up
  rw [List.getElem?_set] at hj
  by_cases hij : i = j
  · subst hij
    rw [if_pos rfl] at hj
    split at hj
    · cases hj
      rw [if_pos rfl, if_pos rfl, if_pos rfl]
      exact ⟨rfl, rfl, rfl⟩
    · cases hj
  · rw [if_neg hij] at hj
    rw [if_neg (Ne.symm hij), if_neg (Ne.symm hij), if_neg (Ne.symm hij)]
    exact h j x hj
theorem pb_repM_set {T : List pb_Rt} {Af Lf Of Cf : Nat → Int32} {Hf : Nat → Int64} (h : pb_repM T Af Lf Of Cf Hf) (i : Nat) (r : pb_Rt) : pb_repM (T.set i r) (va_up Af i (nI (r.1 / 512))) (va_up Lf i (nI (r.1 / 8 % 64))) (va_up Of i (nI (r.1 % 8))) (va_up Cf i r.2.1) (va_up Hf i r.2.2) := by
  intro j x hj
  unfold va_up
  rw [List.getElem?_set] at hj
  by_cases hij : i = j
  · subst hij
    rw [if_pos rfl] at hj
    split at hj
    · cases hj
      rw [if_pos rfl, if_pos rfl, if_pos rfl, if_pos rfl, if_pos rfl]
      exact ⟨rfl, rfl, rfl, rfl, rfl⟩
    · cases hj
  · rw [if_neg hij] at hj
    rw [if_neg (Ne.symm hij), if_neg (Ne.symm hij), if_neg (Ne.symm hij), if_neg (Ne.symm hij), if_neg (Ne.symm hij)]
    exact h j x hj
def pb_ins (T : List pb_Rt) (i : Nat) (r : pb_Rt) : List pb_Rt := T.take i ++ r :: T.drop i
theorem pb_ins_len {T : List pb_Rt} {i : Nat} (h : i ≤ T.length) (r : pb_Rt) : (pb_ins T i r).length = T.length + 1 := by
  unfold pb_ins
  rw [List.length_append, List.length_cons, List.length_take, List.length_drop]
  omega
theorem pb_ins_get {T : List pb_Rt} {i : Nat} (h : i ≤ T.length) (r : pb_Rt) (j : Nat) : (pb_ins T i r)[j]? = if j < i then T[j]? else if j = i then some r else T[j - 1]? := by
  unfold pb_ins
  have hl : (T.take i).length = i := by rw [List.length_take]; omega
  by_cases h1 : j < i
  · rw [if_pos h1, List.getElem?_append_left (by omega), List.getElem?_take, if_pos h1]
  · rw [if_neg h1, List.getElem?_append_right (by omega), hl]
    by_cases h2 : j = i
    · subst h2
      rw [if_pos rfl, Nat.sub_self, List.getElem?_cons_zero]
    · rw [if_neg h2]
      obtain ⟨d, rfl⟩ : ∃ d, j = i + (d + 1) := ⟨j - i - 1, by omega⟩
      rw [show i + (d + 1) - i = d + 1 by omega, List.getElem?_cons_succ, List.getElem?_drop, show i + (d + 1) - 1 = i + d by omega]
theorem pb_rep_ins {T : List pb_Rt} {Kf : Nat → Int64} {Cf : Nat → Int32} {Hf : Nat → Int64} (h : pb_rep T Kf Cf Hf) {i : Nat} (hi : i ≤ T.length) (r : pb_Rt) : pb_rep (pb_ins T i r) (va_up (pb_shR Kf i T.length) i (lN r.1)) (va_up (pb_shR Cf i T.length) i r.2.1) (va_up (pb_shR Hf i T.length) i r.2.2) := by
  intro j x hj
  rw [pb_ins_get hi] at hj
  unfold va_up pb_shR
  by_cases h1 : j < i
  · rw [if_pos h1] at hj
    rw [if_neg (by omega), if_neg (by omega), if_neg (by omega), if_neg (by omega), if_neg (by omega), if_neg (by omega)]
    exact h j x hj
  · rw [if_neg h1] at hj
    by_cases h2 : j = i
    · rw [if_pos h2] at hj
      cases hj
      rw [if_pos h2, if_pos h2, if_pos h2]
      exact ⟨rfl, rfl, rfl⟩
    · rw [if_neg h2] at hj
      have hlt := (List.getElem?_eq_some_iff.mp hj).1
      rw [if_neg h2, if_neg h2, if_neg h2, if_pos (by omega), if_pos (by omega), if_pos (by omega)]
      exact h (j - 1) x hj
theorem pb_repM_ins {T : List pb_Rt} {Af Lf Of Cf : Nat → Int32} {Hf : Nat → Int64} (h : pb_repM T Af Lf Of Cf Hf) {i : Nat} (hi : i ≤ T.length) (r : pb_Rt) : pb_repM (pb_ins T i r) (va_up (pb_shR Af i T.length) i (nI (r.1 / 512))) (va_up (pb_shR Lf i T.length) i (nI (r.1 / 8 % 64))) (va_up (pb_shR Of i T.length) i (nI (r.1 % 8))) (va_up (pb_shR Cf i T.length) i r.2.1) (va_up (pb_shR Hf i T.length) i r.2.2) := by
  intro j x hj
  rw [pb_ins_get hi] at hj
  unfold va_up pb_shR
  by_cases h1 : j < i
  · rw [if_pos h1] at hj
    rw [if_neg (by omega), if_neg (by omega), if_neg (by omega), if_neg (by omega), if_neg (by omega), if_neg (by omega), if_neg (by omega), if_neg (by omega), if_neg (by omega), if_neg (by omega)]
    exact h j x hj
  · rw [if_neg h1] at hj
    by_cases h2 : j = i
    · rw [if_pos h2] at hj
      cases hj
      rw [if_pos h2, if_pos h2, if_pos h2, if_pos h2, if_pos h2]
      exact ⟨rfl, rfl, rfl, rfl, rfl⟩
    · rw [if_neg h2] at hj
      have hlt := (List.getElem?_eq_some_iff.mp hj).1
      rw [if_neg h2, if_neg h2, if_neg h2, if_neg h2, if_neg h2, if_pos (by omega), if_pos (by omega), if_pos (by omega), if_pos (by omega), if_pos (by omega)]
      exact h (j - 1) x hj
theorem pb_rep_del {T : List pb_Rt} {Kf : Nat → Int64} {Cf : Nat → Int32} {Hf : Nat → Int64} (h : pb_rep T Kf Cf Hf) (i : Nat) : pb_rep (T.eraseIdx i) (pb_shL Kf i T.length) (pb_shL Cf i T.length) (pb_shL Hf i T.length) := by
  intro j x hj
  rw [List.getElem?_eraseIdx] at hj
  unfold pb_shL
  by_cases h1 : j < i
  · rw [if_pos h1] at hj
    rw [if_neg (by omega), if_neg (by omega), if_neg (by omega)]
    exact h j x hj
  · rw [if_neg h1] at hj
    have hlt := (List.getElem?_eq_some_iff.mp hj).1
    rw [if_pos (by omega), if_pos (by omega), if_pos (by omega)]
    exact h (j + 1) x hj
/-- the four changes -/
def pb_put (T : List pb_Rt) (r : pb_Rt) : List pb_Rt := if pb_hs T r.1 = true then T.set (pb_lb T r.1) r else pb_ins T (pb_lb T r.1) r
def pb_gz (r : pb_Rt) : Option pb_Rt := if r.2.2 = 0 then none else some r
def pb_gd (o : Nat) (r : pb_Rt) : Option pb_Rt := if r.1 % 8 = o then none else some r
def pb_gc (mz : Int64) (r : pb_Rt) : Option pb_Rt := if r.2.2 &&& mz = 0 then none else some (r.1, r.2.1, r.2.2 &&& mz)
end PB7
