/-! marks of time -/
def v_tmB (x r : g_S) (i : Nat) (c : Int32) (T m : Nat) (tm : Nat → Nat) : Prop := x.2 5 0 = lN T ∧ r.2 0 15 = lN T ∧ T ≤ i * 10000 ∧ x.2 5 1 = r.2 0 16 ∧ x.1 5 2 = nI m ∧ r.1 0 17 = nI m ∧ m ≤ 8 ∧
  (∀ j, j < m → x.2 6 j = lN (tm j) ∧ r.2 11 j = lN (tm j) ∧ x.2 7 j = r.2 12 j) ∧ (∀ j, j + 1 < m → tm j < tm (j + 1) ∧ -25 ≤ (x.1 8 (j + 1)).toInt ∧ (x.1 8 (j + 1)).toInt ≤ 24 ∧ r.2 12 (j + 1) = r.2 12 j + (x.1 8 (j + 1)).toInt64 * lN (tm (j + 1) - tm j)) ∧
  (∀ j, j + 1 = m → tm j ≤ T ∧ r.2 0 16 = r.2 12 j + c.toInt64 * lN (T - tm j))
theorem v_tim_B {x r : g_S} {i : Nat} : v_tim x r i ↔ ∃ (T m : Nat) (tm : Nat → Nat), v_tmB x r i (r.1 0 5) T m tm ∧ (r.1 0 3 = 0 → m = 0) ∧ (r.1 0 3 = 1 → 1 ≤ m) := by
  constructor
  · rintro ⟨T, m, tm, h1, h2, h3, h4, h5, h6, h7, h8, h9, h10, h11, h12⟩
    exact ⟨T, m, tm, ⟨h1, h2, h3, h4, h5, h6, h7, h10, h11, h12⟩, h8, h9⟩
  · rintro ⟨T, m, tm, ⟨h1, h2, h3, h4, h5, h6, h7, h10, h11, h12⟩, h8, h9⟩
    exact ⟨T, m, tm, h1, h2, h3, h4, h5, h6, h7, h8, h9, h10, h11, h12⟩
theorem v_plain {x r x0 : g_S} {i : Nat} {c : Int32} {T m : Nat} {tm : Nat → Nat} (h : v_tmB x r i c T m tm) (hm : m < 8) (hl : ∀ j, j + 1 = m → tm j < T) (c1 : -25 ≤ c.toInt) (c2 : c.toInt ≤ 24) :
    v_tmB (f_H_mark_40_6 x0 c x) (f_M_note_84_4 r) i c T (m + 1) (fun j => if j = m then T else tm j) := by
  obtain ⟨h1, h2, h3, h4, h5, h6, h7, h8, h9, h10⟩ := h
  have em : (nI m).toNatClampNeg = m := u_cl (by omega)
  have eX : f_H_mark_40_6 x0 c x = g_I (g_I (g_L (g_L x 6 m (lN T)) 7 m (r.2 0 16)) 8 m c) 5 2 (nI m + 1) := by
    unfold f_H_mark_40_6
    rw [h5, em, h1, h4]
  have eR : f_M_note_84_4 r = g_I (g_L (g_L r 11 m (lN T)) 12 m (r.2 0 16)) 0 17 (nI m + 1) := by
    unfold f_M_note_84_4
    rw [h6, em, h2]
  rw [eX, eR]
  refine ⟨h1, h2, h3, h4, by rw [← nI_1]; rfl, by rw [← nI_1]; rfl, by omega, fun j hj => ?_, fun j hj => ?_, fun j hj => ?_⟩
  · show (g_2 x.2 6 m (lN T) 6 j) = _ ∧ (g_2 r.2 11 m (lN T) 11 j) = _ ∧ (g_2 (g_2 x.2 6 m (lN T)) 7 m (r.2 0 16) 7 j) = g_2 (g_2 r.2 11 m (lN T)) 12 m (r.2 0 16) 12 j
    by_cases e : j = m
    · subst e
      simp [g_2]
    · obtain ⟨a1, a2, a3⟩ := h8 j (by omega)
      simp [g_2, e, a1, a2, a3]
  · show _ ∧ -25 ≤ (g_2 x.1 8 m c 8 (j + 1)).toInt ∧ (g_2 x.1 8 m c 8 (j + 1)).toInt ≤ 24 ∧ g_2 (g_2 r.2 11 m (lN T)) 12 m (r.2 0 16) 12 (j + 1) = g_2 (g_2 r.2 11 m (lN T)) 12 m (r.2 0 16) 12 j + (g_2 x.1 8 m c 8 (j + 1)).toInt64 * lN _
    by_cases e : j + 1 = m
    · obtain ⟨a1, a2⟩ := h10 j e
      have a3 := hl j e
      have e2 : ¬ j = m := by omega
      simp only [g_2, e, e2, and_self, and_false, if_true, if_false]
      refine ⟨a3, c1, c2, ?_⟩
      simp [a2]
    · obtain ⟨a1, a2, a3, a4⟩ := h9 j (by omega)
      have e2 : ¬ j = m := by omega
      simp only [g_2, e, e2, and_self, and_false, if_true, if_false]
      simp [a1, a2, a3, a4]
  · show _ ∧ r.2 0 16 = g_2 (g_2 r.2 11 m (lN T)) 12 m (r.2 0 16) 12 j + c.toInt64 * lN _
    have e : j = m := by omega
    subst e
    simp only [g_2, and_self, if_true]
    refine ⟨Nat.le_refl _, ?_⟩
    rw [Nat.sub_self]
    show _ = _ + c.toInt64 * 0
    rw [Int64.mul_zero, Int64.add_zero]
/-- the oldest goes: the class's loop -/
theorem v_dropX {x0 x : g_S} : ∀ (jn jk : Nat) (τ : g_S), jk + jn = 7 → ((∀ j, τ.2 6 j = if j < jk then x.2 6 (j + 1) else x.2 6 j) ∧ (∀ j, τ.2 7 j = if j < jk then x.2 7 (j + 1) else x.2 7 j) ∧ (∀ j, τ.1 8 j = if j < jk then x.1 8 (j + 1) else x.1 8 j) ∧ (∀ p, p ≠ 6 → p ≠ 7 → τ.2 p = x.2 p) ∧ (∀ p, p ≠ 8 → τ.1 p = x.1 p)) →
    ((∀ j, (f_H_dropOldest_L2 x0 jn jk τ).2 6 j = if j < 7 then x.2 6 (j + 1) else x.2 6 j) ∧ (∀ j, (f_H_dropOldest_L2 x0 jn jk τ).2 7 j = if j < 7 then x.2 7 (j + 1) else x.2 7 j) ∧ (∀ j, (f_H_dropOldest_L2 x0 jn jk τ).1 8 j = if j < 7 then x.1 8 (j + 1) else x.1 8 j) ∧ (∀ p, p ≠ 6 → p ≠ 7 → (f_H_dropOldest_L2 x0 jn jk τ).2 p = x.2 p) ∧ (∀ p, p ≠ 8 → (f_H_dropOldest_L2 x0 jn jk τ).1 p = x.1 p)) := by
  intro jn
  induction jn with
  | zero =>
    intro jk τ hk h
    have e : jk = 7 := by omega
    subst e
    exact h
  | succ jn ih =>
    intro jk τ hk h
    obtain ⟨h1, h2, h3, h4, h5⟩ := h
    refine ih (jk + 1) _ (by omega) ⟨fun j => ?_, fun j => ?_, fun j => ?_, fun p p1 p2 => ?_, fun p p1 => ?_⟩
    · rw [Nat.add_sub_cancel]
      show g_2 τ.2 6 jk (τ.2 6 (jk + 1)) 6 j = _
      simp only [g_2, true_and, h1]
      by_cases e : j = jk
      · subst e
        rw [if_pos rfl, if_neg (by omega), if_pos (by omega)]
      · rw [if_neg e]
        by_cases e2 : j < jk
        · rw [if_pos e2, if_pos (by omega)]
        · rw [if_neg e2, if_neg (by omega)]
    · rw [Nat.add_sub_cancel]
      show g_2 (g_2 τ.2 6 jk (τ.2 6 (jk + 1))) 7 jk (τ.2 7 (jk + 1)) 7 j = _
      rw [g_2_row]
      show (if j = jk then τ.2 7 (jk + 1) else g_2 τ.2 6 jk (τ.2 6 (jk + 1)) 7 j) = _
      rw [g_2_p _ _ (by omega : (7 : Nat) ≠ 6), h2, h2]
      by_cases e : j = jk
      · subst e
        rw [if_pos rfl, if_neg (by omega), if_pos (by omega)]
      · rw [if_neg e]
        by_cases e2 : j < jk
        · rw [if_pos e2, if_pos (by omega)]
        · rw [if_neg e2, if_neg (by omega)]
    · rw [Nat.add_sub_cancel]
      show g_2 τ.1 8 jk (τ.1 8 (jk + 1)) 8 j = _
      simp only [g_2, true_and, h3]
      by_cases e : j = jk
      · subst e
        rw [if_pos rfl, if_neg (by omega), if_pos (by omega)]
      · rw [if_neg e]
        by_cases e2 : j < jk
        · rw [if_pos e2, if_pos (by omega)]
        · rw [if_neg e2, if_neg (by omega)]
    · rw [g_I2, g_L2p _ _ p2, g_L2p _ _ p1, h4 p p1 p2]
    · rw [g_I1p _ _ p1, g_L1, g_L1, h5 p p1]
/-- and the reference's -/
theorem v_dropR {r0 r : g_S} : ∀ (jn jk : Nat) (τ : g_S), jk + jn = 7 → ((∀ j, τ.2 11 j = if j < jk then r.2 11 (j + 1) else r.2 11 j) ∧ (∀ j, τ.2 12 j = if j < jk then r.2 12 (j + 1) else r.2 12 j) ∧ (∀ p, p ≠ 11 → p ≠ 12 → τ.2 p = r.2 p) ∧ τ.1 = r.1) →
    ((∀ j, (f_M_note_L38 r0 jn jk τ).2 11 j = if j < 7 then r.2 11 (j + 1) else r.2 11 j) ∧ (∀ j, (f_M_note_L38 r0 jn jk τ).2 12 j = if j < 7 then r.2 12 (j + 1) else r.2 12 j) ∧ (∀ p, p ≠ 11 → p ≠ 12 → (f_M_note_L38 r0 jn jk τ).2 p = r.2 p) ∧ (f_M_note_L38 r0 jn jk τ).1 = r.1) := by
  intro jn
  induction jn with
  | zero =>
    intro jk τ hk h
    have e : jk = 7 := by omega
    subst e
    exact h
  | succ jn ih =>
    intro jk τ hk h
    obtain ⟨h1, h2, h4, h5⟩ := h
    refine ih (jk + 1) _ (by omega) ⟨fun j => ?_, fun j => ?_, fun p p1 p2 => ?_, h5⟩
    · show g_2 (g_2 τ.2 11 jk (τ.2 11 (jk + 1))) 12 jk (τ.2 12 (jk + 1)) 11 j = _
      rw [g_2_p _ _ (by omega : (11 : Nat) ≠ 12)]
      simp only [g_2, true_and, h1]
      by_cases e : j = jk
      · subst e
        rw [if_pos rfl, if_neg (by omega), if_pos (by omega)]
      · rw [if_neg e]
        by_cases e2 : j < jk
        · rw [if_pos e2, if_pos (by omega)]
        · rw [if_neg e2, if_neg (by omega)]
    · show g_2 (g_2 τ.2 11 jk (τ.2 11 (jk + 1))) 12 jk (τ.2 12 (jk + 1)) 12 j = _
      rw [g_2_row]
      show (if j = jk then τ.2 12 (jk + 1) else g_2 τ.2 11 jk (τ.2 11 (jk + 1)) 12 j) = _
      rw [g_2_p _ _ (by omega : (12 : Nat) ≠ 11), h2, h2]
      by_cases e : j = jk
      · subst e
        rw [if_pos rfl, if_neg (by omega), if_pos (by omega)]
      · rw [if_neg e]
        by_cases e2 : j < jk
        · rw [if_pos e2, if_pos (by omega)]
        · rw [if_neg e2, if_neg (by omega)]
    · rw [g_L2p _ _ p2, g_L2p _ _ p1, h4 p p1 p2]
theorem v_L38_1 (r0 : g_S) : ∀ (jn jk : Nat) (τ : g_S), f_M_note_L38_1 r0 jn jk τ = f_M_note_L38 r0 jn jk τ := by
  intro jn
  induction jn with
  | zero => intro jk τ; rfl
  | succ jn ih => intro jk τ; exact ih (jk + 1) _
theorem v_drop {x r r0 : g_S} {i : Nat} {c : Int32} {T : Nat} {tm : Nat → Nat} (h : v_tmB x r i c T 8 tm) : v_tmB (f_H_dropOldest x) (g_I (f_M_note_L38 r0 7 0 r) 0 17 (7 : Int32)) i c T 7 (fun j => tm (j + 1)) := by
  obtain ⟨h1, h2, h3, h4, h5, h6, h7, h8, h9, h10⟩ := h
  obtain ⟨a1, a2, a3, a4, a5⟩ := v_dropX (x0 := x) (x := x) 7 0 x rfl ⟨fun j => rfl, fun j => rfl, fun j => rfl, fun _ _ _ => rfl, fun _ _ => rfl⟩
  obtain ⟨b1, b2, b4, b5⟩ := v_dropR (r0 := r0) (r := r) 7 0 r rfl ⟨fun j => rfl, fun j => rfl, fun _ _ _ => rfl, rfl⟩
  have eX : f_H_dropOldest x = g_I (f_H_dropOldest_L2 x 7 0 x) 5 2 ((f_H_dropOldest_L2 x 7 0 x).1 5 2 - 1) := rfl
  rw [eX]
  generalize f_H_dropOldest_L2 x 7 0 x = y at a1 a2 a3 a4 a5 ⊢
  generalize f_M_note_L38 r0 7 0 r = z at b1 b2 b4 b5 ⊢
  refine ⟨?_, ?_, h3, ?_, ?_, rfl, by omega, fun j hj => ?_, fun j hj => ?_, fun j hj => ?_⟩
  · rw [g_I2, a4 5 (by omega) (by omega)]; exact h1
  · rw [g_I2, b4 0 (by omega) (by omega)]; exact h2
  · rw [g_I2, g_I2, a4 5 (by omega) (by omega), b4 0 (by omega) (by omega)]; exact h4
  · rw [g_I1s, a5 5 (by omega), h5]; rfl
  · rw [g_I2, g_I2, a1, a2, b1, b2, if_pos hj, if_pos hj, if_pos hj, if_pos hj]
    exact h8 (j + 1) (by omega)
  · rw [g_I2, b2, b2, if_pos (by omega), if_pos (by omega), g_I1p _ _ (by omega : (8 : Nat) ≠ 5), a3, if_pos (by omega)]
    exact h9 (j + 1) (by omega)
  · rw [g_I2, b4 0 (by omega) (by omega), b2, if_pos (by omega)]
    exact h10 (j + 1) (by omega)
/-- what a mark leaves alone -/
def v_frH (x y : g_S) : Prop := (∀ p, p ≠ 6 → p ≠ 7 → y.2 p = x.2 p) ∧ (∀ p, p ≠ 8 → p ≠ 5 → y.1 p = x.1 p)
def v_frN (r z : g_S) : Prop := (∀ p, p ≠ 11 → p ≠ 12 → z.2 p = r.2 p) ∧ (∀ p, p ≠ 0 → z.1 p = r.1 p) ∧ ∀ k, k ≠ 17 → z.1 0 k = r.1 0 k
theorem v_plainF (x0 x : g_S) (c : Int32) : v_frH x (f_H_mark_40_6 x0 c x) := by
  refine ⟨fun p h1 h2 => ?_, fun p h1 h2 => ?_⟩
  · unfold f_H_mark_40_6
    rw [g_I2, g_I2, g_L2p _ _ h2, g_L2p _ _ h1]
  · unfold f_H_mark_40_6
    rw [g_I1p _ _ h2, g_I1p _ _ h1, g_L1, g_L1]
theorem v_plainG (r : g_S) : v_frN r (f_M_note_84_4 r) := by
  refine ⟨fun p h1 h2 => ?_, fun p h1 => ?_, fun k h1 => ?_⟩
  · unfold f_M_note_84_4
    rw [g_I2, g_L2p _ _ h2, g_L2p _ _ h1]
  · unfold f_M_note_84_4
    rw [g_I1p _ _ h1, g_L1, g_L1]
  · unfold f_M_note_84_4
    rw [g_I1k _ _ h1, g_L1, g_L1]
theorem v_frH.tr {x y z : g_S} (h1 : v_frH x y) (h2 : v_frH y z) : v_frH x z := ⟨fun p a b => (h2.1 p a b).trans (h1.1 p a b), fun p a b => (h2.2 p a b).trans (h1.2 p a b)⟩
theorem v_frN.tr {x y z : g_S} (h1 : v_frN x y) (h2 : v_frN y z) : v_frN x z := ⟨fun p a b => (h2.1 p a b).trans (h1.1 p a b), fun p a => (h2.2.1 p a).trans (h1.2.1 p a), fun p a => (h2.2.2 p a).trans (h1.2.2 p a)⟩
