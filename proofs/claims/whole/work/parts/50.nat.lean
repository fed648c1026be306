/-! numbers alone: rounding up, and the four ways of a leg -/
/-- a / b, rounded up -/
def q_up (a b : Nat) : Nat := (a + b - 1) / b
theorem q_up_le {a b q : Nat} (hb : 0 < b) : q_up a b ≤ q ↔ a ≤ q * b := by
  unfold q_up
  rw [← Nat.lt_succ_iff, Nat.div_lt_iff_lt_mul hb, Nat.succ_mul]
  omega
theorem q_up_ge {a b : Nat} (hb : 0 < b) : a ≤ q_up a b * b := (q_up_le hb).mp (Nat.le_refl _)
theorem q_up_gt {a b u : Nat} (hb : 0 < b) (h : u < q_up a b) : u * b < a := by
  apply Nat.lt_of_not_le
  intro hle
  exact absurd ((q_up_le hb).mpr hle) (Nat.not_le.mpr h)
theorem q_up_0 {b : Nat} (hb : 0 < b) : q_up 0 b = 0 := by
  have := (q_up_le (a := 0) (q := 0) hb).mpr (Nat.zero_le _)
  omega
theorem q_up_eq {a b : Nat} (hb : 0 < b) : q_up a b = if a % b ≠ 0 then a / b + 1 else a / b := by
  have h0 := Nat.div_add_mod a b
  have h1 := Nat.mod_lt a hb
  by_cases h : a % b = 0
  · rw [if_neg (by simp [h])]
    apply Nat.le_antisymm
    · rw [q_up_le hb, Nat.mul_comm]
      omega
    · apply Nat.le_of_not_lt
      intro hl
      have h2 := Nat.lt_of_lt_of_le hl (Nat.le_refl _)
      have h3 := q_up_ge (a := a) hb
      have h4 : (q_up a b + 1) * b ≤ a / b * b := Nat.mul_le_mul_right b hl
      rw [Nat.succ_mul, Nat.mul_comm (a / b) b] at h4
      omega
  · rw [if_pos h]
    apply Nat.le_antisymm
    · rw [q_up_le hb, Nat.succ_mul, Nat.mul_comm (a / b) b]
      omega
    · apply Nat.le_of_not_lt
      intro hl
      have h3 := q_up_ge (a := a) hb
      have h4 : q_up a b * b ≤ a / b * b := Nat.mul_le_mul_right b (by omega)
      rw [Nat.mul_comm (a / b) b] at h4
      omega
/-- down, paying u, short of the target t -/
theorem q_T1 {W t p u : Nat} (ht : 0 < t) (htp : t ≤ p) (h : u < q_up (W * (p - t)) (t * p)) :
    0 < W ∧ t < q_up (W * p) (W + u * p) ∧ q_up (W * p) (W + u * p) ≤ p ∧ q_up (W * (p - q_up (W * p) (W + u * p))) (q_up (W * p) (W + u * p) * p) ≤ u := by
  have hD : 0 < t * p := Nat.mul_pos ht (Nat.lt_of_lt_of_le ht htp)
  have h1 := q_up_gt hD h
  obtain ⟨d, rfl⟩ := Nat.exists_eq_add_of_le htp
  rw [Nat.add_sub_cancel_left] at h1
  have hW : 0 < W := by
    rcases Nat.eq_zero_or_pos W with hz | hz
    · rw [hz, Nat.zero_mul] at h1
      omega
    · exact hz
  have hB : 0 < W + u * (t + d) := by omega
  have a1 := q_up_ge (a := W * (t + d)) hB
  have a2 : ∀ z, W * (t + d) ≤ z * (W + u * (t + d)) → q_up (W * (t + d)) (W + u * (t + d)) ≤ z := fun z hz => (q_up_le hB).mpr hz
  generalize q_up (W * (t + d)) (W + u * (t + d)) = q at a1 a2 ⊢
  have hlt : t < q := by
    apply Nat.lt_of_not_le
    intro hle
    have b1 := Nat.le_trans a1 (Nat.mul_le_mul_right _ hle)
    have e1 : W * (t + d) = W * t + W * d := Nat.mul_add ..
    have e2 : t * (W + u * (t + d)) = W * t + u * (t * (t + d)) := by grind
    omega
  have hle : q ≤ t + d := a2 _ (by
    have e1 : (t + d) * (W + u * (t + d)) = W * (t + d) + (t + d) * (u * (t + d)) := by grind
    omega)
  refine ⟨hW, hlt, hle, ?_⟩
  rw [q_up_le (Nat.mul_pos (by omega) (by omega)), Nat.mul_sub]
  have e3 : q * (W + u * (t + d)) = W * q + u * (q * (t + d)) := by grind
  omega
/-- up, paying u, short of the target t -/
theorem q_T2 {w t p u : Nat} (htp : p ≤ t) (h : u < q_up (w * (t - p)) 65536) :
    0 < w ∧ p + u * 65536 / w < t ∧ q_up (w * (p + u * 65536 / w - p)) 65536 ≤ u := by
  have h1 := q_up_gt (by decide) h
  have hw : 0 < w := by
    rcases Nat.eq_zero_or_pos w with hz | hz
    · rw [hz, Nat.zero_mul] at h1
      omega
    · exact hz
  have h2 : u * 65536 / w < t - p := by
    rw [Nat.div_lt_iff_lt_mul hw, Nat.mul_comm (t - p) w]
    exact h1
  refine ⟨hw, by omega, ?_⟩
  rw [q_up_le (by decide), Nat.add_sub_cancel_left]
  exact Nat.mul_div_le _ _
/-- down, taking v, short of the target t -/
theorem q_T3 {w t p v : Nat} (htp : t ≤ p) (h : v < w * (p - t) / 65536) :
    0 < w ∧ q_up (v * 65536) w ≤ p - t ∧ v ≤ w * (p - (p - q_up (v * 65536) w)) / 65536 := by
  have h1 : (v + 1) * 65536 ≤ w * (p - t) := (Nat.le_div_iff_mul_le (by decide)).mp h
  have hw : 0 < w := by
    rcases Nat.eq_zero_or_pos w with hz | hz
    · rw [hz, Nat.zero_mul] at h1
      omega
    · exact hz
  have h2 : q_up (v * 65536) w ≤ p - t := by
    rw [q_up_le hw, Nat.mul_comm (p - t) w]
    exact Nat.le_trans (Nat.mul_le_mul_right _ (Nat.le_succ v)) h1
  have h3 := q_up_ge (a := v * 65536) hw
  refine ⟨hw, h2, ?_⟩
  rw [Nat.le_div_iff_mul_le (by decide), show p - (p - q_up (v * 65536) w) = q_up (v * 65536) w by omega, Nat.mul_comm w]
  exact h3
/-- up, taking v, short of the target t -/
theorem q_T4 {W t p v : Nat} (hp : 0 < p) (htp : p ≤ t) (h : v < W * (t - p) / (p * t)) :
    v * p < W ∧ p ≤ q_up (W * p) (W - v * p) ∧ q_up (W * p) (W - v * p) ≤ t ∧ v ≤ W * (q_up (W * p) (W - v * p) - p) / (p * q_up (W * p) (W - v * p)) := by
  have ht : 0 < t := Nat.lt_of_lt_of_le hp htp
  have hD : 0 < p * t := Nat.mul_pos hp ht
  have h1 : (v + 1) * (p * t) ≤ W * (t - p) := (Nat.le_div_iff_mul_le hD).mp h
  rw [Nat.succ_mul, Nat.mul_sub] at h1
  have h2 : v * p < W := by
    apply Nat.lt_of_not_le
    intro hle
    have b1 : W * t ≤ v * p * t := Nat.mul_le_mul_right t hle
    have e1 : v * p * t = v * (p * t) := Nat.mul_assoc ..
    omega
  obtain ⟨B, hB⟩ := Nat.exists_eq_add_of_le (Nat.le_of_lt h2)
  have hB0 : 0 < B := by omega
  have eB : W - v * p = B := by omega
  rw [eB]
  have a1 := q_up_ge (a := W * p) hB0
  have a2 : ∀ z, W * p ≤ z * B → q_up (W * p) B ≤ z := fun z hz => (q_up_le hB0).mpr hz
  generalize q_up (W * p) B = q at a1 a2 ⊢
  have eW : W = v * p + B := hB
  have hpq : p ≤ q := by
    apply Nat.le_of_not_lt
    intro hl
    have b1 : q * B ≤ q * W := Nat.mul_le_mul_left q (by omega)
    have b2 : q * W < p * W := Nat.mul_lt_mul_of_pos_right hl (by omega)
    rw [Nat.mul_comm W p] at a1
    omega
  have e2 : t * W = t * (v * p) + t * B := by rw [eW, Nat.mul_add]
  have e3 : t * (v * p) = v * (p * t) := by grind
  have hqt : q ≤ t := a2 _ (by
    rw [Nat.mul_comm W t] at h1
    omega)
  refine ⟨h2, hpq, hqt, ?_⟩
  rw [Nat.le_div_iff_mul_le (Nat.mul_pos hp (by omega)), Nat.mul_sub]
  have e4 : W * q = v * (p * q) + q * B := by rw [eW]; grind
  omega
