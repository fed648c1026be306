/-! quotients: the two systems' are the same number -/
theorem u_kquoP (a b : Int64) (up : Int32) : k_P_quotient a b up := by
  unfold k_P_quotient k_P_quotient_8_2 k_P_quotient_18_6
  by_cases h : (1 : Int64) ≤ b
  · rw [if_pos h]
    have hb : ¬ b = 0 := by
      intro e
      rw [e] at h
      exact absurd h (by decide)
    refine ⟨hb, ?_⟩
    by_cases hu : up = 0
    · rw [if_pos hu]; exact True.intro
    · rw [if_neg hu]
      refine ⟨hb, ?_⟩
      by_cases hr : a - a / b * b = (0 : Int64)
      · rw [if_pos hr]; exact True.intro
      · rw [if_neg hr]; exact True.intro
  · rw [if_neg h]; exact True.intro
theorem u_kquoM {a b : Int64} (hb : ¬ b = 0) (up : Int32) : k_M_quotient a b up := by
  unfold k_M_quotient k_M_quotient_15_2 k_M_quotient_5_4
  by_cases hu : up = 0
  · rw [if_pos hu]; exact ⟨hb, True.intro⟩
  · rw [if_neg hu]; exact ⟨hb, True.intro⟩
/-- the number that both give -/
def u_q (a b : Nat) (up : Int32) : Nat := if up = 0 then a / b else q_up a b
theorem u_quoP {a b : Nat} (ha : a < 2 ^ 63) (h0 : 0 < b) (hb : b < 2 ^ 63) (up : Int32) : f_P_quotient (lN a) (lN b) up = lN (u_q a b up) := by
  have h1 : (1 : Int64) ≤ lN b := (pk_lLE (a := 1) (by decide) hb).mpr h0
  unfold f_P_quotient f_P_quotient_8_2 f_P_quotient_33_5 f_P_quotient_18_6 f_P_quotient_33_9 f_P_quotient_26_10 u_q
  rw [if_pos h1, pk_lRem ha h0 hb, pk_lDiv ha h0 hb]
  by_cases hu : up = 0
  · rw [if_pos hu, if_pos hu]
  · rw [if_neg hu, if_neg hu, q_up_eq h0]
    by_cases hr : a % b = 0
    · rw [hr, if_pos (show lN 0 = (0 : Int64) from rfl), if_neg (by simp)]
    · have hm := Nat.mod_lt a h0
      rw [if_neg (show ¬ lN (a % b) = 0 from fun h => hr ((pk_lEQ (b := 0) (by omega) (by decide)).mp h)), if_pos hr, lN_1]
theorem u_quoM {a b : Nat} (h0 : 0 < b) (hb : a + b < 2 ^ 63) (up : Int32) : f_M_quotient (lN a) (lN b) up = lN (u_q a b up) := by
  unfold f_M_quotient f_M_quotient_15_2 f_M_quotient_5_4 u_q
  by_cases hu : up = 0
  · rw [if_pos hu, if_pos hu, pk_lDiv (by omega) h0 (by omega)]
  · rw [if_neg hu, if_neg hu, lN_add, show (1 : Int64) = lN 1 from rfl, lN_sub (by omega), pk_lDiv (by omega) h0 (by omega)]
    rfl
theorem u_quo {a b : Nat} (h0 : 0 < b) (hb : a + b < 2 ^ 63) (up : Int32) : f_P_quotient (lN a) (lN b) up = f_M_quotient (lN a) (lN b) up := by
  rw [u_quoP (by omega) h0 (by omega), u_quoM h0 hb]
/-- ZERO and ONE -/
theorem u_zeroP {a b w : Nat} (hab : a ≤ b) (ha : 0 < a) (hb : b < 2 ^ 20) (hw : w ≤ 1000000) (up : Int32) : f_P_zeroBetween (lN a) (lN b) (lN w) up = lN (u_q (w * 65536 * (b - a)) (a * b) up) := by
  have h1 : w * 65536 * (b - a) ≤ 1000000 * 65536 * 2 ^ 20 := Nat.mul_le_mul (Nat.mul_le_mul_right _ hw) (by omega)
  have h2 : a * b ≤ 2 ^ 20 * 2 ^ 20 := Nat.mul_le_mul (by omega) (by omega)
  have h3 : 0 < a * b := Nat.mul_pos ha (by omega)
  unfold f_P_zeroBetween
  rw [show (65536 : Int64) = lN 65536 from rfl, lN_mul, lN_sub hab, lN_mul, lN_mul, u_quoP (by omega) h3 (by omega)]
theorem u_zeroM {a b w : Nat} (hab : a ≤ b) (ha : 0 < a) (hb : b < 2 ^ 20) (hw : w ≤ 1000000) (up : Int32) : f_M_zero (lN a) (lN b) (lN w) up = lN (u_q (w * 65536 * (b - a)) (a * b) up) := by
  have h1 : w * 65536 * (b - a) ≤ 1000000 * 65536 * 2 ^ 20 := Nat.mul_le_mul (Nat.mul_le_mul_right _ hw) (by omega)
  have h2 : a * b ≤ 2 ^ 20 * 2 ^ 20 := Nat.mul_le_mul (by omega) (by omega)
  have h3 : 0 < a * b := Nat.mul_pos ha (by omega)
  unfold f_M_zero
  rw [show (65536 : Int64) = lN 65536 from rfl, lN_mul, lN_sub hab, lN_mul, lN_mul, u_quoM h3 (by omega)]
theorem u_oneP {a b w : Nat} (hab : a ≤ b) (hb : b < 2 ^ 20) (hw : w ≤ 1000000) (up : Int32) : f_P_oneBetween (lN a) (lN b) (lN w) up = lN (u_q (w * (b - a)) 65536 up) := by
  have h1 : w * (b - a) ≤ 1000000 * 2 ^ 20 := Nat.mul_le_mul hw (by omega)
  unfold f_P_oneBetween
  rw [lN_sub hab, lN_mul, show (65536 : Int64) = lN 65536 from rfl, u_quoP (by omega) (by decide) (by decide)]
theorem u_oneM {a b w : Nat} (hab : a ≤ b) (hb : b < 2 ^ 20) (hw : w ≤ 1000000) (up : Int32) : f_M_one (lN a) (lN b) (lN w) up = lN (u_q (w * (b - a)) 65536 up) := by
  have h1 : w * (b - a) ≤ 1000000 * 2 ^ 20 := Nat.mul_le_mul hw (by omega)
  unfold f_M_one
  rw [lN_sub hab, lN_mul, show (65536 : Int64) = lN 65536 from rfl, u_quoM (by decide) (by omega)]
