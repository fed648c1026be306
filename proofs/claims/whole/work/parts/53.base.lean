/-! small numbers; steps; the table -/
theorem g_10 : ((1 : Int32) = 0) = False := by decide
theorem g_tI0 : (0 : Int32).toInt = 0 := rfl
theorem u_isOwner (o : Int32) : (f_P_isOwner o = 0 ∧ f_M_isOwner o = 0) ∨ (f_P_isOwner o = 1 ∧ f_M_isOwner o = 1 ∧ ∃ a, a < 4 ∧ o = nI a) := by
  simp only [f_P_isOwner_13_2, f_P_isOwner_13_5, f_P_isOwner_9_6, f_P_isOwner_4_3, f_P_isOwner, f_M_isOwner_13_2, f_M_isOwner_13_5, f_M_isOwner_9_6, f_M_isOwner_4_3, f_M_isOwner]
  by_cases h : o < 0
  · rw [if_pos h, if_pos h]
    exact Or.inl ⟨rfl, rfl⟩
  · rw [if_neg h, if_neg h]
    by_cases h2 : (4 : Int32) ≤ o
    · rw [if_pos h2]
      have h3 : (3 : Int32) < o := by
        rw [Int32.le_iff_toInt_le, show (4 : Int32).toInt = 4 from rfl] at h2
        rw [Int32.lt_iff_toInt_lt, show (3 : Int32).toInt = 3 from rfl]
        omega
      rw [if_pos h3]
      exact Or.inl ⟨rfl, rfl⟩
    · rw [if_neg h2]
      rw [Int32.le_iff_toInt_le, show (4 : Int32).toInt = 4 from rfl] at h2
      rw [Int32.lt_iff_toInt_lt, g_tI0] at h
      have h3 : ¬ (3 : Int32) < o := by
        rw [Int32.lt_iff_toInt_lt, show (3 : Int32).toInt = 3 from rfl]
        omega
      rw [if_neg h3]
      have e := Int32.toNat_toInt o
      refine Or.inr ⟨rfl, rfl, o.toNatClampNeg, by omega, ?_⟩
      exact (Int32.ofNat_toNatClampNeg o (by rw [Int32.le_iff_toInt_le, g_tI0]; omega)).symm
theorem u_isToken (o : Int32) : (f_P_isToken o = 0 ∧ (o < 0 ∨ (¬ o < 0 ∧ (1 : Int32) < o))) ∨ (f_P_isToken o = 1 ∧ ¬ o < 0 ∧ ¬ (1 : Int32) < o ∧ ∃ a, a < 2 ∧ o = nI a) := by
  simp only [f_P_isToken_13_2, f_P_isToken_13_5, f_P_isToken_9_6, f_P_isToken_4_3, f_P_isToken]
  by_cases h : o < 0
  · rw [if_pos h]
    exact Or.inl ⟨rfl, Or.inl h⟩
  · rw [if_neg h]
    by_cases h2 : (2 : Int32) ≤ o
    · rw [if_pos h2]
      have h3 : (1 : Int32) < o := by
        rw [Int32.le_iff_toInt_le, show (2 : Int32).toInt = 2 from rfl] at h2
        rw [Int32.lt_iff_toInt_lt, show (1 : Int32).toInt = 1 from rfl]
        omega
      exact Or.inl ⟨rfl, Or.inr ⟨h, h3⟩⟩
    · rw [if_neg h2]
      rw [Int32.le_iff_toInt_le, show (2 : Int32).toInt = 2 from rfl] at h2
      have h' := h
      rw [Int32.lt_iff_toInt_lt, g_tI0] at h'
      have h3 : ¬ (1 : Int32) < o := by
        rw [Int32.lt_iff_toInt_lt, show (1 : Int32).toInt = 1 from rfl]
        omega
      have e := Int32.toNat_toInt o
      refine Or.inr ⟨rfl, h, h3, o.toNatClampNeg, by omega, ?_⟩
      exact (Int32.ofNat_toNatClampNeg o (by rw [Int32.le_iff_toInt_le, g_tI0]; omega)).symm
theorem u_isStep (o : Int32) : (f_P_isStep o = 0 ∧ f_M_isStep o = 0) ∨ (f_P_isStep o = 1 ∧ f_M_isStep o = 1 ∧ -24 ≤ o.toInt ∧ o.toInt ≤ 24) := by
  simp only [f_P_isStep_16_2, f_P_isStep_16_5, f_P_isStep_12_6, f_P_isStep_6_3, f_P_isStep, f_M_isStep_16_2, f_M_isStep_16_5, f_M_isStep_12_6, f_M_isStep_6_3, f_M_isStep]
  by_cases h : o < (-24 : Int32)
  · rw [if_pos h]
    exact Or.inl ⟨rfl, rfl⟩
  · rw [if_neg h]
    by_cases h2 : (24 : Int32) < o
    · rw [if_pos h2]
      exact Or.inl ⟨rfl, rfl⟩
    · rw [if_neg h2]
      rw [Int32.lt_iff_toInt_lt, show (-24 : Int32).toInt = -24 from rfl] at h
      rw [Int32.lt_iff_toInt_lt, show (24 : Int32).toInt = 24 from rfl] at h2
      exact Or.inr ⟨rfl, rfl, by omega, by omega⟩
/-- P(-24) .. P(24) as numbers -/
def u_tab (j : Nat) : Nat := ([36223,37129,38058,39010,39986,40986,42011,43062,44139,45243,46375,47535,48724,49943,51192,52472,53784,55129,56508,57921,59370,60855,62377,63937,65536,67174,68853,70574,72338,74146,75999,77898,79845,81841,83887,85984,88133,90336,92594,94908,97280,99712,102204,104759,107377,110061,112812,115632,118522] : List Nat).getD j 0
theorem u_tab_x' : ∀ j : Fin 49, x_tab j.val = nI (u_tab j.val) := by decide +kernel
theorem u_tab_x {j : Nat} (h : j < 49) : x_tab j = nI (u_tab j) := u_tab_x' ⟨j, h⟩
theorem u_tab_lt' : ∀ j : Fin 48, u_tab j.val < u_tab (j.val + 1) := by decide +kernel
theorem u_tab_lt {j : Nat} (h : j < 48) : u_tab j < u_tab (j + 1) := u_tab_lt' ⟨j, h⟩
theorem u_tab_mono : ∀ (d i : Nat), i + d ≤ 48 → u_tab i ≤ u_tab (i + d) := by
  intro d
  induction d with
  | zero => intro i _; exact Nat.le_refl _
  | succ d ih =>
    intro i h
    have h1 := ih i (by omega)
    have h2 := u_tab_lt (j := i + d) (by omega)
    rw [show i + (d + 1) = i + d + 1 by omega]
    omega
theorem u_tab_le {i j : Nat} (h : i ≤ j) (hj : j ≤ 48) : u_tab i ≤ u_tab j := by
  have h1 := u_tab_mono (j - i) i (by omega)
  rw [show i + (j - i) = j by omega] at h1
  exact h1
theorem u_tab_lt2 {i j : Nat} (h : i < j) (hj : j ≤ 48) : u_tab i < u_tab j := by
  have h1 := u_tab_lt (j := i) (by omega)
  have h2 := u_tab_le (i := i + 1) (j := j) (by omega) hj
  omega
theorem u_tab_lo {j : Nat} (h : j ≤ 48) : 36223 ≤ u_tab j := u_tab_le (i := 0) (by omega) h
theorem u_tab_hi {j : Nat} (h : j ≤ 48) : u_tab j ≤ 118522 := u_tab_le (j := 48) h (by omega)
/-- the price of a step, by its number -/
def u_P (t : Int) : Nat := u_tab (t + 24).toNat
theorem u_stI {n : Int32} (h1 : -24 ≤ n.toInt) (h2 : n.toInt ≤ 24) : (n - (-24 : Int32)).toInt = n.toInt + 24 ∧ (n + (24 : Int32)).toInt = n.toInt + 24 := by
  refine ⟨?_, ?_⟩
  · rw [Int32.toInt_sub, show (-24 : Int32).toInt = -24 from rfl, Int.bmod_eq_of_le_mul_two (by omega) (by omega)]
    omega
  · rw [Int32.toInt_add, show (24 : Int32).toInt = 24 from rfl, Int.bmod_eq_of_le_mul_two (by omega) (by omega)]
theorem u_inI {x : Int32} {n : Nat} (h1 : 0 ≤ x.toInt) (h2 : x.toInt < n) : vp_in x n := by
  intro q
  have e := Int32.toNat_toInt x
  rcases q with q | q
  · rw [Int32.lt_iff_toInt_lt, g_tI0] at q
    omega
  · omega
theorem u_priceP {n : Int32} (h1 : -24 ≤ n.toInt) (h2 : n.toInt ≤ 24) : f_P_priceOf n = nI (u_P n.toInt) ∧ k_P_priceOf n := by
  obtain ⟨e1, -⟩ := u_stI h1 h2
  have e := Int32.toNat_toInt (n - (-24 : Int32))
  refine ⟨?_, u_inI (by omega) (by omega), True.intro⟩
  unfold f_P_priceOf u_P
  rw [← e, e1, u_tab_x (by omega)]
theorem u_priceM {r : g_S} (hr : ∀ j, j < 49 → r.2 1 j = lN (u_tab j)) {n : Int32} (h1 : -24 ≤ n.toInt) (h2 : n.toInt ≤ 24) : f_M_price r n = lN (u_P n.toInt) ∧ k_M_price r n := by
  obtain ⟨-, e1⟩ := u_stI h1 h2
  have e := Int32.toNat_toInt (n + (24 : Int32))
  refine ⟨?_, u_inI (by omega) (by omega), True.intro⟩
  unfold f_M_price u_P
  rw [← e, e1, hr _ (by omega)]
theorem u_P_lo {t : Int} (h1 : -24 ≤ t) (h2 : t ≤ 24) : 36223 ≤ u_P t ∧ u_P t ≤ 118522 := ⟨u_tab_lo (by omega), u_tab_hi (by omega)⟩
theorem u_P_le {a b : Int} (h : a ≤ b) (h1 : -24 ≤ a) (h2 : b ≤ 24) : u_P a ≤ u_P b := u_tab_le (by omega) (by omega)
theorem u_P_lt {a b : Int} (h : a < b) (h1 : -24 ≤ a) (h2 : b ≤ 24) : u_P a < u_P b := u_tab_lt2 (by omega) (by omega)
