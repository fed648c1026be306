/-! flash -/
theorem v_clearC (x : g_S) : (f_B_clearPendingGrowth x).1 = x.1 ∧ (∀ p j, (p < 14 ∨ 24 ≤ p ∨ j ≠ 6) → (f_B_clearPendingGrowth x).2 p j = x.2 p j) ∧ ∀ k, k < 10 → (f_B_clearPendingGrowth x).2 (k + 14) 6 = 0 := by
  obtain ⟨h1, h2, h3⟩ := v_clear x 10 0 x rfl
  exact ⟨h1, fun p j q => h2 p j (by omega), fun k hk => h3 k (by omega) hk⟩
theorem v_growC (x : g_S) (n : Int32) (fe w : Int64) : (f_B_growPending x n fe w).1 = x.1 ∧ (∀ p j, (p < 14 ∨ 24 ≤ p ∨ j ≠ 6) → (f_B_growPending x n fe w).2 p j = x.2 p j) ∧ (∀ k, k < 10 → (f_B_growPending x n fe w).2 (k + 14) 6 = x.2 (k + 14) 6 + (if f_T_isInRange x k n = 0 then 0 else f_P_quotient (fe * (4294967296 : Int64)) w (0 : Int32))) ∧ k_B_growPending x n fe w := by
  obtain ⟨h1, h2, h3⟩ := v_growP x n fe w (f_P_quotient (fe * (4294967296 : Int64)) w (0 : Int32)) 10 0 x rfl
  exact ⟨h1, fun p j q => h2 p j (by omega), fun k hk => h3 k (by omega) hk, u_kquoP _ _ _, True.intro⟩
theorem v_keepC (x : g_S) {t : Nat} (ht : t < 2) : (f_B_keepPendingGrowth x (nI t)).1 = x.1 ∧ (∀ p j, (p < 34 ∨ 44 ≤ p ∨ j ≠ t) → (f_B_keepPendingGrowth x (nI t)).2 p j = x.2 p j) ∧ (∀ k, k < 10 → (f_B_keepPendingGrowth x (nI t)).2 (k + 34) t = x.2 (k + 34) t + x.2 (k + 14) 6) ∧ k_B_keepPendingGrowth x (nI t) := by
  obtain ⟨h1, h2, h3, h4⟩ := v_keep x ht 10 0 x rfl
  exact ⟨h1, fun p j q => h2 p j (by omega), fun k hk => h3 k (by omega) hk, h4, True.intro⟩
theorem v_takeC (x : g_S) {t : Nat} (ht : t < 2) (fe w : Int64) : (f_P_takeFee x (nI t) fe w).1 = x.1 ∧ (∀ p j, (p < 14 ∨ 44 ≤ p ∨ (p < 24 ∧ j ≠ 6) ∨ (24 ≤ p ∧ p < 34) ∨ (34 ≤ p ∧ j ≠ t)) → (f_P_takeFee x (nI t) fe w).2 p j = x.2 p j) ∧ (∀ k, k < 10 → (f_P_takeFee x (nI t) fe w).2 (k + 34) t = x.2 (k + 34) t + (if f_T_isInRange x k (x.1 0 9) = 0 then 0 else f_P_quotient (fe * (4294967296 : Int64)) w (0 : Int32))) ∧ k_P_takeFee x (nI t) fe w := by
  unfold f_P_takeFee k_P_takeFee f_P_takeFee_4_4 k_P_takeFee_4_4 f_P_takeFee_18_9 k_P_takeFee_18_9 f_P_takeFee_26_14 k_P_takeFee_26_14
  obtain ⟨a1, a2, a3⟩ := v_clearC x
  generalize f_B_clearPendingGrowth x = y at a1 a2 a3 ⊢
  obtain ⟨b1, b2, b3, b4⟩ := v_growC y (y.1 0 9) fe w
  generalize f_B_growPending y (y.1 0 9) fe w = z at b1 b2 b3 b4 ⊢
  obtain ⟨c1, c2, c3, c4⟩ := v_keepC z ht
  refine ⟨c1.trans (b1.trans a1), fun p j q => ?_, fun k hk => ?_, b4, c4, True.intro⟩
  · rw [c2 p j (by omega), b2 p j (by omega), a2 p j (by omega)]
  · rw [c3 k hk, b2 _ _ (by omega), a2 _ _ (by omega), b3 k hk, a3 k hk, v_inR_cg a1, a1, Int64.zero_add]
theorem v_flashL (r0 : g_S) (o z y x3 : Int32) (r7 : Int64) (r10 : Int32) (f0 f1 : Int64) (t0 : g_S) : ∀ (jn jk : Nat) (τ : g_S), jk + jn = 10 → (f_M_flash_L175 r0 o z y x3 r7 r10 f0 f1 t0 jn jk τ).1 = τ.1 ∧ (∀ p, p ≠ 10 → (f_M_flash_L175 r0 o z y x3 r7 r10 f0 f1 t0 jn jk τ).2 p = τ.2 p) ∧ (∀ j, j < 2 * jk → (f_M_flash_L175 r0 o z y x3 r7 r10 f0 f1 t0 jn jk τ).2 10 j = τ.2 10 j) ∧
    ∀ k, jk ≤ k → k < 10 → τ.1 4 k = 1 → (f_M_flash_L175 r0 o z y x3 r7 r10 f0 f1 t0 jn jk τ).2 10 (2 * k) = τ.2 10 (2 * k) + (if τ.1 0 5 < τ.1 6 k then 0 else (if τ.1 7 k ≤ τ.1 0 5 then 0 else f0 * (4294967296 : Int64) / r7)) ∧ (f_M_flash_L175 r0 o z y x3 r7 r10 f0 f1 t0 jn jk τ).2 10 (2 * k + 1) = τ.2 10 (2 * k + 1) + (if τ.1 0 5 < τ.1 6 k then 0 else (if τ.1 7 k ≤ τ.1 0 5 then 0 else f1 * (4294967296 : Int64) / r7)) := by
  intro jn
  induction jn with
  | zero => intro jk τ h; exact ⟨rfl, fun _ _ => rfl, fun _ _ => rfl, fun k h1 h2 => absurd h1 (by omega)⟩
  | succ jn ih =>
    intro jk τ h
    have e : ∃ v0 v1, f_M_flash_L175 r0 o z y x3 r7 r10 f0 f1 t0 (jn + 1) jk τ = f_M_flash_L175 r0 o z y x3 r7 r10 f0 f1 t0 jn (jk + 1) (g_L (g_L τ 10 (2 * jk) v0) 10 (2 * jk + 1) v1) ∧ (τ.1 4 jk = 1 → v0 = τ.2 10 (2 * jk) + (if τ.1 0 5 < τ.1 6 jk then 0 else (if τ.1 7 jk ≤ τ.1 0 5 then 0 else f0 * (4294967296 : Int64) / r7)) ∧ v1 = τ.2 10 (2 * jk + 1) + (if τ.1 0 5 < τ.1 6 jk then 0 else (if τ.1 7 jk ≤ τ.1 0 5 then 0 else f1 * (4294967296 : Int64) / r7))) := by
      refine ⟨_, _, rfl, fun t => ?_⟩
      have n1 : ¬ (1 : Int32) = 0 := by decide
      rw [g_L2k _ _ (by omega)]
      simp only [g_L1, t, n1, if_false]
      by_cases c1 : τ.1 0 5 < τ.1 6 jk
      · simp only [c1, if_true, and_self]
      · by_cases c2 : τ.1 7 jk ≤ τ.1 0 5
        · simp only [c1, c2, if_true, if_false, and_self]
        · simp only [c1, c2, n1, if_false, and_self]
    obtain ⟨v0, v1, e, hv⟩ := e
    rw [e]
    obtain ⟨h1, h2, h3, h4⟩ := ih (jk + 1) (g_L (g_L τ 10 (2 * jk) v0) 10 (2 * jk + 1) v1) (by omega)
    refine ⟨h1, fun p hp => ?_, fun j hj => ?_, fun k k1 k2 k3 => ?_⟩
    · rw [h2 p hp, g_L2p _ _ hp, g_L2p _ _ hp]
    · rw [h3 j (by omega), g_L2k _ _ (by omega), g_L2k _ _ (by omega)]
    · by_cases ek : k = jk
      · subst ek
        obtain ⟨u0, u1⟩ := hv k3
        rw [h3 _ (by omega), h3 _ (by omega), g_L2k _ _ (by omega), g_L2s, g_L2s, u0, u1]
        exact ⟨rfl, rfl⟩
      · obtain ⟨u0, u1⟩ := h4 k (by omega) k2 k3
        rw [u0, u1, g_L2k _ _ (by omega), g_L2k _ _ (by omega), g_L2k _ _ (by omega), g_L2k _ _ (by omega)]
        exact ⟨rfl, rfl⟩
