/-! flash -/
theorem v_clearC (x : g_S) : (f_B_clearPendingGrowth x).1 = x.1 ∧ (∀ p j, (p < 14 ∨ 24 ≤ p ∨ j ≠ 6) → (f_B_clearPendingGrowth x).2 p j = x.2 p j) ∧ ∀ k, k < 10 → (f_B_clearPendingGrowth x).2 (k + 14) 6 = 0 := by
  obtain ⟨h1, h2, h3⟩ := v_clear x 10 0 x rfl
  exact ⟨h1, fun p j q => h2 p j (by omega), fun k hk => h3 k (by omega) hk⟩
theorem v_growC (x : g_S) (n : Int32) (fe w : Int64) : (f_B_growPending x n fe w).1 = x.1 ∧ (∀ p j, (p < 14 ∨ 24 ≤ p ∨ j ≠ 6) → (f_B_growPending x n fe w).2 p j = x.2 p j) ∧ (∀ k, k < 10 → (f_B_growPending x n fe w).2 (k + 14) 6 = x.2 (k + 14) 6 + (if f_T_isInRange x k n = 0 then 0 else f_P_quotient (fe * (4294967296 : Int64)) w (0 : Int32))) ∧ k_B_growPending x n fe w := by
  obtain ⟨h1, h2, h3⟩ := v_growP x n fe w (f_P_quotient (fe * (4294967296 : Int64)) w (0 : Int32)) 10 0 x rfl
  unfold f_B_growPending k_B_growPending f_B_growPending_8_4 k_B_growPending_8_4 f_B_growPending_68_9 k_B_growPending_68_9
  exact ⟨h1, fun p j q => h2 p j (by omega), fun k hk => h3 k (by omega) hk, u_kquoP _ _ _, True.intro⟩
theorem v_keepC (x : g_S) {t : Nat} (ht : t < 2) : (f_B_keepPendingGrowth x (nI t)).1 = x.1 ∧ (∀ p j, (p < 34 ∨ 44 ≤ p ∨ j ≠ t) → (f_B_keepPendingGrowth x (nI t)).2 p j = x.2 p j) ∧ (∀ k, k < 10 → (f_B_keepPendingGrowth x (nI t)).2 (k + 34) t = x.2 (k + 34) t + x.2 (k + 14) 6) ∧ k_B_keepPendingGrowth x (nI t) := by
  obtain ⟨h1, h2, h3, h4⟩ := v_keep x ht 10 0 x rfl
  exact ⟨h1, fun p j q => h2 p j (by omega), fun k hk => h3 k (by omega) hk, h4, True.intro⟩
theorem v_takeC (x : g_S) {t : Nat} (ht : t < 2) (fe w : Int64) : (f_P_takeFee x (nI t) fe w).1 = x.1 ∧ (∀ p j, (p < 14 ∨ 44 ≤ p ∨ (p < 24 ∧ j ≠ 6) ∨ (24 ≤ p ∧ p < 34) ∨ (34 ≤ p ∧ j ≠ t)) → (f_P_takeFee x (nI t) fe w).2 p j = x.2 p j) ∧ (∀ k, k < 10 → (f_P_takeFee x (nI t) fe w).2 (k + 34) t = x.2 (k + 34) t + (if f_T_isInRange x k (x.1 0 9) = 0 then 0 else f_P_quotient (fe * (4294967296 : Int64)) w (0 : Int32))) ∧ k_P_takeFee x (nI t) fe w := by
  unfold f_P_takeFee k_P_takeFee f_P_takeFee_4_4 k_P_takeFee_4_4 f_P_takeFee_18_9 k_P_takeFee_18_9 f_P_takeFee_26_14 k_P_takeFee_26_14
  obtain ⟨a1, a2, a3⟩ := v_clearC x
  generalize f_B_clearPendingGrowth x = y at a1 a2 a3 ⊢
  obtain ⟨b1, b2, b3, b4⟩ := v_growC y (y.1 0 9) fe w
  generalize f_B_growPending y (y.1 0 9) fe w = z at b1 b2 b3 b4 ⊢
  obtain ⟨c1, c2, c3, c4⟩ := v_keepC z ht
  refine ⟨c1.trans (b1.trans a1), fun p j q => ?_, fun k hk => ?_, b4, c4, True.intro⟩
  · rw [c2 p j (by omega), b2 p j (by omega), a2 p j (by omega)]
  · rw [c3 k hk, b2 _ _ (by omega), a2 _ _ (by omega), b3 k hk, a3 k hk, v_inR_cg a1, a1, Int64.zero_add]
theorem v_flashL (r0 : g_S) (o z y x3 : Int32) (r7 : Int64) (r10 : Int32) (f0 f1 : Int64) (t0 : g_S) : ∀ (jn jk : Nat) (τ : g_S), jk + jn = 10 → (f_M_flash_L175 r0 o z y x3 r7 r10 f0 f1 t0 jn jk τ).1 = τ.1 ∧ (∀ p, p ≠ 10 → (f_M_flash_L175 r0 o z y x3 r7 r10 f0 f1 t0 jn jk τ).2 p = τ.2 p) ∧ (∀ j, j < 2 * jk → (f_M_flash_L175 r0 o z y x3 r7 r10 f0 f1 t0 jn jk τ).2 10 j = τ.2 10 j) ∧
    ∀ k, jk ≤ k → k < 10 → τ.1 4 k = 1 → (f_M_flash_L175 r0 o z y x3 r7 r10 f0 f1 t0 jn jk τ).2 10 (2 * k) = τ.2 10 (2 * k) + (if τ.1 0 5 < τ.1 6 k then 0 else (if τ.1 7 k ≤ τ.1 0 5 then 0 else f0 * (4294967296 : Int64) / r7)) ∧ (f_M_flash_L175 r0 o z y x3 r7 r10 f0 f1 t0 jn jk τ).2 10 (2 * k + 1) = τ.2 10 (2 * k + 1) + (if τ.1 0 5 < τ.1 6 k then 0 else (if τ.1 7 k ≤ τ.1 0 5 then 0 else f1 * (4294967296 : Int64) / r7)) := by
  intro jn
  induction jn with
  | zero => intro jk τ h; exact ⟨rfl, fun _ _ => rfl, fun _ _ => rfl, fun k h1 h2 => absurd h1 (by omega)⟩
  | succ jn ih =>
    intro jk τ h
    have e : ∃ v0 v1, f_M_flash_L175 r0 o z y x3 r7 r10 f0 f1 t0 (jn + 1) jk τ = f_M_flash_L175 r0 o z y x3 r7 r10 f0 f1 t0 jn (jk + 1) (g_L (g_L τ 10 (2 * jk) v0) 10 (2 * jk + 1) v1) ∧ (τ.1 4 jk = 1 → v0 = τ.2 10 (2 * jk) + (if τ.1 0 5 < τ.1 6 jk then 0 else (if τ.1 7 jk ≤ τ.1 0 5 then 0 else f0 * (4294967296 : Int64) / r7)) ∧ v1 = τ.2 10 (2 * jk + 1) + (if τ.1 0 5 < τ.1 6 jk then 0 else (if τ.1 7 jk ≤ τ.1 0 5 then 0 else f1 * (4294967296 : Int64) / r7))) := by
      refine ⟨_, _, rfl, fun t => ?_⟩
      have n1 : ¬ (1 : Int32) = 0 := by decide
      rw [g_L2k _ _ (by omega)]
      simp only [g_L1, t, n1, if_false]
      by_cases c1 : τ.1 0 5 < τ.1 6 jk
      · simp only [c1, if_true, and_self]
      · by_cases c2 : τ.1 7 jk ≤ τ.1 0 5
        · simp only [c1, c2, if_true, if_false, and_self]
        · simp only [c1, c2, n1, if_false, and_self]
    obtain ⟨v0, v1, e, hv⟩ := e
    rw [e]
    obtain ⟨h1, h2, h3, h4⟩ := ih (jk + 1) (g_L (g_L τ 10 (2 * jk) v0) 10 (2 * jk + 1) v1) (by omega)
    refine ⟨h1, fun p hp => ?_, fun j hj => ?_, fun k k1 k2 k3 => ?_⟩
    · rw [h2 p hp, g_L2p _ _ hp, g_L2p _ _ hp]
    · rw [h3 j (by omega), g_L2k _ _ (by omega), g_L2k _ _ (by omega)]
    · by_cases ek : k = jk
      · subst ek
        obtain ⟨u0, u1⟩ := hv k3
        rw [h3 _ (by omega), h3 _ (by omega), g_L2k _ _ (by omega), g_L2s, g_L2s, u0, u1]
        exact ⟨rfl, rfl⟩
      · obtain ⟨u0, u1⟩ := h4 k (by omega) k2 k3
        rw [u0, u1, g_L2k _ _ (by omega), g_L2k _ _ (by omega), g_L2k _ _ (by omega), g_L2k _ _ (by omega)]
        exact ⟨rfl, rfl⟩
theorem u_ite {c : Prop} [Decidable c] {P : Prop} (h : P) : if c then True else P := by
  by_cases q : c
  · rw [if_pos q]; exact True.intro
  · rw [if_neg q]; exact h
theorem v_flashK (r0 : g_S) (o z y x3 : Int32) (r7 : Int64) (r10 : Int32) (f0 f1 : Int64) (t0 : g_S) (h7 : ¬ r7 = 0) : ∀ (jn jk : Nat) (τ : g_S), k_M_flash_L175 r0 o z y x3 r7 r10 f0 f1 t0 jn jk τ := by
  intro jn
  induction jn with
  | zero => intro jk τ; exact True.intro
  | succ jn ih =>
    intro jk τ
    unfold k_M_flash_L175
    exact ⟨u_ite ⟨h7, True.intro⟩, u_ite ⟨h7, True.intro⟩, ih (jk + 1) _⟩
theorem v_lend {x : g_S} {t : Nat} (ht : t < 2) (am : Int32) : (f_P_canLend x (nI t) am = 0 ∧ (am < 0 ∨ (1000000 : Int32) < am ∨ x.2 2 t < am.toInt64) ∨ f_P_canLend x (nI t) am = 1 ∧ ¬ am < 0 ∧ ¬ (1000000 : Int32) < am ∧ ¬ x.2 2 t < am.toInt64 ∧ ∃ Q, Q ≤ 1000000 ∧ am = nI Q) ∧ k_P_canLend x (nI t) am := by
  have et : (nI t).toNatClampNeg = t := u_cl (by omega)
  have qt : vp_in (nI t) 2 := u_inN ht (by omega)
  simp only [f_P_canLend_26_2, f_P_canLend_26_5, f_P_canLend_26_9, f_P_canLend_22_10, f_P_canLend_10_6, f_P_canLend_4_3, f_P_canLend, k_P_canLend_26_2, k_P_canLend_26_5, k_P_canLend_26_9, k_P_canLend_22_10, k_P_canLend_10_6, k_P_canLend_4_3, k_P_canLend, et]
  by_cases c1 : am < 0
  · simp only [c1, if_true, true_or, and_self]
  · simp only [c1, if_false, false_or]
    by_cases c2 : (1000000 : Int32) < am
    · simp only [c2, if_true, true_or, and_self]
    · simp only [c2, if_false, false_or]
      by_cases c3 : x.2 2 t < am.toInt64
      · simp only [c3, if_true, and_self, true_or, and_true]
        exact ⟨trivial, qt⟩
      · simp only [c3, if_false, and_true]
        rw [Int32.lt_iff_toInt_lt, g_tI0] at c1
        rw [Int32.lt_iff_toInt_lt, show (1000000 : Int32).toInt = 1000000 from rfl] at c2
        have e := Int32.toNat_toInt am
        exact ⟨Or.inr ⟨trivial, not_false, not_false, not_false, am.toNatClampNeg, by omega, (Int32.ofNat_toNatClampNeg am (by rw [Int32.le_iff_toInt_le, g_tI0]; omega)).symm⟩, qt⟩
theorem u_feeq {Q fe : Nat} (hQ : Q ≤ 1000000) (hf : fe ≤ 100) : ∃ F, F ≤ 3000000 ∧ f_P_quotient (lN Q * lN fe) (1000 : Int64) (1 : Int32) = lN F ∧ f_M_quotient (lN Q * lN fe) (1000 : Int64) (1 : Int32) = lN F := by
  have h1 : Q * fe ≤ 1000000 * 100 := Nat.mul_le_mul hQ hf
  refine ⟨u_q (Q * fe) 1000 1, u_q_le (by decide) (Nat.le_trans h1 (by decide)) 1, ?_, ?_⟩
  · rw [lN_mul, show (1000 : Int64) = lN 1000 from rfl, u_quoP (by omega) (by decide) (by decide)]
  · rw [lN_mul, show (1000 : Int64) = lN 1000 from rfl, u_quoM (by decide) (by omega)]
theorem w_flash : v_c_flash v_V := by
  intro x r i o z y h hi5
  obtain ⟨h1, h2, h3, h4, h5⟩ := id h
  obtain ⟨p1, p2, p3⟩ := id h2
  obtain ⟨hl, ws, hs, hb⟩ := id h4
  obtain ⟨fe, fe100, efe⟩ := h1.2.2.2.2.1
  have efx : x.1 0 1 = nI fe := h1.2.2.1.trans efe
  unfold f_P_flash k_P_flash f_M_flash k_M_flash
  rcases p3 with ⟨og, -⟩ | ⟨og, -⟩
  · have o' : x.1 0 7 = 0 := p1.trans og
    simp only [og, o', if_true, f_P_flash_7_61, k_P_flash_7_61, f_M_flash_7_80, k_M_flash_7_80, true_and]
    exact v_mono x r i h
  · have n1 : ¬ r.1 0 3 = 0 := by rw [og]; decide
    have n2 : ¬ x.1 0 7 = 0 := by rw [p1, og]; decide
    have eD : f_B_depthAt x (x.1 0 9) = lN (v_dp r ws (r.1 0 5) 10) := by rw [p2, v_depth hl, v_dpM hb]
    simp only [n1, n2, if_false, f_P_flash_11_2, k_P_flash_11_2, f_M_flash_11_2, k_M_flash_11_2, f_P_flash_19_5, k_P_flash_19_5, f_M_flash_36_6, k_M_flash_36_6, f_M_flash_43_9, k_M_flash_43_9, f_P_flash_25_8, k_P_flash_25_8, f_M_flash_49_12, k_M_flash_49_12, eD, v_dpM hb]
    have hDs := Nat.le_trans (v_dp_le r ws (r.1 0 5) 10) hs
    have hDg : ∀ k, k < 10 → r.1 4 k = 1 → ¬ r.1 0 5 < r.1 6 k → ¬ r.1 7 k ≤ r.1 0 5 → ws k ≤ v_dp r ws (r.1 0 5) 10 := fun k hk q1 q2 q3 => v_dp_ge r ws (r.1 0 5) (by rw [q1]; decide) q2 q3 10 hk
    generalize v_dp r ws (r.1 0 5) 10 = D at hDs hDg ⊢
    rcases u_isOwner o with ⟨e1, e2⟩ | ⟨e1, e2, a, ha, rfl⟩
    · simp only [e1, e2, if_true, f_P_flash_56_10, k_P_flash_56_10, f_M_flash_91_14, k_M_flash_91_14, true_and]
      exact v_mono x r i h
    · simp only [e1, e2, g_10, if_false, f_P_flash_31_11, k_P_flash_31_11, f_M_flash_55_15, k_M_flash_55_15]
      have rs0 : x.2 2 0 = r.2 3 0 := h3.2 0 (by omega)
      have rs1 : x.2 2 1 = r.2 3 1 := h3.2 1 (by omega)
      obtain ⟨ln0, kl0⟩ := v_lend (x := x) (t := 0) (by omega) z
      obtain ⟨ln1, kl1⟩ := v_lend (x := x) (t := 1) (by omega) y
      have kl0 : k_P_canLend x (0 : Int32) z := kl0
      have kl1 : k_P_canLend x (1 : Int32) y := kl1
      simp only [f_P_flash_34_15, k_P_flash_34_15, kl0, true_and]
      rcases ln0 with ⟨c0, d0⟩ | ⟨c0, z1, z2, z3, Q0, hQ0, rfl⟩
      · have c0 : f_P_canLend x (0 : Int32) z = 0 := c0
        have key : ∀ X3 : Int32, (X3 = 0 ∨ r.2 3 0 < z.toInt64) → (f_M_flash_60_18 r (nI a) z y X3 (lN D) 1 = f_M_flash_60_18 r (nI a) z y X3 (lN D) 1) := fun _ _ => rfl
        simp only [c0, if_true, f_P_flash_56_17, k_P_flash_56_17, true_and]
        by_cases x0 : (if z < 0 then (0 : Int32) else (if (1000000 : Int32) < z then (0 : Int32) else (if y < 0 then (0 : Int32) else (if (1000000 : Int32) < y then (0 : Int32) else (1 : Int32))))) = 0
        · simp only [x0, if_true, f_M_flash_91_17, k_M_flash_91_17, true_and]
          exact v_mono x r i h
        · have d1 : r.2 3 0 < z.toInt64 := by
            rcases d0 with q | q | q
            · exact absurd (if_pos q) x0
            · by_cases c : z < 0
              · exact absurd (if_pos c) x0
              · exact absurd (by rw [if_neg c, if_pos q]) x0
            · rw [← rs0]; exact q
          simp only [x0, if_false, f_M_flash_60_18, k_M_flash_60_18, d1, if_true, f_M_flash_91_20, k_M_flash_91_20, true_and]
          exact v_mono x r i h
      · have c0 : f_P_canLend x (0 : Int32) (nI Q0) = 1 := c0
        rw [rs0] at z3
        simp only [c0, g_10, if_false, f_P_flash_40_18, k_P_flash_40_18, f_P_flash_43_22, k_P_flash_43_22, kl1, true_and, z1, z2]
        rcases ln1 with ⟨c1, d0⟩ | ⟨c1, w1, w2, w3, Q1, hQ1, rfl⟩
        · have c1 : f_P_canLend x (1 : Int32) y = 0 := c1
          simp only [c1, if_true, f_P_flash_56_24, k_P_flash_56_24, true_and]
          by_cases x0 : (if y < 0 then (0 : Int32) else (if (1000000 : Int32) < y then (0 : Int32) else (1 : Int32))) = 0
          · simp only [x0, if_true, f_M_flash_91_17, k_M_flash_91_17, true_and]
            exact v_mono x r i h
          · have d1 : r.2 3 1 < y.toInt64 := by
              rcases d0 with q | q | q
              · exact absurd (if_pos q) x0
              · by_cases c : y < 0
                · exact absurd (if_pos c) x0
                · exact absurd (by rw [if_neg c, if_pos q]) x0
              · rw [← rs1]; exact q
            simp only [x0, if_false, f_M_flash_60_18, k_M_flash_60_18, z3, f_M_flash_72_21, k_M_flash_72_21, d1, if_true, f_M_flash_91_23, k_M_flash_91_23, true_and]
            exact v_mono x r i h
        · have c1 : f_P_canLend x (1 : Int32) (nI Q1) = 1 := c1
          rw [rs1] at w3
          simp only [c1, g_10, if_false, w1, w2, f_M_flash_60_18, k_M_flash_60_18, z3, f_M_flash_72_21, k_M_flash_72_21, w3, f_M_flash_84_24, k_M_flash_84_24, f_P_flash_49_25, k_P_flash_49_25]
          by_cases dz : lN D = (0 : Int64)
          · simp only [dz, if_true, f_P_flash_56_60, k_P_flash_56_60, f_M_flash_91_75, k_M_flash_91_75, true_and]
            exact v_mono x r i h
          · simp only [dz, if_false]
            have hD0 : 0 < D := by
              apply Nat.pos_of_ne_zero
              intro q
              rw [q] at dz
              exact dz rfl
            obtain ⟨F0, f0l, f0x, f0r⟩ := u_feeq hQ0 fe100
            obtain ⟨F1, f1l, f1x, f1r⟩ := u_feeq hQ1 fe100
            have ef : (nI fe).toInt64 = lN fe := nI_l (by omega)
            have eq0 : (nI Q0).toInt64 = lN Q0 := nI_l (by omega)
            have eq1 : (nI Q1).toInt64 = lN Q1 := nI_l (by omega)
            unfold f_P_flash_60_27 k_P_flash_60_27 f_P_flash_72_31 k_P_flash_72_31 f_P_flash_89_35 k_P_flash_89_35 f_P_flash_100_39 k_P_flash_100_39 f_M_flash_95_26 k_M_flash_95_26 f_M_flash_107_30 k_M_flash_107_30 f_M_flash_124_34 k_M_flash_124_34
            rw [efx, efe, ef, eq0, eq1, f0x, f1x, f0r, f1r]
            have kq0 : k_P_quotient (lN Q0 * lN fe) (1000 : Int64) (1 : Int32) := u_kquoP _ _ _
            have kq1 : k_P_quotient (lN Q1 * lN fe) (1000 : Int64) (1 : Int32) := u_kquoP _ _ _
            have km0 : k_M_quotient (lN Q0 * lN fe) (1000 : Int64) (1 : Int32) := u_kquoM (by decide) _
            have km1 : k_M_quotient (lN Q1 * lN fe) (1000 : Int64) (1 : Int32) := u_kquoM (by decide) _
            obtain ⟨i1, i2⟩ := u_ix2 (a := a) (t := 0) (by omega) (by omega)
            obtain ⟨j1, j2⟩ := u_ix2 (a := a) (t := 1) (by omega) (by omega)
            have y0 : (2 : Int32) * nI a + nI 0 = (2 : Int32) * nI a := Int32.add_zero _
            rw [y0] at i1 i2
            have y1 : nI 1 = (1 : Int32) := rfl
            rw [y1] at j1 j2
            have qa0 := u_in_mono i2 (n := 8) (by omega)
            have qa1 := u_in_mono j2 (n := 8) (by omega)
            have qa : vp_in (nI a) 4 := u_inN ha (by omega)
            have ea : (nI a).toNatClampNeg = a := u_cl (by omega)
            have wa0 : x.2 (a + 10) 0 = r.2 2 (2 * a) := h3.1 a 0 ha (by omega)
            have wa1 := h3.1 a 1 ha (by omega)
            have i1 : ((2 : Int32) * nI a).toNatClampNeg = 2 * a := i1
            simp only [f_P_canPay_31_3, f_P_canPay_31_7, f_P_canPay_27_8, f_P_canPay_13_4, f_P_canPay, k_P_canPay_31_3, k_P_canPay_31_7, k_P_canPay_27_8, k_P_canPay_13_4, k_P_canPay, ea, wa0, wa1, i1]
            by_cases d0 : r.2 2 (2 * a) < lN F0
            · simp only [d0, if_true, f_P_flash_106_59, k_P_flash_106_59, f_M_flash_159_37, k_M_flash_159_37]
              exact ⟨⟨kq0, kq1, ⟨qa, True.intro⟩, True.intro⟩, ⟨km0, km1, qa0, True.intro⟩, True.intro, v_mono x r i h⟩
            · simp only [d0, if_false]
              unfold f_M_flash_143_38 k_M_flash_143_38
              rw [j1]
              by_cases d1 : r.2 2 (2 * a + 1) < lN F1
              · have d1' : ¬ lN F1 ≤ r.2 2 (2 * a + 1) := Int64.not_le.mpr d1
                simp only [d1, d1', if_true, if_false, f_P_flash_106_59, k_P_flash_106_59, f_M_flash_159_74, k_M_flash_159_74]
                exact ⟨⟨kq0, kq1, ⟨qa, qa, True.intro⟩, True.intro⟩, ⟨km0, km1, qa0, qa1, True.intro⟩, True.intro, v_mono x r i h⟩
              · have d1' : lN F1 ≤ r.2 2 (2 * a + 1) := Int64.not_lt.mp d1
                simp only [d1, d1', if_true, if_false, g_10]
                unfold f_P_flash_110_41 k_P_flash_110_41 f_P_flash_116_46 k_P_flash_116_46 f_P_flash_125_51 k_P_flash_125_51 f_P_flash_134_56 k_P_flash_134_56 f_M_flash_163_41 k_M_flash_163_41 f_M_flash_169_46 k_M_flash_169_46 f_M_flash_295_52 k_M_flash_295_52 f_P_pair
                have kpx := (v_payX x ha (lN F0) (lN F1)).2
                have kpr := (v_payR r ha (lN F0) (lN F1)).2
                obtain ⟨px1, px2⟩ := v_payXF x ha (lN F0) (lN F1)
                obtain ⟨pr1, pr2⟩ := v_payRF r ha (lN F0) (lN F1)
                have hW := v_pay h3 ha (lN F0) (lN F1)
                generalize f_P_pay x (nI a) (lN F0) (lN F1) = X at px1 px2 hW ⊢
                have lK : ∀ jn jk τ, k_M_flash_L175 r (nI a) (nI Q0) (nI Q1) (1 : Int32) (lN D) (1 : Int32) (lN F0) (lN F1) (f_M_pay r (nI a) (lN F0) (lN F1)) jn jk τ := v_flashK _ _ _ _ _ _ _ _ _ _ dz
                have lL := v_flashL r (nI a) (nI Q0) (nI Q1) (1 : Int32) (lN D) (1 : Int32) (lN F0) (lN F1) (f_M_pay r (nI a) (lN F0) (lN F1)) 10 0 (f_M_pay r (nI a) (lN F0) (lN F1)) rfl
                obtain ⟨m1, m2, -, m4⟩ := lL
                have kL := lK 10 0 (f_M_pay r (nI a) (lN F0) (lN F1))
                generalize f_M_flash_L175 r (nI a) (nI Q0) (nI Q1) (1 : Int32) (lN D) (1 : Int32) (lN F0) (lN F1) (f_M_pay r (nI a) (lN F0) (lN F1)) 10 0 (f_M_pay r (nI a) (lN F0) (lN F1)) = R at m1 m2 m4 ⊢
                generalize f_M_pay r (nI a) (lN F0) (lN F1) = Y at pr1 pr2 hW m1 m2 m4 kL ⊢
                obtain ⟨a1, a2, a3, a4⟩ := v_takeC X (t := 0) (by omega) (lN F0) (lN D)
                have a4 : k_P_takeFee X (0 : Int32) (lN F0) (lN D) := a4
                have eT0 : f_P_takeFee X (nI 0) (lN F0) (lN D) = f_P_takeFee X (0 : Int32) (lN F0) (lN D) := rfl
                rw [eT0] at a1 a2 a3
                generalize f_P_takeFee X (0 : Int32) (lN F0) (lN D) = X1 at a1 a2 a3 ⊢
                obtain ⟨b1, b2, b3, b4⟩ := v_takeC X1 (t := 1) (by omega) (lN F1) (lN D)
                have b4 : k_P_takeFee X1 (1 : Int32) (lN F1) (lN D) := b4
                have eT1 : f_P_takeFee X1 (nI 1) (lN F1) (lN D) = f_P_takeFee X1 (1 : Int32) (lN F1) (lN D) := rfl
                rw [eT1] at b1 b2 b3
                generalize f_P_takeFee X1 (1 : Int32) (lN F1) (lN D) = X2 at b1 b2 b3 ⊢
                have XX1 : X2.1 = x.1 := b1.trans (a1.trans px1)
                have RR1 : R.1 = r.1 := m1.trans pr1
                have lo2 : ∀ p, p < 14 → X2.2 p = X.2 p := fun p hp => by
                  funext j
                  rw [b2 p j (by omega), a2 p j (by omega)]
                refine ⟨⟨kq0, kq1, ⟨qa, qa, True.intro⟩, kpx, a4, b4, True.intro⟩, ⟨km0, km1, qa0, qa1, kpr, kL, True.intro⟩, rfl, ?_, ?_, ?_, ?_, ?_⟩
                · exact v_cfg_cg h1 (by rw [XX1]) (by rw [XX1]) (by rw [XX1]) (by rw [RR1]) (by rw [RR1]) (by rw [m2 1 (by omega), pr2 1 (by omega) (by omega)])
                · exact v_pr_cg h2 (by rw [XX1]) (by rw [XX1]) (by rw [XX1]) (by rw [RR1]) (by rw [RR1]) (by rw [m2 0 (by omega), pr2 0 (by omega) (by omega)])
                · exact v_wal_cg hW (fun o ho => lo2 _ (by omega)) (lo2 _ (by omega)) (m2 2 (by omega)) (m2 3 (by omega))
                · obtain ⟨q0x, q0r⟩ := v_rise f0l hD0 hDs
                  obtain ⟨q1x, q1r⟩ := v_rise f1l hD0 hDs
                  refine v_growL (x := x) (r := r) (ws := ws) hl hs hb (fun k t => if f_T_isInRange x k (r.1 0 5) = 0 then 0 else (if t = 0 then lN (F0 * 4294967296 / D) else lN (F1 * 4294967296 / D))) (fun k t => if f_T_isInRange x k (r.1 0 5) = 0 then 0 else (if t = 0 then F0 * 4294967296 / D else F1 * 4294967296 / D)) (fun k s hk hs => by rw [XX1]) (fun k hk => ⟨?_, ?_⟩) (fun k t hk ht => ?_) ⟨by rw [RR1], by rw [RR1], by rw [RR1], by rw [RR1], by rw [m2 8 (by omega), pr2 8 (by omega) (by omega)], by rw [m2 9 (by omega), pr2 9 (by omega) (by omega)]⟩ (fun k t hk ht ht4 => ?_) (fun k t hk ht ht4 => ?_)
                  · rw [b2 _ _ (by omega), a2 _ _ (by omega), px2 _ (by omega) (by omega)]
                  · funext j
                    rw [b2 _ _ (by omega), a2 _ _ (by omega), px2 _ (by omega) (by omega)]
                  · have rng : ∀ n, f_T_isInRange X k n = f_T_isInRange x k n := fun n => v_inR_cg px1 k n
                    have rng1 : ∀ n, f_T_isInRange X1 k n = f_T_isInRange x k n := fun n => v_inR_cg (a1.trans px1) k n
                    by_cases tt : t = 0
                    · subst tt
                      simp only [if_true]
                      rw [b2 _ _ (by omega), a3 k hk, px2 _ (by omega) (by omega), rng, px1, p2, q0x]
                    · have tt : t = 1 := by omega
                      subst tt
                      have n10 : ¬ (1 : Nat) = 0 := by omega
                      simp only [n10, if_false]
                      rw [b3 k hk, a2 _ _ (by omega), px2 _ (by omega) (by omega), rng1, a1, px1, p2, q1x]
                  · obtain ⟨u0, u1⟩ := m4 k (by omega) hk (by rw [pr1]; exact ht4)
                    rw [pr1, pr2 10 (by omega) (by omega), q0r] at u0
                    rw [pr1, pr2 10 (by omega) (by omega), q1r] at u1
                    obtain ⟨-, l4⟩ := hl k hk
                    rcases l4 with ⟨tq, -⟩ | ⟨-, -, -, e1', e2', -⟩
                    · rw [ht4] at tq; exact absurd tq (by decide)
                    have ir : f_T_isInRange x k (r.1 0 5) = if r.1 0 5 < r.1 6 k then 0 else if r.1 7 k ≤ r.1 0 5 then 0 else 1 := by rw [v_inR, e1', e2']
                    have n1' : ¬ (1 : Int32) = 0 := by decide
                    have key : ∀ v : Int64, (if r.1 0 5 < r.1 6 k then 0 else (if r.1 7 k ≤ r.1 0 5 then 0 else v)) = if f_T_isInRange x k (r.1 0 5) = 0 then 0 else v := by
                      intro v
                      rw [ir]
                      by_cases k1 : r.1 0 5 < r.1 6 k
                      · simp only [k1, if_true]
                      · by_cases k2 : r.1 7 k ≤ r.1 0 5
                        · simp only [k1, k2, if_true, if_false]
                        · simp only [k1, k2, n1', if_false]
                    by_cases tt : t = 0
                    · subst tt
                      simp only [if_true, Nat.add_zero]
                      rw [u0, key]
                    · have tt : t = 1 := by omega
                      subst tt
                      have n10 : ¬ (1 : Nat) = 0 := by omega
                      simp only [n10, if_false]
                      rw [u1, key]
                  · obtain ⟨-, l4⟩ := hl k hk
                    rcases l4 with ⟨tq, -⟩ | ⟨-, -, -, e1', e2', -⟩
                    · rw [ht4] at tq; exact absurd tq (by decide)
                    have ir : f_T_isInRange x k (r.1 0 5) = if r.1 0 5 < r.1 6 k then 0 else if r.1 7 k ≤ r.1 0 5 then 0 else 1 := by rw [v_inR, e1', e2']
                    by_cases c : f_T_isInRange x k (r.1 0 5) = 0
                    · simp only [c, if_true]
                      exact ⟨rfl, by rw [Nat.zero_mul]; exact Nat.zero_le _⟩
                    · simp only [c, if_false]
                      have wk : ws k ≤ D := by
                        refine hDg k hk ht4 (fun q => c ?_) (fun q => c ?_)
                        · rw [ir, if_pos q]
                        · rw [ir]
                          by_cases k1 : r.1 0 5 < r.1 6 k
                          · rw [if_pos k1]
                          · rw [if_neg k1, if_pos q]
                      by_cases tt : t = 0
                      · simp only [tt, if_true]
                        exact ⟨trivial, Nat.le_trans (v_rise_le hD0 wk) (Nat.mul_le_mul_left _ f0l)⟩
                      · simp only [tt, if_false]
                        exact ⟨trivial, Nat.le_trans (v_rise_le hD0 wk) (Nat.mul_le_mul_left _ f1l)⟩
                · apply v_tim_mono
                  refine v_tim_cg h5 ?_ ?_ (by rw [XX1]) ?_ ?_ (by rw [XX1]) (by rw [m2 0 (by omega), pr2 0 (by omega) (by omega)]) (by rw [m2 0 (by omega), pr2 0 (by omega) (by omega)]) (by rw [RR1]) (by rw [RR1]) (by rw [RR1]) (by rw [m2 11 (by omega), pr2 11 (by omega) (by omega)]) (by rw [m2 12 (by omega), pr2 12 (by omega) (by omega)])
                  · rw [lo2 5 (by omega), px2 5 (by omega) (by omega)]
                  · rw [lo2 5 (by omega), px2 5 (by omega) (by omega)]
                  · rw [lo2 6 (by omega), px2 6 (by omega) (by omega)]
                  · rw [lo2 7 (by omega), px2 7 (by omega) (by omega)]
