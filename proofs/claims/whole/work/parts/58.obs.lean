/-! observe -/
theorem u_divst {st : Int32} {d : Nat} (h1 : -25 ≤ st.toInt) (h2 : st.toInt ≤ 24) (h3 : 0 < d) (h4 : d < 2 ^ 31) : (st.toInt64 * lN d) / lN d = st.toInt64 := by
  have e1 : (lN d).toInt = d := lN_toInt h4
  have e2 : (st.toInt64 * lN d).toInt = st.toInt * d := by
    rw [Int64.toInt_mul, Int32.toInt_toInt64, e1]
    have a1 : -25 * (d : Int) ≤ st.toInt * d := Int.mul_le_mul_of_nonneg_right h1 (by omega)
    have a2 : st.toInt * (d : Int) ≤ 24 * d := Int.mul_le_mul_of_nonneg_right h2 (by omega)
    exact Int.bmod_eq_of_le_mul_two (by omega) (by omega)
  apply Int64.toInt_inj.mp
  rw [Int64.toInt_div_of_ne_right _ _ (fun q => by rw [q] at e1; have : (-1 : Int64).toInt = -1 := rfl; omega), e2, e1, Int32.toInt_toInt64]
  exact Int.mul_tdiv_cancel _ (by omega)
theorem v_obsM {r : g_S} {ago : Int32} {m : Nat} (hm : m ≤ 8) : ∀ (jn jk : Nat), jk + jn = m - 1 → jk < m → r.2 11 jk ≤ r.2 0 15 - ago.toInt64 → ∃ K, f_M_observe_L45 r ago jn jk = nI K ∧ K < m ∧ r.2 11 K ≤ r.2 0 15 - ago.toInt64 ∧ (K + 1 < m → r.2 0 15 - ago.toInt64 < r.2 11 (K + 1)) := by
  intro jn
  induction jn with
  | zero =>
    intro jk h1 h2 h3
    exact ⟨jk, rfl, h2, h3, fun h => absurd h (by omega)⟩
  | succ jn ih =>
    intro jk h1 h2 h3
    have e : f_M_observe_L45 r ago (jn + 1) jk = if r.2 0 15 - ago.toInt64 < r.2 11 (jk + 1) then nI jk else f_M_observe_L45 r ago jn (jk + 1) := rfl
    by_cases c : r.2 0 15 - ago.toInt64 < r.2 11 (jk + 1)
    · rw [e, if_pos c]
      exact ⟨jk, rfl, h2, h3, fun _ => c⟩
    · rw [e, if_neg c]
      exact ih (jk + 1) (by omega) (by omega) (Int64.not_lt.mp c)
def v_dat (x : g_S) (now : Int32) (m j : Nat) : Int32 × Int64 × Int64 := if j = m then (now, x.2 5 1, x.2 5 0) else (x.1 8 j, x.2 7 j, x.2 6 j)
theorem v_obsX {x : g_S} {t : Int64} {now : Int32} {m K : Nat} (hK : x.2 6 K ≤ t) (ha : ∀ j, K < j → j < m → t < x.2 6 j) : ∀ (jn : Nat) (a1 : Int32) (a2 a3 : Int64), K < jn → jn ≤ m → (a1, a2, a3) = v_dat x now m jn → f_H_sumAt_L23 x t now jn a1 a2 a3 = v_dat x now m (K + 1) := by
  intro jn
  induction jn with
  | zero => intro a1 a2 a3 h; exact absurd h (by omega)
  | succ jn ih =>
    intro a1 a2 a3 h1 h2 h3
    have e : f_H_sumAt_L23 x t now (jn + 1) a1 a2 a3 = if x.2 6 jn ≤ t then (a1, a2, a3) else f_H_sumAt_L23 x t now jn (x.1 8 jn) (x.2 7 jn) (x.2 6 jn) := rfl
    by_cases c : jn = K
    · subst c
      rw [e, if_pos hK, h3]
    · have c2 : ¬ x.2 6 jn ≤ t := Int64.not_le.mpr (ha jn (by omega) (by omega))
      rw [e, if_neg c2]
      refine ih _ _ _ (by omega) (by omega) ?_
      unfold v_dat
      rw [if_neg (by omega)]
theorem w_observe : v_c_observe v_V := by
  intro x r i ago h hi
  obtain ⟨-, ⟨p1, p2, p3⟩, -, -, h5⟩ := h
  simp only [f_P_observe_56_9, f_P_observe_50_14, f_P_observe_41_10, f_P_observe_35_7, f_P_observe_19_4, f_P_observe_15_15, f_P_observe_11_2, f_P_observe_7_16, f_P_observe, k_P_observe_56_9, k_P_observe_50_14, k_P_observe_41_10, k_P_observe_35_7, k_P_observe_19_4, k_P_observe_15_15, k_P_observe_11_2, k_P_observe_7_16, k_P_observe]
  rcases p3 with ⟨o, -⟩ | ⟨o, p, -, -, va⟩
  · have o' : x.1 0 7 = 0 := p1.trans o
    simp only [f_M_observe_130_16, f_M_observe_76_11, f_M_observe_42_6, f_M_observe_38_29, f_M_observe_19_4, f_M_observe_15_30, f_M_observe_11_2, f_M_observe_7_31, f_M_observe, k_M_observe_130_16, k_M_observe_76_11, k_M_observe_42_6, k_M_observe_38_29, k_M_observe_19_4, k_M_observe_15_30, k_M_observe_11_2, k_M_observe_7_31, k_M_observe, o, o', if_true, and_self]
  · have n1 : ¬ r.1 0 3 = 0 := by rw [o]; decide
    have n2 : ¬ x.1 0 7 = 0 := by rw [p1, o]; decide
    have c1 := va.1
    have c2 := va.2.1
    unfold f_M_observe k_M_observe f_M_observe_11_2 k_M_observe_11_2
    simp only [n1, n2, if_false]
    by_cases a0 : 0 ≤ ago
    · simp only [a0, if_true]
      unfold f_M_observe_19_4 k_M_observe_19_4
      rw [v_tim_B] at h5
      obtain ⟨T, m, tm, ⟨t1, t2, t3, t4, t5, t6, t7, t8, t9, t10⟩, -, t12⟩ := h5
      have hm := t12 o
      have hT : T < 2 ^ 31 := Nat.lt_of_le_of_lt t3 (Nat.lt_of_le_of_lt (Nat.mul_le_mul_right 10000 (Nat.le_of_lt hi)) (by decide))
      have mono : ∀ d j, j + d < m → tm j ≤ tm (j + d) := by
        intro d
        induction d with
        | zero => intro j _; exact Nat.le_refl _
        | succ d ih =>
          intro j hj
          have a1 := ih j (by omega)
          have a2 := (t9 (j + d) (by omega)).1
          rw [show j + (d + 1) = j + d + 1 by omega]
          omega
      have tle : ∀ j, j < m → tm j ≤ T := by
        intro j hj
        have a1 := mono (m - 1 - j) j (by omega)
        have a2 := (t10 (m - 1) (by omega)).1
        rw [show j + (m - 1 - j) = m - 1 by omega] at a1
        omega
      obtain ⟨f0, f1, f2⟩ := t8 0 (by omega)
      have zM : ¬ nI m ≤ (0 : Int32) := nI_nle (by omega) (by omega)
      have em : (nI m).toNatClampNeg = m := u_cl (by omega)
      have eC : x.2 5 0 = r.2 0 15 := t1.trans t2.symm
      have e6 : ∀ j, j < m → x.2 6 j = r.2 11 j := fun j hj => (t8 j hj).1.trans (t8 j hj).2.1.symm
      simp only [f_H_reaches, f_H_reaches_22_2, f_H_reaches_7_3, f_H_reaches_22_5, f_H_reaches_18_6, t5, zM, if_false, eC, e6 0 (by omega)]
      by_cases b : r.2 11 0 ≤ r.2 0 15 - ago.toInt64
      · have b' : ¬ r.2 0 15 - ago.toInt64 < r.2 11 0 := Int64.not_lt.mpr b
        simp only [b, b', if_true, if_false, g_10]
        obtain ⟨K, k1, k2, k3, k4⟩ := v_obsM (r := r) (ago := ago) t7 (m - 1) 0 (by omega) (by omega) b
        have later : ∀ j, K < j → j < m → r.2 0 15 - ago.toInt64 < x.2 6 j := by
          intro j hj hjm
          have q1 := k4 (by omega)
          have q2 := mono (j - (K + 1)) (K + 1) (by omega)
          rw [show K + 1 + (j - (K + 1)) = j by omega] at q2
          rw [e6 j hjm, (t8 j hjm).2.1]
          rw [(t8 (K + 1) (by omega)).2.1] at q1
          refine Int64.lt_of_lt_of_le q1 ?_
          have q3 := tle j hjm
          exact (lN_le (by omega) (by omega)).mpr q2
        have hX := v_obsX (x := x) (t := r.2 0 15 - ago.toInt64) (now := x.1 0 9) (m := m) (K := K) (by rw [e6 K k2]; exact k3) later m (x.1 0 9) (x.2 5 1) (x.2 5 0) (by omega) (Nat.le_refl _) (by unfold v_dat; rw [if_pos rfl])
        unfold f_M_observe_42_6 k_M_observe_42_6 f_M_observe_76_11 k_M_observe_76_11 f_M_observe_130_16 k_M_observe_130_16 f_H_sumAt k_H_sumAt f_H_sumAt_73_12 k_H_sumAt_73_12
        have qK : vp_in (nI K) 8 := u_inN (by omega) (by omega)
        have eK : (nI K).toNatClampNeg = K := u_cl (by omega)
        have eK1 : nI K + (1 : Int32) = nI (K + 1) := nI_1 K
        have dn : Int32.ofNat m + (-1 : Int32) = nI m - (1 : Int32) := (Int32.sub_eq_add_neg _ _).symm
        rw [eC] at hX
        rw [t6, t5, em, k1, eK1, eK, eC, hX]
        refine ⟨⟨⟨⟨dn, t7⟩, True.intro⟩, True.intro⟩, ?_, ?_⟩
        · refine ⟨⟨(nI_ltI (a := 0) (by omega) (by omega)).mpr (by omega), (nI_leI (b := 8) (by omega) (by omega)).mpr t7⟩, ?_, qK, qK, True.intro⟩
          by_cases e : m ≤ K + 1
          · rw [if_pos ((nI_leI (by omega) (by omega)).mpr e)]
            exact True.intro
          · rw [if_neg (fun q => e ((nI_leI (by omega) (by omega)).mp q))]
            have q1 : vp_in (nI (K + 1)) 8 := u_inN (by omega) (by omega)
            have eK2 : (nI (K + 1)).toNatClampNeg = K + 1 := u_cl (by omega)
            refine ⟨q1, qK, q1, qK, ?_, True.intro⟩
            rw [eK2, (t8 (K + 1) (by omega)).2.1, (t8 K (by omega)).2.1]
            have s1 := (t9 K (by omega)).1
            have s2 := tle (K + 1) (by omega)
            rw [lN_sub (by omega)]
            intro q
            have := (lN_eq (b := 0) (by omega) (by decide)).mp q
            omega
        · by_cases e : K + 1 = m
          · have e1 : v_dat x (x.1 0 9) m (K + 1) = (x.1 0 9, x.2 5 1, x.2 5 0) := by unfold v_dat; rw [if_pos e]
            rw [e1, if_pos ((nI_leI (by omega) (by omega)).mpr (by omega))]
            obtain ⟨u1, u2⟩ := t10 K e
            show x.2 5 1 - (x.1 0 9).toInt64 * (x.2 5 0 - (r.2 0 15 - ago.toInt64)) = _
            rw [t4, p2, eC, u2, (t8 K k2).2.1, t2, ← lN_sub u1]
            grind
          · have e1 : v_dat x (x.1 0 9) m (K + 1) = (x.1 8 (K + 1), x.2 7 (K + 1), x.2 6 (K + 1)) := by unfold v_dat; rw [if_neg e]
            have eK2 : (nI (K + 1)).toNatClampNeg = K + 1 := u_cl (by omega)
            rw [e1, if_neg (fun q => absurd ((nI_leI (by omega) (by omega)).mp q) (by omega)), eK2]
            obtain ⟨u1, u2, u3, u4⟩ := t9 K (by omega)
            have s2 := tle (K + 1) (by omega)
            have e2 : r.2 12 (K + 1) - r.2 12 K = (x.1 8 (K + 1)).toInt64 * lN (tm (K + 1) - tm K) := by
              rw [u4]
              grind
            have e3 : r.2 11 (K + 1) - r.2 11 K = lN (tm (K + 1) - tm K) := by
              rw [(t8 (K + 1) (by omega)).2.1, (t8 K k2).2.1, lN_sub (by omega)]
            rw [e2, e3, u_divst u2 u3 (by omega) (by omega)]
            show x.2 7 (K + 1) - (x.1 8 (K + 1)).toInt64 * (x.2 6 (K + 1) - (r.2 0 15 - ago.toInt64)) = _
            rw [(t8 (K + 1) (by omega)).2.2, u4, (t8 (K + 1) (by omega)).1, (t8 K k2).2.1, ← lN_sub (by omega)]
            grind
      · have b' : r.2 0 15 - ago.toInt64 < r.2 11 0 := Int64.not_le.mp b
        simp only [b, b', if_true, if_false, f_M_observe_38_29, k_M_observe_38_29, and_self]
    · simp only [a0, if_false, f_M_observe_15_30, k_M_observe_15_30, and_self]
