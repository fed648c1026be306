/-! what a range is worth -/
theorem u_q_le {a b q : Nat} (hb : 0 < b) (h : a ≤ q * b) (up : Int32) : u_q a b up ≤ q := by
  unfold u_q
  split
  · exact Nat.div_le_of_le_mul (by rw [Nat.mul_comm]; exact h)
  · exact (q_up_le hb).mpr h
theorem u_zero_le {a b w : Nat} (ha : 36223 ≤ a) (hab : a ≤ b) (hw : w ≤ 1000000) (up : Int32) : u_q (w * 65536 * (b - a)) (a * b) up ≤ 2000000 := by
  refine u_q_le (Nat.mul_pos (by omega) (by omega)) ?_ up
  have h1 : w * 65536 ≤ 2000000 * a := by omega
  have h2 : w * 65536 * (b - a) ≤ 2000000 * a * b := Nat.mul_le_mul h1 (by omega)
  rw [Nat.mul_assoc 2000000] at h2
  exact h2
theorem u_one_le {a b w : Nat} (hb : b ≤ 118522) (hw : w ≤ 1000000) (up : Int32) : u_q (w * (b - a)) 65536 up ≤ 2000000 := by
  refine u_q_le (by decide) ?_ up
  have h2 : w * (b - a) ≤ 1000000 * 118522 := Nat.mul_le_mul hw (by omega)
  exact Nat.le_trans h2 (by decide)
theorem u_k0 {a b : Nat} (ha : 36223 ≤ a) (ha2 : a < 2 ^ 20) (hb : 36223 ≤ b) (hb2 : b < 2 ^ 20) : ¬ lN a * lN b = 0 := by
  rw [lN_mul]
  have h1 : a * b < 2 ^ 20 * 2 ^ 20 := Nat.mul_lt_mul'' ha2 hb2
  have h2 : 0 < a * b := Nat.mul_pos (by omega) (by omega)
  intro q
  have := (pk_lEQ (b := 0) (by omega) (by decide)).mp q
  omega
theorem v_zero {x r : g_S} (hr : ∀ j, j < 49 → r.2 1 j = lN (u_tab j)) {p : Nat} (hp : x.1 0 8 = nI p) (hq : r.2 0 4 = lN p) (hc : x.1 0 9 = r.1 0 5) (va : v_at p (r.1 0 5).toInt) {lo hi : Int32} (l1 : -24 ≤ lo.toInt) (l2 : lo.toInt < hi.toInt) (l3 : hi.toInt ≤ 24) {w : Nat} (hw : w ≤ 1000000) (up : Int32) :
    ∃ z, z ≤ 2000000 ∧ f_P_zeroOfRange x lo hi (lN w) up = lN z ∧ f_M_worthZero r lo hi (lN w) up = lN z ∧ k_P_zeroOfRange x lo hi (lN w) up ∧ k_M_worthZero r lo hi (lN w) up := by
  obtain ⟨a1, a2, a3, a4, a5, a6⟩ := va
  obtain ⟨e1, k1⟩ := u_priceP (n := lo) l1 (by omega)
  obtain ⟨e2, k2⟩ := u_priceP (n := hi) (by omega) l3
  obtain ⟨e3, k3⟩ := u_priceM hr (n := lo) l1 (by omega)
  obtain ⟨e4, k4⟩ := u_priceM hr (n := hi) (by omega) l3
  have b1 := u_P_lo (t := lo.toInt) l1 (by omega)
  have b2 := u_P_lo (t := hi.toInt) (by omega) l3
  have b3 := u_P_lt l2 l1 l3
  have c1 := u_P_lo (t := -24) (by omega) (by omega)
  have c2 := u_P_lo (t := 24) (by omega) (by omega)
  have f1 : (nI (u_P lo.toInt)).toInt64 = lN (u_P lo.toInt) := nI_l (by omega)
  have f2 : (nI (u_P hi.toInt)).toInt64 = lN (u_P hi.toInt) := nI_l (by omega)
  have f3 : (nI p).toInt64 = lN p := nI_l (by omega)
  simp only [f_P_zeroOfRange_35_11, f_P_zeroOfRange_29_7, f_P_zeroOfRange_10_2, f_P_zeroOfRange_8_19, f_P_zeroOfRange, k_P_zeroOfRange_35_11, k_P_zeroOfRange_29_7, k_P_zeroOfRange_10_2, k_P_zeroOfRange_8_19, k_P_zeroOfRange, f_M_worthZero_45_8, f_M_worthZero_39_4, f_M_worthZero_35_12, f_M_worthZero_27_2, f_M_worthZero_21_25, f_M_worthZero_15_21, f_M_worthZero_10_17, f_M_worthZero_8_13, f_M_worthZero, k_M_worthZero_45_8, k_M_worthZero_39_4, k_M_worthZero_35_12, k_M_worthZero_27_2, k_M_worthZero_21_25, k_M_worthZero_15_21, k_M_worthZero_10_17, k_M_worthZero_8_13, k_M_worthZero, hc, hp, hq, e1, e2, e3, e4, f2]
  have kz : ∀ u v : Int64, k_P_zeroBetween u v (lN w) up := fun u v => ⟨u_kquoP _ _ _, True.intro⟩
  have kmz : ∀ u v : Nat, 36223 ≤ u → u < 2 ^ 20 → 36223 ≤ v → v < 2 ^ 20 → k_M_zero (lN u) (lN v) (lN w) up := fun u v h1 h2 h3 h4 => ⟨u_kquoM (u_k0 h1 h2 h3 h4) _, True.intro⟩
  by_cases d1 : lo ≤ r.1 0 5
  · have d1' := d1
    rw [Int32.le_iff_toInt_le] at d1'
    by_cases d2 : r.1 0 5 < hi
    · have d2' := d2
      rw [Int32.lt_iff_toInt_lt] at d2'
      have q1 := a6 (by omega)
      have q2 := u_P_le (a := (r.1 0 5).toInt + 1) (b := hi.toInt) (by omega) (by omega) l3
      simp only [d1, d2, if_true, f3]
      refine ⟨_, u_zero_le (a := p) (b := u_P hi.toInt) (w := w) (by omega) (by omega) hw up, u_zeroP (by omega) (by omega) (by omega) hw up, u_zeroM (by omega) (by omega) (by omega) hw up, ⟨True.intro, k2, kz _ _, True.intro⟩, ⟨k4, kmz _ _ (by omega) (by omega) (by omega) (by omega), True.intro⟩⟩
    · simp only [d1, d2, if_true, if_false]
      exact ⟨0, by omega, rfl, rfl, True.intro, True.intro⟩
  · have d1' := d1
    rw [Int32.le_iff_toInt_le] at d1'
    have d2 : r.1 0 5 < hi := by
      rw [Int32.lt_iff_toInt_lt]; omega
    simp only [d1, d2, if_true, if_false, f1]
    refine ⟨_, u_zero_le (a := u_P lo.toInt) (b := u_P hi.toInt) (w := w) (by omega) (by omega) hw up, u_zeroP (by omega) (by omega) (by omega) hw up, u_zeroM (by omega) (by omega) (by omega) hw up, ⟨⟨k1, True.intro⟩, k2, kz _ _, True.intro⟩, ⟨k3, k4, kmz _ _ (by omega) (by omega) (by omega) (by omega), True.intro⟩⟩
theorem v_one {x r : g_S} (hr : ∀ j, j < 49 → r.2 1 j = lN (u_tab j)) {p : Nat} (hp : x.1 0 8 = nI p) (hq : r.2 0 4 = lN p) (hc : x.1 0 9 = r.1 0 5) (va : v_at p (r.1 0 5).toInt) {lo hi : Int32} (l1 : -24 ≤ lo.toInt) (l2 : lo.toInt < hi.toInt) (l3 : hi.toInt ≤ 24) {w : Nat} (hw : w ≤ 1000000) (up : Int32) :
    ∃ z, z ≤ 2000000 ∧ f_P_oneOfRange x lo hi (lN w) up = lN z ∧ f_M_worthOne r lo hi (lN w) up = lN z ∧ k_P_oneOfRange x lo hi (lN w) up ∧ k_M_worthOne r lo hi (lN w) up := by
  obtain ⟨a1, a2, a3, a4, a5, a6⟩ := va
  obtain ⟨e1, k1⟩ := u_priceP (n := lo) l1 (by omega)
  obtain ⟨e2, k2⟩ := u_priceP (n := hi) (by omega) l3
  obtain ⟨e3, k3⟩ := u_priceM hr (n := lo) l1 (by omega)
  obtain ⟨e4, k4⟩ := u_priceM hr (n := hi) (by omega) l3
  have b1 := u_P_lo (t := lo.toInt) l1 (by omega)
  have b2 := u_P_lo (t := hi.toInt) (by omega) l3
  have b3 := u_P_lt l2 l1 l3
  have c1 := u_P_lo (t := -24) (by omega) (by omega)
  have c2 := u_P_lo (t := 24) (by omega) (by omega)
  have f1 : (nI (u_P lo.toInt)).toInt64 = lN (u_P lo.toInt) := nI_l (by omega)
  have f2 : (nI (u_P hi.toInt)).toInt64 = lN (u_P hi.toInt) := nI_l (by omega)
  have f3 : (nI p).toInt64 = lN p := nI_l (by omega)
  simp only [f_P_oneOfRange_32_11, f_P_oneOfRange_29_7, f_P_oneOfRange_10_2, f_P_oneOfRange_8_19, f_P_oneOfRange, k_P_oneOfRange_32_11, k_P_oneOfRange_29_7, k_P_oneOfRange_10_2, k_P_oneOfRange_8_19, k_P_oneOfRange, f_M_worthOne_41_8, f_M_worthOne_39_4, f_M_worthOne_33_24, f_M_worthOne_27_20, f_M_worthOne_22_16, f_M_worthOne_20_12, f_M_worthOne_12_2, f_M_worthOne_8_25, f_M_worthOne, k_M_worthOne_41_8, k_M_worthOne_39_4, k_M_worthOne_33_24, k_M_worthOne_27_20, k_M_worthOne_22_16, k_M_worthOne_20_12, k_M_worthOne_12_2, k_M_worthOne_8_25, k_M_worthOne, hc, hp, hq, e1, e2, e3, e4, f1]
  have kz : ∀ u v : Int64, k_P_oneBetween u v (lN w) up := fun u v => ⟨u_kquoP _ _ _, True.intro⟩
  have kmz : ∀ u v : Int64, k_M_one u v (lN w) up := fun u v => ⟨u_kquoM (by decide) _, True.intro⟩
  by_cases d1 : lo ≤ r.1 0 5
  · have d1' := d1
    rw [Int32.le_iff_toInt_le] at d1'
    by_cases d2 : r.1 0 5 < hi
    · have q1 := a5 (by omega)
      have q2 := u_P_le (a := lo.toInt) (b := (r.1 0 5).toInt) d1' l1 (by omega)
      simp only [d1, d2, if_true, f3]
      refine ⟨_, u_one_le (a := u_P lo.toInt) (b := p) (w := w) (by omega) hw up, u_oneP (by omega) (by omega) hw up, u_oneM (by omega) (by omega) hw up, ⟨True.intro, k1, kz _ _, True.intro⟩, ⟨k3, kmz _ _, True.intro⟩⟩
    · simp only [d1, d2, if_true, if_false, f2]
      refine ⟨_, u_one_le (a := u_P lo.toInt) (b := u_P hi.toInt) (w := w) (by omega) hw up, u_oneP (by omega) (by omega) hw up, u_oneM (by omega) (by omega) hw up, ⟨⟨k2, True.intro⟩, k1, kz _ _, True.intro⟩, ⟨k3, k4, kmz _ _, True.intro⟩⟩
  · simp only [d1, if_false]
    exact ⟨0, by omega, rfl, rfl, True.intro, True.intro⟩
/-! settle -/
theorem v_setX (x : g_S) {k : Nat} : f_T_settle x k = g_L (g_L (g_L (g_L x (k + 24) 0 (x.2 (k + 24) 0 + x.2 (k + 34) 0 * x.2 (k + 14) 3 / (4294967296 : Int64))) (k + 34) 0 0) (k + 24) 1 (x.2 (k + 24) 1 + x.2 (k + 34) 1 * x.2 (k + 14) 3 / (4294967296 : Int64))) (k + 34) 1 0 := by
  have e : ∀ σ : g_S, f_T_settle σ k = f_T_settle_L2 σ k 0 2 (g_L (g_L (g_L (g_L σ (k + 24) 0 (σ.2 (k + 24) 0 + σ.2 (k + 34) 0 * σ.2 (k + 14) 3 / (4294967296 : Int64))) (k + 34) 0 0) (k + 24) 1 ((g_L (g_L σ (k + 24) 0 (σ.2 (k + 24) 0 + σ.2 (k + 34) 0 * σ.2 (k + 14) 3 / (4294967296 : Int64))) (k + 34) 0 0).2 (k + 24) 1 + (g_L (g_L σ (k + 24) 0 (σ.2 (k + 24) 0 + σ.2 (k + 34) 0 * σ.2 (k + 14) 3 / (4294967296 : Int64))) (k + 34) 0 0).2 (k + 34) 1 * (g_L (g_L σ (k + 24) 0 (σ.2 (k + 24) 0 + σ.2 (k + 34) 0 * σ.2 (k + 14) 3 / (4294967296 : Int64))) (k + 34) 0 0).2 (k + 14) 3 / (4294967296 : Int64))) (k + 34) 1 0) := fun _ => rfl
  rw [e x]
  show g_L _ _ _ _ = _
  have b1 : ∀ u v : Int64, (g_L (g_L x (k + 24) 0 u) (k + 34) 0 v).2 (k + 24) 1 = x.2 (k + 24) 1 := fun u v => by rw [g_L2p _ _ (by omega), g_L2k _ _ (by omega)]
  have b2 : ∀ u v : Int64, (g_L (g_L x (k + 24) 0 u) (k + 34) 0 v).2 (k + 34) 1 = x.2 (k + 34) 1 := fun u v => by rw [g_L2k _ _ (by omega), g_L2p _ _ (by omega)]
  have b3 : ∀ u v : Int64, (g_L (g_L x (k + 24) 0 u) (k + 34) 0 v).2 (k + 14) 3 = x.2 (k + 14) 3 := fun u v => by rw [g_L2p _ _ (by omega), g_L2p _ _ (by omega)]
  rw [b1, b2, b3]
theorem v_setR (r : g_S) {k : Nat} (hk : k < 10) : f_M_settle r (nI k) = g_L (g_L (g_L (g_L r 9 (2 * k) (r.2 9 (2 * k) + r.2 10 (2 * k) * r.2 8 k / (4294967296 : Int64))) 10 (2 * k) 0) 9 (2 * k + 1) (r.2 9 (2 * k + 1) + r.2 10 (2 * k + 1) * r.2 8 k / (4294967296 : Int64))) 10 (2 * k + 1) 0 ∧ k_M_settle r (nI k) := by
  obtain ⟨i1, i2⟩ := u_ix2 (a := k) (t := 0) hk (by omega)
  obtain ⟨j1, j2⟩ := u_ix2 (a := k) (t := 1) hk (by omega)
  have i1 : ((2 : Int32) * nI k + Int32.ofNat 0).toNatClampNeg = 2 * k := i1
  have j1 : ((2 : Int32) * nI k + Int32.ofNat (0 + 1)).toNatClampNeg = 2 * k + 1 := j1
  have q0 : vp_in ((2 : Int32) * nI k + Int32.ofNat 0) 20 := u_in_mono i2 (by omega)
  have q1 : vp_in ((2 : Int32) * nI k + Int32.ofNat (0 + 1)) 20 := u_in_mono j2 (by omega)
  have ek : (nI k).toNatClampNeg = k := u_cl (by omega)
  have qk : vp_in (nI k) 10 := u_inN hk (by omega)
  refine ⟨?_, ?_⟩
  · show f_M_settle_L2 r (nI k) 2 0 r = _
    unfold f_M_settle_L2
    unfold f_M_settle_L2
    unfold f_M_settle_L2
    rw [i1, j1, ek]
    have b1 : ∀ u v : Int64, (g_L (g_L r 9 (2 * k) u) 10 (2 * k) v).2 9 (2 * k + 1) = r.2 9 (2 * k + 1) := fun u v => by rw [g_L2p _ _ (by omega), g_L2k _ _ (by omega)]
    have b2 : ∀ u v : Int64, (g_L (g_L r 9 (2 * k) u) 10 (2 * k) v).2 10 (2 * k + 1) = r.2 10 (2 * k + 1) := fun u v => by rw [g_L2k _ _ (by omega), g_L2p _ _ (by omega)]
    have b3 : ∀ u v : Int64, (g_L (g_L r 9 (2 * k) u) 10 (2 * k) v).2 8 k = r.2 8 k := fun u v => by rw [g_L2p _ _ (by omega), g_L2p _ _ (by omega)]
    rw [b1, b2, b3]
  · refine ⟨?_, True.intro⟩
    exact ⟨q0, q0, qk, q0, q0, q1, q1, qk, q1, q1, True.intro⟩
