/-! the relation between the class's numbers x and the reference's r behind i calls -/
def v_sum (ws : Nat → Nat) : Nat → Nat
  | 0 => 0
  | n + 1 => v_sum ws n + ws n
/-- what never changes -/
def v_cfg (x r : g_S) : Prop := x.1 0 0 = r.1 0 0 ∧ ¬ r.1 0 0 = 0 ∧ x.1 0 1 = r.1 0 1 ∧ x.1 9 0 = r.1 0 1 ∧ (∃ fe, fe ≤ 100 ∧ r.1 0 1 = nI fe) ∧ ∀ j, j < 49 → r.2 1 j = lN (u_tab j)
/-- price and step -/
def v_at (p : Nat) (c : Int) : Prop := -25 ≤ c ∧ c ≤ 24 ∧ u_P (-24) ≤ p ∧ p ≤ u_P 24 ∧ (-24 ≤ c → u_P c ≤ p) ∧ (c ≤ 23 → p ≤ u_P (c + 1))
def v_pr (x r : g_S) : Prop := x.1 0 7 = r.1 0 3 ∧ x.1 0 9 = r.1 0 5 ∧ ((r.1 0 3 = 0 ∧ x.1 0 8 = 0 ∧ r.2 0 4 = 0 ∧ r.1 0 5 = 0) ∨ (r.1 0 3 = 1 ∧ ∃ p, x.1 0 8 = nI p ∧ r.2 0 4 = lN p ∧ v_at p (r.1 0 5).toInt))
def v_wal (x r : g_S) : Prop := (∀ o t, o < 4 → t < 2 → x.2 (o + 10) t = r.2 2 (2 * o + t)) ∧ ∀ t, t < 2 → x.2 2 t = r.2 3 t
/-- a place for a lot: its liquidity w, bounds -/
def v_lotB (r : g_S) (i k w : Nat) : Prop := r.2 8 k = lN w ∧ (∀ t, t < 2 → ∃ od g, r.2 9 (2 * k + t) = lN od ∧ (r.1 4 k = 1 → r.2 10 (2 * k + t) = lN g) ∧ od * 4294967296 + g * w ≤ 4294967296 * (i * 3000000)) ∧ (r.1 4 k = 1 → -24 ≤ (r.1 6 k).toInt ∧ (r.1 6 k).toInt < (r.1 7 k).toInt ∧ (r.1 7 k).toInt ≤ 24 ∧ ∃ a, a < 4 ∧ r.1 5 k = nI a)
def v_lots (x r : g_S) (i : Nat) : Prop := (∀ k, k < 10 → v_lot x r k) ∧ ∃ ws : Nat → Nat, v_sum ws 10 ≤ 1000000 ∧ ∀ k, k < 10 → v_lotB r i k (ws k)
/-- clock, sum, marks -/
def v_tim (x r : g_S) (i : Nat) : Prop := ∃ (T m : Nat) (tm : Nat → Nat), x.2 5 0 = lN T ∧ r.2 0 15 = lN T ∧ T ≤ i * 10000 ∧ x.2 5 1 = r.2 0 16 ∧ x.1 5 2 = nI m ∧ r.1 0 17 = nI m ∧ m ≤ 8 ∧ (r.1 0 3 = 0 → m = 0) ∧ (r.1 0 3 = 1 → 1 ≤ m) ∧
  (∀ j, j < m → x.2 6 j = lN (tm j) ∧ r.2 11 j = lN (tm j) ∧ x.2 7 j = r.2 12 j) ∧ (∀ j, j + 1 < m → tm j < tm (j + 1) ∧ -25 ≤ (x.1 8 (j + 1)).toInt ∧ (x.1 8 (j + 1)).toInt ≤ 24 ∧ r.2 12 (j + 1) = r.2 12 j + (x.1 8 (j + 1)).toInt64 * lN (tm (j + 1) - tm j)) ∧
  (∀ j, j + 1 = m → tm j ≤ T ∧ r.2 0 16 = r.2 12 j + (r.1 0 5).toInt64 * lN (T - tm j))
def v_V (x r : g_S) (i : Nat) : Prop := v_cfg x r ∧ v_pr x r ∧ v_wal x r ∧ v_lots x r i ∧ v_tim x r i
theorem v_lotB_mono {r : g_S} {i k w : Nat} (h : v_lotB r i k w) : v_lotB r (i + 1) k w := by
  obtain ⟨h1, h2, h3⟩ := h
  refine ⟨h1, fun t ht => ?_, h3⟩
  obtain ⟨od, g, a1, a2, a3⟩ := h2 t ht
  exact ⟨od, g, a1, a2, Nat.le_trans a3 (Nat.mul_le_mul_left _ (Nat.mul_le_mul_right _ (Nat.le_succ i)))⟩
theorem v_lots_mono {x r : g_S} {i : Nat} (h : v_lots x r i) : v_lots x r (i + 1) := by
  obtain ⟨h1, ws, h2, h3⟩ := h
  exact ⟨h1, ws, h2, fun k hk => v_lotB_mono (h3 k hk)⟩
theorem v_tim_mono {x r : g_S} {i : Nat} (h : v_tim x r i) : v_tim x r (i + 1) := by
  obtain ⟨T, m, tm, h1, h2, h3, h⟩ := h
  exact ⟨T, m, tm, h1, h2, Nat.le_trans h3 (Nat.mul_le_mul_right _ (Nat.le_succ i)), h⟩
theorem v_mono (x r : g_S) (i : Nat) (h : v_V x r i) : v_V x r (i + 1) := by
  obtain ⟨h1, h2, h3, h4, h5⟩ := h
  exact ⟨h1, h2, h3, v_lots_mono h4, v_tim_mono h5⟩
/-! views -/
theorem w_price : v_c_price v_V := by
  intro x r i h hi
  obtain ⟨-, ⟨-, -, h⟩, -⟩ := h
  show x.1 0 8 = (r.2 0 4).toInt32
  rcases h with ⟨-, e1, e2, -⟩ | ⟨-, p, e1, e2, -⟩
  · rw [e1, e2]
    decide
  · rw [e1, e2, lN_i]
theorem w_step : v_c_step v_V := by
  intro x r i h hi
  exact h.2.1.2.1
theorem w_depth : v_c_depth v_V := by
  intro x r i h hi
  show (f_B_depthAt x (x.1 0 9)).toInt32 = (f_M_depthAt r (r.1 0 5)).toInt32
  rw [h.2.1.2.1, v_depth h.2.2.2.1.1]
theorem w_net : v_c_net v_V := by
  intro x r i n h hi
  show (f_B_netAt x n).toInt32 = (f_M_net_L5 r n 10 0 0).toInt32
  rw [v_net h.2.2.2.1.1]
/-- 2 * o + t as an index -/
theorem u_ix2 {a t : Nat} (ha : a < 10) (ht : t < 2) : ((2 : Int32) * nI a + nI t).toNatClampNeg = 2 * a + t ∧ vp_in ((2 : Int32) * nI a + nI t) (2 * a + t + 1) := by
  have e : (2 : Int32) * nI a + nI t = Int32.ofNat (2 * a + t) := g_eadd (g_emul (a := 2) rfl rfl) rfl
  exact ⟨g_ena e (by omega), g_eix e (by omega) (by omega)⟩
theorem u_in_mono {x : Int32} {m n : Nat} (h : vp_in x m) (hmn : m ≤ n) : vp_in x n := by
  intro q
  apply h
  rcases q with q | q
  · exact Or.inl q
  · exact Or.inr (by omega)
theorem u_inN {a n : Nat} (h : a < n) (hn : n ≤ 2147483648) : vp_in (nI a) n := g_eix rfl h hn
theorem u_cl {a : Nat} (h : a < 2147483648) : (nI a).toNatClampNeg = a := g_ena rfl h
theorem w_wallet : v_c_wallet v_V := by
  intro x r i o n h hi
  obtain ⟨-, -, hw, -⟩ := h
  simp only [f_P_wallet_25_5, f_P_wallet_25_11, f_P_wallet_14_12, f_P_wallet_8_9, f_P_wallet_7_6, f_P_wallet_1_3, f_P_wallet, k_P_wallet_25_5, k_P_wallet_25_11, k_P_wallet_14_12, k_P_wallet_8_9, k_P_wallet_7_6, k_P_wallet_1_3, k_P_wallet, f_M_wallet_29_5, f_M_wallet_29_8, f_M_wallet_29_11, f_M_wallet_16_12, f_M_wallet_11_9, f_M_wallet_7_6, f_M_wallet_1_3, f_M_wallet, k_M_wallet_29_5, k_M_wallet_29_8, k_M_wallet_29_11, k_M_wallet_16_12, k_M_wallet_11_9, k_M_wallet_7_6, k_M_wallet_1_3, k_M_wallet]
  rcases u_isOwner o with ⟨e1, e2⟩ | ⟨e1, e2, a, ha, rfl⟩
  · simp only [e1, e2, if_true, and_self]
  · simp only [e1, e2, g_10, if_false]
    rcases u_isToken n with ⟨e3, e4⟩ | ⟨e3, e4, e5, b, hb, rfl⟩
    · rcases e4 with e4 | ⟨e4, e5⟩
      · simp only [e3, e4, if_true, and_self]
      · simp only [e3, e4, e5, if_true, if_false, and_self]
    · simp only [e3, e4, e5, g_10, if_false]
      obtain ⟨i1, i2⟩ := u_ix2 (a := a) (t := b) (by omega) hb
      refine ⟨⟨u_inN ha (by omega), u_inN hb (by omega), True.intro⟩, ⟨u_in_mono i2 (by omega), True.intro⟩, ?_⟩
      rw [i1, u_cl (by omega), u_cl (by omega), hw.1 a b ha hb]
theorem w_reserve : v_c_reserve v_V := by
  intro x r i n h hi
  obtain ⟨-, -, hw, -⟩ := h
  simp only [f_P_reserve_16_5, f_P_reserve_7_6, f_P_reserve_1_3, f_P_reserve, k_P_reserve_16_5, k_P_reserve_7_6, k_P_reserve_1_3, k_P_reserve, f_M_reserve_18_2, f_M_reserve_18_5, f_M_reserve_9_6, f_M_reserve_4_3, f_M_reserve, k_M_reserve_18_2, k_M_reserve_18_5, k_M_reserve_9_6, k_M_reserve_4_3, k_M_reserve]
  rcases u_isToken n with ⟨e3, e4⟩ | ⟨e3, e4, e5, b, hb, rfl⟩
  · rcases e4 with e4 | ⟨e4, e5⟩
    · simp only [e3, e4, if_true, and_self]
    · simp only [e3, e4, e5, if_true, if_false, and_self]
  · simp only [e3, e4, e5, g_10, if_false]
    refine ⟨⟨u_inN hb (by omega), True.intro⟩, ⟨u_inN hb (by omega), True.intro⟩, ?_⟩
    rw [u_cl (by omega), hw.2 b hb]
theorem w_lot : v_c_lot v_V := by
  intro x r i o lo hi wh h hi'
  obtain ⟨-, -, -, ⟨hl, -⟩, -⟩ := h
  have hf := v_find hl o lo hi
  simp only [f_P_lot_48_8, f_P_lot_54_10, f_P_lot_62_12, f_P_lot_70_13, f_P_lot_7_5, f_P_lot_7_6, f_P_lot, f_M_lot_71_11, f_M_lot_57_12, f_M_lot_51_9, f_M_lot_39_14, f_M_lot_33_7, f_M_lot_23_16, f_M_lot_18_5, f_M_lot_14_18, f_M_lot_4_3, f_M_lot, k_M_lot_71_11, k_M_lot_57_12, k_M_lot_51_9, k_M_lot_39_14, k_M_lot_33_7, k_M_lot_23_16, k_M_lot_18_5, k_M_lot_14_18, k_M_lot_4_3, k_M_lot]
  cases hx : f_B_find x o lo hi with
  | none =>
    rw [hx] at hf
    have hf : f_M_find r o lo hi = -1 := hf
    have n1 : ¬ (0 : Int32) ≤ -1 := by decide
    simp only [hf, n1, if_false, Option.elim, and_self]
  | some k =>
    rw [hx] at hf
    have hf : f_M_find r o lo hi = nI k := hf
    have hk := lt_B_find hx
    have p1 : (0 : Int32) ≤ nI k := nI_pos' (by omega)
    obtain ⟨i1, i2⟩ := u_ix2 (a := k) (t := 0) hk (by omega)
    obtain ⟨j1, j2⟩ := u_ix2 (a := k) (t := 1) hk (by omega)
    have z0 : (2 : Int32) * nI k + nI 0 = (2 : Int32) * nI k := Int32.add_zero _
    rw [z0] at i1 i2
    have z1 : nI 1 = (1 : Int32) := rfl
    rw [z1] at j1 j2
    obtain ⟨⟨l1, l2, l3⟩, -⟩ := hl k hk
    have c := u_cl (a := k) (by omega)
    simp only [hf, p1, if_true, Option.elim, i1, j1, c, l1, l2, l3, Nat.add_zero]
    by_cases w0 : wh = 0
    · simp only [w0, if_true, and_true]
      exact u_inN hk (by omega)
    · by_cases w1 : wh = 1
      · simp only [w0, w1, if_true, if_false, and_true]
        exact u_in_mono i2 (by omega)
      · by_cases w2 : wh = 2
        · simp only [w0, w1, w2, if_true, if_false, and_true]
          exact u_in_mono j2 (by omega)
        · simp only [w0, w1, w2, if_false, and_self]
