/-! what is kept when other places change -/
theorem g_L2p (σ : g_S) {p k : Nat} (v : Int64) {p' : Nat} (h : p' ≠ p) : (g_L σ p k v).2 p' = σ.2 p' := g_2_p _ _ h
theorem g_I1p (σ : g_S) {p k : Nat} (v : Int32) {p' : Nat} (h : p' ≠ p) : (g_I σ p k v).1 p' = σ.1 p' := g_2_p _ _ h
theorem g_L2s (σ : g_S) (p k : Nat) (v : Int64) : (g_L σ p k v).2 p k = v := g_2_self _ _ _ _
theorem g_I1s (σ : g_S) (p k : Nat) (v : Int32) : (g_I σ p k v).1 p k = v := g_2_self _ _ _ _
theorem g_L2k (σ : g_S) {p k : Nat} (v : Int64) {k' : Nat} (h : k' ≠ k) : (g_L σ p k v).2 p k' = σ.2 p k' := g_2_ne _ _ (fun q => h q.2)
theorem g_I1k (σ : g_S) {p k : Nat} (v : Int32) {k' : Nat} (h : k' ≠ k) : (g_I σ p k v).1 p k' = σ.1 p k' := g_2_ne _ _ (fun q => h q.2)
/-- the lots' own numbers are the same -/
def v_sX (x x' : g_S) : Prop := ∀ k, k < 10 → (∀ s, s < 3 → x'.1 (k + 14) s = x.1 (k + 14) s) ∧ x'.2 (k + 14) 3 = x.2 (k + 14) 3 ∧ x'.2 (k + 24) = x.2 (k + 24) ∧ x'.2 (k + 34) = x.2 (k + 34)
def v_sR (r r' : g_S) : Prop := r'.1 4 = r.1 4 ∧ r'.1 5 = r.1 5 ∧ r'.1 6 = r.1 6 ∧ r'.1 7 = r.1 7 ∧ r'.2 8 = r.2 8 ∧ r'.2 9 = r.2 9 ∧ r'.2 10 = r.2 10
theorem v_lot_cg {x r x' r' : g_S} {k : Nat} (hk : k < 10) (h : v_lot x r k) (hx : v_sX x x') (hr : v_sR r r') : v_lot x' r' k := by
  obtain ⟨a0, a3, a4, a5⟩ := hx k hk
  obtain ⟨b1, b2, b3, b4, b5, b6, b7⟩ := hr
  unfold v_lot at h ⊢
  rw [a0 0 (by omega), a0 1 (by omega), a0 2 (by omega), a3, a4, a5, b1, b2, b3, b4, b5, b6, b7]
  exact h
theorem v_lotB_cg {r r' : g_S} {i k w : Nat} (h : v_lotB r i k w) (hr : v_sR r r') : v_lotB r' i k w := by
  obtain ⟨b1, b2, b3, b4, b5, b6, b7⟩ := hr
  unfold v_lotB at h ⊢
  rw [b1, b2, b3, b4, b5, b6, b7]
  exact h
theorem v_lots_cg {x r x' r' : g_S} {i : Nat} (h : v_lots x r i) (hx : v_sX x x') (hr : v_sR r r') : v_lots x' r' i := by
  obtain ⟨h1, ws, h2, h3⟩ := h
  exact ⟨fun k hk => v_lot_cg hk (h1 k hk) hx hr, ws, h2, fun k hk => v_lotB_cg (h3 k hk) hr⟩
theorem v_wal_cg {x r x' r' : g_S} (h : v_wal x r) (a1 : ∀ o, o < 4 → x'.2 (o + 10) = x.2 (o + 10)) (a2 : x'.2 2 = x.2 2) (b1 : r'.2 2 = r.2 2) (b2 : r'.2 3 = r.2 3) : v_wal x' r' := by
  obtain ⟨h1, h2⟩ := h
  refine ⟨fun o t ho ht => ?_, fun t ht => ?_⟩
  · rw [a1 o ho, b1]
    exact h1 o t ho ht
  · rw [a2, b2]
    exact h2 t ht
theorem v_cfg_cg {x r x' r' : g_S} (h : v_cfg x r) (a1 : x'.1 0 0 = x.1 0 0) (a2 : x'.1 0 1 = x.1 0 1) (a3 : x'.1 9 0 = x.1 9 0) (b1 : r'.1 0 0 = r.1 0 0) (b2 : r'.1 0 1 = r.1 0 1) (b3 : r'.2 1 = r.2 1) : v_cfg x' r' := by
  unfold v_cfg at h ⊢
  rw [a1, a2, a3, b1, b2, b3]
  exact h
theorem v_pr_cg {x r x' r' : g_S} (h : v_pr x r) (a1 : x'.1 0 7 = x.1 0 7) (a2 : x'.1 0 8 = x.1 0 8) (a3 : x'.1 0 9 = x.1 0 9) (b1 : r'.1 0 3 = r.1 0 3) (b2 : r'.1 0 5 = r.1 0 5) (b3 : r'.2 0 4 = r.2 0 4) : v_pr x' r' := by
  unfold v_pr at h ⊢
  rw [a1, a2, a3, b1, b2, b3]
  exact h
theorem v_tim_cg {x r x' r' : g_S} {i : Nat} (h : v_tim x r i) (a1 : x'.2 5 0 = x.2 5 0) (a2 : x'.2 5 1 = x.2 5 1) (a3 : x'.1 5 2 = x.1 5 2) (a4 : x'.2 6 = x.2 6) (a5 : x'.2 7 = x.2 7) (a6 : x'.1 8 = x.1 8) (b1 : r'.2 0 15 = r.2 0 15) (b2 : r'.2 0 16 = r.2 0 16) (b3 : r'.1 0 17 = r.1 0 17) (b4 : r'.1 0 3 = r.1 0 3) (b5 : r'.1 0 5 = r.1 0 5) (b6 : r'.2 11 = r.2 11) (b7 : r'.2 12 = r.2 12) : v_tim x' r' i := by
  unfold v_tim at h ⊢
  rw [a1, a2, a3, a4, a5, a6, b1, b2, b3, b4, b5, b6, b7]
  exact h
/-! fund -/
theorem w_fund : v_c_fund v_V := by
  intro x r i o n am h hi
  simp only [f_P_fund_24_5, f_P_fund_24_11, f_P_fund_24_14, f_P_fund_26_17, f_P_fund_24_21, f_P_fund_18_15, f_P_fund_14_12, f_P_fund_8_9, f_P_fund_7_6, f_P_fund_1_3, f_P_fund, k_P_fund_24_5, k_P_fund_24_11, k_P_fund_24_14, k_P_fund_26_17, k_P_fund_24_21, k_P_fund_18_15, k_P_fund_14_12, k_P_fund_8_9, k_P_fund_7_6, k_P_fund_1_3, k_P_fund, f_M_fund_26_5, f_M_fund_26_8, f_M_fund_26_11, f_M_fund_26_14, f_M_fund_28_17, f_M_fund_26_20, f_M_fund_20_15, f_M_fund_16_12, f_M_fund_11_9, f_M_fund_7_6, f_M_fund_1_3, f_M_fund, k_M_fund_26_5, k_M_fund_26_8, k_M_fund_26_11, k_M_fund_26_14, k_M_fund_28_17, k_M_fund_26_20, k_M_fund_20_15, k_M_fund_16_12, k_M_fund_11_9, k_M_fund_7_6, k_M_fund_1_3, k_M_fund]
  rcases u_isOwner o with ⟨e1, e2⟩ | ⟨e1, e2, a, ha, rfl⟩
  · simp only [e1, e2, if_true, true_and]
    exact v_mono x r i h
  · simp only [e1, e2, g_10, if_false]
    rcases u_isToken n with ⟨e3, e4⟩ | ⟨e3, e4, e5, b, hb, rfl⟩
    · rcases e4 with e4 | ⟨e4, e5⟩
      · simp only [e3, e4, if_true, true_and]
        exact v_mono x r i h
      · simp only [e3, e4, e5, if_true, if_false, true_and]
        exact v_mono x r i h
    · simp only [e3, e4, e5, g_10, if_false]
      by_cases c1 : am < 0
      · simp only [c1, if_true, true_and]
        exact v_mono x r i h
      · by_cases c2 : am ≤ (1000000000 : Int32)
        · simp only [c1, c2, if_true, if_false, true_and]
          obtain ⟨i1, i2⟩ := u_ix2 (a := a) (t := b) (by omega) hb
          have q1 : vp_in (nI a) 4 := u_inN ha (by omega)
          have q2 : vp_in (nI b) 2 := u_inN hb (by omega)
          have q3 := u_in_mono i2 (n := 8) (by omega)
          refine ⟨⟨q1, q2, q2, True.intro⟩, ⟨q3, q3, True.intro⟩, ?_⟩
          rw [i1, u_cl (by omega), u_cl (by omega)]
          obtain ⟨h1, h2, ⟨w1, w2⟩, h4, h5⟩ := v_mono x r i h
          refine ⟨v_cfg_cg h1 rfl rfl rfl rfl rfl rfl, v_pr_cg h2 rfl rfl rfl rfl rfl rfl, ⟨fun o t ho ht => ?_, fun t ht => ?_⟩, v_lots_cg h4 ?_ ⟨rfl, rfl, rfl, rfl, rfl, rfl, rfl⟩, ?_⟩
          · rw [g_L2, g_L2]
            by_cases c : o = a ∧ t = b
            · rw [if_pos (by omega), if_pos (by omega), w1 a b ha hb]
            · rw [if_neg (by omega), if_neg (by omega), w1 o t ho ht]
          · rw [g_L2p x _ (by omega), g_L2p r _ (by omega)]
            exact w2 t ht
          · intro k hk
            refine ⟨fun s _ => rfl, ?_, ?_, ?_⟩
            · rw [g_L2p x _ (by omega)]
            · rw [g_L2p x _ (by omega)]
            · rw [g_L2p x _ (by omega)]
          · refine v_tim_cg h5 ?_ ?_ rfl ?_ ?_ rfl rfl rfl rfl rfl rfl rfl rfl
            · rw [g_L2p x _ (by omega)]
            · rw [g_L2p x _ (by omega)]
            · rw [g_L2p x _ (by omega)]
            · rw [g_L2p x _ (by omega)]
        · simp only [c1, c2, if_false, true_and]
          exact v_mono x r i h
