/-! lots: found, paid, swept, changed -/
theorem v_foundX {x : g_S} {o lo hi : Int32} : ∀ (jn jk k : Nat), f_B_find_L14 x o lo hi jn jk = some k → ¬ f_T_isThere x k = 0 ∧ ¬ f_T_isFor x k o lo hi = 0 := by
  intro jn
  induction jn with
  | zero => intro jk k h; exact absurd h (by intro q; cases q)
  | succ jn ih =>
    intro jk k h
    have h : (if (f_T_isThere x jk) = 0 then f_B_find_L14 x o lo hi jn (jk + 1) else (if (f_T_isFor x jk o lo hi) = 0 then f_B_find_L14 x o lo hi jn (jk + 1) else (some jk))) = some k := h
    by_cases c1 : f_T_isThere x jk = 0
    · rw [if_pos c1] at h
      exact ih _ _ h
    · rw [if_neg c1] at h
      by_cases c2 : f_T_isFor x jk o lo hi = 0
      · rw [if_pos c2] at h
        exact ih _ _ h
      · rw [if_neg c2] at h
        have e := Option.some.inj h
        subst e
        exact ⟨c1, c2⟩
theorem v_found {x r : g_S} {o lo hi : Int32} {k : Nat} (h : ∀ k, k < 10 → v_lot x r k) (hf : f_B_find x o lo hi = some k) : k < 10 ∧ r.1 4 k = 1 ∧ r.1 5 k = o ∧ r.1 6 k = lo ∧ r.1 7 k = hi := by
  have hk := lt_B_find hf
  obtain ⟨c1, c2⟩ := v_foundX 10 0 k hf
  obtain ⟨-, h2⟩ := h k hk
  rcases h2 with ⟨t, w, w0, w1⟩ | ⟨t, nz, e0, e1, e2, -⟩
  · exfalso
    apply c1
    rw [v_there, w, w0, w1]
    rfl
  · rw [v_isFor, e0, e1, e2] at c2
    by_cases b0 : r.1 5 k = o
    · by_cases b1 : r.1 6 k = lo
      · by_cases b2 : r.1 7 k = hi
        · exact ⟨hk, t, b0, b1, b2⟩
        · simp [b0, b1, b2] at c2
      · simp [b0, b1] at c2
    · simp [b0] at c2
theorem v_payX (x : g_S) {a : Nat} (ha : a < 4) (z y : Int64) : f_P_pay x (nI a) z y = g_L (g_L (g_L (g_L x (a + 10) 0 (x.2 (a + 10) 0 - z)) 2 0 (x.2 2 0 + z)) (a + 10) 1 (x.2 (a + 10) 1 - y)) 2 1 (x.2 2 1 + y) ∧ k_P_pay x (nI a) z y := by
  have ea : (nI a).toNatClampNeg = a := u_cl (by omega)
  have e0 : (0 : Int32).toNatClampNeg = 0 := rfl
  have e1 : (1 : Int32).toNatClampNeg = 1 := rfl
  have q : vp_in (nI a) 4 := u_inN ha (by omega)
  have q0 : vp_in (0 : Int32) 2 := u_inN (a := 0) (by omega) (by omega)
  have q1 : vp_in (1 : Int32) 2 := u_inN (a := 1) (by omega) (by omega)
  refine ⟨?_, ⟨q, q0, q0, q0, q0, True.intro⟩, ⟨q, q1, q1, q1, q1, True.intro⟩, True.intro⟩
  unfold f_P_pay f_P_pay_4_5 f_P_pay_12_10 f_P_transfer
  rw [ea, e0, e1]
  rw [g_L2p x _ (by omega : (2 : Nat) ≠ a + 10)]
  have b1 : (g_L (g_L x (a + 10) 0 (x.2 (a + 10) 0 - z)) 2 0 (x.2 2 0 + z)).2 (a + 10) 1 = x.2 (a + 10) 1 := by
    rw [g_L2p _ _ (by omega), g_L2k _ _ (by omega)]
  have b2 : (g_L (g_L (g_L x (a + 10) 0 (x.2 (a + 10) 0 - z)) 2 0 (x.2 2 0 + z)) (a + 10) 1 (x.2 (a + 10) 1 - y)).2 2 1 = x.2 2 1 := by
    rw [g_L2p _ _ (by omega), g_L2k _ _ (by omega), g_L2p _ _ (by omega)]
  rw [b1, b2]
theorem v_payR (r : g_S) {a : Nat} (ha : a < 4) (z y : Int64) : f_M_pay r (nI a) z y = g_L (g_L (g_L (g_L r 2 (2 * a) (r.2 2 (2 * a) - z)) 2 (2 * a + 1) (r.2 2 (2 * a + 1) - y)) 3 0 (r.2 3 0 + z)) 3 1 (r.2 3 1 + y) ∧ k_M_pay r (nI a) z y := by
  obtain ⟨i1, i2⟩ := u_ix2 (a := a) (t := 0) (by omega) (by omega)
  obtain ⟨j1, j2⟩ := u_ix2 (a := a) (t := 1) (by omega) (by omega)
  have z0 : (2 : Int32) * nI a + nI 0 = (2 : Int32) * nI a := Int32.add_zero _
  rw [z0] at i1 i2
  have z1 : nI 1 = (1 : Int32) := rfl
  rw [z1] at j1 j2
  have q0 := u_in_mono i2 (n := 8) (by omega)
  have q1 := u_in_mono j2 (n := 8) (by omega)
  refine ⟨?_, q0, q0, q1, q1, True.intro⟩
  unfold f_M_pay
  rw [i1, j1, Nat.add_zero, g_L2k r _ (by omega : 2 * a + 1 ≠ 2 * a)]
theorem v_pay {x r : g_S} (h : v_wal x r) {a : Nat} (ha : a < 4) (z y : Int64) : v_wal (f_P_pay x (nI a) z y) (f_M_pay r (nI a) z y) := by
  rw [(v_payX x ha z y).1, (v_payR r ha z y).1]
  obtain ⟨h1, h2⟩ := h
  have a0 : x.2 (a + 10) 0 = r.2 2 (2 * a) := h1 a 0 ha (by omega)
  have a1 := h1 a 1 ha (by omega)
  refine ⟨fun o t ho ht => ?_, fun t ht => ?_⟩
  · rw [g_L2p _ _ (by omega : o + 10 ≠ 2), g_L2, g_L2p _ _ (by omega : o + 10 ≠ 2), g_L2, g_L2p _ _ (by omega : (2 : Nat) ≠ 3), g_L2p _ _ (by omega : (2 : Nat) ≠ 3), g_L2, g_L2]
    by_cases c : o = a
    · subst c
      by_cases d : t = 1
      · subst d
        rw [if_pos (by omega), if_pos (by omega), a1]
      · have d0 : t = 0 := by omega
        subst d0
        rw [if_neg (by omega), if_pos (by omega), if_neg (by omega), if_pos (by omega), a0]
    · rw [if_neg (by omega), if_neg (by omega), if_neg (by omega), if_neg (by omega)]
      exact h1 o t ho ht
  · rw [g_L2, g_L2p _ _ (by omega : (2 : Nat) ≠ a + 10), g_L2, g_L2p _ _ (by omega : (2 : Nat) ≠ a + 10), g_L2, g_L2, g_L2p _ _ (by omega : (3 : Nat) ≠ 2), g_L2p _ _ (by omega : (3 : Nat) ≠ 2)]
    by_cases d : t = 1
    · subst d
      rw [if_pos (by omega), if_pos (by omega), h2 1 (by omega)]
    · have d0 : t = 0 := by omega
      subst d0
      rw [if_neg (by omega), if_pos (by omega), if_neg (by omega), if_pos (by omega), h2 0 (by omega)]
/-- frames of pay -/
theorem v_payXF (x : g_S) {a : Nat} (ha : a < 4) (z y : Int64) : (f_P_pay x (nI a) z y).1 = x.1 ∧ ∀ p, p ≠ 2 → (p < 10 ∨ 14 ≤ p) → (f_P_pay x (nI a) z y).2 p = x.2 p := by
  rw [(v_payX x ha z y).1]
  refine ⟨rfl, fun p h1 h2 => ?_⟩
  rw [g_L2p _ _ h1, g_L2p _ _ (by omega), g_L2p _ _ h1, g_L2p _ _ (by omega)]
theorem v_payRF (r : g_S) {a : Nat} (ha : a < 4) (z y : Int64) : (f_M_pay r (nI a) z y).1 = r.1 ∧ ∀ p, p ≠ 2 → p ≠ 3 → (f_M_pay r (nI a) z y).2 p = r.2 p := by
  rw [(v_payR r ha z y).1]
  refine ⟨rfl, fun p h1 h2 => ?_⟩
  rw [g_L2p _ _ h2, g_L2p _ _ h2, g_L2p _ _ h1, g_L2p _ _ h1]
theorem v_sweep {r : g_S} {k w o0 o1 : Nat} (hk : k < 10) (h1 : r.2 8 k = lN w) (h2 : r.2 9 (2 * k) = lN o0) (h3 : r.2 9 (2 * k + 1) = lN o1) (b1 : w < 2 ^ 31) (b2 : o0 < 2 ^ 31) (b3 : o1 < 2 ^ 31) :
    f_M_sweep r (nI k) = g_I r 4 k (if w = 0 ∧ o0 = 0 ∧ o1 = 0 then 0 else 1) ∧ k_M_sweep r (nI k) := by
  obtain ⟨i1, i2⟩ := u_ix2 (a := k) (t := 0) (by omega) (by omega)
  obtain ⟨j1, j2⟩ := u_ix2 (a := k) (t := 1) (by omega) (by omega)
  have z0 : (2 : Int32) * nI k + nI 0 = (2 : Int32) * nI k := Int32.add_zero _
  rw [z0] at i1 i2
  have z1 : nI 1 = (1 : Int32) := rfl
  rw [z1] at j1 j2
  have ek : (nI k).toNatClampNeg = k := u_cl (by omega)
  have qk : vp_in (nI k) 10 := u_inN hk (by omega)
  have q0 := u_in_mono i2 (n := 20) (by omega)
  have q1 := u_in_mono j2 (n := 20) (by omega)
  have p : ∀ n, n < 2 ^ 31 → ((0 : Int64) < lN n ↔ 0 < n) := fun n hn => lN_lt (a := 0) (by decide) hn
  have p' : ∀ n, n < 2 ^ 31 → (lN n ≤ (0 : Int64) ↔ n ≤ 0) := fun n hn => lN_le (b := 0) hn (by decide)
  refine ⟨?_, ?_⟩
  · unfold f_M_sweep f_M_sweep_49_6
    rw [ek, i1, j1, Nat.add_zero, h1, h2, h3]
    congr 1
    simp only [p w b1, p o0 b2, p' o1 b3]
    by_cases c1 : w = 0
    · by_cases c2 : o0 = 0
      · by_cases c3 : o1 = 0
        · simp [c1, c2, c3]
        · simp [c1, c2, c3]
      · rw [if_neg (by omega), if_pos (by omega), if_neg (by omega)]
    · rw [if_pos (by omega), if_neg (by omega)]
  · unfold k_M_sweep k_M_sweep_49_6
    refine ⟨qk, ?_, qk, True.intro⟩
    split
    · exact True.intro
    · refine ⟨q0, ?_⟩
      split
      · exact True.intro
      · exact ⟨q1, True.intro⟩
/-- all lots but the one at k are as they were -/
def v_oX (x x' : g_S) (k : Nat) : Prop := ∀ j, j < 10 → j ≠ k → (∀ s, s < 3 → x'.1 (j + 14) s = x.1 (j + 14) s) ∧ x'.2 (j + 14) 3 = x.2 (j + 14) 3 ∧ x'.2 (j + 24) = x.2 (j + 24) ∧ x'.2 (j + 34) = x.2 (j + 34)
def v_oR (r r' : g_S) (k : Nat) : Prop := ∀ j, j < 10 → j ≠ k → r'.1 4 j = r.1 4 j ∧ r'.1 5 j = r.1 5 j ∧ r'.1 6 j = r.1 6 j ∧ r'.1 7 j = r.1 7 j ∧ r'.2 8 j = r.2 8 j ∧ (∀ t, t < 2 → r'.2 9 (2 * j + t) = r.2 9 (2 * j + t)) ∧ ∀ t, t < 2 → r'.2 10 (2 * j + t) = r.2 10 (2 * j + t)
theorem v_sum_ge {ws ws' : Nat → Nat} {k : Nat} (h : ∀ j, j ≠ k → ws' j = ws j) : ∀ n, n ≤ k → v_sum ws' n = v_sum ws n := by
  intro n
  induction n with
  | zero => intro _; rfl
  | succ n ih =>
    intro hn
    show v_sum ws' n + ws' n = v_sum ws n + ws n
    rw [ih (by omega), h n (by omega)]
theorem v_sum_up {ws ws' : Nat → Nat} {k : Nat} (h : ∀ j, j ≠ k → ws' j = ws j) : ∀ n, k < n → v_sum ws' n + ws k = v_sum ws n + ws' k := by
  intro n
  induction n with
  | zero => intro hn; exact absurd hn (by omega)
  | succ n ih =>
    intro hn
    show v_sum ws' n + ws' n + ws k = v_sum ws n + ws n + ws' k
    by_cases e : n = k
    · subst e
      rw [v_sum_ge h n (Nat.le_refl _)]
      omega
    · have h1 := ih (by omega)
      rw [h n e]
      omega
theorem v_upd {x r x' r' : g_S} {i k : Nat} {ws : Nat → Nat} {w' : Nat} (hl : ∀ k, k < 10 → v_lot x r k) (hs : v_sum ws 10 ≤ 1000000) (hb : ∀ k, k < 10 → v_lotB r i k (ws k)) (hk : k < 10) (hx : v_oX x x' k) (hr : v_oR r r' k) (h1 : v_lot x' r' k) (h2 : v_lotB r' (i + 1) k w') (h3 : v_sum ws 10 + w' ≤ 1000000 + ws k) : v_lots x' r' (i + 1) := by
  refine ⟨fun j hj => ?_, fun j => if j = k then w' else ws j, ?_, fun j hj => ?_⟩
  · by_cases e : j = k
    · subst e; exact h1
    · obtain ⟨a0, a3, a4, a5⟩ := hx j hj e
      obtain ⟨b1, b2, b3, b4, b5, b6, b7⟩ := hr j hj e
      have b60 := b6 0 (by omega)
      have b61 := b6 1 (by omega)
      have b70 := b7 0 (by omega)
      have b71 := b7 1 (by omega)
      rw [Nat.add_zero] at b60 b70
      have h := hl j hj
      unfold v_lot at h ⊢
      rw [a0 0 (by omega), a0 1 (by omega), a0 2 (by omega), a3, a4, a5, b1, b2, b3, b4, b5, b60, b61, b70, b71]
      exact h
  · have h4 := v_sum_up (ws := ws) (ws' := fun j => if j = k then w' else ws j) (k := k) (fun j hj => if_neg hj) 10 hk
    simp only [if_true] at h4
    omega
  · by_cases e : j = k
    · subst e
      simp only [if_true]
      exact h2
    · simp only [e, if_false]
      obtain ⟨b1, b2, b3, b4, b5, b6, b7⟩ := hr j hj e
      have h := v_lotB_mono (hb j hj)
      obtain ⟨c1, c2, c3⟩ := h
      refine ⟨by rw [b5]; exact c1, fun t ht => ?_, ?_⟩
      · rw [b1, b6 t ht, b7 t ht]
        exact c2 t ht
      · rw [b1, b2, b3, b4]
        exact c3
/-- bounds out of the lots' relation -/
theorem v_lotB_lt {r : g_S} {i k w : Nat} (hi : i ≤ 512) (h : v_lotB r i k w) : ∀ t, t < 2 → ∃ od g, r.2 9 (2 * k + t) = lN od ∧ (r.1 4 k = 1 → r.2 10 (2 * k + t) = lN g) ∧ od * 4294967296 + g * w ≤ 4294967296 * (i * 3000000) ∧ od < 2 ^ 31 ∧ g * w < 2 ^ 63 := by
  intro t ht
  obtain ⟨od, g, h1, h2, h3⟩ := h.2.1 t ht
  have h4 : i * 3000000 ≤ 512 * 3000000 := Nat.mul_le_mul_right _ hi
  have h5 : 4294967296 * (i * 3000000) ≤ 4294967296 * (512 * 3000000) := Nat.mul_le_mul_left _ h4
  refine ⟨od, g, h1, h2, h3, ?_, ?_⟩
  · apply Nat.lt_of_not_le
    intro q
    have : 2 ^ 31 * 4294967296 ≤ od * 4294967296 := Nat.mul_le_mul_right _ q
    omega
  · omega
theorem v_ws_le {ws : Nat → Nat} {k : Nat} : ∀ n, k < n → ws k ≤ v_sum ws n := by
  intro n
  induction n with
  | zero => intro h; exact absurd h (by omega)
  | succ n ih =>
    intro h
    show _ ≤ v_sum ws n + ws n
    by_cases e : n = k
    · subst e; omega
    · have := ih (by omega)
      omega
