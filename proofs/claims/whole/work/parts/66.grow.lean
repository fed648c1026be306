/-! growth: the loops over the lots -/
theorem v_clear (x0 : g_S) : ∀ (jn jk : Nat) (τ : g_S), jk + jn = 10 → (f_B_clearPendingGrowth_L10 x0 jn jk τ).1 = τ.1 ∧ (∀ p j, (p < jk + 14 ∨ 24 ≤ p ∨ j ≠ 6) → (f_B_clearPendingGrowth_L10 x0 jn jk τ).2 p j = τ.2 p j) ∧ ∀ k, jk ≤ k → k < 10 → (f_B_clearPendingGrowth_L10 x0 jn jk τ).2 (k + 14) 6 = 0 := by
  intro jn
  induction jn with
  | zero => intro jk τ h; exact ⟨rfl, fun _ _ _ => rfl, fun k h1 h2 => absurd h1 (by omega)⟩
  | succ jn ih =>
    intro jk τ h
    obtain ⟨h1, h2, h3⟩ := ih (jk + 1) (g_L τ (jk + 14) 6 (0 : Int64)) (by omega)
    refine ⟨h1, fun p j q => ?_, fun k k1 k2 => ?_⟩
    · refine (h2 p j (by omega)).trans ?_
      rw [g_L2, if_neg (by omega)]
    · by_cases e : k = jk
      · subst e
        refine (h2 _ _ (by omega)).trans ?_
        rw [g_L2s]
      · exact h3 k (by omega) k2
theorem v_inR_cg {x y : g_S} (h : y.1 = x.1) (k : Nat) (n : Int32) : f_T_isInRange y k n = f_T_isInRange x k n := by
  rw [v_inR, v_inR, h]
theorem v_growP (x0 : g_S) (n : Int32) (fe w ri : Int64) : ∀ (jn jk : Nat) (τ : g_S), jk + jn = 10 → (f_B_growPending_L27 x0 n fe w ri jn jk τ).1 = τ.1 ∧ (∀ p j, (p < jk + 14 ∨ 24 ≤ p ∨ j ≠ 6) → (f_B_growPending_L27 x0 n fe w ri jn jk τ).2 p j = τ.2 p j) ∧ ∀ k, jk ≤ k → k < 10 → (f_B_growPending_L27 x0 n fe w ri jn jk τ).2 (k + 14) 6 = τ.2 (k + 14) 6 + (if f_T_isInRange τ k n = 0 then 0 else ri) := by
  intro jn
  induction jn with
  | zero => intro jk τ h; exact ⟨rfl, fun _ _ _ => rfl, fun k h1 h2 => absurd h1 (by omega)⟩
  | succ jn ih =>
    intro jk τ h
    obtain ⟨h1, h2, h3⟩ := ih (jk + 1) (if f_T_isInRange τ jk n = 0 then τ else g_L τ (jk + 14) 6 (τ.2 (jk + 14) 6 + ri)) (by omega)
    have e1 : (if f_T_isInRange τ jk n = 0 then τ else g_L τ (jk + 14) 6 (τ.2 (jk + 14) 6 + ri)).1 = τ.1 := by
      split <;> rfl
    refine ⟨h1.trans e1, fun p j q => ?_, fun k k1 k2 => ?_⟩
    · refine (h2 p j (by omega)).trans ?_
      by_cases c : f_T_isInRange τ jk n = 0
      · rw [if_pos c]
      · rw [if_neg c, g_L2, if_neg (by omega)]
    · by_cases e : k = jk
      · subst e
        refine (h2 _ _ (by omega)).trans ?_
        by_cases c : f_T_isInRange τ k n = 0
        · rw [if_pos c, if_pos c, Int64.add_zero]
        · rw [if_neg c, if_neg c, g_L2s]
      · refine (h3 k (by omega) k2).trans ?_
        have e2 : f_T_isInRange (if f_T_isInRange τ jk n = 0 then τ else g_L τ (jk + 14) 6 (τ.2 (jk + 14) 6 + ri)) k n = f_T_isInRange τ k n := by
          exact v_inR_cg e1 k n
        rw [e2]
        congr 1
        by_cases c : f_T_isInRange τ jk n = 0
        · rw [if_pos c]
        · rw [if_neg c, g_L2p _ _ (by omega)]
theorem v_keep (x0 : g_S) {t : Nat} (ht : t < 2) : ∀ (jn jk : Nat) (τ : g_S), jk + jn = 10 → (f_B_keepPendingGrowth_L11 x0 (nI t) jn jk τ).1 = τ.1 ∧ (∀ p j, (p < jk + 34 ∨ 44 ≤ p ∨ j ≠ t) → (f_B_keepPendingGrowth_L11 x0 (nI t) jn jk τ).2 p j = τ.2 p j) ∧ (∀ k, jk ≤ k → k < 10 → (f_B_keepPendingGrowth_L11 x0 (nI t) jn jk τ).2 (k + 34) t = τ.2 (k + 34) t + τ.2 (k + 14) 6) ∧ k_B_keepPendingGrowth_L11 x0 (nI t) jn jk τ := by
  intro jn
  have et : (nI t).toNatClampNeg = t := u_cl (by omega)
  have qt : vp_in (nI t) 2 := u_inN ht (by omega)
  induction jn with
  | zero => intro jk τ h; exact ⟨rfl, fun _ _ _ => rfl, fun k h1 h2 => absurd h1 (by omega), True.intro⟩
  | succ jn ih =>
    intro jk τ h
    have e : f_B_keepPendingGrowth_L11 x0 (nI t) (jn + 1) jk τ = f_B_keepPendingGrowth_L11 x0 (nI t) jn (jk + 1) (g_L τ (jk + 34) t (τ.2 (jk + 34) t + τ.2 (jk + 14) 6)) := by
      show f_B_keepPendingGrowth_L11 x0 (nI t) jn (jk + 1) (g_L τ (jk + 34) (nI t).toNatClampNeg (τ.2 (jk + 34) (nI t).toNatClampNeg + τ.2 (jk + 14) 6)) = _
      rw [et]
    have ke : k_B_keepPendingGrowth_L11 x0 (nI t) (jn + 1) jk τ = (vp_in (nI t) 2 ∧ vp_in (nI t) 2 ∧ k_B_keepPendingGrowth_L11 x0 (nI t) jn (jk + 1) (g_L τ (jk + 34) t (τ.2 (jk + 34) t + τ.2 (jk + 14) 6))) := by
      show (vp_in (nI t) 2 ∧ vp_in (nI t) 2 ∧ k_B_keepPendingGrowth_L11 x0 (nI t) jn (jk + 1) (g_L τ (jk + 34) (nI t).toNatClampNeg (τ.2 (jk + 34) (nI t).toNatClampNeg + τ.2 (jk + 14) 6))) = _
      rw [et]
    obtain ⟨h1, h2, h3, h4⟩ := ih (jk + 1) (g_L τ (jk + 34) t (τ.2 (jk + 34) t + τ.2 (jk + 14) 6)) (by omega)
    rw [e, ke]
    refine ⟨h1, fun p j q => ?_, fun k k1 k2 => ?_, qt, qt, h4⟩
    · refine (h2 p j (by omega)).trans ?_
      rw [g_L2, if_neg (by omega)]
    · by_cases ek : k = jk
      · subst ek
        refine (h2 _ _ (by omega)).trans ?_
        rw [g_L2s]
      · refine (h3 k (by omega) k2).trans ?_
        rw [g_L2p _ _ (by omega), g_L2p _ _ (by omega)]
/-- the depth as a number -/
def v_dp (r : g_S) (ws : Nat → Nat) (c : Int32) : Nat → Nat
  | 0 => 0
  | n + 1 => v_dp r ws c n + (if r.1 4 n = 0 then 0 else (if c < r.1 6 n then 0 else (if r.1 7 n ≤ c then 0 else ws n)))
theorem v_dp_le (r : g_S) (ws : Nat → Nat) (c : Int32) : ∀ n, v_dp r ws c n ≤ v_sum ws n := by
  intro n
  induction n with
  | zero => exact Nat.le_refl _
  | succ n ih =>
    show v_dp r ws c n + _ ≤ v_sum ws n + ws n
    refine Nat.add_le_add ih ?_
    split
    · omega
    · split
      · omega
      · split
        · omega
        · exact Nat.le_refl _
theorem v_dp_ge (r : g_S) (ws : Nat → Nat) (c : Int32) {k : Nat} (h1 : ¬ r.1 4 k = 0) (h2 : ¬ c < r.1 6 k) (h3 : ¬ r.1 7 k ≤ c) : ∀ n, k < n → ws k ≤ v_dp r ws c n := by
  intro n
  induction n with
  | zero => intro h; exact absurd h (by omega)
  | succ n ih =>
    intro h
    show _ ≤ v_dp r ws c n + _
    by_cases e : n = k
    · subst e
      rw [if_neg h1, if_neg h2, if_neg h3]
      omega
    · have := ih (by omega)
      omega
theorem v_dpM {r : g_S} {i : Nat} {ws : Nat → Nat} (hb : ∀ k, k < 10 → v_lotB r i k (ws k)) (c : Int32) : f_M_depthAt r c = lN (v_dp r ws c 10) := by
  have key : ∀ jn jk, jk + jn = 10 → f_M_depthAt_L5 r c jn jk (lN (v_dp r ws c jk)) = lN (v_dp r ws c 10) := by
    intro jn
    induction jn with
    | zero =>
      intro jk hk
      have e : jk = 10 := by omega
      subst e
      rfl
    | succ jn ih =>
      intro jk hk
      show f_M_depthAt_L5 r c jn (jk + 1) (lN (v_dp r ws c jk) + _) = _
      have e : (if r.1 4 jk = 0 then (0 : Int64) else (if c < r.1 6 jk then (0 : Int64) else (if r.1 7 jk ≤ c then (0 : Int64) else r.2 8 jk))) = lN (if r.1 4 jk = 0 then 0 else (if c < r.1 6 jk then 0 else (if r.1 7 jk ≤ c then 0 else ws jk))) := by
        rw [(hb jk (by omega)).1]
        split
        · rfl
        · split
          · rfl
          · split
            · rfl
            · rfl
      rw [e, lN_add]
      exact ih (jk + 1) (by omega)
  exact key 10 0 rfl
theorem v_growL {x r x' r' : g_S} {i : Nat} {ws : Nat → Nat} (hl : ∀ k, k < 10 → v_lot x r k) (hs : v_sum ws 10 ≤ 1000000) (hb : ∀ k, k < 10 → v_lotB r i k (ws k)) (d : Nat → Nat → Int64) (dn : Nat → Nat → Nat)
    (x1 : ∀ k s, k < 10 → s < 3 → x'.1 (k + 14) s = x.1 (k + 14) s) (x2 : ∀ k, k < 10 → x'.2 (k + 14) 3 = x.2 (k + 14) 3 ∧ x'.2 (k + 24) = x.2 (k + 24)) (x3 : ∀ k t, k < 10 → t < 2 → x'.2 (k + 34) t = x.2 (k + 34) t + d k t)
    (r1 : r'.1 4 = r.1 4 ∧ r'.1 5 = r.1 5 ∧ r'.1 6 = r.1 6 ∧ r'.1 7 = r.1 7 ∧ r'.2 8 = r.2 8 ∧ r'.2 9 = r.2 9) (r3 : ∀ k t, k < 10 → t < 2 → r.1 4 k = 1 → r'.2 10 (2 * k + t) = r.2 10 (2 * k + t) + d k t)
    (hd : ∀ k t, k < 10 → t < 2 → r.1 4 k = 1 → d k t = lN (dn k t) ∧ dn k t * ws k ≤ 4294967296 * 3000000) : v_lots x' r' (i + 1) := by
  obtain ⟨b1, b2, b3, b4, b5, b6⟩ := r1
  refine ⟨fun k hk => ?_, ws, hs, fun k hk => ?_⟩
  · obtain ⟨e1, e2⟩ := hl k hk
    obtain ⟨y1, y2⟩ := x2 k hk
    unfold v_lot
    rw [x1 k 0 hk (by omega), x1 k 1 hk (by omega), x1 k 2 hk (by omega), y1, y2, b1, b2, b3, b4, b5, b6]
    refine ⟨e1, ?_⟩
    rcases e2 with q | ⟨t, nz, m0, m1, m2, m3, m4⟩
    · exact Or.inl q
    · have g0 := r3 k 0 hk (by omega) t
      have g1 := r3 k 1 hk (by omega) t
      rw [Nat.add_zero] at g0
      refine Or.inr ⟨t, nz, m0, m1, m2, ?_, ?_⟩
      · rw [x3 k 0 hk (by omega), m3, g0]
      · rw [x3 k 1 hk (by omega), m4, g1]
  · obtain ⟨c1, c2, c3⟩ := hb k hk
    refine ⟨by rw [b5]; exact c1, fun t ht => ?_, ?_⟩
    · obtain ⟨od, g, e1, e2, e3⟩ := c2 t ht
      rw [b1, b6]
      by_cases c : r.1 4 k = 1
      · obtain ⟨f1, f2⟩ := hd k t hk ht c
        refine ⟨od, g + dn k t, e1, fun _ => ?_, ?_⟩
        · rw [r3 k t hk ht c, e2 c, f1, lN_add]
        · have q1 : 4294967296 * ((i + 1) * 3000000) = 4294967296 * (i * 3000000) + 4294967296 * 3000000 := by rw [show (i + 1) * 3000000 = i * 3000000 + 3000000 from Nat.succ_mul _ _, Nat.mul_add]
          rw [q1, Nat.add_mul, ← Nat.add_assoc]
          exact Nat.add_le_add e3 f2
      · refine ⟨od, g, e1, fun q => absurd q c, ?_⟩
        exact Nat.le_trans e3 (Nat.mul_le_mul_left _ (Nat.mul_le_mul_right _ (Nat.le_succ i)))
    · rw [b1, b2, b3, b4]
      exact c3
/-- a rise, and what it is worth to a lot in range -/
theorem v_rise {f D : Nat} (hf : f ≤ 3000000) (h0 : 0 < D) (hD : D ≤ 1000000) : f_P_quotient (lN f * (4294967296 : Int64)) (lN D) (0 : Int32) = lN (f * 4294967296 / D) ∧ lN f * (4294967296 : Int64) / lN D = lN (f * 4294967296 / D) := by
  have h1 : f * 4294967296 ≤ 3000000 * 4294967296 := Nat.mul_le_mul_right _ hf
  rw [show (4294967296 : Int64) = lN 4294967296 from rfl, lN_mul]
  exact ⟨u_quoP (by omega) h0 (by omega) 0, pk_lDiv (by omega) h0 (by omega)⟩
theorem v_rise_le {f D w : Nat} (h0 : 0 < D) (hw : w ≤ D) : f * 4294967296 / D * w ≤ 4294967296 * f := by
  refine Nat.le_trans (Nat.mul_le_mul_left _ hw) ?_
  rw [Nat.mul_comm 4294967296 f]
  exact Nat.div_mul_le_self _ _
