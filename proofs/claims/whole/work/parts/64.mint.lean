/-! mint -/
theorem u_range {x r : g_S} (h : v_cfg x r) (lo hi : Int32) : ((f_P_isRange x lo hi = 0 ∧ f_M_isRange r lo hi = 0) ∨ (f_P_isRange x lo hi = 1 ∧ f_M_isRange r lo hi = 1 ∧ -24 ≤ lo.toInt ∧ lo.toInt < hi.toInt ∧ hi.toInt ≤ 24)) ∧ k_P_isRange x lo hi ∧ k_M_isRange r lo hi := by
  obtain ⟨e, n0, -⟩ := h
  simp only [f_P_isRange_41_5, f_P_isRange_41_11, f_P_isRange_41_14, f_P_isRange_41_18, f_P_isRange_41_22, f_P_isRange_37_23, f_P_isRange_28_19, f_P_isRange_19_15, f_P_isRange_14_12, f_P_isRange_8_9, f_P_isRange_7_6, f_P_isRange_1_3, f_P_isRange, f_M_isRange_41_5, f_M_isRange_41_11, f_M_isRange_41_14, f_M_isRange_41_18, f_M_isRange_41_22, f_M_isRange_37_23, f_M_isRange_28_19, f_M_isRange_19_15, f_M_isRange_14_12, f_M_isRange_8_9, f_M_isRange_7_6, f_M_isRange_1_3, f_M_isRange, k_P_isRange_41_5, k_P_isRange_41_11, k_P_isRange_41_14, k_P_isRange_41_18, k_P_isRange_41_22, k_P_isRange_37_23, k_P_isRange_28_19, k_P_isRange_19_15, k_P_isRange_14_12, k_P_isRange_8_9, k_P_isRange_7_6, k_P_isRange_1_3, k_P_isRange, k_M_isRange_41_5, k_M_isRange_41_11, k_M_isRange_41_14, k_M_isRange_41_18, k_M_isRange_41_22, k_M_isRange_37_23, k_M_isRange_28_19, k_M_isRange_19_15, k_M_isRange_14_12, k_M_isRange_8_9, k_M_isRange_7_6, k_M_isRange_1_3, k_M_isRange, e]
  rcases u_isStep lo with ⟨a1, a2⟩ | ⟨a1, a2, s1, s2⟩
  · simp only [a1, a2, if_true, and_self, true_or]
  · simp only [a1, a2, g_10, if_false]
    rcases u_isStep hi with ⟨b1, b2⟩ | ⟨b1, b2, s3, s4⟩
    · simp only [b1, b2, if_true, and_self, true_or]
    · simp only [b1, b2, g_10, if_false]
      by_cases c1 : hi ≤ lo
      · simp only [c1, if_true, and_self, true_or]
      · simp only [c1, if_false]
        rw [Int32.le_iff_toInt_le] at c1
        by_cases c2 : lo - lo / r.1 0 0 * r.1 0 0 = 0
        · simp only [c2, if_true]
          by_cases c3 : hi - hi / r.1 0 0 * r.1 0 0 = 0
          · simp only [c3, if_true]
            exact ⟨Or.inr ⟨trivial, trivial, s1, by omega, s4⟩, ⟨n0, n0, True.intro⟩, n0, n0, True.intro⟩
          · simp only [c3, if_false]
            exact ⟨Or.inl ⟨trivial, trivial⟩, ⟨n0, n0, True.intro⟩, n0, n0, True.intro⟩
        · simp only [c2, if_false]
          exact ⟨Or.inl ⟨trivial, trivial⟩, ⟨n0, True.intro⟩, n0, True.intro⟩
/-- the least free place below n -/
def v_lf (r : g_S) : Nat → Option Nat
  | 0 => none
  | n + 1 => Option.elim (v_lf r n) (if r.1 4 n = 0 then some n else none) some
theorem v_lf_mono {r : g_S} {n k : Nat} (h : v_lf r n = some k) : ∀ d, v_lf r (n + d) = some k := by
  intro d
  induction d with
  | zero => exact h
  | succ d ih =>
    show Option.elim (v_lf r (n + d)) _ some = some k
    rw [ih]
    rfl
theorem v_lf_free {r : g_S} {k : Nat} : ∀ n, v_lf r n = some k → k < n ∧ r.1 4 k = 0 := by
  intro n
  induction n with
  | zero => intro h; exact absurd h (by intro q; cases q)
  | succ n ih =>
    intro h
    have h : Option.elim (v_lf r n) (if r.1 4 n = 0 then some n else none) some = some k := h
    cases e : v_lf r n with
    | none =>
      rw [e] at h
      have h : (if r.1 4 n = 0 then some n else none) = some k := h
      by_cases c : r.1 4 n = 0
      · rw [if_pos c] at h
        have := Option.some.inj h
        subst this
        exact ⟨by omega, c⟩
      · rw [if_neg c] at h
        exact absurd h (by intro q; cases q)
    | some j =>
      rw [e] at h
      have := Option.some.inj h
      subst this
      have := ih e
      exact ⟨by omega, this.2⟩
theorem v_thereX {x r : g_S} {k : Nat} (h : v_lot x r k) : f_T_isThere x k = 0 ↔ r.1 4 k = 0 := by
  rw [v_there]
  rcases h.2 with ⟨t, w, w0, w1⟩ | ⟨t, nz, -⟩
  · rw [w, w0, w1, t]
    decide
  · rw [t]
    constructor
    · intro q
      exfalso
      by_cases a1 : x.2 (k + 14) 3 = 0
      · by_cases a2 : x.2 (k + 24) 0 = 0
        · by_cases a3 : x.2 (k + 24) 1 = 0
          · exact nz ⟨a1, a2, a3⟩
          · simp [a1, a2, a3] at q
        · simp [a1, a2] at q
      · simp [a1] at q
    · intro q
      exact absurd q (by decide)
theorem v_freeX {x r : g_S} (h : ∀ k, k < 10 → v_lot x r k) (o lo hi : Int32) : ∀ jn jk, jk + jn = 10 → v_lf r jk = none → f_B_findOrFree_L12 x o lo hi jn jk = v_lf r 10 := by
  intro jn
  induction jn with
  | zero =>
    intro jk hk hn
    have e : jk = 10 := by omega
    subst e
    exact hn.symm
  | succ jn ih =>
    intro jk hk hn
    have e : f_B_findOrFree_L12 x o lo hi (jn + 1) jk = if f_T_isThere x jk = 0 then (if (10 : Int32) ≤ (Int32.ofNat (jk + 1)) then (some jk) else (some jk)) else f_B_findOrFree_L12 x o lo hi jn (jk + 1) := rfl
    have ht := v_thereX (h jk (by omega))
    have e2 : v_lf r (jk + 1) = if r.1 4 jk = 0 then some jk else none := by
      show Option.elim (v_lf r jk) _ some = _
      rw [hn]
      rfl
    rw [e]
    by_cases c : f_T_isThere x jk = 0
    · rw [if_pos c, ite_self]
      rw [if_pos (ht.mp c)] at e2
      have := v_lf_mono e2 jn
      rw [show jk + 1 + jn = 10 by omega] at this
      exact this.symm
    · rw [if_neg c]
      rw [if_neg (fun q => c (ht.mpr q))] at e2
      exact ih (jk + 1) (by omega) e2
theorem v_fof {x r : g_S} (h : ∀ k, k < 10 → v_lot x r k) (o lo hi : Int32) : f_B_findOrFree x o lo hi = Option.elim (f_B_find x o lo hi) (v_lf r 10) some := by
  unfold f_B_findOrFree
  cases f_B_find x o lo hi with
  | none => exact v_freeX h o lo hi 10 0 rfl rfl
  | some k =>
    show (if (10 : Int32) ≤ (0 : Int32) then some k else some k) = some k
    rw [ite_self]
theorem v_mloop {x r : g_S} {i : Nat} {ws : Nat → Nat} (hl : ∀ k, k < 10 → v_lot x r k) (hb : ∀ k, k < 10 → v_lotB r i k (ws k)) (o lo hi q a b c : Int32) : ∀ n, n ≤ 10 → ∀ (A : Nat) (f : Int32), f_M_mint_L65 r o lo hi q a b c n (lN A) f = (lN (A + v_sum ws n), Option.elim (v_lf r n) f (fun k => nI k)) := by
  intro n
  induction n with
  | zero => intro _ A f; rfl
  | succ n ih =>
    intro hn A f
    have e : f_M_mint_L65 r o lo hi q a b c (n + 1) (lN A) f = f_M_mint_L65 r o lo hi q a b c n (lN A + (if r.1 4 n = 0 then (0 : Int64) else r.2 8 n)) (if r.1 4 n = 0 then Int32.ofNat n else f) := rfl
    have e1 : (if r.1 4 n = 0 then (0 : Int64) else r.2 8 n) = lN (ws n) := by
      have hw := (hb n (by omega)).1
      obtain ⟨⟨l1, -⟩, l2⟩ := hl n (by omega)
      by_cases c0 : r.1 4 n = 0
      · rw [if_pos c0]
        rcases l2 with ⟨-, w, -⟩ | ⟨t, -⟩
        · rw [← hw, ← l1, w]
        · rw [t] at c0
          exact absurd c0 (by decide)
      · rw [if_neg c0, hw]
    rw [e, e1, lN_add, ih (by omega)]
    have e2 : v_lf r (n + 1) = Option.elim (v_lf r n) (if r.1 4 n = 0 then some n else none) some := rfl
    rw [e2]
    refine Prod.ext ?_ ?_
    · show lN (A + ws n + v_sum ws n) = lN (A + (v_sum ws n + ws n))
      congr 1
      omega
    · show Option.elim (v_lf r n) (if r.1 4 n = 0 then Int32.ofNat n else f) (fun k => nI k) = _
      cases v_lf r n with
      | none =>
        show (if r.1 4 n = 0 then Int32.ofNat n else f) = Option.elim (if r.1 4 n = 0 then some n else none) f (fun k => nI k)
        by_cases c0 : r.1 4 n = 0
        · rw [if_pos c0, if_pos c0]; rfl
        · rw [if_neg c0, if_neg c0]; rfl
      | some k => rfl
theorem v_total {x r : g_S} {i : Nat} {ws : Nat → Nat} (hl : ∀ k, k < 10 → v_lot x r k) (hb : ∀ k, k < 10 → v_lotB r i k (ws k)) : f_B_totalLiquidity x = lN (v_sum ws 10) := by
  have key : ∀ jn jk, jk + jn = 10 → f_B_totalLiquidity_L14 x jn jk (lN (v_sum ws jk)) = lN (v_sum ws 10) := by
    intro jn
    induction jn with
    | zero =>
      intro jk hk
      have e : jk = 10 := by omega
      subst e
      rfl
    | succ jn ih =>
      intro jk hk
      show f_B_totalLiquidity_L14 x jn (jk + 1) (lN (v_sum ws jk) + x.2 (jk + 14) 3) = _
      rw [(hl jk (by omega)).1.1, (hb jk (by omega)).1, lN_add]
      exact ih (jk + 1) (by omega)
  exact key 10 0 rfl
/-- the two ways in which the reference's text goes on are one -/
theorem v_m90 (r : g_S) (o lo hi q a b c : Int32) (A : Int64) (f : Int32) : f_M_mint_131_90 r o lo hi q a b c A f = f_M_mint_131_33 r o lo hi q a b c A f := rfl
theorem v_mk90 (r : g_S) (o lo hi q a b c : Int32) (A : Int64) (f : Int32) : k_M_mint_131_90 r o lo hi q a b c A f = k_M_mint_131_33 r o lo hi q a b c A f := rfl
/-- what both have got before the settling: the lot's numbers -/
def v_yz (y Y z Z : g_S) (i k w o0 o1 s0 s1 a : Nat) (lo hi : Int32) : Prop :=
  (Y.1 (k + 14) 0 = nI a ∧ Y.1 (k + 14) 1 = lo ∧ Y.1 (k + 14) 2 = hi ∧ (∀ p, p ≠ k + 14 → Y.1 p = y.1 p) ∧ Y.2 = y.2) ∧
  (Z.1 4 k = 1 ∧ Z.1 5 k = nI a ∧ Z.1 6 k = lo ∧ Z.1 7 k = hi ∧ (∀ p, p ≠ 4 → p ≠ 5 → p ≠ 6 → p ≠ 7 → Z.1 p = z.1 p) ∧ (∀ p j, j ≠ k → Z.1 p j = z.1 p j)) ∧
  ((∀ p, p ≠ 8 → p ≠ 9 → p ≠ 10 → Z.2 p = z.2 p) ∧ (∀ j, j ≠ k → Z.2 8 j = z.2 8 j) ∧ (∀ j, j ≠ 2 * k → j ≠ 2 * k + 1 → Z.2 9 j = z.2 9 j ∧ Z.2 10 j = z.2 10 j)) ∧
  (Z.2 8 k = lN w ∧ Z.2 9 (2 * k) = lN o0 ∧ Z.2 9 (2 * k + 1) = lN o1 ∧ Z.2 10 (2 * k) * lN w / (4294967296 : Int64) = lN s0 ∧ Z.2 10 (2 * k + 1) * lN w / (4294967296 : Int64) = lN s1) ∧
  (y.2 (k + 14) 3 = lN w ∧ y.2 (k + 24) 0 = lN o0 ∧ y.2 (k + 24) 1 = lN o1 ∧ y.2 (k + 34) 0 * lN w / (4294967296 : Int64) = lN s0 ∧ y.2 (k + 34) 1 * lN w / (4294967296 : Int64) = lN s1) ∧ o0 + s0 ≤ i * 3000000 ∧ o1 + s1 ≤ i * 3000000
