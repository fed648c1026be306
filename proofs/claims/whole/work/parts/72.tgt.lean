/-! fees, rises and targets of a leg -/
def u_ds (p q : Nat) : Nat := (p - q) + (q - p)
theorem u_in_ds {d : Int32} {p q D : Nat} (hp : u_pp p) (hq : u_pp q) (hD : D ≤ 1000000) (h : u_way d p q) : u_in d p q D ≤ 50 * u_ds p q := by
  unfold u_pp at hp hq
  unfold u_in u_ds
  rcases h with ⟨rfl, h⟩ | ⟨rfl, h⟩
  · rw [if_pos rfl, q_up_le (by decide), show p - q = 0 by omega, Nat.zero_add, Nat.mul_right_comm]
    exact Nat.mul_le_mul_right _ (by omega)
  · rw [if_neg (by decide), q_up_le (Nat.mul_pos (by omega) (by omega)), show q - p = 0 by omega, Nat.add_zero, Nat.mul_right_comm 50]
    refine Nat.mul_le_mul_right _ ?_
    have h1 : 36223 * 36223 ≤ q * p := Nat.mul_le_mul (by omega) (by omega)
    exact Nat.le_trans (Nat.mul_le_mul_right _ hD) (Nat.le_trans (by decide) (Nat.mul_le_mul_left 50 h1))
theorem u_fee_ds {inn fe s : Nat} (hf : fe ≤ 100) (h : inn ≤ 50 * s) : q_up (inn * fe) (1000 - fe) ≤ 6 * s := by
  rw [q_up_le (by omega)]
  have h1 : inn * fe ≤ 50 * s * fe := Nat.mul_le_mul_right _ h
  have h2 : 50 * s * fe ≤ 50 * s * 100 := Nat.mul_le_mul_left _ hf
  have h3 : 6 * s * 900 ≤ 6 * s * (1000 - fe) := Nat.mul_le_mul_left _ (by omega)
  omega
theorem u_fee_A {inn fe A : Nat} (hf : fe ≤ 100) (h : inn ≤ A * (1000 - fe) / 1000) : inn ≤ A ∧ q_up (inn * fe) (1000 - fe) ≤ A - inn := by
  have h1 := (Nat.le_div_iff_mul_le (by decide)).mp h
  have h0 : inn ≤ A := by
    have : A * (1000 - fe) ≤ A * 1000 := Nat.mul_le_mul_left _ (by omega)
    omega
  refine ⟨h0, ?_⟩
  rw [q_up_le (by omega), Nat.sub_mul]
  have h2 : inn * 1000 = inn * fe + inn * (1000 - fe) := by
    rw [← Nat.mul_add, show fe + (1000 - fe) = 1000 by omega]
  omega
theorem u_feeP {inn fe : Nat} (hi : inn ≤ 2000000) (hf : fe ≤ 100) : f_P_quotient (lN inn * (nI fe).toInt64) ((1000 : Int64) - (nI fe).toInt64) (1 : Int32) = lN (q_up (inn * fe) (1000 - fe)) ∧ f_M_quotient (lN inn * (nI fe).toInt64) ((1000 : Int64) - (nI fe).toInt64) (1 : Int32) = lN (q_up (inn * fe) (1000 - fe)) ∧ k_M_quotient (lN inn * (nI fe).toInt64) ((1000 : Int64) - (nI fe).toInt64) (1 : Int32) := by
  have h1 : inn * fe ≤ 2000000 * 100 := Nat.mul_le_mul hi hf
  rw [nI_l (by omega), show (1000 : Int64) = lN 1000 from rfl, lN_sub (by omega), lN_mul, u_quoP (by omega) (by omega) (by omega), u_quoM (by omega) (by omega), u_q1]
  refine ⟨rfl, rfl, u_kquoM (fun q => ?_) _⟩
  have := (lN_eq (a := 1000 - fe) (b := 0) (by omega) (by decide)).mp q
  omega
theorem u_quo0 (a : Int64) (up : Int32) : f_P_quotient a (lN 0) up = 0 := by
  unfold f_P_quotient
  rw [if_neg (by decide)]
  rfl
/-- the reference's loop over the lots -/
theorem v_legL (σ : g_S) (dn : Int32) (lim : Int64) (r2 : Int32) (x5 r10 x13 x17 : Int64) (x21 : Int32) (q r32 r36 x39 x43 x48 : Int64) (h10 : ¬ r10 ≤ (0 : Int64)) : ∀ (jn jk : Nat) (τ : g_S), jk + jn = 10 →
    (f_M_leg_L380 σ dn lim r2 x5 r10 x13 x17 x21 q r32 r36 x39 x43 x48 jn jk τ).1 = τ.1 ∧ (∀ a b, (a ≠ 13 ∨ b < jk) → (f_M_leg_L380 σ dn lim r2 x5 r10 x13 x17 x21 q r32 r36 x39 x43 x48 jn jk τ).2 a b = τ.2 a b) ∧ (∀ k, jk ≤ k → k < 10 → (f_M_leg_L380 σ dn lim r2 x5 r10 x13 x17 x21 q r32 r36 x39 x43 x48 jn jk τ).2 13 k = τ.2 13 k + (if (τ.1 4 k) = 0 then (0 : Int64) else (if (τ.1 0 21) < (τ.1 6 k) then (0 : Int64) else (if (τ.1 7 k) ≤ (τ.1 0 21) then (0 : Int64) else (x43 * (4294967296 : Int64)) / r10)))) ∧ k_M_leg_L380 σ dn lim r2 x5 r10 x13 x17 x21 q r32 r36 x39 x43 x48 jn jk τ := by
  have n10 : ¬ r10 = 0 := fun w => h10 (by rw [w]; decide)
  intro jn
  induction jn with
  | zero =>
    intro jk τ h
    exact ⟨rfl, fun _ _ _ => rfl, fun k h1 h2 => by omega, True.intro⟩
  | succ jn ih =>
    intro jk τ h
    unfold f_M_leg_L380 k_M_leg_L380
    rw [if_neg h10, if_neg h10]
    generalize hv : (τ.2 13 jk) + (if (τ.1 4 jk) = 0 then (0 : Int64) else (if (τ.1 0 21) < (τ.1 6 jk) then (0 : Int64) else (if (τ.1 7 jk) ≤ (τ.1 0 21) then (0 : Int64) else (x43 * (4294967296 : Int64)) / r10))) = v
    obtain ⟨i1, i2, i3, i4⟩ := ih (jk + 1) (g_L τ 13 jk v) (by omega)
    refine ⟨i1, fun a b hab => ?_, fun k h1 h2 => ?_, u_ite (u_ite (u_ite ⟨n10, True.intro⟩)), i4⟩
    · rw [i2 a b (by omega), g_L2, if_neg (by omega)]
    · by_cases e : k = jk
      · rw [e, i2 13 jk (Or.inr (by omega)), g_L2, if_pos ⟨rfl, rfl⟩, hv]
      · rw [i3 k (by omega) h2, g_L2, if_neg (by omega)]
        rfl
/-- the target -/
theorem v_tgt {x r : g_S} {d c nx nm : Int32} {p lim : Nat} (hd : d = 0 ∨ d = 1) (h1 : x.1 9 1 = d) (h2 : x.1 9 2 = nI lim) (hr : ∀ j, j < 49 → r.2 1 j = lN (u_tab j)) (va : v_at p c.toInt) (hl : u_pp lim) (hw : u_way d p lim)
    (hn : (nx = 1000 ∧ nm = 99) ∨ (nm = nx ∧ -24 ≤ nx.toInt ∧ nx.toInt ≤ 24 ∧ (d = 0 → c.toInt < nx.toInt) ∧ (d = 1 → nx.toInt ≤ c.toInt))) :
    ∃ t, u_pp t ∧ f_D_targetBefore x nx = nI t ∧ k_D_targetBefore x nx ∧
      (if nm = (99 : Int32) then lN lim else (if d = 0 then (if lN lim ≤ (f_M_price r nm) then lN lim else f_M_price r nm) else (if (f_M_price r nm) ≤ lN lim then lN lim else f_M_price r nm))) = lN t ∧
      (if nm = (99 : Int32) then True else (if d = 0 then (k_M_price r nm) ∧ (if lN lim ≤ (f_M_price r nm) then True else (k_M_price r nm) ∧ True) else (k_M_price r nm) ∧ (if (f_M_price r nm) ≤ lN lim then True else (k_M_price r nm) ∧ True))) ∧
      u_way d p t ∧ u_way d t lim ∧ (t = lim ∨ (-24 ≤ nx.toInt ∧ nx.toInt ≤ 24 ∧ t = u_P nx.toInt ∧ (d = 0 → c.toInt < nx.toInt) ∧ (d = 1 → nx.toInt ≤ c.toInt))) := by
  have hl' := hl
  unfold u_pp at hl'
  have self : u_way d lim lim := by
    rcases hd with h | h
    · exact Or.inl ⟨h, Nat.le_refl _⟩
    · exact Or.inr ⟨h, Nat.le_refl _⟩
  unfold f_D_targetBefore k_D_targetBefore
  rcases hn with ⟨rfl, rfl⟩ | ⟨rfl, n1, n2, n3, n4⟩
  · simp only [if_true]
    exact ⟨lim, hl, h2, True.intro, rfl, True.intro, hw, self, Or.inl rfl⟩
  · have x1 : ¬ nm = 1000 := by
      intro w
      rw [w, show (1000 : Int32).toInt = 1000 from rfl] at n2
      omega
    have x2 : ¬ nm = 99 := by
      intro w
      rw [w, show (99 : Int32).toInt = 99 from rfl] at n2
      omega
    obtain ⟨e3, k3⟩ := u_priceP n1 n2
    obtain ⟨e4, k4⟩ := u_priceM hr n1 n2
    have bP := u_P_lo n1 n2
    have ppP : u_pp (u_P nm.toInt) := bP
    simp only [x1, x2, if_false]
    unfold f_D_targetBefore_12_2 k_D_targetBefore_12_2 f_D_targetBefore_33_4 k_D_targetBefore_33_4 f_D_targetBefore_19_9 k_D_targetBefore_19_9 f_D_targetBefore_34_8 k_D_targetBefore_34_8 f_D_targetBefore_20_13 k_D_targetBefore_20_13
    rw [h1, h2, e3, e4]
    obtain ⟨a1, a2, a3, a4, a5, a6⟩ := va
    rcases hd with rfl | rfl
    · simp only [if_true]
      have q1 := n3 rfl
      have q2 := a6 (by omega)
      have q3 := u_P_le (a := c.toInt + 1) (b := nm.toInt) (by omega) (by omega) n2
      by_cases e : lim ≤ u_P nm.toInt
      · have e1 : lN lim ≤ lN (u_P nm.toInt) := (lN_le (by omega) (by omega)).mpr e
        simp only [e1, if_true]
        refine ⟨lim, hl, ?_, ⟨k3, True.intro⟩, rfl, ⟨k4, True.intro⟩, hw, self, Or.inl rfl⟩
        by_cases e2 : lim = u_P nm.toInt
        · rw [← e2, if_neg (nI_nlt (Nat.le_refl _) (by omega))]
        · rw [if_pos (nI_lt (by omega) (by omega))]
      · have e1 : ¬ lN lim ≤ lN (u_P nm.toInt) := fun w => e ((lN_le (by omega) (by omega)).mp w)
        simp only [e1, if_false]
        refine ⟨_, ppP, ?_, ⟨k3, True.intro⟩, rfl, ⟨k4, k4, True.intro⟩, Or.inl ⟨rfl, by omega⟩, Or.inl ⟨rfl, by omega⟩, Or.inr ⟨n1, n2, rfl, fun _ => q1, fun w => absurd w (by decide)⟩⟩
        rw [if_neg (nI_nlt (by omega) (by omega))]
    · simp only [g_10, if_false]
      have q1 := n4 rfl
      have q2 := a5 (by omega)
      have q3 := u_P_le (a := nm.toInt) (b := c.toInt) (by omega) n1 (by omega)
      by_cases e : u_P nm.toInt ≤ lim
      · have e1 : lN (u_P nm.toInt) ≤ lN lim := (lN_le (by omega) (by omega)).mpr e
        simp only [e1, if_true]
        refine ⟨lim, hl, ?_, ⟨k3, True.intro⟩, rfl, ⟨k4, True.intro⟩, hw, self, Or.inl rfl⟩
        by_cases e2 : u_P nm.toInt = lim
        · rw [e2, if_neg (nI_nlt (Nat.le_refl _) (by omega))]
        · rw [if_pos (nI_lt (by omega) (by omega))]
      · have e1 : ¬ lN (u_P nm.toInt) ≤ lN lim := fun w => e ((lN_le (by omega) (by omega)).mp w)
        simp only [e1, if_false]
        refine ⟨_, ppP, ?_, ⟨k3, True.intro⟩, rfl, ⟨k4, k4, True.intro⟩, Or.inr ⟨rfl, by omega⟩, Or.inr ⟨rfl, by omega⟩, Or.inr ⟨n1, n2, rfl, fun w => absurd w (by decide), fun _ => q1⟩⟩
        rw [if_neg (nI_nlt (by omega) (by omega))]
