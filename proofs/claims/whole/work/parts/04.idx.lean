/-! numbers that index; booleans; tests of loops -/
theorem g_nlt {i : Int32} {n : Nat} (h : vp_in i n) : i.toNatClampNeg < n := Nat.not_le.mp fun q => h (Or.inr q)
theorem g_nge {i : Int32} {n : Nat} (h : vp_in i n) : 0 ≤ i := by
  have h1 : ¬ i < 0 := fun q => h (Or.inl q)
  rw [Int32.lt_iff_toInt_lt] at h1
  rw [Int32.le_iff_toInt_le]
  omega
theorem g_eix {x : Int32} {j n : Nat} (h : x = Int32.ofNat j) (hj : j < n) (hn : n ≤ 2147483648) : vp_in x n := by
  subst h
  intro q
  rcases q with q | q
  · rw [Int32.lt_iff_toInt_lt, Int32.toInt_ofNat_of_lt (by omega)] at q
    have h0 : (0 : Int32).toInt = 0 := rfl
    omega
  · rw [Int32.toNatClampNeg_ofNat_of_lt (by omega)] at q
    omega
theorem g_ena {x : Int32} {j : Nat} (h : x = Int32.ofNat j) (hj : j < 2147483648) : x.toNatClampNeg = j := by
  subst h
  exact Int32.toNatClampNeg_ofNat_of_lt (by omega)
theorem g_eadd {x y : Int32} {a b : Nat} (h1 : x = Int32.ofNat a) (h2 : y = Int32.ofNat b) : x + y = Int32.ofNat (a + b) := by
  rw [h1, h2, Int32.ofNat_add]
theorem g_emul {x y : Int32} {a b : Nat} (h1 : x = Int32.ofNat a) (h2 : y = Int32.ofNat b) : x * y = Int32.ofNat (a * b) := by
  rw [h1, h2, Int32.ofNat_mul]
theorem g_esub {x y : Int32} {a b : Nat} (h1 : x = Int32.ofNat a) (h2 : y = Int32.ofNat b) (h : b ≤ a) : x - y = Int32.ofNat (a - b) := by
  rw [h1, h2, Int32.ofNat_sub _ _ h]
theorem g_lt {k N : Nat} (h : k < N) (hN : N < 2147483648) : ¬ Int32.ofNat N ≤ Int32.ofNat k := by
  rw [Int32.ofNat_le_iff_le (by omega) (by omega)]
  omega
theorem g_inc (k : Nat) : Int32.ofNat k + Int32.ofInt 1 = Int32.ofNat (k + 1) := by
  rw [Int32.ofNat_add]
  rfl
theorem g_inco (k : Nat) : Int32.ofNat k + (-24 : Int32) + Int32.ofInt 1 = Int32.ofNat (k + 1) + (-24 : Int32) := by
  rw [← g_inc, Int32.add_assoc, Int32.add_comm (-24 : Int32), ← Int32.add_assoc]
theorem g_dn (n : Nat) : Int32.ofNat (n + 1) + (-1 : Int32) = Int32.ofNat n := by
  rw [← g_inc, Int32.add_assoc]
  have h : Int32.ofInt 1 + (-1 : Int32) = 0 := by decide
  rw [h, Int32.add_zero]
theorem g_dno (n : Nat) : Int32.ofNat n + (-24 : Int32) + Int32.ofInt (-1) = Int32.ofNat n + (-1 : Int32) + (-24 : Int32) := by
  rw [Int32.add_assoc, Int32.add_comm (-24 : Int32), ← Int32.add_assoc]
  rfl
theorem g_nneg {n : Nat} (h : n < 2147483648) : ¬ Int32.ofNat n < 0 := by
  rw [Int32.lt_iff_toInt_lt, Int32.toInt_ofNat_of_lt (by omega)]
  have h0 : (0 : Int32).toInt = 0 := rfl
  omega
theorem g_c49a' : ∀ n : Fin 49, ¬ Int32.ofNat n.val + (-24 : Int32) < (-24 : Int32) := by decide +kernel
theorem g_c49a {n : Nat} (h : n < 49) : ¬ Int32.ofNat n + (-24 : Int32) < (-24 : Int32) := g_c49a' ⟨n, h⟩
theorem g_c49b' : ∀ n : Fin 49, ¬ (24 : Int32) < Int32.ofNat n.val + (-24 : Int32) := by decide +kernel
theorem g_c49b {n : Nat} (h : n < 49) : ¬ (24 : Int32) < Int32.ofNat n + (-24 : Int32) := g_c49b' ⟨n, h⟩
theorem g_geN {k N : Nat} (h : k = N) : Int32.ofNat N ≤ Int32.ofNat k := by
  subst h
  exact Int32.le_refl _
theorem g_c49e {k : Nat} (h : k = 49) : (24 : Int32) < Int32.ofNat k + (-24 : Int32) := by
  subst h
  decide
theorem g_nar {v : Int32} (h : v = 0 ∨ v = 1) : narrow .boolean (.int v) = .int v := by
  rcases h with rfl | rfl
  · decide
  · decide
theorem g_zr {v : Int32} (h : v = 0 ∨ v = 1) : narrow .boolean (.int v) = .int v := g_nar h
theorem g_narv {v : Int32} (h : v = 0 ∨ v = 1) : vp_nar .boolean v = v := by
  unfold vp_nar
  rw [g_nar h]
theorem g_out3 {x : Int32} (h0 : ¬ x = 0) (h1 : ¬ x = 1) (h2 : ¬ x = 2) : x.toInt < 0 ∨ (2 : Int) < x.toInt := by
  rw [← Int32.toInt_inj] at h0 h1 h2
  have e0 : (0 : Int32).toInt = 0 := rfl
  have e1 : (1 : Int32).toInt = 1 := rfl
  have e2 : (2 : Int32).toInt = 2 := rfl
  omega
theorem g_ob2 {m : Int32} (h : 0 < m ∧ m ≤ 8) : 1 ≤ m.toNatClampNeg ∧ m.toNatClampNeg ≤ 8 := by
  obtain ⟨h1, h2⟩ := h
  rw [Int32.lt_iff_toInt_lt] at h1
  rw [Int32.le_iff_toInt_le] at h2
  have e0 : (0 : Int32).toInt = 0 := rfl
  have e8 : (8 : Int32).toInt = 8 := rfl
  have e := Int32.toNat_toInt m
  omega
theorem g_ob0 {m : Int32} {k : Nat} (h : 0 < m ∧ m ≤ 8) (hk : k = m.toNatClampNeg - 1) : m ≤ Int32.ofNat k + (1 : Int32) := by
  have h1 := g_ob2 h
  have h2 : Int32.ofNat k + (1 : Int32) = m := by
    have h3 : Int32.ofNat k + Int32.ofInt 1 = Int32.ofNat (k + 1) := g_inc k
    have h4 : k + 1 = m.toNatClampNeg := by omega
    rw [h4, Int32.ofNat_toNatClampNeg m (Int32.le_of_lt h.1)] at h3
    exact h3
  rw [h2]
  exact Int32.le_refl _
theorem g_ob1 {m : Int32} {k : Nat} (h : 0 < m ∧ m ≤ 8) (hk : k + 1 < m.toNatClampNeg) : ¬ m ≤ Int32.ofNat k + (1 : Int32) := by
  have h1 := g_ob2 h
  have h3 : Int32.ofNat k + (1 : Int32) = Int32.ofNat (k + 1) := g_inc k
  have h4 : Int32.ofNat m.toNatClampNeg = m := Int32.ofNat_toNatClampNeg m (Int32.le_of_lt h.1)
  rw [h3]
  have h5 := g_lt (k := k + 1) (N := m.toNatClampNeg) hk (by omega)
  rw [h4] at h5
  exact h5
theorem g_fitz {v : Int32} (h : v = 0 ∨ v = 1) : fits .boolean (.int v) = true := by
  rcases h with rfl | rfl
  · decide
  · decide
