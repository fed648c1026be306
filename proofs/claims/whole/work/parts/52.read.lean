/-! reading behind a write -/
theorem g_I1 (σ : g_S) (p k : Nat) (v : Int32) (p' k' : Nat) : (g_I σ p k v).1 p' k' = if p' = p ∧ k' = k then v else σ.1 p' k' := rfl
theorem g_I2 (σ : g_S) (p k : Nat) (v : Int32) : (g_I σ p k v).2 = σ.2 := rfl
theorem g_L1 (σ : g_S) (p k : Nat) (v : Int64) : (g_L σ p k v).1 = σ.1 := rfl
theorem g_L2 (σ : g_S) (p k : Nat) (v : Int64) (p' k' : Nat) : (g_L σ p k v).2 p' k' = if p' = p ∧ k' = k then v else σ.2 p' k' := rfl
/-- a place for a lot in the class (x) and in the reference (r) -/
def v_lot (x r : g_S) (k : Nat) : Prop :=
  (x.2 (k + 14) 3 = r.2 8 k ∧ x.2 (k + 24) 0 = r.2 9 (2 * k) ∧ x.2 (k + 24) 1 = r.2 9 (2 * k + 1)) ∧
  ((r.1 4 k = 0 ∧ x.2 (k + 14) 3 = 0 ∧ x.2 (k + 24) 0 = 0 ∧ x.2 (k + 24) 1 = 0) ∨
   (r.1 4 k = 1 ∧ ¬ (x.2 (k + 14) 3 = 0 ∧ x.2 (k + 24) 0 = 0 ∧ x.2 (k + 24) 1 = 0) ∧ x.1 (k + 14) 0 = r.1 5 k ∧ x.1 (k + 14) 1 = r.1 6 k ∧ x.1 (k + 14) 2 = r.1 7 k ∧ x.2 (k + 34) 0 = r.2 10 (2 * k) ∧ x.2 (k + 34) 1 = r.2 10 (2 * k + 1)))
theorem v_inR (x : g_S) (k : Nat) (c : Int32) : f_T_isInRange x k c = if c < x.1 (k + 14) 1 then 0 else if x.1 (k + 14) 2 ≤ c then 0 else 1 := rfl
theorem v_there (x : g_S) (k : Nat) : f_T_isThere x k = if x.2 (k + 14) 3 = 0 then (if x.2 (k + 24) 0 = 0 then (if x.2 (k + 24) 1 = 0 then 0 else 1) else 1) else 1 := rfl
theorem v_isFor (x : g_S) (k : Nat) (o lo hi : Int32) : f_T_isFor x k o lo hi = if x.1 (k + 14) 0 = o then (if x.1 (k + 14) 1 = lo then (if x.1 (k + 14) 2 = hi then 1 else 0) else 0) else 0 := rfl
theorem v_depth1 {x r : g_S} {k : Nat} (h : v_lot x r k) (c : Int32) (a : Int64) : (if f_T_isInRange x k c = 0 then a else a + x.2 (k + 14) 3) = a + (if r.1 4 k = 0 then (0 : Int64) else (if c < r.1 6 k then (0 : Int64) else (if r.1 7 k ≤ c then (0 : Int64) else r.2 8 k))) := by
  obtain ⟨⟨h1, -, -⟩, h⟩ := h
  rcases h with ⟨t, w, -⟩ | ⟨t, -, -, e1, e2, -⟩
  · rw [if_pos t, w, Int64.add_zero, ite_self]
  · have t0 : ¬ r.1 4 k = 0 := by rw [t]; decide
    have n1 : ¬ (1 : Int32) = 0 := by decide
    rw [v_inR, e1, e2, h1]
    by_cases c1 : c < r.1 6 k
    · simp only [t0, c1, if_true, if_false, Int64.add_zero]
    · by_cases c2 : r.1 7 k ≤ c
      · simp only [t0, c1, c2, if_true, if_false, Int64.add_zero]
      · simp only [t0, c1, c2, n1, if_false]
theorem v_depth {x r : g_S} (h : ∀ k, k < 10 → v_lot x r k) (c : Int32) : f_B_depthAt x c = f_M_depthAt r c := by
  have key : ∀ jn jk a, jk + jn = 10 → f_B_depthAt_L16 x c jn jk a = f_M_depthAt_L5 r c jn jk a := by
    intro jn
    induction jn with
    | zero => intro jk a _; rfl
    | succ jn ih =>
      intro jk a hk
      show f_B_depthAt_L16 x c jn (jk + 1) _ = f_M_depthAt_L5 r c jn (jk + 1) _
      rw [ih (jk + 1) _ (by omega), v_depth1 (h jk (by omega))]
  exact key 10 0 0 rfl
theorem v_net {x r : g_S} (h : ∀ k, k < 10 → v_lot x r k) (c : Int32) : f_B_netAt x c = f_M_net_L5 r c 10 0 0 := by
  have key : ∀ jn jk a, jk + jn = 10 → f_B_netAt_L16 x c jn jk a = f_M_net_L5 r c jn jk a := by
    intro jn
    induction jn with
    | zero => intro jk a _; rfl
    | succ jn ih =>
      intro jk a hk
      show f_B_netAt_L16 x c jn (jk + 1) _ = f_M_net_L5 r c jn (jk + 1) _
      rw [ih (jk + 1) _ (by omega)]
      congr 1
      obtain ⟨⟨h1, -, -⟩, h2⟩ := h jk (by omega)
      rcases h2 with ⟨t, w, -⟩ | ⟨t, -, -, e1, e2, -⟩
      · simp only [t, w, if_true, Int64.add_zero, Int64.sub_zero, ite_self]
      · have t0 : ¬ r.1 4 jk = 0 := by rw [t]; decide
        rw [e1, e2, h1]
        by_cases c1 : r.1 6 jk = c
        · by_cases c2 : r.1 7 jk = c
          · simp only [t0, c1, c2, if_true, if_false]
          · simp only [t0, c1, c2, if_true, if_false, Int64.sub_zero]
        · by_cases c2 : r.1 7 jk = c
          · simp only [t0, c1, c2, if_true, if_false, Int64.add_zero]
          · simp only [t0, c1, c2, if_false, Int64.add_zero, Int64.sub_zero]
  exact key 10 0 0 rfl
/-- find: the same place, or none -/
theorem v_find {x r : g_S} (h : ∀ k, k < 10 → v_lot x r k) (o lo hi : Int32) : f_M_find r o lo hi = Option.elim (f_B_find x o lo hi) (-1) (fun k => Int32.ofNat k) := by
  have key : ∀ jn jk, jk + jn = 10 → f_M_find_L3 r o lo hi jn jk = Option.elim (f_B_find_L14 x o lo hi jn jk) (-1) (fun k => Int32.ofNat k) := by
    intro jn
    induction jn with
    | zero => intro jk _; rfl
    | succ jn ih =>
      intro jk hk
      show (if r.1 4 jk = 0 then f_M_find_L3 r o lo hi jn (jk + 1) else (if r.1 5 jk = o then (if r.1 6 jk = lo then (if r.1 7 jk = hi then Int32.ofNat jk else f_M_find_L3 r o lo hi jn (jk + 1)) else f_M_find_L3 r o lo hi jn (jk + 1)) else f_M_find_L3 r o lo hi jn (jk + 1))) = Option.elim (if f_T_isThere x jk = 0 then f_B_find_L14 x o lo hi jn (jk + 1) else (if f_T_isFor x jk o lo hi = 0 then f_B_find_L14 x o lo hi jn (jk + 1) else some jk)) (-1) (fun k => Int32.ofNat k)
      rw [ih (jk + 1) (by omega)]
      obtain ⟨-, h2⟩ := h jk (by omega)
      rcases h2 with ⟨t, w, w0, w1⟩ | ⟨t, nz, e0, e1, e2, -⟩
      · rw [if_pos t, v_there, w, w0, w1]
        rfl
      · have ht : ¬ f_T_isThere x jk = 0 := by
          rw [v_there]
          intro q
          by_cases a1 : x.2 (jk + 14) 3 = 0
          · rw [if_pos a1] at q
            by_cases a2 : x.2 (jk + 24) 0 = 0
            · rw [if_pos a2] at q
              by_cases a3 : x.2 (jk + 24) 1 = 0
              · exact nz ⟨a1, a2, a3⟩
              · rw [if_neg a3] at q
                exact absurd q (by decide)
            · rw [if_neg a2] at q
              exact absurd q (by decide)
          · rw [if_neg a1] at q
            exact absurd q (by decide)
        have t0 : ¬ r.1 4 jk = 0 := by rw [t]; decide
        have n1 : ¬ (1 : Int32) = 0 := by decide
        rw [if_neg t0, if_neg ht, v_isFor, e0, e1, e2]
        by_cases b0 : r.1 5 jk = o
        · by_cases b1 : r.1 6 jk = lo
          · by_cases b2 : r.1 7 jk = hi
            · simp only [b0, b1, b2, n1, if_true, if_false, Option.elim]
            · simp only [b0, b1, b2, if_true, if_false]
          · simp only [b0, b1, if_true, if_false]
        · simp only [b0, if_true, if_false]
  exact key 10 0 rfl
