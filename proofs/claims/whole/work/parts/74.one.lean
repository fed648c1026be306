/-! the relation between legs -/
def v_frX (x0 x : g_S) : Prop := (∀ a b, a ≠ 9 → x.1 a b = x0.1 a b) ∧ (∀ a b, a ≠ 9 → ¬ (14 ≤ a ∧ a < 24 ∧ b = 6) → x.2 a b = x0.2 a b) ∧ x.1 9 0 = x0.1 9 0
def v_frR (r0 r : g_S) : Prop := (∀ a b, ¬ (a = 0 ∧ b = 21) → r.1 a b = r0.1 a b) ∧ (∀ a b, a ≠ 13 → ¬ (a = 0 ∧ 20 ≤ b ∧ b ≤ 24) → r.2 a b = r0.2 a b)
def v_St (x0 r0 : g_S) (i : Nat) (ws : Nat → Nat) (d : Int32) (fe lim : Nat) : Prop := (∀ k, k < 10 → v_lot x0 r0 k) ∧ (∀ k, k < 10 → v_lotB r0 i k (ws k)) ∧ v_sum ws 10 ≤ 1000000 ∧ (d = 0 ∨ d = 1) ∧ fe ≤ 100 ∧ x0.1 9 0 = nI fe ∧ r0.1 0 1 = nI fe ∧ (∀ j, j < 49 → r0.2 1 j = lN (u_tab j)) ∧ u_pp lim
def v_pend (r0 x r : g_S) (ws : Nat → Nat) (F : Nat) : Prop := ∀ k, k < 10 → r0.1 4 k = 1 → ∃ pn, x.2 (k + 14) 6 = lN pn ∧ r.2 13 k = lN pn ∧ pn * ws k ≤ 4294967296 * F
def v_T (x0 r0 x r : g_S) (ws : Nat → Nat) (d : Int32) (lim : Nat) (b : Bool) (A p F : Nat) (c : Int32) : Prop :=
  v_frX x0 x ∧ v_frR r0 r ∧ x.1 9 1 = d ∧ x.1 9 2 = nI lim ∧ x.1 9 4 = nI p ∧ x.1 9 5 = c ∧ r.2 0 20 = lN p ∧ r.1 0 21 = c ∧ v_at p c.toInt ∧ u_way d p lim ∧ x.2 9 3 = u_lf b A ∧ r.2 0 22 = u_lf b A ∧ A ≤ 1000000 ∧ x.2 9 6 = r.2 0 23 ∧ x.2 9 7 = r.2 0 24 ∧ F + 6 * u_ds p lim + (if A = 0 then 0 else 1000000) ≤ 1500000 ∧ v_pend r0 x r ws F
theorem v_frX_sX {x0 x : g_S} (h : v_frX x0 x) : v_sX x0 x := by
  obtain ⟨h1, h2, -⟩ := h
  intro k hk
  refine ⟨fun s _ => h1 _ _ (by omega), h2 _ _ (by omega) (by omega), funext fun j => h2 _ _ (by omega) (by omega), funext fun j => h2 _ _ (by omega) (by omega)⟩
theorem v_frR_sR {r0 r : g_S} (h : v_frR r0 r) : v_sR r0 r := by
  obtain ⟨h1, h2⟩ := h
  exact ⟨funext fun j => h1 _ _ (by omega), funext fun j => h1 _ _ (by omega), funext fun j => h1 _ _ (by omega), funext fun j => h1 _ _ (by omega), funext fun j => h2 _ _ (by omega) (by omega), funext fun j => h2 _ _ (by omega) (by omega), funext fun j => h2 _ _ (by omega) (by omega)⟩
theorem u_at_pp {p : Nat} {c : Int} (h : v_at p c) : u_pp p := by
  obtain ⟨-, -, h1, h2, -⟩ := h
  have P1 : u_P (-24) = 36223 := rfl
  have P2 : u_P 24 = 118522 := rfl
  exact ⟨by omega, by omega⟩
theorem u_way_ds {d : Int32} {p q t : Nat} (h1 : u_way d p q) (h2 : u_way d q t) : u_ds p t = u_ds p q + u_ds q t := by
  unfold u_ds
  rcases h1 with ⟨rfl, h1⟩ | ⟨rfl, h1⟩ <;> rcases h2 with ⟨e, h2⟩ | ⟨e, h2⟩
  · omega
  · exact absurd e (by decide)
  · exact absurd e (by decide)
  · omega
theorem u_way_tr {d : Int32} {p q t : Nat} (h1 : u_way d p q) (h2 : u_way d q t) : u_way d p t := by
  rcases h1 with ⟨rfl, h1⟩ | ⟨rfl, h1⟩ <;> rcases h2 with ⟨e, h2⟩ | ⟨e, h2⟩
  · exact Or.inl ⟨rfl, by omega⟩
  · exact absurd e (by decide)
  · exact absurd e (by decide)
  · exact Or.inr ⟨rfl, by omega⟩
theorem u_way_pp {d : Int32} {p q t : Nat} (h1 : u_way d p q) (h2 : u_way d q t) (hp : u_pp p) (ht : u_pp t) : u_pp q := by
  unfold u_pp at *
  rcases h1 with ⟨rfl, h1⟩ | ⟨rfl, h1⟩ <;> rcases h2 with ⟨e, h2⟩ | ⟨e, h2⟩
  · omega
  · exact absurd e (by decide)
  · exact absurd e (by decide)
  · omega
theorem u_lfT {A : Nat} (h0 : 0 < A) (h : A ≤ 1000000) : ¬ lN A ≤ (0 : Int64) ∧ (0 : Int64) ≤ lN A := by
  refine ⟨fun q => ?_, (lN_le (a := 0) (by decide) (by omega)).mpr (by omega)⟩
  have := (lN_le (b := 0) (by omega) (by decide)).mp q
  omega
theorem u_negI {V : Nat} (h : V ≤ 1000000) : (-(lN V)).toInt = -(V : Int) := by
  rw [Int64.toInt_neg, lN_toInt (by omega), Int.bmod_eq_of_le_mul_two (by omega) (by omega)]
theorem u_lfF {V : Nat} (h0 : 0 < V) (h : V ≤ 1000000) : -(lN V) ≤ (0 : Int64) ∧ ¬ (0 : Int64) ≤ -(lN V) := by
  rw [Int64.le_iff_toInt_le, Int64.le_iff_toInt_le, u_negI h, show (0 : Int64).toInt = 0 from rfl]
  omega
theorem u_lf0 {b : Bool} {A : Nat} (h : A ≤ 1000000) : u_lf b A = 0 ↔ A = 0 := by
  unfold u_lf
  cases b
  · rw [if_neg (by decide), ← Int64.toInt_inj, u_negI h, show (0 : Int64).toInt = 0 from rfl]
    omega
  · rw [if_pos rfl]
    exact lN_eq (b := 0) (by omega) (by decide)
/-- growth behind a leg -/
theorem v_legG {x0 r0 x r x' r' : g_S} {ws : Nat → Nat} {c : Int32} {F fee D : Nat} (hl : ∀ k, k < 10 → v_lot x0 r0 k) (hs : v_sum ws 10 ≤ 1000000) (eD : D = v_dp r0 ws c 10) (fx : v_frX x0 x) (fr : v_frR r0 r) (hc : r.1 0 21 = c) (hp : v_pend r0 x r ws F) (hf : fee ≤ 3000000)
    (gx : ∀ k, k < 10 → x'.2 (k + 14) 6 = x.2 (k + 14) 6 + (if f_T_isInRange x k c = 0 then 0 else f_P_quotient (lN fee * (4294967296 : Int64)) (lN D) (0 : Int32)))
    (gr : ∀ k, k < 10 → r'.2 13 k = r.2 13 k + (if D = 0 then 0 else (if (r.1 4 k) = 0 then (0 : Int64) else (if (r.1 0 21) < (r.1 6 k) then (0 : Int64) else (if (r.1 7 k) ≤ (r.1 0 21) then (0 : Int64) else (lN fee * (4294967296 : Int64)) / lN D))))) : v_pend r0 x' r' ws (F + fee) := by
  intro k hk t
  obtain ⟨pn, p1, p2, p3⟩ := hp k hk t
  have mono : pn * ws k ≤ 4294967296 * (F + fee) := Nat.le_trans p3 (Nat.mul_le_mul_left _ (Nat.le_add_right _ _))
  rw [gx k hk, gr k hk, p1, p2, hc, fr.1 4 k (by omega), fr.1 6 k (by omega), fr.1 7 k (by omega), t]
  rcases (hl k hk).2 with ⟨t0, -⟩ | ⟨-, -, -, e1, e2, -⟩
  · rw [t] at t0; exact absurd t0 (by decide)
  · rw [v_inR, fx.1 (k + 14) 1 (by omega), fx.1 (k + 14) 2 (by omega), e1, e2]
    simp only [g_10, if_false]
    by_cases c1 : c < r0.1 6 k
    · simp only [c1, if_true, ite_self, Int64.add_zero]
      exact ⟨pn, rfl, rfl, mono⟩
    · by_cases c2 : r0.1 7 k ≤ c
      · simp only [c1, c2, if_true, if_false, ite_self, Int64.add_zero]
        exact ⟨pn, rfl, rfl, mono⟩
      · simp only [c1, c2, g_10, if_false]
        by_cases D0 : D = 0
        · rw [if_pos D0, D0, u_quo0, Int64.add_zero]
          exact ⟨pn, rfl, rfl, mono⟩
        · have d1 := v_dp_le r0 ws c 10
          have d2 := v_dp_ge r0 ws c (k := k) (by rw [t]; decide) c1 c2 10 hk
          obtain ⟨e3, e4⟩ := v_rise (f := fee) (D := D) hf (by omega) (by omega)
          rw [if_neg D0, e3, e4, lN_add]
          refine ⟨_, rfl, rfl, ?_⟩
          rw [Nat.add_mul, Nat.mul_add]
          exact Nat.add_le_add p3 (v_rise_le (by omega) (by omega))
