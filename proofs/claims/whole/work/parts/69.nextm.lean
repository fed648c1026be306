/-! the reference's next marked step, and that both are one -/
theorem v_Mk_rng {x r : g_S} {i : Nat} {ws : Nat → Nat} (hl : ∀ k, k < 10 → v_lot x r k) (hb : ∀ k, k < 10 → v_lotB r i k (ws k)) (hw : ∀ k, k < 10 → ws k ≤ 1000000) {t : Int} (h : v_Mk r ws t 10) : -24 ≤ t ∧ t ≤ 24 := by
  obtain ⟨k, hk, w0, ht⟩ := h
  obtain ⟨-, -, q3⟩ := v_liq (hl k hk) (hb k hk) (hw k hk)
  obtain ⟨-, -, -, s1, s2, s3⟩ := q3 w0
  rcases ht with ht | ht <;> omega
theorem u_ofn {jk : Nat} (h : jk < 49) : (Int32.ofNat jk + (-24 : Int32)).toInt = (jk : Int) - 24 := by
  have key : ∀ j : Fin 49, (Int32.ofNat j.val + (-24 : Int32)).toInt = (j.val : Int) - 24 := by decide
  exact key ⟨jk, h⟩
theorem v_upM {x r : g_S} {i : Nat} {ws : Nat → Nat} (hl : ∀ k, k < 10 → v_lot x r k) (hb : ∀ k, k < 10 → v_lotB r i k (ws k)) (hw : ∀ k, k < 10 → ws k ≤ 1000000) :
    (f_M_nextStep r 0 = 99 ∧ ∀ t, v_Mk r ws t 10 → t ≤ (r.1 0 21).toInt) ∨ (v_Mk r ws (f_M_nextStep r 0).toInt 10 ∧ (r.1 0 21).toInt < (f_M_nextStep r 0).toInt ∧ ∀ t, v_Mk r ws t 10 → (r.1 0 21).toInt < t → (f_M_nextStep r 0).toInt ≤ t) := by
  have rng := fun t => v_Mk_rng (t := t) hl hb hw
  have mk := fun n => (v_marked hl hb hw n).1
  generalize hc : (r.1 0 21).toInt = c
  have key : ∀ (jn jk : Nat) (a : Int32), jk + jn = 49 → ((a = 99 ∧ ∀ t, v_Mk r ws t 10 → t < (jk : Int) - 24 → t ≤ c) ∨ (v_Mk r ws a.toInt 10 ∧ c < a.toInt ∧ ∀ t, v_Mk r ws t 10 → c < t → a.toInt ≤ t)) → (f_M_nextStep_L6 r 0 jn jk a = 99 ∧ ∀ t, v_Mk r ws t 10 → t ≤ c) ∨ (v_Mk r ws (f_M_nextStep_L6 r 0 jn jk a).toInt 10 ∧ c < (f_M_nextStep_L6 r 0 jn jk a).toInt ∧ ∀ t, v_Mk r ws t 10 → c < t → (f_M_nextStep_L6 r 0 jn jk a).toInt ≤ t) := by
    intro jn
    induction jn with
    | zero =>
      intro jk a h1 h2
      rcases h2 with ⟨h3, h4⟩ | h
      · refine Or.inl ⟨h3, fun t m => h4 t m ?_⟩
        have := rng t m
        omega
      · exact Or.inr h
    | succ jn ih =>
      intro jk a h1 h2
      refine ih (jk + 1) _ (by omega) ?_
      have eo := u_ofn (jk := jk) (by omega)
      have mo := mk (Int32.ofNat jk + (-24 : Int32))
      rw [eo] at mo
      have ec : ((Int32.ofNat jk + (-24 : Int32)) ≤ r.1 0 21) ↔ (jk : Int) - 24 ≤ c := by
        rw [Int32.le_iff_toInt_le, eo, hc]
      generalize (Int32.ofNat jk + (-24 : Int32)) = N at eo mo ec ⊢
      rcases mo with ⟨m1, m2⟩ | ⟨m1, m2⟩
      · by_cases c1 : N ≤ r.1 0 21
        · simp only [m1, c1, g_10, if_true, if_false]
          have c1' := ec.mp c1
          rcases h2 with ⟨h3, h4⟩ | h
          · refine Or.inl ⟨h3, fun t m ht => ?_⟩
            by_cases e : t < (jk : Int) - 24
            · exact h4 t m e
            · omega
          · exact Or.inr h
        · have c1' : c < (jk : Int) - 24 := by
            have : ¬ (jk : Int) - 24 ≤ c := fun h => c1 (ec.mpr h)
            omega
          by_cases ea : a = 99
          · simp only [m1, c1, ea, g_10, if_true, if_false]
            right
            rw [eo]
            refine ⟨m2, c1', fun t m ht => ?_⟩
            rcases h2 with ⟨h3, h4⟩ | ⟨h5, h6, h7⟩
            · have := h4 t m
              omega
            · have := rng _ h5
              rw [ea, show (99 : Int32).toInt = 99 from rfl] at this
              omega
          · simp only [m1, c1, ea, g_10, if_true, if_false]
            rcases h2 with ⟨h3, -⟩ | h
            · exact absurd h3 ea
            · exact Or.inr h
      · simp only [m1, if_true]
        rcases h2 with ⟨h3, h4⟩ | h
        · refine Or.inl ⟨h3, fun t m ht => ?_⟩
          by_cases e : t = (jk : Int) - 24
          · rw [e] at m; exact absurd m m2
          · exact h4 t m (by omega)
        · exact Or.inr h
  unfold f_M_nextStep f_M_nextStep_73_6
  exact key 49 0 99 rfl (Or.inl ⟨rfl, fun t m ht => by have := rng t m; omega⟩)
theorem v_dnM {x r : g_S} {i : Nat} {ws : Nat → Nat} (hl : ∀ k, k < 10 → v_lot x r k) (hb : ∀ k, k < 10 → v_lotB r i k (ws k)) (hw : ∀ k, k < 10 → ws k ≤ 1000000) :
    (f_M_nextStep r 1 = 99 ∧ ∀ t, v_Mk r ws t 10 → (r.1 0 21).toInt < t) ∨ (v_Mk r ws (f_M_nextStep r 1).toInt 10 ∧ (f_M_nextStep r 1).toInt ≤ (r.1 0 21).toInt ∧ ∀ t, v_Mk r ws t 10 → t ≤ (r.1 0 21).toInt → t ≤ (f_M_nextStep r 1).toInt) := by
  have rng := fun t => v_Mk_rng (t := t) hl hb hw
  have mk := fun n => (v_marked hl hb hw n).1
  generalize hc : (r.1 0 21).toInt = c
  have key : ∀ (jn jk : Nat) (a : Int32), jk + jn = 49 → ((a = 99 ∧ ∀ t, v_Mk r ws t 10 → t < (jk : Int) - 24 → c < t) ∨ (v_Mk r ws a.toInt 10 ∧ a.toInt ≤ c ∧ a.toInt < (jk : Int) - 24 ∧ ∀ t, v_Mk r ws t 10 → t ≤ c → t < (jk : Int) - 24 → t ≤ a.toInt)) → (f_M_nextStep_L6 r 1 jn jk a = 99 ∧ ∀ t, v_Mk r ws t 10 → c < t) ∨ (v_Mk r ws (f_M_nextStep_L6 r 1 jn jk a).toInt 10 ∧ (f_M_nextStep_L6 r 1 jn jk a).toInt ≤ c ∧ ∀ t, v_Mk r ws t 10 → t ≤ c → t ≤ (f_M_nextStep_L6 r 1 jn jk a).toInt) := by
    intro jn
    induction jn with
    | zero =>
      intro jk a h1 h2
      rcases h2 with ⟨h3, h4⟩ | ⟨h5, h6, -, h7⟩
      · refine Or.inl ⟨h3, fun t m => h4 t m ?_⟩
        have := rng t m
        omega
      · refine Or.inr ⟨h5, h6, fun t m ht => h7 t m ht ?_⟩
        have := rng t m
        omega
    | succ jn ih =>
      intro jk a h1 h2
      refine ih (jk + 1) _ (by omega) ?_
      have eo := u_ofn (jk := jk) (by omega)
      have mo := mk (Int32.ofNat jk + (-24 : Int32))
      rw [eo] at mo
      have ec : (r.1 0 21 < (Int32.ofNat jk + (-24 : Int32))) ↔ c < (jk : Int) - 24 := by
        rw [Int32.lt_iff_toInt_lt, eo, hc]
      have stay : (∀ t, v_Mk r ws t 10 → t = (jk : Int) - 24 → c < t) → (a = 99 ∧ ∀ t, v_Mk r ws t 10 → t < ((jk + 1 : Nat) : Int) - 24 → c < t) ∨ (v_Mk r ws a.toInt 10 ∧ a.toInt ≤ c ∧ a.toInt < ((jk + 1 : Nat) : Int) - 24 ∧ ∀ t, v_Mk r ws t 10 → t ≤ c → t < ((jk + 1 : Nat) : Int) - 24 → t ≤ a.toInt) := by
        intro hs
        rcases h2 with ⟨h3, h4⟩ | ⟨h5, h6, h8, h7⟩
        · refine Or.inl ⟨h3, fun t m ht => ?_⟩
          by_cases e : t = (jk : Int) - 24
          · exact hs t m e
          · exact h4 t m (by omega)
        · refine Or.inr ⟨h5, h6, by omega, fun t m ht hj => ?_⟩
          by_cases e : t = (jk : Int) - 24
          · have := hs t m e
            omega
          · exact h7 t m ht (by omega)
      generalize (Int32.ofNat jk + (-24 : Int32)) = N at eo mo ec ⊢
      rcases mo with ⟨m1, m2⟩ | ⟨m1, m2⟩
      · by_cases c1 : r.1 0 21 < N
        · simp only [m1, c1, g_10, if_true, if_false]
          have c1' := ec.mp c1
          exact stay (fun t _ e => by omega)
        · simp only [m1, c1, g_10, if_false]
          have c1' : (jk : Int) - 24 ≤ c := by
            have : ¬ c < (jk : Int) - 24 := fun h => c1 (ec.mpr h)
            omega
          right
          rw [eo]
          exact ⟨m2, c1', by omega, fun t m ht hj => by omega⟩
      · simp only [m1, if_true]
        exact stay (fun t m e => by rw [e] at m; exact absurd m m2)
  unfold f_M_nextStep f_M_nextStep_73_6
  exact key 49 0 99 rfl (Or.inl ⟨rfl, fun t m ht => by have := rng t m; omega⟩)
theorem v_nextK {x r : g_S} {i : Nat} {ws : Nat → Nat} (hl : ∀ k, k < 10 → v_lot x r k) (hb : ∀ k, k < 10 → v_lotB r i k (ws k)) (hw : ∀ k, k < 10 → ws k ≤ 1000000) (d : Int32) : k_M_nextStep r d := by
  have mk := fun n => (v_marked hl hb hw n).2
  have key : ∀ (jn jk : Nat) (a : Int32), k_M_nextStep_L6 r d jn jk a := by
    intro jn
    induction jn with
    | zero => intro jk a; exact True.intro
    | succ jn ih => intro jk a; exact ⟨mk _, ih _ _⟩
  unfold k_M_nextStep k_M_nextStep_73_6
  exact ⟨key 49 0 99, True.intro⟩
/-- both find the same step, or none -/
theorem v_next {x r : g_S} {i : Nat} {ws : Nat → Nat} (hl : ∀ k, k < 10 → v_lot x r k) (hb : ∀ k, k < 10 → v_lotB r i k (ws k)) (hw : ∀ k, k < 10 → ws k ≤ 1000000) {c : Int32} (hc : r.1 0 21 = c) (d : Int32) (hd : d = 0 ∨ d = 1) (n : Int32) (hn : n = if d = 0 then f_B_markedAbove x c else f_B_markedAtOrBelow x c) :
    (n = 1000 ∧ f_M_nextStep r d = 99) ∨ (f_M_nextStep r d = n ∧ -24 ≤ n.toInt ∧ n.toInt ≤ 24 ∧ (d = 0 → c.toInt < n.toInt) ∧ (d = 1 → n.toInt ≤ c.toInt)) := by
  have rng := fun t => v_Mk_rng (t := t) hl hb hw
  rcases hd with rfl | rfl
  · rw [if_pos rfl] at hn
    have hx := v_upX hl hb hw c
    have hm := v_upM hl hb hw
    rw [← hn] at hx
    rw [hc] at hm
    rcases hx with ⟨x1, x2⟩ | ⟨x1, x2, x3⟩ <;> rcases hm with ⟨m1, m2⟩ | ⟨m1, m2, m3⟩
    · exact Or.inl ⟨x1, m1⟩
    · have := x2 _ m1; omega
    · have := m2 _ x1; omega
    · have a1 := x3 _ m1 m2
      have a2 := m3 _ x1 x2
      have := rng _ x1
      exact Or.inr ⟨u_i32.mpr (by omega), this.1, this.2, fun _ => x2, fun h => absurd h (by decide)⟩
  · rw [if_neg (by decide)] at hn
    have hx := v_dnX hl hb hw c
    have hm := v_dnM hl hb hw
    rw [← hn] at hx
    rw [hc] at hm
    rcases hx with ⟨x1, x2⟩ | ⟨x1, x2, x3⟩ <;> rcases hm with ⟨m1, m2⟩ | ⟨m1, m2, m3⟩
    · exact Or.inl ⟨x1, m1⟩
    · have := x2 _ m1; omega
    · have := m2 _ x1; omega
    · have a1 := x3 _ m1 m2
      have a2 := m3 _ x1 x2
      have := rng _ x1
      exact Or.inr ⟨u_i32.mpr (by omega), this.1, this.2, fun h => absurd h (by decide), fun _ => x2⟩
