/-! the next marked step -/
def v_Mk (r : g_S) (ws : Nat → Nat) (t : Int) (K : Nat) : Prop := ∃ k, k < K ∧ ¬ ws k = 0 ∧ ((r.1 6 k).toInt = t ∨ (r.1 7 k).toInt = t)
theorem v_Mk_succ {r : g_S} {ws : Nat → Nat} {t : Int} {K : Nat} : v_Mk r ws t (K + 1) ↔ v_Mk r ws t K ∨ (¬ ws K = 0 ∧ ((r.1 6 K).toInt = t ∨ (r.1 7 K).toInt = t)) := by
  constructor
  · rintro ⟨k, h1, h2, h3⟩
    by_cases e : k = K
    · subst e; exact Or.inr ⟨h2, h3⟩
    · exact Or.inl ⟨k, by omega, h2, h3⟩
  · rintro (⟨k, h1, h2, h3⟩ | ⟨h2, h3⟩)
    · exact ⟨k, by omega, h2, h3⟩
    · exact ⟨K, by omega, h2, h3⟩
/-- a lot with liquidity is there, with a range -/
theorem v_liq {x r : g_S} {i k : Nat} {ws : Nat → Nat} (hl : v_lot x r k) (hb : v_lotB r i k (ws k)) (hw : ws k ≤ 1000000) : (x.2 (k + 14) 3 = 0 ↔ ws k = 0) ∧ (r.2 8 k ≤ 0 ↔ ws k = 0) ∧ (¬ ws k = 0 → r.1 4 k = 1 ∧ x.1 (k + 14) 1 = r.1 6 k ∧ x.1 (k + 14) 2 = r.1 7 k ∧ -24 ≤ (r.1 6 k).toInt ∧ (r.1 6 k).toInt < (r.1 7 k).toInt ∧ (r.1 7 k).toInt ≤ 24) := by
  obtain ⟨⟨l1, -, -⟩, l4⟩ := hl
  have b1 := hb.1
  have z1 : x.2 (k + 14) 3 = 0 ↔ ws k = 0 := by
    rw [l1, b1]
    constructor
    · intro q
      exact (lN_eq (b := 0) (by omega) (by decide)).mp q
    · intro q
      rw [q]; rfl
  have z2 : r.2 8 k ≤ 0 ↔ ws k = 0 := by
    rw [b1]
    have := lN_le (a := ws k) (b := 0) (by omega) (by decide)
    constructor
    · intro q
      have := this.mp q
      omega
    · intro q
      exact this.mpr (by omega)
  refine ⟨z1, z2, fun h => ?_⟩
  rcases l4 with ⟨-, w, -⟩ | ⟨t, -, -, e1, e2, -⟩
  · exact absurd (z1.mp w) h
  · obtain ⟨a1, a2, a3, -⟩ := hb.2.2 t
    exact ⟨t, e1, e2, a1, a2, a3⟩
theorem u_i32 {a b : Int32} : a = b ↔ a.toInt = b.toInt := Int32.toInt_inj.symm
theorem v_marked {x r : g_S} {i : Nat} {ws : Nat → Nat} (hl : ∀ k, k < 10 → v_lot x r k) (hb : ∀ k, k < 10 → v_lotB r i k (ws k)) (hw : ∀ k, k < 10 → ws k ≤ 1000000) (n : Int32) : ((f_M_marked r n = 1 ∧ v_Mk r ws n.toInt 10) ∨ (f_M_marked r n = 0 ∧ ¬ v_Mk r ws n.toInt 10)) ∧ k_M_marked r n := by
  have key : ∀ jn jk a, jk + jn = 10 → ((a = 1 ∧ v_Mk r ws n.toInt jk) ∨ (a = 0 ∧ ¬ v_Mk r ws n.toInt jk)) → (f_M_marked_L4 r n jn jk a = 1 ∧ v_Mk r ws n.toInt 10) ∨ (f_M_marked_L4 r n jn jk a = 0 ∧ ¬ v_Mk r ws n.toInt 10) := by
    intro jn
    induction jn with
    | zero =>
      intro jk a h1 h2
      have e : jk = 10 := by omega
      subst e
      exact h2
    | succ jn ih =>
      intro jk a h1 h2
      refine ih (jk + 1) _ (by omega) ?_
      obtain ⟨-, q2, q3⟩ := v_liq (hl jk (by omega)) (hb jk (by omega)) (hw jk (by omega))
      rw [v_Mk_succ]
      rcases h2 with ⟨rfl, m⟩ | ⟨rfl, m⟩
      · rw [if_neg (by decide)]
        exact Or.inl ⟨rfl, Or.inl m⟩
      · rw [if_pos rfl]
        by_cases w0 : ws jk = 0
        · have e : (if r.1 4 jk = 0 then (0 : Int32) else (if r.2 8 jk ≤ (0 : Int64) then (0 : Int32) else (if r.1 6 jk = n then (1 : Int32) else (if r.1 7 jk = n then (1 : Int32) else (0 : Int32))))) = 0 := by
            rw [if_pos (q2.mpr w0), ite_self]
          rw [e]
          exact Or.inr ⟨rfl, fun q => q.elim m (fun q => q.1 w0)⟩
        · obtain ⟨t, -⟩ := q3 w0
          rw [if_neg (by rw [t]; decide), if_neg (fun q => w0 (q2.mp q))]
          by_cases e1 : r.1 6 jk = n
          · rw [if_pos e1]
            exact Or.inl ⟨rfl, Or.inr ⟨w0, Or.inl (by rw [e1])⟩⟩
          · rw [if_neg e1]
            by_cases e2 : r.1 7 jk = n
            · rw [if_pos e2]
              exact Or.inl ⟨rfl, Or.inr ⟨w0, Or.inr (by rw [e2])⟩⟩
            · rw [if_neg e2]
              refine Or.inr ⟨rfl, fun q => q.elim m (fun q => ?_)⟩
              rcases q.2 with q | q
              · exact e1 (u_i32.mpr q)
              · exact e2 (u_i32.mpr q)
  have h := key 10 0 0 rfl (Or.inr ⟨rfl, fun ⟨k, hk, _⟩ => absurd hk (by omega)⟩)
  unfold f_M_marked k_M_marked f_M_marked_66_5 k_M_marked_66_5
  refine ⟨h, ?_, True.intro⟩
  rcases h with ⟨h, -⟩ | ⟨h, -⟩
  · exact Or.inr h
  · exact Or.inl h
/-- the class, upwards -/
theorem v_upX {x r : g_S} {i : Nat} {ws : Nat → Nat} (hl : ∀ k, k < 10 → v_lot x r k) (hb : ∀ k, k < 10 → v_lotB r i k (ws k)) (hw : ∀ k, k < 10 → ws k ≤ 1000000) (c : Int32) :
    (f_B_markedAbove x c = 1000 ∧ ∀ t, v_Mk r ws t 10 → t ≤ c.toInt) ∨ (v_Mk r ws (f_B_markedAbove x c).toInt 10 ∧ c.toInt < (f_B_markedAbove x c).toInt ∧ ∀ t, v_Mk r ws t 10 → c.toInt < t → (f_B_markedAbove x c).toInt ≤ t) := by
  have key : ∀ jn jk a, jk + jn = 10 → ((a = 1000 ∧ ∀ t, v_Mk r ws t jk → t ≤ c.toInt) ∨ (v_Mk r ws a.toInt jk ∧ c.toInt < a.toInt ∧ a.toInt ≤ 24 ∧ ∀ t, v_Mk r ws t jk → c.toInt < t → a.toInt ≤ t)) → (f_B_markedAbove_L16 x c jn jk a = 1000 ∧ ∀ t, v_Mk r ws t 10 → t ≤ c.toInt) ∨ (v_Mk r ws (f_B_markedAbove_L16 x c jn jk a).toInt 10 ∧ c.toInt < (f_B_markedAbove_L16 x c jn jk a).toInt ∧ ∀ t, v_Mk r ws t 10 → c.toInt < t → (f_B_markedAbove_L16 x c jn jk a).toInt ≤ t) := by
    intro jn
    induction jn with
    | zero =>
      intro jk a h1 h2
      have e : jk = 10 := by omega
      subst e
      rcases h2 with h | ⟨h3, h4, -, h5⟩
      · exact Or.inl h
      · exact Or.inr ⟨h3, h4, h5⟩
    | succ jn ih =>
      intro jk a h1 h2
      refine ih (jk + 1) _ (by omega) ?_
      obtain ⟨q1, -, q3⟩ := v_liq (hl jk (by omega)) (hb jk (by omega)) (hw jk (by omega))
      by_cases w0 : ws jk = 0
      · rw [if_pos (q1.mpr w0)]
        rcases h2 with ⟨h3, h4⟩ | ⟨h3, h4, h6, h5⟩
        · refine Or.inl ⟨h3, fun t m => ?_⟩
          rcases v_Mk_succ.mp m with m | m
          · exact h4 t m
          · exact absurd w0 m.1
        · refine Or.inr ⟨v_Mk_succ.mpr (Or.inl h3), h4, h6, fun t m => ?_⟩
          rcases v_Mk_succ.mp m with m | m
          · exact h5 t m
          · exact absurd w0 m.1
      · obtain ⟨-, e1, e2, s1, s2, s3⟩ := q3 w0
        rw [if_neg (fun q => w0 (q1.mp q)), e1, e2]
        by_cases c1 : c < r.1 7 jk
        · rw [if_pos c1]
          have c1' := c1
          rw [Int32.lt_iff_toInt_lt] at c1'
          have step : ∀ e : Int32, (r.1 6 jk = e ∨ r.1 7 jk = e) → c.toInt < e.toInt → e.toInt ≤ 24 → (∀ t, ((r.1 6 jk).toInt = t ∨ (r.1 7 jk).toInt = t) → c.toInt < t → e.toInt ≤ t) → ((if a = (1000 : Int32) then e else (if a ≤ e then a else e)) = 1000 ∧ ∀ t, v_Mk r ws t (jk + 1) → t ≤ c.toInt) ∨ (v_Mk r ws (if a = (1000 : Int32) then e else (if a ≤ e then a else e)).toInt (jk + 1) ∧ c.toInt < (if a = (1000 : Int32) then e else (if a ≤ e then a else e)).toInt ∧ (if a = (1000 : Int32) then e else (if a ≤ e then a else e)).toInt ≤ 24 ∧ ∀ t, v_Mk r ws t (jk + 1) → c.toInt < t → (if a = (1000 : Int32) then e else (if a ≤ e then a else e)).toInt ≤ t) := by
            intro e he h7 h8 h9
            have me : v_Mk r ws e.toInt (jk + 1) := by
              refine v_Mk_succ.mpr (Or.inr ⟨w0, ?_⟩)
              rcases he with q | q
              · exact Or.inl (by rw [q])
              · exact Or.inr (by rw [q])
            right
            rcases h2 with ⟨h3, h4⟩ | ⟨h3, h4, h6, h5⟩
            · rw [if_pos h3]
              refine ⟨me, h7, h8, fun t m ht => ?_⟩
              rcases v_Mk_succ.mp m with m | m
              · exact absurd (h4 t m) (by omega)
              · exact h9 t m.2 ht
            · have n1 : ¬ a = (1000 : Int32) := by
                intro q
                rw [q, show (1000 : Int32).toInt = 1000 from rfl] at h6
                omega
              rw [if_neg n1]
              by_cases c2 : a ≤ e
              · rw [if_pos c2]
                rw [Int32.le_iff_toInt_le] at c2
                refine ⟨v_Mk_succ.mpr (Or.inl h3), h4, h6, fun t m ht => ?_⟩
                rcases v_Mk_succ.mp m with m | m
                · exact h5 t m ht
                · exact Int.le_trans c2 (h9 t m.2 ht)
              · rw [if_neg c2]
                rw [Int32.le_iff_toInt_le] at c2
                refine ⟨me, h7, h8, fun t m ht => ?_⟩
                rcases v_Mk_succ.mp m with m | m
                · exact Int.le_trans (by omega) (h5 t m ht)
                · exact h9 t m.2 ht
          by_cases c2 : r.1 6 jk ≤ c
          · rw [if_pos c2]
            rw [Int32.le_iff_toInt_le] at c2
            exact step (r.1 7 jk) (Or.inr rfl) c1' s3 (fun t ht hc => by rcases ht with q | q <;> omega)
          · rw [if_neg c2]
            rw [Int32.le_iff_toInt_le] at c2
            exact step (r.1 6 jk) (Or.inl rfl) (by omega) (by omega) (fun t ht hc => by rcases ht with q | q <;> omega)
        · rw [if_neg c1]
          rw [Int32.lt_iff_toInt_lt] at c1
          rcases h2 with ⟨h3, h4⟩ | ⟨h3, h4, h6, h5⟩
          · refine Or.inl ⟨h3, fun t m => ?_⟩
            rcases v_Mk_succ.mp m with m | ⟨-, m⟩
            · exact h4 t m
            · rcases m with m | m <;> omega
          · refine Or.inr ⟨v_Mk_succ.mpr (Or.inl h3), h4, h6, fun t m ht => ?_⟩
            rcases v_Mk_succ.mp m with m | ⟨-, m⟩
            · exact h5 t m ht
            · rcases m with m | m <;> omega
  exact key 10 0 1000 rfl (Or.inl ⟨rfl, fun t ⟨k, hk, _⟩ => absurd hk (by omega)⟩)
/-- the class, downwards -/
theorem v_dnX {x r : g_S} {i : Nat} {ws : Nat → Nat} (hl : ∀ k, k < 10 → v_lot x r k) (hb : ∀ k, k < 10 → v_lotB r i k (ws k)) (hw : ∀ k, k < 10 → ws k ≤ 1000000) (c : Int32) :
    (f_B_markedAtOrBelow x c = 1000 ∧ ∀ t, v_Mk r ws t 10 → c.toInt < t) ∨ (v_Mk r ws (f_B_markedAtOrBelow x c).toInt 10 ∧ (f_B_markedAtOrBelow x c).toInt ≤ c.toInt ∧ ∀ t, v_Mk r ws t 10 → t ≤ c.toInt → t ≤ (f_B_markedAtOrBelow x c).toInt) := by
  have key : ∀ jn jk a, jk + jn = 10 → ((a = 1000 ∧ ∀ t, v_Mk r ws t jk → c.toInt < t) ∨ (v_Mk r ws a.toInt jk ∧ a.toInt ≤ c.toInt ∧ a.toInt ≤ 24 ∧ ∀ t, v_Mk r ws t jk → t ≤ c.toInt → t ≤ a.toInt)) → (f_B_markedAtOrBelow_L16 x c jn jk a = 1000 ∧ ∀ t, v_Mk r ws t 10 → c.toInt < t) ∨ (v_Mk r ws (f_B_markedAtOrBelow_L16 x c jn jk a).toInt 10 ∧ (f_B_markedAtOrBelow_L16 x c jn jk a).toInt ≤ c.toInt ∧ ∀ t, v_Mk r ws t 10 → t ≤ c.toInt → t ≤ (f_B_markedAtOrBelow_L16 x c jn jk a).toInt) := by
    intro jn
    induction jn with
    | zero =>
      intro jk a h1 h2
      have e : jk = 10 := by omega
      subst e
      rcases h2 with h | ⟨h3, h4, -, h5⟩
      · exact Or.inl h
      · exact Or.inr ⟨h3, h4, h5⟩
    | succ jn ih =>
      intro jk a h1 h2
      refine ih (jk + 1) _ (by omega) ?_
      obtain ⟨q1, -, q3⟩ := v_liq (hl jk (by omega)) (hb jk (by omega)) (hw jk (by omega))
      by_cases w0 : ws jk = 0
      · rw [if_pos (q1.mpr w0)]
        rcases h2 with ⟨h3, h4⟩ | ⟨h3, h4, h6, h5⟩
        · refine Or.inl ⟨h3, fun t m => ?_⟩
          rcases v_Mk_succ.mp m with m | m
          · exact h4 t m
          · exact absurd w0 m.1
        · refine Or.inr ⟨v_Mk_succ.mpr (Or.inl h3), h4, h6, fun t m => ?_⟩
          rcases v_Mk_succ.mp m with m | m
          · exact h5 t m
          · exact absurd w0 m.1
      · obtain ⟨-, e1, e2, s1, s2, s3⟩ := q3 w0
        rw [if_neg (fun q => w0 (q1.mp q)), e1, e2]
        by_cases c1 : r.1 6 jk ≤ c
        · rw [if_pos c1]
          have c1' := c1
          rw [Int32.le_iff_toInt_le] at c1'
          have step : ∀ e : Int32, (r.1 6 jk = e ∨ r.1 7 jk = e) → e.toInt ≤ c.toInt → e.toInt ≤ 24 → (∀ t, ((r.1 6 jk).toInt = t ∨ (r.1 7 jk).toInt = t) → t ≤ c.toInt → t ≤ e.toInt) → ((if a = (1000 : Int32) then e else (if e ≤ a then a else e)) = 1000 ∧ ∀ t, v_Mk r ws t (jk + 1) → c.toInt < t) ∨ (v_Mk r ws (if a = (1000 : Int32) then e else (if e ≤ a then a else e)).toInt (jk + 1) ∧ (if a = (1000 : Int32) then e else (if e ≤ a then a else e)).toInt ≤ c.toInt ∧ (if a = (1000 : Int32) then e else (if e ≤ a then a else e)).toInt ≤ 24 ∧ ∀ t, v_Mk r ws t (jk + 1) → t ≤ c.toInt → t ≤ (if a = (1000 : Int32) then e else (if e ≤ a then a else e)).toInt) := by
            intro e he h7 h8 h9
            have me : v_Mk r ws e.toInt (jk + 1) := by
              refine v_Mk_succ.mpr (Or.inr ⟨w0, ?_⟩)
              rcases he with q | q
              · exact Or.inl (by rw [q])
              · exact Or.inr (by rw [q])
            right
            rcases h2 with ⟨h3, h4⟩ | ⟨h3, h4, h6, h5⟩
            · rw [if_pos h3]
              refine ⟨me, h7, h8, fun t m ht => ?_⟩
              rcases v_Mk_succ.mp m with m | m
              · exact absurd (h4 t m) (by omega)
              · exact h9 t m.2 ht
            · have n1 : ¬ a = (1000 : Int32) := by
                intro q
                rw [q, show (1000 : Int32).toInt = 1000 from rfl] at h6
                omega
              rw [if_neg n1]
              by_cases c2 : e ≤ a
              · rw [if_pos c2]
                rw [Int32.le_iff_toInt_le] at c2
                refine ⟨v_Mk_succ.mpr (Or.inl h3), h4, h6, fun t m ht => ?_⟩
                rcases v_Mk_succ.mp m with m | m
                · exact h5 t m ht
                · exact Int.le_trans (h9 t m.2 ht) c2
              · rw [if_neg c2]
                rw [Int32.le_iff_toInt_le] at c2
                refine ⟨me, h7, h8, fun t m ht => ?_⟩
                rcases v_Mk_succ.mp m with m | m
                · exact Int.le_trans (h5 t m ht) (by omega)
                · exact h9 t m.2 ht
          by_cases c2 : c < r.1 7 jk
          · rw [if_pos c2]
            rw [Int32.lt_iff_toInt_lt] at c2
            exact step (r.1 6 jk) (Or.inl rfl) c1' (by omega) (fun t ht hc => by rcases ht with q | q <;> omega)
          · rw [if_neg c2]
            rw [Int32.lt_iff_toInt_lt] at c2
            exact step (r.1 7 jk) (Or.inr rfl) (by omega) s3 (fun t ht hc => by rcases ht with q | q <;> omega)
        · rw [if_neg c1]
          rw [Int32.le_iff_toInt_le] at c1
          rcases h2 with ⟨h3, h4⟩ | ⟨h3, h4, h6, h5⟩
          · refine Or.inl ⟨h3, fun t m => ?_⟩
            rcases v_Mk_succ.mp m with m | ⟨-, m⟩
            · exact h4 t m
            · rcases m with m | m <;> omega
          · refine Or.inr ⟨v_Mk_succ.mpr (Or.inl h3), h4, h6, fun t m ht => ?_⟩
            rcases v_Mk_succ.mp m with m | ⟨-, m⟩
            · exact h5 t m ht
            · rcases m with m | m <;> omega
  exact key 10 0 1000 rfl (Or.inl ⟨rfl, fun t ⟨k, hk, _⟩ => absurd hk (by omega)⟩)
