/-! all legs -/
def u_wl (dn lim : Int32) : Nat → g_S → g_S
  | 0, τ => τ
  | jn + 1, τ => (if (τ.2 0 22) = (0 : Int64) then (τ) else (if (τ.2 0 20) = (f_M_price τ lim) then (τ) else u_wl dn lim jn (f_M_leg τ dn (f_M_price τ lim))))
def u_wk (dn lim : Int32) : Nat → g_S → Prop
  | 0, _ => True
  | jn + 1, τ => (if (τ.2 0 22) = (0 : Int64) then True else (k_M_price τ lim) ∧ (if (τ.2 0 20) = (f_M_price τ lim) then True else (k_M_price τ lim) ∧ (k_M_leg τ dn (f_M_price τ lim)) ∧ (u_wk dn lim jn (f_M_leg τ dn (f_M_price τ lim)))))
theorem u_wl1 (σ : g_S) (dn am lim r10 : Int32) (r19 : Int64) (t : g_S) : ∀ jn jk τ, f_M_work_L117 σ dn am lim r10 r19 t jn jk τ = u_wl dn lim jn τ ∧ k_M_work_L117 σ dn am lim r10 r19 t jn jk τ = u_wk dn lim jn τ := by
  intro jn
  induction jn with
  | zero => intro jk τ; exact ⟨rfl, rfl⟩
  | succ jn ih =>
    intro jk τ
    unfold f_M_work_L117 k_M_work_L117 u_wl u_wk
    rw [(ih _ _).1, (ih _ _).2]
    exact ⟨rfl, rfl⟩
theorem u_wl2 (σ : g_S) (dn am lim r10 : Int32) (r19 : Int64) (t : g_S) : ∀ jn jk τ, f_M_work_L117_1 σ dn am lim r10 r19 t jn jk τ = u_wl dn lim jn τ ∧ k_M_work_L117_1 σ dn am lim r10 r19 t jn jk τ = u_wk dn lim jn τ := by
  intro jn
  induction jn with
  | zero => intro jk τ; exact ⟨rfl, rfl⟩
  | succ jn ih =>
    intro jk τ
    unfold f_M_work_L117_1 k_M_work_L117_1 u_wl u_wk
    rw [(ih _ _).1, (ih _ _).2]
    exact ⟨rfl, rfl⟩
def u_meas (d : Int32) (c : Int) : Nat := if d = 0 then (24 - c).toNat else (c + 25).toNat
theorem u_meas_lt {d : Int32} {c c' : Int} (hd : d = 0 ∨ d = 1) (h1 : -25 ≤ c') (h2 : c' ≤ 24) (h : (d = 0 → c < c') ∧ (d = 1 → c' < c)) : u_meas d c' < u_meas d c := by
  unfold u_meas
  rcases hd with rfl | rfl
  · have := h.1 rfl
    rw [if_pos rfl, if_pos rfl]
    omega
  · have := h.2 rfl
    rw [if_neg (by decide), if_neg (by decide)]
    omega
theorem v_legs {x0 r0 : g_S} {i : Nat} {ws : Nat → Nat} {d : Int32} {fe lim : Nat} {b : Bool} (S : v_St x0 r0 i ws d fe lim) {st : Int32} (st1 : -24 ≤ st.toInt) (st2 : st.toInt ≤ 24) (hst : lim = u_P st.toInt) (σ : g_S) (am lm : Int32) (τ3 : g_S) :
    ∀ m (x r : g_S) (A p F : Nat) (c : Int32), v_T x0 r0 x r ws d lim b A p F c → (A = 0 ∨ p = lim ∨ u_meas d c.toInt < m) → ∀ jn jk jm, m + 1 ≤ jn → m + 1 ≤ jm →
      ∃ A' q F' c', v_T x0 r0 (f_D_workOut_L18 σ am lm τ3 jn jk x) (u_wl d st jm r) ws d lim b A' q F' c' ∧ k_D_workOut_L18 σ am lm τ3 jn jk x ∧ u_wk d st jm r := by
  have hlim := S.2.2.2.2.2.2.2.2
  have hlim' := hlim
  unfold u_pp at hlim'
  have hd := S.2.2.2.1
  have stop : ∀ (x r : g_S) (A p F : Nat) (c : Int32), v_T x0 r0 x r ws d lim b A p F c → (A = 0 ∨ p = lim) → ∀ jn jk jm, 1 ≤ jn → 1 ≤ jm → f_D_workOut_L18 σ am lm τ3 jn jk x = x ∧ u_wl d st jm r = r ∧ k_D_workOut_L18 σ am lm τ3 jn jk x ∧ u_wk d st jm r := by
    intro x r A p F c T h jn jk jm h1 h2
    obtain ⟨jn, rfl⟩ : ∃ j, jn = j + 1 := ⟨jn - 1, by omega⟩
    obtain ⟨jm, rfl⟩ : ∃ j, jm = j + 1 := ⟨jm - 1, by omega⟩
    obtain ⟨fx, fr, h1, h2, h4, h5, r20, r21, va, way, L, r22, hA2, e6, e7, bF, pe⟩ := T
    have hr : ∀ j, j < 49 → r.2 1 j = lN (u_tab j) := fun j hj => by rw [fr.2 _ _ (by omega) (by omega)]; exact S.2.2.2.2.2.2.2.1 j hj
    obtain ⟨pe1, pk⟩ := u_priceM hr st1 st2
    unfold f_D_workOut_L18 u_wl k_D_workOut_L18 u_wk
    rw [L, r22, h4, h2, r20, pe1, ← hst]
    by_cases z : A = 0
    · have e := (u_lf0 (b := b) hA2).mpr z
      simp only [e, if_true]
      exact ⟨trivial, trivial, trivial, trivial⟩
    · have e : ¬ u_lf b A = 0 := fun w => z ((u_lf0 hA2).mp w)
      have pl : p = lim := h.resolve_left z
      simp only [e, pl, if_true, if_false]
      exact ⟨trivial, trivial, trivial, pk, trivial⟩
  intro m
  induction m with
  | zero =>
    intro x r A p F c T h jn jk jm h1 h2
    have h' : A = 0 ∨ p = lim := by
      rcases h with h | h | h
      · exact Or.inl h
      · exact Or.inr h
      · exact absurd h (by omega)
    obtain ⟨e1, e2, e3, e4⟩ := stop x r A p F c T h' jn jk jm (by omega) (by omega)
    rw [e1, e2]
    exact ⟨A, p, F, c, T, e3, e4⟩
  | succ m ih =>
    intro x r A p F c T h jn jk jm h1 h2
    by_cases h' : A = 0 ∨ p = lim
    · obtain ⟨e1, e2, e3, e4⟩ := stop x r A p F c T h' jn jk jm (by omega) (by omega)
      rw [e1, e2]
      exact ⟨A, p, F, c, T, e3, e4⟩
    · have hA0 : ¬ A = 0 := fun w => h' (Or.inl w)
      have hpl : ¬ p = lim := fun w => h' (Or.inr w)
      obtain ⟨A', q, F', c', T2, pr, kx, km⟩ := v_leg S T (by omega)
      obtain ⟨jn, rfl⟩ : ∃ j, jn = j + 1 := ⟨jn - 1, by omega⟩
      obtain ⟨jm, rfl⟩ : ∃ j, jm = j + 1 := ⟨jm - 1, by omega⟩
      have hm : u_meas d c.toInt < m + 1 := by
        rcases h with h | h | h
        · exact absurd h hA0
        · exact absurd h hpl
        · exact h
      have nx : A' = 0 ∨ q = lim ∨ u_meas d c'.toInt < m := by
        rcases pr with w | w | w
        · exact Or.inl w
        · exact Or.inr (Or.inl w)
        · have va' := T2.2.2.2.2.2.2.2.2.1
          have := u_meas_lt hd va'.1 va'.2.1 w
          exact Or.inr (Or.inr (by omega))
      obtain ⟨A2, q2, F2, c2, z1, z2, z3⟩ := ih _ _ A' q F' c' T2 nx jn (jk + 1) jm (by omega) (by omega)
      obtain ⟨fx, fr, h1, h2, h4, h5, r20, r21, va, way, L, r22, hA2, e6, e7, bF, pe⟩ := T
      have hp := u_at_pp va
      unfold u_pp at hp
      have hr : ∀ j, j < 49 → r.2 1 j = lN (u_tab j) := fun j hj => by rw [fr.2 _ _ (by omega) (by omega)]; exact S.2.2.2.2.2.2.2.1 j hj
      obtain ⟨pe1, pk⟩ := u_priceM hr st1 st2
      have e1 : ¬ x.2 9 3 = (0 : Int64) := by rw [L]; exact fun w => hA0 ((u_lf0 hA2).mp w)
      have e2 : ¬ r.2 0 22 = (0 : Int64) := by rw [r22]; exact fun w => hA0 ((u_lf0 hA2).mp w)
      have e3 : ¬ x.1 9 4 = x.1 9 2 := by rw [h4, h2]; exact fun w => hpl ((nI_eq (by omega) (by omega)).mp w)
      have e4 : ¬ r.2 0 20 = f_M_price r st := by rw [r20, pe1, ← hst]; exact fun w => hpl ((lN_eq (by omega) (by omega)).mp w)
      unfold f_D_workOut_L18 u_wl k_D_workOut_L18 u_wk
      simp only [e1, e2, e3, e4, if_false]
      rw [pe1, ← hst]
      exact ⟨A2, q2, F2, c2, z1, ⟨kx, z2⟩, pk, pk, km, z3⟩
