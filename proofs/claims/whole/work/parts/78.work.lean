/-! working a trade out -/
theorem v_fr_V {x r y s : g_S} {i : Nat} (h : v_V x r i) (fx : v_frX x y) (fr : v_frR r s) : v_V y s i := by
  obtain ⟨h1, h2, h3, h4, h5⟩ := h
  have sX := v_frX_sX fx
  have sR := v_frR_sR fr
  obtain ⟨a1, a2, a3⟩ := fx
  obtain ⟨b1, b2⟩ := fr
  refine ⟨v_cfg_cg h1 (a1 _ _ (by omega)) (a1 _ _ (by omega)) a3 (b1 _ _ (by omega)) (b1 _ _ (by omega)) (funext fun j => b2 _ _ (by omega) (by omega)),
    v_pr_cg h2 (a1 _ _ (by omega)) (a1 _ _ (by omega)) (a1 _ _ (by omega)) (b1 _ _ (by omega)) (b1 _ _ (by omega)) (b2 _ _ (by omega) (by omega)),
    v_wal_cg h3 (fun o ho => funext fun j => a2 _ _ (by omega) (by omega)) (funext fun j => a2 _ _ (by omega) (by omega)) (funext fun j => b2 _ _ (by omega) (by omega)) (funext fun j => b2 _ _ (by omega) (by omega)),
    v_lots_cg h4 sX sR,
    v_tim_cg h5 (a2 _ _ (by omega) (by omega)) (a2 _ _ (by omega) (by omega)) (a1 _ _ (by omega)) (funext fun j => a2 _ _ (by omega) (by omega)) (funext fun j => a2 _ _ (by omega) (by omega)) (funext fun j => a1 _ _ (by omega)) (b2 _ _ (by omega) (by omega)) (b2 _ _ (by omega) (by omega)) (b1 _ _ (by omega)) (b1 _ _ (by omega)) (b1 _ _ (by omega)) (funext fun j => b2 _ _ (by omega) (by omega)) (funext fun j => b2 _ _ (by omega) (by omega))⟩
theorem v_clM1 (σ : g_S) (dn am lim r10 : Int32) (r19 : Int64) : ∀ (jn jk : Nat) (τ : g_S), jk + jn = 10 → (f_M_work_L93 σ dn am lim r10 r19 jn jk τ).1 = τ.1 ∧ (∀ a b, (a ≠ 13 ∨ b < jk) → (f_M_work_L93 σ dn am lim r10 r19 jn jk τ).2 a b = τ.2 a b) ∧ ∀ k, jk ≤ k → k < 10 → (f_M_work_L93 σ dn am lim r10 r19 jn jk τ).2 13 k = 0 := by
  intro jn
  induction jn with
  | zero => intro jk τ h; exact ⟨rfl, fun _ _ _ => rfl, fun k h1 h2 => by omega⟩
  | succ jn ih =>
    intro jk τ h
    unfold f_M_work_L93
    obtain ⟨i1, i2, i3⟩ := ih (jk + 1) (g_L τ 13 jk (0 : Int64)) (by omega)
    refine ⟨i1, fun a b hab => ?_, fun k h1 h2 => ?_⟩
    · rw [i2 a b (by omega), g_L2, if_neg (by omega)]
    · by_cases e : k = jk
      · rw [e, i2 13 jk (Or.inr (by omega)), g_L2, if_pos ⟨rfl, rfl⟩]
      · exact i3 k (by omega) h2
theorem v_clM2 (σ : g_S) (dn am lim r10 : Int32) (r19 : Int64) : ∀ (jn jk : Nat) (τ : g_S), jk + jn = 10 → (f_M_work_L93_1 σ dn am lim r10 r19 jn jk τ).1 = τ.1 ∧ (∀ a b, (a ≠ 13 ∨ b < jk) → (f_M_work_L93_1 σ dn am lim r10 r19 jn jk τ).2 a b = τ.2 a b) ∧ ∀ k, jk ≤ k → k < 10 → (f_M_work_L93_1 σ dn am lim r10 r19 jn jk τ).2 13 k = 0 := by
  intro jn
  induction jn with
  | zero => intro jk τ h; exact ⟨rfl, fun _ _ _ => rfl, fun k h1 h2 => by omega⟩
  | succ jn ih =>
    intro jk τ h
    unfold f_M_work_L93_1
    obtain ⟨i1, i2, i3⟩ := ih (jk + 1) (g_L τ 13 jk (0 : Int64)) (by omega)
    refine ⟨i1, fun a b hab => ?_, fun k h1 h2 => ?_⟩
    · rw [i2 a b (by omega), g_L2, if_neg (by omega)]
    · by_cases e : k = jk
      · rw [e, i2 13 jk (Or.inr (by omega)), g_L2, if_pos ⟨rfl, rfl⟩]
      · exact i3 k (by omega) h2
theorem u_amt {am : Int32} (h0 : ¬ am = 0) (h1 : ¬ am < (-1000000 : Int32)) (h2 : ¬ (1000000 : Int32) < am) : ∃ b A, 0 < A ∧ A ≤ 1000000 ∧ am.toInt64 = u_lf b A := by
  rw [Int32.lt_iff_toInt_lt, show (-1000000 : Int32).toInt = -1000000 from rfl] at h1
  rw [Int32.lt_iff_toInt_lt, show (1000000 : Int32).toInt = 1000000 from rfl] at h2
  have h3 : ¬ am.toInt = 0 := fun w => h0 (u_i32.mpr (by rw [w]; rfl))
  by_cases c : 0 ≤ am.toInt
  · refine ⟨true, am.toInt.toNat, by omega, by omega, ?_⟩
    show am.toInt64 = lN am.toInt.toNat
    rw [← Int64.toInt_inj, Int32.toInt_toInt64, lN_toInt (by omega)]
    omega
  · refine ⟨false, (-am.toInt).toNat, by omega, by omega, ?_⟩
    show am.toInt64 = -(lN (-am.toInt).toNat)
    rw [← Int64.toInt_inj, Int32.toInt_toInt64, u_negI (by omega)]
    omega
/-- from a start to the end of the legs -/
theorem v_run {x r : g_S} {i : Nat} {ws : Nat → Nat} {d am st : Int32} {fe p A : Nat} {b : Bool} (S : v_St x r i ws d fe (u_P st.toInt)) (hp8 : x.1 0 8 = nI p) (hp9 : x.1 0 9 = r.1 0 5) (hp4 : r.2 0 4 = lN p) (va : v_at p (r.1 0 5).toInt) (way : u_way d p (u_P st.toInt)) (st1 : -24 ≤ st.toInt) (st2 : st.toInt ≤ 24) (hA : 0 < A) (hA2 : A ≤ 1000000) (ea : am.toInt64 = u_lf b A)
    {s : g_S} (z1 : s.1 = (g_L (g_L (g_L (g_I (g_L r 0 20 (r.2 0 4)) 0 21 (r.1 0 5)) 0 22 am.toInt64) 0 23 (0 : Int64)) 0 24 (0 : Int64)).1) (z2 : ∀ a j, a ≠ 13 → s.2 a j = (g_L (g_L (g_L (g_I (g_L r 0 20 (r.2 0 4)) 0 21 (r.1 0 5)) 0 22 am.toInt64) 0 23 (0 : Int64)) 0 24 (0 : Int64)).2 a j) (z3 : ∀ k, k < 10 → s.2 13 k = 0) :
    ∃ A' q F' c', v_T x r (f_D_workOut (f_D_startAt x (x.1 0 8) (x.1 0 9) d) am (nI (u_P st.toInt))) (u_wl d st 1000 s) ws d (u_P st.toInt) b A' q F' c' ∧ k_D_workOut (f_D_startAt x (x.1 0 8) (x.1 0 9) d) am (nI (u_P st.toInt)) ∧ u_wk d st 1000 s := by
  obtain ⟨g1, g2, g3⟩ := v_clearC (g_I (g_L (f_D_startAt x (x.1 0 8) (x.1 0 9) d) 9 3 am.toInt64) 9 2 (nI (u_P st.toInt)))
  have hp := u_at_pp va
  have hl := S.2.2.2.2.2.2.2.2
  unfold u_pp at hp hl
  have T0 : v_T x r (f_B_clearPendingGrowth (g_I (g_L (f_D_startAt x (x.1 0 8) (x.1 0 9) d) 9 3 am.toInt64) 9 2 (nI (u_P st.toInt)))) s ws d (u_P st.toInt) b A p 0 (r.1 0 5) := by
    refine ⟨⟨fun a j h => ?_, fun a j h h' => ?_, ?_⟩, ⟨fun a j h => ?_, fun a j h h' => ?_⟩, ?_, ?_, ?_, ?_, ?_, ?_, va, way, ?_, ?_, hA2, ?_, ?_, ?_, fun k hk tk => ⟨0, ?_, ?_, by omega⟩⟩
    · rw [g1]; unfold f_D_startAt; simp only [g_I1, g_L1, g_I2]; rw [if_neg (by omega), if_neg (by omega), if_neg (by omega), if_neg (by omega)]
    · rw [g2 a j (by omega)]; unfold f_D_startAt; simp only [g_I2, g_L2]; rw [if_neg (by omega), if_neg (by omega), if_neg (by omega)]
    · rw [g1]; unfold f_D_startAt; simp only [g_I1, g_L1]; rw [if_neg (by omega), if_neg (by omega), if_neg (by omega), if_neg (by omega)]
    · rw [z1]; simp only [g_I1, g_L1]; rw [if_neg h]
    · rw [z2 a j h]; simp only [g_I2, g_L2]; rw [if_neg (by omega), if_neg (by omega), if_neg (by omega), if_neg (by omega)]
    · rw [g1]; unfold f_D_startAt; simp only [g_I1, g_L1]; rw [if_neg (by omega), if_pos ⟨trivial, trivial⟩]
    · rw [g1]; simp only [g_I1]; rw [if_pos ⟨trivial, trivial⟩]
    · rw [g1]; unfold f_D_startAt; simp only [g_I1, g_L1]; rw [if_neg (by omega), if_neg (by omega), if_neg (by omega), if_pos ⟨trivial, trivial⟩, hp8]
    · rw [g1]; unfold f_D_startAt; simp only [g_I1, g_L1]; rw [if_neg (by omega), if_neg (by omega), if_pos ⟨trivial, trivial⟩, hp9]
    · rw [z2 _ _ (by omega)]; simp only [g_I2, g_L2]; rw [if_neg (by omega), if_neg (by omega), if_neg (by omega), if_pos ⟨trivial, trivial⟩, hp4]
    · rw [z1]; simp only [g_I1, g_L1]; rw [if_pos ⟨trivial, trivial⟩]
    · rw [g2 _ _ (by omega)]; simp only [g_I2, g_L2]; rw [if_pos ⟨trivial, trivial⟩, ea]
    · rw [z2 _ _ (by omega)]; simp only [g_I2, g_L2]; rw [if_neg (by omega), if_neg (by omega), if_pos ⟨trivial, trivial⟩, ea]
    · rw [g2 _ _ (by omega), z2 _ _ (by omega)]; unfold f_D_startAt; simp only [g_I2, g_L2]; rfl
    · rw [g2 _ _ (by omega), z2 _ _ (by omega)]; unfold f_D_startAt; simp only [g_I2, g_L2]; rfl
    · rw [if_neg (by omega)]; unfold u_ds; omega
    · rw [g3 k hk]; rfl
    · rw [z3 k hk]; rfl
  have ms : u_meas d (r.1 0 5).toInt < 50 := by
    obtain ⟨a1, a2, -⟩ := va
    unfold u_meas
    split <;> omega
  obtain ⟨A', q, F', c', e1, e2, e3⟩ := v_legs S st1 st2 rfl (f_D_startAt x (x.1 0 8) (x.1 0 9) d) am (nI (u_P st.toInt)) (f_B_clearPendingGrowth (g_I (g_L (f_D_startAt x (x.1 0 8) (x.1 0 9) d) 9 3 am.toInt64) 9 2 (nI (u_P st.toInt)))) 50 _ s A p 0 (r.1 0 5) T0 (Or.inr (Or.inr ms)) 64 0 1000 (by omega) (by omega)
  unfold f_D_workOut k_D_workOut f_D_workOut_12_4 k_D_workOut_12_4 f_D_workOut_56_10 k_D_workOut_56_10
  exact ⟨A', q, F', c', e1, ⟨e2, True.intro⟩, e3⟩
