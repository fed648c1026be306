/-! the start -/
theorem v_iniF (a b x1 x2 x3 : Int32) : ∀ (jn jk : Nat) (τ : g_S), (f_M_init_L190 a b x1 x2 x3 jn jk τ).1 = τ.1 ∧ ∀ p, p ≠ 1 → (f_M_init_L190 a b x1 x2 x3 jn jk τ).2 p = τ.2 p := by
  intro jn
  induction jn with
  | zero => intro jk τ; exact ⟨rfl, fun _ _ => rfl⟩
  | succ jn ih =>
    intro jk τ
    obtain ⟨h1, h2⟩ := ih (jk + 1) (g_L (g_L τ 1 (24 + (jk + 1)) (((τ.2 1 (23 + (jk + 1))) * (1025 : Int64)) / (1000 : Int64))) 1 ((24 - (jk + 1))) ((((g_L τ 1 (24 + (jk + 1)) (((τ.2 1 (23 + (jk + 1))) * (1025 : Int64)) / (1000 : Int64))).2 1 ((25 - (jk + 1)))) * (1000 : Int64)) / (1025 : Int64)))
    exact ⟨h1, fun p hp => (h2 p hp).trans (by rw [g_L2p _ _ hp, g_L2p _ _ hp])⟩
theorem v_iniS (a b x1 x2 x3 : Int32) : ∀ (jn jk : Nat) (τ τ' : g_S), τ.2 = τ'.2 → (f_M_init_L190 a b x1 x2 x3 jn jk τ).2 = (f_M_init_L190 0 0 0 0 0 jn jk τ').2 := by
  intro jn
  induction jn with
  | zero => intro jk τ τ' h; exact h
  | succ jn ih =>
    intro jk τ τ' h
    refine ih (jk + 1) _ _ ?_
    obtain ⟨p1, w⟩ := τ
    obtain ⟨p2, w'⟩ := τ'
    have h : w = w' := h
    subst h
    rfl
theorem v_iniT : ∀ j : Fin 49, (f_M_init_L190 0 0 0 0 0 24 0 (g_L r_00 1 24 (65536 : Int64))).2 1 j.val = lN (u_tab j.val) := by decide +kernel
theorem u_spc (a : Int32) : ∃ sp : Int32, ¬ sp = 0 ∧ (if f_P_isSpacing a = 0 then (1 : Int32) else a) = sp ∧ (if (if a = (1 : Int32) then (1 : Int32) else (if a = (2 : Int32) then (1 : Int32) else (if a = (3 : Int32) then (1 : Int32) else (if a = (4 : Int32) then (1 : Int32) else (if a = (6 : Int32) then (1 : Int32) else (if a = (8 : Int32) then (1 : Int32) else (0 : Int32))))))) = 0 then (1 : Int32) else a) = sp := by
  by_cases h1 : a = 1
  · subst h1; exact ⟨1, by decide, by decide, by decide⟩
  by_cases h2 : a = 2
  · subst h2; exact ⟨2, by decide, by decide, by decide⟩
  by_cases h3 : a = 3
  · subst h3; exact ⟨3, by decide, by decide, by decide⟩
  by_cases h4 : a = 4
  · subst h4; exact ⟨4, by decide, by decide, by decide⟩
  by_cases h6 : a = 6
  · subst h6; exact ⟨6, by decide, by decide, by decide⟩
  by_cases h8 : a = 8
  · subst h8; exact ⟨8, by decide, by decide, by decide⟩
  refine ⟨1, by decide, ?_, ?_⟩
  · have e : f_P_isSpacing a = 0 := by
      simp only [f_P_isSpacing_26_2, f_P_isSpacing_26_5, f_P_isSpacing_26_8, f_P_isSpacing_26_11, f_P_isSpacing_22_12, f_P_isSpacing_16_9, f_P_isSpacing_11_6, f_P_isSpacing_5_3, f_P_isSpacing]
      by_cases c1 : a < (1 : Int32)
      · rw [if_pos c1]
      · rw [if_neg c1]
        by_cases c2 : (8 : Int32) < a
        · rw [if_pos c2]
        · rw [if_neg c2]
          by_cases c3 : a = (5 : Int32)
          · rw [if_pos c3]
          · rw [if_neg c3]
            by_cases c4 : a = (7 : Int32)
            · rw [if_pos c4]
            · exfalso
              rw [Int32.lt_iff_toInt_lt, show (1 : Int32).toInt = 1 from rfl] at c1
              rw [Int32.lt_iff_toInt_lt, show (8 : Int32).toInt = 8 from rfl] at c2
              rw [← Int32.toInt_inj] at h1 h2 h3 h4 h6 h8 c3 c4
              rw [show (1 : Int32).toInt = 1 from rfl] at h1
              rw [show (2 : Int32).toInt = 2 from rfl] at h2
              rw [show (3 : Int32).toInt = 3 from rfl] at h3
              rw [show (4 : Int32).toInt = 4 from rfl] at h4
              rw [show (5 : Int32).toInt = 5 from rfl] at c3
              rw [show (6 : Int32).toInt = 6 from rfl] at h6
              rw [show (7 : Int32).toInt = 7 from rfl] at c4
              rw [show (8 : Int32).toInt = 8 from rfl] at h8
              omega
    rw [if_pos e]
  · rw [if_neg h1, if_neg h2, if_neg h3, if_neg h4, if_neg h6, if_neg h8, if_pos rfl]
theorem u_fee (b : Int32) : ∃ fe, fe ≤ 100 ∧ (if b < 0 then (3 : Int32) else if (100 : Int32) < b then 3 else b) = nI fe := by
  by_cases h1 : b < 0
  · exact ⟨3, by decide, by rw [if_pos h1]; rfl⟩
  · by_cases h2 : (100 : Int32) < b
    · exact ⟨3, by decide, by rw [if_neg h1, if_pos h2]; rfl⟩
    · rw [if_neg h1, if_neg h2]
      rw [Int32.lt_iff_toInt_lt, g_tI0] at h1
      rw [Int32.lt_iff_toInt_lt, show (100 : Int32).toInt = 100 from rfl] at h2
      have e := Int32.toNat_toInt b
      exact ⟨b.toNatClampNeg, by omega, (Int32.ofNat_toNatClampNeg b (by rw [Int32.le_iff_toInt_le, g_tI0]; omega)).symm⟩
theorem v_sum0 : ∀ n, v_sum (fun _ => 0) n = 0 := by
  intro n
  induction n with
  | zero => rfl
  | succ n ih =>
    show v_sum (fun _ => 0) n + 0 = 0
    rw [ih]
theorem w_0 : v_0 v_V := by
  intro a b
  obtain ⟨sp, s0, s1, s2⟩ := u_spc a
  obtain ⟨fe, f0, f1⟩ := u_fee b
  rw [s1, f1]
  have eM : ∃ x1 x2 x3, f_M_init a b = f_M_init_L190 a b x1 x2 x3 24 0 (g_L (g_I (g_I r_00 0 0 sp) 0 1 (nI fe)) 1 24 (65536 : Int64)) := by
    refine ⟨(if a = (1 : Int32) then (1 : Int32) else (if a = (2 : Int32) then (1 : Int32) else (if a = (3 : Int32) then (1 : Int32) else (if a = (4 : Int32) then (1 : Int32) else (if a = (6 : Int32) then (1 : Int32) else (if a = (8 : Int32) then (1 : Int32) else (0 : Int32))))))), sp, nI fe, ?_⟩
    unfold f_M_init f_M_init_144_504 f_M_init_155_508 f_M_init_174_512 f_M_init_259_517
    rw [s2, f1]
  obtain ⟨x1, x2, x3, eM⟩ := eM
  obtain ⟨g1, g2⟩ := v_iniF a b x1 x2 x3 24 0 (g_L (g_I (g_I r_00 0 0 sp) 0 1 (nI fe)) 1 24 (65536 : Int64))
  have g3 := v_iniS a b x1 x2 x3 24 0 (g_L (g_I (g_I r_00 0 0 sp) 0 1 (nI fe)) 1 24 (65536 : Int64)) (g_L r_00 1 24 (65536 : Int64)) rfl
  rw [eM]
  generalize f_M_init_L190 a b x1 x2 x3 24 0 (g_L (g_I (g_I r_00 0 0 sp) 0 1 (nI fe)) 1 24 (65536 : Int64)) = r at g1 g2 g3
  refine ⟨?_, ?_, ?_, ?_, ?_⟩
  · unfold v_cfg
    rw [g1]
    exact ⟨rfl, s0, rfl, rfl, ⟨fe, f0, rfl⟩, fun j hj => by rw [g3]; exact v_iniT ⟨j, hj⟩⟩
  · unfold v_pr
    rw [g1, g2 0 (by omega)]
    exact ⟨rfl, rfl, Or.inl ⟨rfl, rfl, rfl, rfl⟩⟩
  · refine ⟨fun o t ho ht => ?_, fun t ht => ?_⟩
    · rw [g2 2 (by omega)]; rfl
    · rw [g2 3 (by omega)]; rfl
  · refine ⟨fun k hk => ?_, fun _ => 0, ?_, fun k hk => ?_⟩
    · unfold v_lot
      rw [g1, g2 8 (by omega), g2 9 (by omega)]
      exact ⟨⟨rfl, rfl, rfl⟩, Or.inl ⟨rfl, rfl, rfl, rfl⟩⟩
    · rw [v_sum0]; omega
    · unfold v_lotB
      rw [g1, g2 8 (by omega), g2 9 (by omega)]
      refine ⟨rfl, fun t ht => ⟨0, 0, rfl, fun q => ?_, by rw [Nat.zero_mul, Nat.zero_mul]; exact Nat.zero_le _⟩, fun q => ?_⟩
      · exact absurd (show (0 : Int32) = 1 from q) (by decide)
      · exact absurd (show (0 : Int32) = 1 from q) (by decide)
  · rw [v_tim_B]
    refine ⟨0, 0, fun _ => 0, ?_, fun _ => rfl, fun q => ?_⟩
    · unfold v_tmB
      rw [g1, g2 0 (by omega)]
      exact ⟨rfl, rfl, by omega, rfl, rfl, rfl, by omega, fun j hj => absurd hj (by omega), fun j hj => absurd hj (by omega), fun j hj => absurd hj (by omega)⟩
    · rw [g1] at q
      exact absurd (show (0 : Int32) = 1 from q) (by decide)
