/-- what a swap does once the trade is worked out and can be paid -/
theorem v_swapE {x r y s : g_S} {i : Nat} {ws : Nat → Nat} {d c : Int32} {fe L A q F a tk tk' : Nat} {b : Bool} (S : v_St x r i ws d fe L) (T : v_T x r y s ws d L b A q F c) (h : v_V x r i) (hi : i < 512) (w : r.1 0 3 = 1) (ha : a < 4) (htk : (d = 1 ∧ tk = 0 ∧ tk' = 1) ∨ (d = 0 ∧ tk = 1 ∧ tk' = 0))
    (σ σ' τ18 : g_S) (am lim r3 r10 r21 m3 m10 : Int32) :
    k_P_swap_99_35 σ (nI a) d am lim r3 r10 τ18 r21 y (nI tk) ∧ k_M_swap_67_24 σ' (nI a) d am lim m3 m10 s (nI tk) ∧ (f_P_swap_99_35 σ (nI a) d am lim r3 r10 τ18 r21 y (nI tk)).1 = (f_M_swap_67_24 σ' (nI a) d am lim m3 m10 s (nI tk)).1 ∧ v_V (f_P_swap_99_35 σ (nI a) d am lim r3 r10 τ18 r21 y (nI tk)).2 (f_M_swap_67_24 σ' (nI a) d am lim m3 m10 s (nI tk)).2 (i + 1) := by
  obtain ⟨fx, fr, -, -, y4, y5, r20, r21', va, -, -, -, -, e6, e7, bF, pe⟩ := T
  have sX := v_frX_sX fx
  have sR := v_frR_sR fr
  obtain ⟨s1, s2, s3, -⟩ := S
  obtain ⟨v1, v2, v3, v4, v5⟩ := v_fr_V h fx fr
  have w' : s.1 0 3 = 1 := by rw [fr.1 _ _ (by omega)]; exact w
  have ht : tk < 2 := by omega
  have ht' : tk' < 2 := by omega
  have vold : -25 ≤ (s.1 0 5).toInt ∧ (s.1 0 5).toInt ≤ 24 := by
    rcases v2.2.2 with ⟨u, -⟩ | ⟨-, p, -, -, u⟩
    · rw [w'] at u; exact absurd u (by decide)
    · exact ⟨u.1, u.2.1⟩
  rw [v_tim_B] at v5
  obtain ⟨Tm, m, tm, tB, tc, td⟩ := v5
  obtain ⟨kM, kN, fX, fR, m', tm', hm', tN, tL⟩ := v_note tB (by omega) vold.1 vold.2
  have e1t : (1 : Int32) - nI tk = nI tk' := by
    rcases htk with ⟨-, rfl, rfl⟩ | ⟨-, rfl, rfl⟩
    · rfl
    · rfl
  unfold f_P_swap_99_35 k_P_swap_99_35 f_M_swap_67_24 k_M_swap_67_24
  rw [v2.2.1]
  generalize f_H_mark y (s.1 0 5) = y1 at fX tN ⊢
  generalize f_M_note s = z1 at fR tN ⊢
  have Y6 : y1.2 9 6 = y.2 9 6 := by rw [fX.1 9 (by omega) (by omega)]
  have Y7 : y1.2 9 7 = y.2 9 7 := by rw [fX.1 9 (by omega) (by omega)]
  have Z3 : z1.2 0 23 = s.2 0 23 := by rw [fR.1 0 (by omega) (by omega)]
  have Z4 : z1.2 0 24 = s.2 0 24 := by rw [fR.1 0 (by omega) (by omega)]
  unfold f_P_swap_107_40 k_P_swap_107_40 f_P_swap_121_45 k_P_swap_121_45 f_P_swap_138_50 k_P_swap_138_50 f_P_swap_147_55 k_P_swap_147_55 f_M_swap_68_29 k_M_swap_68_29 f_M_swap_89_33 k_M_swap_89_33 f_M_swap_105_37 k_M_swap_105_37 f_M_swap_105_42 k_M_swap_105_42 f_M_swap_160_48 k_M_swap_160_48 f_P_pair
  rw [e1t, Y6, e6, Z3, Z4]
  obtain ⟨a1, a2, ka⟩ := v_trX y1 ha ht (s.2 0 23)
  have A7 : (f_P_transfer y1 (nI a) (nI tk) (s.2 0 23)).2 9 7 = s.2 0 24 := by
    rw [a2, if_neg (by omega), if_neg (by omega), Y7, e7]
  rw [A7]
  obtain ⟨b1, b2, kb⟩ := v_trX (f_P_transfer y1 (nI a) (nI tk) (s.2 0 23)) ha ht' (-(s.2 0 24))
  have wy : v_wal y1 z1 := v_wal_cg v3 (fun o ho => fX.1 _ (by omega) (by omega)) (fX.1 _ (by omega) (by omega)) (fR.1 _ (by omega) (by omega)) (fR.1 _ (by omega) (by omega))
  have wl := v_tr2 wy ha (t := tk) (t' := tk') (by omega) (s.2 0 23) (s.2 0 24) (if d = 0 then -(s.2 0 24) else s.2 0 23) (if d = 0 then s.2 0 23 else -(s.2 0 24)) (by
    rcases htk with ⟨rfl, rfl, rfl⟩ | ⟨rfl, rfl, rfl⟩
    · exact Or.inl ⟨rfl, if_neg (by decide), if_neg (by decide)⟩
    · exact Or.inr ⟨rfl, if_pos rfl, if_pos rfl⟩)
  generalize (if d = 0 then -(s.2 0 24) else s.2 0 23) = X at wl ⊢
  generalize (if d = 0 then s.2 0 23 else -(s.2 0 24)) = Y at wl ⊢
  obtain ⟨pr1, pr2⟩ := v_payRF z1 ha X Y
  have kp := (v_payR z1 ha X Y).2
  generalize f_M_pay z1 (nI a) X Y = z2 at pr1 pr2 wl kp ⊢
  generalize f_P_transfer (f_P_transfer y1 (nI a) (nI tk) (s.2 0 23)) (nI a) (nI tk') (-(s.2 0 24)) = y3 at b1 b2 wl ⊢
  generalize f_P_transfer y1 (nI a) (nI tk) (s.2 0 23) = y2 at a1 a2 b1 b2 A7 kb ⊢
  obtain ⟨g1, g2, g3, kg⟩ := v_keepC y3 ht
  generalize f_B_keepPendingGrowth y3 (nI tk) = yk at g1 g2 g3 ⊢
  obtain ⟨l1, l2, l3, l4, kl⟩ := v_swL σ' (nI a) d am lim m3 m10 s z1 X Y z2 ht 10 0 z2 rfl
  generalize f_M_swap_L111 σ' (nI a) d am lim m3 m10 s (nI tk) z1 X Y z2 10 0 z2 = zk at l1 l2 l3 l4 ⊢
  -- the class's numbers at the end
  have N1 : yk.1 = y1.1 := by rw [g1, b1, a1]
  have N2 : ∀ p j, p ≠ 2 → (p < 10 ∨ 14 ≤ p) → (p < 34 ∨ 44 ≤ p ∨ j ≠ tk) → yk.2 p j = y1.2 p j := by
    intro p j h1 h2 h3
    rw [g2 p j h3, b2, if_neg (by omega), if_neg (by omega), a2, if_neg (by omega), if_neg (by omega)]
  have N3 : ∀ p j, (p < 34 ∨ 44 ≤ p) → yk.2 p j = y3.2 p j := fun p j h1 => g2 p j (by omega)
  have N34 : ∀ k, k < 10 → yk.2 (k + 34) tk = y.2 (k + 34) tk + y.2 (k + 14) 6 := by
    intro k hk
    rw [g3 k hk, b2, if_neg (by omega), if_neg (by omega), a2, if_neg (by omega), if_neg (by omega), b2, if_neg (by omega), if_neg (by omega), a2, if_neg (by omega), if_neg (by omega), fX.1 _ (by omega) (by omega), fX.1 _ (by omega) (by omega)]
  have M1 : zk.1 = z1.1 := by rw [l1, pr1]
  have M2 : ∀ p, p ≠ 2 → p ≠ 3 → p ≠ 10 → zk.2 p = z1.2 p := fun p h1 h2 h3 => by rw [l2 p h3, pr2 p h1 h2]
  have M10 : z2.2 10 = s.2 10 := by rw [pr2 10 (by omega) (by omega), fR.1 10 (by omega) (by omega)]
  have M13 : z2.2 13 = s.2 13 := by rw [pr2 13 (by omega) (by omega), fR.1 13 (by omega) (by omega)]
  have Mt : z2.1 4 = s.1 4 := by rw [pr1, fR.2.1 4 (by omega)]
  have K4 : yk.1 9 4 = nI q := by rw [N1, fX.2 9 (by omega) (by omega)]; exact y4
  have K5 : yk.1 9 5 = c := by rw [N1, fX.2 9 (by omega) (by omega)]; exact y5
  have K20 : zk.2 0 20 = lN q := by rw [M2 0 (by omega) (by omega) (by omega), fR.1 0 (by omega) (by omega)]; exact r20
  have K21 : zk.1 0 21 = c := by rw [M1, fR.2.2 21 (by omega)]; exact r21'
  have K6 : yk.2 9 6 = zk.2 0 23 := by rw [N2 _ _ (by omega) (by omega) (by omega), Y6, e6, M2 0 (by omega) (by omega) (by omega), Z3]
  have K7 : yk.2 9 7 = zk.2 0 24 := by rw [N2 _ _ (by omega) (by omega) (by omega), Y7, e7, M2 0 (by omega) (by omega) (by omega), Z4]
  rw [K4, K5, K20, K21, K6, K7]
  refine ⟨⟨kM, ka, kb, kg, True.intro⟩, ⟨kN, kp, kl, True.intro⟩, rfl, ?_, ?_, ?_, ?_, ?_⟩
  · refine v_cfg_cg v1 ?_ ?_ ?_ ?_ ?_ ?_
    · rw [g_I1k _ _ (by omega), g_I1k _ _ (by omega), N1, fX.2 0 (by omega) (by omega)]
    · rw [g_I1k _ _ (by omega), g_I1k _ _ (by omega), N1, fX.2 0 (by omega) (by omega)]
    · rw [g_I1p _ _ (by omega), g_I1p _ _ (by omega), N1, fX.2 9 (by omega) (by omega)]
    · rw [g_I1k _ _ (by omega), g_L1, M1, fR.2.2 0 (by omega)]
    · rw [g_I1k _ _ (by omega), g_L1, M1, fR.2.2 1 (by omega)]
    · rw [g_I2, g_L2p _ _ (by omega), M2 1 (by omega) (by omega) (by omega), fR.1 1 (by omega) (by omega)]
  · refine ⟨?_, ?_, Or.inr ⟨?_, q, ?_, ?_, ?_⟩⟩
    · rw [g_I1k _ _ (by omega), g_I1k _ _ (by omega), N1, fX.2 0 (by omega) (by omega), g_I1k _ _ (by omega), g_L1, M1, fR.2.2 3 (by omega)]
      exact v2.1
    · rw [g_I1s, g_I1s]
    · rw [g_I1k _ _ (by omega), g_L1, M1, fR.2.2 3 (by omega)]
      exact w'
    · rw [g_I1k _ _ (by omega), g_I1s]
    · rw [g_I2, g_L2s]
    · rw [g_I1s]; exact va
  · refine v_wal_cg wl (fun o ho => ?_) ?_ ?_ ?_
    · rw [g_I2, g_I2]; exact funext fun j => N3 _ _ (by omega)
    · rw [g_I2, g_I2]; exact funext fun j => N3 _ _ (by omega)
    · rw [g_I2, g_L2p _ _ (by omega), l2 2 (by omega)]
    · rw [g_I2, g_L2p _ _ (by omega), l2 3 (by omega)]
  · have hl : ∀ k, k < 10 → v_lot y s k := fun k hk => v_lot_cg hk (s1 k hk) sX sR
    have hb : ∀ k, k < 10 → v_lotB s i k (ws k) := fun k hk => v_lotB_cg (s2 k hk) sR
    have ex : ∃ f : Nat → Nat, ∀ k, k < 10 → r.1 4 k = 1 → y.2 (k + 14) 6 = lN (f k) ∧ s.2 13 k = lN (f k) ∧ f k * ws k ≤ 4294967296 * F := by
      have e : ∀ k, ∃ n, k < 10 → r.1 4 k = 1 → y.2 (k + 14) 6 = lN n ∧ s.2 13 k = lN n ∧ n * ws k ≤ 4294967296 * F := by
        intro k
        by_cases u : k < 10 ∧ r.1 4 k = 1
        · obtain ⟨n, hn⟩ := pe k u.1 u.2
          exact ⟨n, fun _ _ => hn⟩
        · exact ⟨0, fun u1 u2 => absurd ⟨u1, u2⟩ u⟩
      exact ⟨fun k => Classical.choose (e k), fun k => Classical.choose_spec (e k)⟩
    obtain ⟨f, hf⟩ := ex
    have r4 : ∀ k, s.1 4 k = r.1 4 k := fun k => fr.1 _ _ (by omega)
    refine v_growL hl s3 hb (fun k t => if t = tk then y.2 (k + 14) 6 else 0) (fun k t => if t = tk then f k else 0) (fun k j hk hj => ?_) (fun k hk => ⟨?_, ?_⟩) (fun k t hk ht2 => ?_) ⟨?_, ?_, ?_, ?_, ?_, ?_⟩ (fun k t hk ht2 u => ?_) (fun k t hk ht2 u => ?_)
    · rw [g_I1p _ _ (by omega), g_I1p _ _ (by omega), N1, fX.2 _ (by omega) (by omega)]
    · rw [g_I2, g_I2, N2 _ _ (by omega) (by omega) (by omega), fX.1 _ (by omega) (by omega)]
    · rw [g_I2, g_I2]; exact funext fun j => by rw [N2 _ _ (by omega) (by omega) (by omega), fX.1 _ (by omega) (by omega)]
    · rw [g_I2, g_I2]
      by_cases e : t = tk
      · rw [if_pos e, e]; exact N34 k hk
      · rw [if_neg e, Int64.add_zero, N2 _ _ (by omega) (by omega) (by omega), fX.1 _ (by omega) (by omega)]
    · rw [g_I1p _ _ (by omega), g_L1, M1, fR.2.1 4 (by omega)]
    · rw [g_I1p _ _ (by omega), g_L1, M1, fR.2.1 5 (by omega)]
    · rw [g_I1p _ _ (by omega), g_L1, M1, fR.2.1 6 (by omega)]
    · rw [g_I1p _ _ (by omega), g_L1, M1, fR.2.1 7 (by omega)]
    · rw [g_I2, g_L2p _ _ (by omega), M2 8 (by omega) (by omega) (by omega), fR.1 8 (by omega) (by omega)]
    · rw [g_I2, g_L2p _ _ (by omega), M2 9 (by omega) (by omega) (by omega), fR.1 9 (by omega) (by omega)]
    · rw [g_I2, g_L2p _ _ (by omega)]
      by_cases e : t = tk
      · obtain ⟨f1, f2, -⟩ := hf k hk (by rw [← r4]; exact u)
        rw [if_pos e, e, l4 k (Nat.zero_le _) hk, M10, M13, Mt, if_neg (by rw [u]; decide), f1, f2]
      · rw [if_neg e, Int64.add_zero, l3 _ (by omega), M10]
    · obtain ⟨f1, f2, f3⟩ := hf k hk (by rw [← r4]; exact u)
      have bF2 : F ≤ 3000000 := by omega
      by_cases e : t = tk
      · simp only [e, if_true]
        exact ⟨f1, Nat.le_trans f3 (Nat.mul_le_mul_left _ bF2)⟩
      · simp only [e, if_false]
        exact ⟨rfl, by omega⟩
  · apply v_tim_mono
    have tY : v_tim y1 (g_I z1 0 5 c) i := by
      rw [v_tim_B]
      refine ⟨Tm, m', tm', ?_, ?_, fun _ => hm'⟩
      · rw [g_I1s]; exact v_tmB_c tN tL c
      · intro u
        rw [g_I1k _ _ (by omega), fR.2.2 3 (by omega), w'] at u
        exact absurd u (by decide)
    refine v_tim_cg tY ?_ ?_ ?_ ?_ ?_ ?_ ?_ ?_ ?_ ?_ ?_ ?_ ?_
    · rw [g_I2, g_I2, N2 _ _ (by omega) (by omega) (by omega)]
    · rw [g_I2, g_I2, N2 _ _ (by omega) (by omega) (by omega)]
    · rw [g_I1p _ _ (by omega), g_I1p _ _ (by omega), N1]
    · rw [g_I2, g_I2]; exact funext fun j => N2 _ _ (by omega) (by omega) (by omega)
    · rw [g_I2, g_I2]; exact funext fun j => N2 _ _ (by omega) (by omega) (by omega)
    · rw [g_I1p _ _ (by omega), g_I1p _ _ (by omega), N1]
    · rw [g_I2, g_I2, g_L2k _ _ (by omega), M2 0 (by omega) (by omega) (by omega)]
    · rw [g_I2, g_I2, g_L2k _ _ (by omega), M2 0 (by omega) (by omega) (by omega)]
    · rw [g_I1k _ _ (by omega), g_I1k _ _ (by omega), g_L1, M1]
    · rw [g_I1k _ _ (by omega), g_I1k _ _ (by omega), g_L1, M1]
    · rw [g_I1s, g_I1s]
    · rw [g_I2, g_I2, g_L2p _ _ (by omega), M2 11 (by omega) (by omega) (by omega)]
    · rw [g_I2, g_I2, g_L2p _ _ (by omega), M2 12 (by omega) (by omega) (by omega)]
theorem w_swap : v_c_swap v_V := by
  intro x r i o d am lim h hi hd
  have hq := h.2.1
  unfold f_P_swap k_P_swap f_M_swap k_M_swap
  rw [hq.1]
  rcases hq.2.2 with ⟨w, -⟩ | ⟨w, -⟩
  · simp only [w, if_true]
    exact ⟨True.intro, True.intro, rfl, v_mono _ _ _ h⟩
  · simp only [w, g_10, if_false]
    unfold f_P_swap_11_2 k_P_swap_11_2 f_M_swap_11_2 k_M_swap_11_2 f_P_swap_12_5 k_P_swap_12_5 f_M_swap_12_5 k_M_swap_12_5
    rcases u_isOwner o with ⟨o1, o2⟩ | ⟨o1, o2, a, ha, rfl⟩
    · rw [o1, o2]
      simp only [if_true]
      exact ⟨True.intro, True.intro, rfl, v_mono _ _ _ h⟩
    · rw [o1, o2]
      simp only [g_10, if_false]
      obtain ⟨kt, kw, hh⟩ := v_trade h w hd am lim
      unfold f_P_swap_18_8 k_P_swap_18_8 f_M_swap_18_8 k_M_swap_18_8 f_P_swap_23_12 k_P_swap_23_12 f_M_swap_23_15 k_M_swap_23_15
      rcases hh with ⟨e1, e2⟩ | ⟨e1, e2, k1, k2, k3, ws, fe, p, L, b, A, q, F, c, S, T, -⟩
      · rw [e1, e2]
        simp only [if_true]
        exact ⟨⟨kt, True.intro⟩, ⟨kw, True.intro⟩, rfl, v_mono _ _ _ h⟩
      · rw [e1, e2]
        simp only [g_10, if_false]
        unfold f_P_swap_33_14 k_P_swap_33_14 f_P_swap_46_19 k_P_swap_46_19 f_P_swap_60_23 k_P_swap_60_23 f_P_swap_63_28 k_P_swap_63_28 f_P_swap_70_31 k_P_swap_70_31 f_M_swap_33_17 k_M_swap_33_17 f_M_swap_42_21 k_M_swap_42_21
        generalize f_D_workOut (f_D_startAt x (x.1 0 8) (x.1 0 9) d) am (f_P_priceOf lim) = y at T
        generalize (f_M_work r d am lim).2 = s at T
        have tok : ∃ tk tk', ((d = 1 ∧ tk = 0 ∧ tk' = 1) ∨ (d = 0 ∧ tk = 1 ∧ tk' = 0)) ∧ f_D_tokenIn y = nI tk ∧ (if d = 0 then (1 : Int32) else (0 : Int32)) = nI tk := by
          unfold f_D_tokenIn f_D_tokenIn_11_2 f_D_tokenIn_7_3
          rw [T.2.2.1]
          rcases hd with rfl | rfl
          · exact ⟨1, 0, Or.inr ⟨rfl, rfl, rfl⟩, rfl, rfl⟩
          · exact ⟨0, 1, Or.inl ⟨rfl, rfl, rfl⟩, rfl, rfl⟩
        obtain ⟨tk, tk', tt, t1, t2⟩ := tok
        have ht : tk < 2 := by omega
        obtain ⟨i1, i2⟩ := u_ix2 (a := a) (t := tk) (by omega) ht
        have V2 := v_fr_V h T.1 T.2.1
        have wal := V2.2.2.1.1 a tk ha ht
        have e6 : y.2 9 6 = s.2 0 23 := T.2.2.2.2.2.2.2.2.2.2.2.2.2.1
        have qa : vp_in (nI a) 4 := u_inN ha (by omega)
        have qt : vp_in (nI tk) 2 := u_inN ht (by omega)
        have q8 : vp_in ((2 : Int32) * nI a + nI tk) 8 := u_in_mono i2 (by omega)
        rw [t1, t2, u_cl (a := a) (by omega), u_cl (a := tk) (by omega), i1, e6, wal]
        by_cases le : s.2 0 23 ≤ s.2 2 (2 * a + tk)
        · simp only [le, if_true]
          obtain ⟨z1, z2, z3, z4⟩ := v_swapE S T h hi w ha tt x r (f_D_startAt x (x.1 0 8) (x.1 0 9) d) am lim 1 1 (f_P_priceOf lim) 1 1
          exact ⟨⟨kt, k2, k1, k3, qa, qt, z1⟩, ⟨kw, q8, z2⟩, z3, z4⟩
        · simp only [le, if_false]
          exact ⟨⟨kt, k2, k1, k3, qa, qt, True.intro⟩, ⟨kw, q8, True.intro⟩, rfl, v_mono _ _ _ V2⟩
