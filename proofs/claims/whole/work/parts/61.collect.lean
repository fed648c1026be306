/-- 2 * k, 2 * k + 1 -/
theorem u_ixk {k : Nat} (hk : k < 10) : ((2 : Int32) * nI k).toNatClampNeg = 2 * k ∧ ((2 : Int32) * nI k + (1 : Int32)).toNatClampNeg = 2 * k + 1 ∧ vp_in ((2 : Int32) * nI k) 20 ∧ vp_in ((2 : Int32) * nI k + (1 : Int32)) 20 := by
  obtain ⟨i1, i2⟩ := u_ix2 (a := k) (t := 0) (by omega) (by omega)
  obtain ⟨j1, j2⟩ := u_ix2 (a := k) (t := 1) (by omega) (by omega)
  have z0 : (2 : Int32) * nI k + nI 0 = (2 : Int32) * nI k := Int32.add_zero _
  rw [z0] at i1 i2
  have z1 : nI 1 = (1 : Int32) := rfl
  rw [z1] at j1 j2
  exact ⟨i1, j1, u_in_mono i2 (by omega), u_in_mono j2 (by omega)⟩
theorem w_collect : v_c_collect v_V := by
  intro x r i o lo hi h hi'
  obtain ⟨h1, h2, h3, h4, h5⟩ := id h
  obtain ⟨p1, p2, p3⟩ := id h2
  obtain ⟨hl, ws, hs, hb⟩ := id h4
  have hf := v_find hl o lo hi
  simp only [f_P_collect_74_13, f_P_collect_18_7, f_P_collect_18_8, f_P_collect_11_2, f_P_collect_7_16, f_P_collect, k_P_collect_74_13, k_P_collect_18_7, k_P_collect_18_8, k_P_collect_11_2, k_P_collect_7_16, k_P_collect, f_M_collect_89_21, f_M_collect_61_14, f_M_collect_29_7, f_M_collect_25_22, f_M_collect_15_5, f_M_collect_11_2, f_M_collect_7_23, f_M_collect, k_M_collect_89_21, k_M_collect_61_14, k_M_collect_29_7, k_M_collect_25_22, k_M_collect_15_5, k_M_collect_11_2, k_M_collect_7_23, k_M_collect]
  rcases p3 with ⟨og, -⟩ | ⟨og, -⟩
  · have o' : x.1 0 7 = 0 := p1.trans og
    simp only [og, o', if_true, true_and]
    exact v_mono x r i h
  · have n1 : ¬ r.1 0 3 = 0 := by rw [og]; decide
    have n2 : ¬ x.1 0 7 = 0 := by rw [p1, og]; decide
    simp only [n1, n2, if_false]
    cases hx : f_B_find x o lo hi with
    | none =>
      rw [hx] at hf
      have hf : f_M_find r o lo hi = -1 := hf
      have nn : ¬ (0 : Int32) ≤ -1 := by decide
      simp only [hf, nn, if_false, Option.elim, true_and]
      exact v_mono x r i h
    | some k =>
      rw [hx] at hf
      have hf : f_M_find r o lo hi = nI k := hf
      obtain ⟨hk, t4, t5, t6, t7⟩ := v_found hl hx
      have pz : (0 : Int32) ≤ nI k := nI_pos' (by omega)
      obtain ⟨i1, j1, q0, q1⟩ := u_ixk hk
      obtain ⟨⟨l1, l2, l3⟩, l4⟩ := hl k hk
      obtain ⟨b1, b2, b3⟩ := hb k hk
      obtain ⟨r1, r2, r3, a, ha, ea⟩ := b3 t4
      have eo : o = nI a := t5.symm.trans ea
      subst eo
      simp only [hf, pz, if_true, Option.elim, i1, j1, l2, l3]
      have kx := (v_payX (g_L (g_L x (k + 24) 0 (0 : Int64)) (k + 24) 1 (0 : Int64)) ha (-r.2 9 (2 * k)) (-r.2 9 (2 * k + 1))).2
      have km := (v_payR r ha (-r.2 9 (2 * k)) (-r.2 9 (2 * k + 1))).2
      obtain ⟨fx1, fx2⟩ := v_payXF (g_L (g_L x (k + 24) 0 (0 : Int64)) (k + 24) 1 (0 : Int64)) ha (-r.2 9 (2 * k)) (-r.2 9 (2 * k + 1))
      obtain ⟨fr1, fr2⟩ := v_payRF r ha (-r.2 9 (2 * k)) (-r.2 9 (2 * k + 1))
      have hw := v_pay (x := g_L (g_L x (k + 24) 0 (0 : Int64)) (k + 24) 1 (0 : Int64)) (r := r) (v_wal_cg h3 (fun o ho => by rw [g_L2p _ _ (by omega), g_L2p _ _ (by omega)]) (by rw [g_L2p _ _ (by omega), g_L2p _ _ (by omega)]) rfl rfl) ha (-r.2 9 (2 * k)) (-r.2 9 (2 * k + 1))
      generalize f_P_pay (g_L (g_L x (k + 24) 0 (0 : Int64)) (k + 24) 1 (0 : Int64)) (nI a) (-r.2 9 (2 * k)) (-r.2 9 (2 * k + 1)) = X at kx fx1 fx2 hw ⊢
      generalize f_M_pay r (nI a) (-r.2 9 (2 * k)) (-r.2 9 (2 * k + 1)) = Y at km fr1 fr2 hw ⊢
      have hwl : ws k < 2 ^ 31 := Nat.lt_of_le_of_lt (v_ws_le 10 hk) (Nat.lt_of_le_of_lt hs (by decide))
      have e8 : (g_L (g_L Y 9 (2 * k) (0 : Int64)) 9 (2 * k + 1) (0 : Int64)).2 8 k = lN (ws k) := by
        rw [g_L2p _ _ (by omega), g_L2p _ _ (by omega), fr2 8 (by omega) (by omega), b1]
      have e90 : (g_L (g_L Y 9 (2 * k) (0 : Int64)) 9 (2 * k + 1) (0 : Int64)).2 9 (2 * k) = lN 0 := by
        rw [g_L2k _ _ (by omega), g_L2s]; rfl
      have e91 : (g_L (g_L Y 9 (2 * k) (0 : Int64)) 9 (2 * k + 1) (0 : Int64)).2 9 (2 * k + 1) = lN 0 := by
        rw [g_L2s]; rfl
      obtain ⟨sw, ks⟩ := v_sweep hk e8 e90 e91 hwl (by decide) (by decide)
      rw [sw]
      refine ⟨⟨kx, True.intro⟩, ⟨q0, q1, km, q0, q1, ks, True.intro⟩, rfl, ?_, ?_, ?_, ?_, ?_⟩
      · exact v_cfg_cg h1 (by rw [fx1]; rfl) (by rw [fx1]; rfl) (by rw [fx1]; rfl) (by rw [g_I1p _ _ (by omega), g_L1, g_L1, fr1]) (by rw [g_I1p _ _ (by omega), g_L1, g_L1, fr1]) (by rw [g_I2, g_L2p _ _ (by omega), g_L2p _ _ (by omega), fr2 1 (by omega) (by omega)])
      · exact v_pr_cg h2 (by rw [fx1]; rfl) (by rw [fx1]; rfl) (by rw [fx1]; rfl) (by rw [g_I1p _ _ (by omega), g_L1, g_L1, fr1]) (by rw [g_I1p _ _ (by omega), g_L1, g_L1, fr1]) (by rw [g_I2, g_L2p _ _ (by omega), g_L2p _ _ (by omega), fr2 0 (by omega) (by omega)])
      · exact v_wal_cg hw (fun _ _ => rfl) rfl (by rw [g_I2, g_L2p _ _ (by omega), g_L2p _ _ (by omega)]) (by rw [g_I2, g_L2p _ _ (by omega), g_L2p _ _ (by omega)])
      · refine v_upd (ws := ws) (w' := ws k) hl hs hb hk ?_ ?_ ?_ ?_ (by omega)
        · intro j hj hjk
          refine ⟨fun s _ => by rw [fx1]; rfl, ?_, ?_, ?_⟩
          · rw [fx2 _ (by omega) (by omega), g_L2p _ _ (by omega), g_L2p _ _ (by omega)]
          · rw [fx2 _ (by omega) (by omega), g_L2p _ _ (by omega), g_L2p _ _ (by omega)]
          · rw [fx2 _ (by omega) (by omega), g_L2p _ _ (by omega), g_L2p _ _ (by omega)]
        · intro j hj hjk
          refine ⟨?_, ?_, ?_, ?_, ?_, fun t ht => ?_, fun t ht => ?_⟩
          · rw [g_I1k _ _ hjk, g_L1, g_L1, fr1]
          · rw [g_I1p _ _ (by omega), g_L1, g_L1, fr1]
          · rw [g_I1p _ _ (by omega), g_L1, g_L1, fr1]
          · rw [g_I1p _ _ (by omega), g_L1, g_L1, fr1]
          · rw [g_I2, g_L2p _ _ (by omega), g_L2p _ _ (by omega), fr2 8 (by omega) (by omega)]
          · rw [g_I2, g_L2k _ _ (by omega), g_L2k _ _ (by omega), fr2 9 (by omega) (by omega)]
          · rw [g_I2, g_L2p _ _ (by omega), g_L2p _ _ (by omega), fr2 10 (by omega) (by omega)]
        · have w3 : X.2 (k + 14) 3 = lN (ws k) := by
            rw [fx2 _ (by omega) (by omega), g_L2p _ _ (by omega), g_L2p _ _ (by omega), l1, b1]
          have w0 : X.2 (k + 24) 0 = lN 0 := by
            rw [fx2 _ (by omega) (by omega), g_L2k _ _ (by omega), g_L2s]; rfl
          have w1 : X.2 (k + 24) 1 = lN 0 := by
            rw [fx2 _ (by omega) (by omega), g_L2s]; rfl
          unfold v_lot
          rw [w3, w0, w1, g_I2, e8, e90, e91, g_I1s]
          refine ⟨⟨rfl, rfl, rfl⟩, ?_⟩
          by_cases c : ws k = 0
          · rw [c, if_pos ⟨rfl, rfl, rfl⟩]
            exact Or.inl ⟨rfl, rfl, rfl, rfl⟩
          · rw [if_neg (fun q => c q.1)]
            rcases l4 with ⟨t, -⟩ | ⟨-, -, c0, c1, c2, c3, c4⟩
            · rw [t4] at t
              exact absurd t (by decide)
            · refine Or.inr ⟨rfl, fun q => c ((lN_eq (b := 0) hwl (by decide)).mp q.1), ?_, ?_, ?_, ?_, ?_⟩
              · rw [fx1, g_I1p _ _ (by omega)]; show x.1 (k + 14) 0 = Y.1 5 k; rw [fr1]; exact c0
              · rw [fx1, g_I1p _ _ (by omega)]; show x.1 (k + 14) 1 = Y.1 6 k; rw [fr1]; exact c1
              · rw [fx1, g_I1p _ _ (by omega)]; show x.1 (k + 14) 2 = Y.1 7 k; rw [fr1]; exact c2
              · rw [fx2 _ (by omega) (by omega), g_L2p _ _ (by omega), g_L2p _ _ (by omega), g_L2p _ _ (by omega), g_L2p _ _ (by omega), fr2 10 (by omega) (by omega)]; exact c3
              · rw [fx2 _ (by omega) (by omega), g_L2p _ _ (by omega), g_L2p _ _ (by omega), g_L2p _ _ (by omega), g_L2p _ _ (by omega), fr2 10 (by omega) (by omega)]; exact c4
        · refine ⟨by rw [g_I2]; exact e8, fun t ht => ?_, fun _ => ?_⟩
          · obtain ⟨od, g, d1, d2, d3⟩ := b2 t ht
            refine ⟨0, g, ?_, fun _ => ?_, ?_⟩
            · rw [g_I2]
              by_cases tt : t = 0
              · subst tt; exact e90
              · have tt : t = 1 := by omega
                subst tt; exact e91
            · rw [g_I2, g_L2p _ _ (by omega), g_L2p _ _ (by omega), fr2 10 (by omega) (by omega)]
              exact d2 t4
            · have m1 : 4294967296 * (i * 3000000) ≤ 4294967296 * ((i + 1) * 3000000) := Nat.mul_le_mul_left _ (Nat.mul_le_mul_right _ (Nat.le_succ i))
              rw [Nat.zero_mul, Nat.zero_add]
              exact Nat.le_trans (Nat.le_trans (Nat.le_add_left _ _) d3) m1
          · rw [g_I1p _ _ (by omega), g_I1p _ _ (by omega), g_I1p _ _ (by omega), g_L1, g_L1, fr1]
            exact ⟨r1, r2, r3, a, ha, ea⟩
      · apply v_tim_mono
        exact v_tim_cg h5 (by rw [fx2 5 (by omega) (by omega), g_L2p _ _ (by omega), g_L2p _ _ (by omega)]) (by rw [fx2 5 (by omega) (by omega), g_L2p _ _ (by omega), g_L2p _ _ (by omega)]) (by rw [fx1]; rfl) (by rw [fx2 6 (by omega) (by omega), g_L2p _ _ (by omega), g_L2p _ _ (by omega)]) (by rw [fx2 7 (by omega) (by omega), g_L2p _ _ (by omega), g_L2p _ _ (by omega)]) (by rw [fx1]; rfl) (by rw [g_I2, g_L2p _ _ (by omega), g_L2p _ _ (by omega), fr2 0 (by omega) (by omega)]) (by rw [g_I2, g_L2p _ _ (by omega), g_L2p _ _ (by omega), fr2 0 (by omega) (by omega)]) (by rw [g_I1p _ _ (by omega), g_L1, g_L1, fr1]) (by rw [g_I1p _ _ (by omega), g_L1, g_L1, fr1]) (by rw [g_I1p _ _ (by omega), g_L1, g_L1, fr1]) (by rw [g_I2, g_L2p _ _ (by omega), g_L2p _ _ (by omega), fr2 11 (by omega) (by omega)]) (by rw [g_I2, g_L2p _ _ (by omega), g_L2p _ _ (by omega), fr2 12 (by omega) (by omega)])
