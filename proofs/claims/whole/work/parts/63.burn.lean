/-! one lot anew, its growth taken -/
theorem v_fin {x r X R : g_S} {i k w o0 o1 a : Nat} {ws : Nat → Nat} {lo hi : Int32} (hl : ∀ k, k < 10 → v_lot x r k) (hs : v_sum ws 10 ≤ 1000000) (hb : ∀ k, k < 10 → v_lotB r i k (ws k)) (hk : k < 10) (hi5 : i < 512)
    (x1 : ∀ j, j < 10 → j ≠ k → X.1 (j + 14) = x.1 (j + 14)) (x2 : X.1 (k + 14) 0 = nI a ∧ X.1 (k + 14) 1 = lo ∧ X.1 (k + 14) 2 = hi) (x3 : ∀ j, j < 10 → j ≠ k → X.2 (j + 14) 3 = x.2 (j + 14) 3 ∧ X.2 (j + 24) = x.2 (j + 24) ∧ X.2 (j + 34) = x.2 (j + 34)) (x4 : X.2 (k + 14) 3 = lN w ∧ X.2 (k + 24) 0 = lN o0 ∧ X.2 (k + 24) 1 = lN o1 ∧ X.2 (k + 34) 0 = 0 ∧ X.2 (k + 34) 1 = 0)
    (r1 : R.1 4 k = if w = 0 ∧ o0 = 0 ∧ o1 = 0 then 0 else 1) (r2 : R.1 5 k = nI a ∧ R.1 6 k = lo ∧ R.1 7 k = hi) (r3 : v_oR r R k) (r4 : R.2 8 k = lN w ∧ R.2 9 (2 * k) = lN o0 ∧ R.2 9 (2 * k + 1) = lN o1 ∧ R.2 10 (2 * k) = 0 ∧ R.2 10 (2 * k + 1) = 0)
    (ha : a < 4) (s1 : -24 ≤ lo.toInt) (s2 : lo.toInt < hi.toInt) (s3 : hi.toInt ≤ 24) (c0 : o0 ≤ (i + 1) * 3000000) (c1 : o1 ≤ (i + 1) * 3000000) (c2 : v_sum ws 10 + w ≤ 1000000 + ws k) : v_lots X R (i + 1) := by
  obtain ⟨x20, x21, x22⟩ := x2
  obtain ⟨x40, x41, x42, x43, x44⟩ := x4
  obtain ⟨r20, r21, r22⟩ := r2
  obtain ⟨r40, r41, r42, r43, r44⟩ := r4
  have hwk := v_ws_le (ws := ws) (k := k) 10 hk
  have bI : (i + 1) * 3000000 ≤ 512 * 3000000 := Nat.mul_le_mul_right _ hi5
  have bw : w < 2 ^ 31 := by omega
  have b0 : o0 < 2 ^ 31 := by omega
  have b1 : o1 < 2 ^ 31 := by omega
  refine v_upd (ws := ws) (w' := w) hl hs hb hk (fun j hj hjk => ⟨fun s _ => by rw [x1 j hj hjk], (x3 j hj hjk).1, (x3 j hj hjk).2.1, (x3 j hj hjk).2.2⟩) r3 ?_ ?_ c2
  · unfold v_lot
    rw [x40, x41, x42, x43, x44, x20, x21, x22, r1, r20, r21, r22, r40, r41, r42, r43, r44]
    refine ⟨⟨rfl, rfl, rfl⟩, ?_⟩
    by_cases c : w = 0 ∧ o0 = 0 ∧ o1 = 0
    · rw [if_pos c]
      obtain ⟨rfl, rfl, rfl⟩ := c
      exact Or.inl ⟨rfl, rfl, rfl, rfl⟩
    · rw [if_neg c]
      refine Or.inr ⟨rfl, fun q => c ⟨(lN_eq (b := 0) bw (by decide)).mp q.1, (lN_eq (b := 0) b0 (by decide)).mp q.2.1, (lN_eq (b := 0) b1 (by decide)).mp q.2.2⟩, rfl, rfl, rfl, rfl, rfl⟩
  · refine ⟨r40, fun t ht => ?_, fun _ => ⟨by rw [r21]; exact s1, by rw [r21, r22]; exact s2, by rw [r22]; exact s3, a, ha, r20⟩⟩
    by_cases tt : t = 0
    · subst tt
      refine ⟨o0, 0, r41, fun _ => r43, ?_⟩
      rw [Nat.zero_mul, Nat.add_zero, Nat.mul_comm]
      exact Nat.mul_le_mul_left _ c0
    · have tt : t = 1 := by omega
      subst tt
      refine ⟨o1, 0, r42, fun _ => r44, ?_⟩
      rw [Nat.zero_mul, Nat.add_zero, Nat.mul_comm]
      exact Nat.mul_le_mul_left _ c1
theorem v_grow {g w : Nat} (h : g * w < 2 ^ 63) : lN g * lN w / (4294967296 : Int64) = lN (g * w / 4294967296) := by
  rw [lN_mul, show (4294967296 : Int64) = lN 4294967296 from rfl, pk_lDiv h (by decide) (by decide)]
theorem v_set_le {od g w i : Nat} (h : od * 4294967296 + g * w ≤ 4294967296 * (i * 3000000)) : od + g * w / 4294967296 ≤ i * 3000000 := by
  have h1 := Nat.div_mul_le_self (g * w) 4294967296
  have h2 : (od + g * w / 4294967296) * 4294967296 ≤ i * 3000000 * 4294967296 := by
    rw [Nat.add_mul, Nat.mul_comm (i * 3000000)]
    exact Nat.le_trans (Nat.add_le_add_left h1 _) h
  exact Nat.le_of_mul_le_mul_right h2 (by decide)
theorem v_setXc {y : g_S} {k w a0 a1 b0 b1 : Nat} (h3 : y.2 (k + 14) 3 = lN w) (e0 : y.2 (k + 24) 0 = lN a0) (e1 : y.2 (k + 24) 1 = lN a1) (G0 : y.2 (k + 34) 0 * lN w / (4294967296 : Int64) = lN b0) (G1 : y.2 (k + 34) 1 * lN w / (4294967296 : Int64) = lN b1) :
    (f_T_settle y k).1 = y.1 ∧ (∀ p, p ≠ k + 24 → p ≠ k + 34 → (f_T_settle y k).2 p = y.2 p) ∧ (f_T_settle y k).2 (k + 24) 0 = lN (a0 + b0) ∧ (f_T_settle y k).2 (k + 24) 1 = lN (a1 + b1) ∧ (f_T_settle y k).2 (k + 34) 0 = 0 ∧ (f_T_settle y k).2 (k + 34) 1 = 0 := by
  rw [v_setX, h3, e0, e1, G0, G1, lN_add, lN_add]
  refine ⟨rfl, fun p h1 h2 => ?_, ?_, ?_, ?_, ?_⟩
  · rw [g_L2p _ _ h2, g_L2p _ _ h1, g_L2p _ _ h2, g_L2p _ _ h1]
  · rw [g_L2p _ _ (by omega), g_L2k _ _ (by omega), g_L2p _ _ (by omega), g_L2s]
  · rw [g_L2p _ _ (by omega), g_L2s]
  · rw [g_L2k _ _ (by omega), g_L2p _ _ (by omega), g_L2s]
  · rw [g_L2s]
theorem v_setRc {z : g_S} {k w a0 a1 b0 b1 : Nat} (hk : k < 10) (h3 : z.2 8 k = lN w) (e0 : z.2 9 (2 * k) = lN a0) (e1 : z.2 9 (2 * k + 1) = lN a1) (G0 : z.2 10 (2 * k) * lN w / (4294967296 : Int64) = lN b0) (G1 : z.2 10 (2 * k + 1) * lN w / (4294967296 : Int64) = lN b1) :
    (f_M_settle z (nI k)).1 = z.1 ∧ (∀ p, p ≠ 9 → p ≠ 10 → (f_M_settle z (nI k)).2 p = z.2 p) ∧ (f_M_settle z (nI k)).2 9 (2 * k) = lN (a0 + b0) ∧ (f_M_settle z (nI k)).2 9 (2 * k + 1) = lN (a1 + b1) ∧ (f_M_settle z (nI k)).2 10 (2 * k) = 0 ∧ (f_M_settle z (nI k)).2 10 (2 * k + 1) = 0 ∧ (∀ j, j ≠ 2 * k → j ≠ 2 * k + 1 → (f_M_settle z (nI k)).2 9 j = z.2 9 j ∧ (f_M_settle z (nI k)).2 10 j = z.2 10 j) ∧ k_M_settle z (nI k) := by
  obtain ⟨e, kk⟩ := v_setR z hk
  rw [e, h3, e0, e1, G0, G1, lN_add, lN_add]
  refine ⟨rfl, fun p h1 h2 => ?_, ?_, ?_, ?_, ?_, fun j h1 h2 => ⟨?_, ?_⟩, kk⟩
  · rw [g_L2p _ _ h2, g_L2p _ _ h1, g_L2p _ _ h2, g_L2p _ _ h1]
  · rw [g_L2p _ _ (by omega), g_L2k _ _ (by omega), g_L2p _ _ (by omega), g_L2s]
  · rw [g_L2p _ _ (by omega), g_L2s]
  · rw [g_L2k _ _ (by omega), g_L2p _ _ (by omega), g_L2s]
  · rw [g_L2s]
  · rw [g_L2p _ _ (by omega), g_L2k _ _ h2, g_L2p _ _ (by omega), g_L2k _ _ h1]
  · rw [g_L2k _ _ h2, g_L2p _ _ (by omega), g_L2k _ _ h1, g_L2p _ _ (by omega)]
theorem w_burn : v_c_burn v_V := by
  intro x r i o lo hi q h hi'
  obtain ⟨h1, h2, h3, h4, h5⟩ := id h
  obtain ⟨p1, p2, p3⟩ := id h2
  obtain ⟨hl, ws, hs, hb⟩ := id h4
  have hf := v_find hl o lo hi
  unfold f_P_burn k_P_burn f_M_burn k_M_burn
  rcases p3 with ⟨og, -⟩ | ⟨og, p, pe, pf, va⟩
  · have o' : x.1 0 7 = 0 := p1.trans og
    simp only [og, o', if_true, f_P_burn_7_34, k_P_burn_7_34, f_M_burn_7_45, k_M_burn_7_45, true_and]
    exact v_mono x r i h
  · have n1 : ¬ r.1 0 3 = 0 := by rw [og]; decide
    have n2 : ¬ x.1 0 7 = 0 := by rw [p1, og]; decide
    simp only [n1, n2, if_false]
    unfold f_P_burn_11_2 k_P_burn_11_2 f_M_burn_11_2 k_M_burn_11_2 f_M_burn_15_5 k_M_burn_15_5
    cases hx : f_B_find x o lo hi with
    | none =>
      rw [hx] at hf
      have hf : f_M_find r o lo hi = -1 := hf
      have nn : ¬ (0 : Int32) ≤ -1 := by decide
      simp only [hf, nn, if_false, Option.elim, f_P_burn_18_7, k_P_burn_18_7, f_M_burn_25_44, k_M_burn_25_44, true_and]
      exact v_mono x r i h
    | some k =>
      rw [hx] at hf
      have hf : f_M_find r o lo hi = nI k := hf
      obtain ⟨hk, t4, t5, t6, t7⟩ := v_found hl hx
      have pz : (0 : Int32) ≤ nI k := nI_pos' (by omega)
      obtain ⟨i1, j1, q0, q1⟩ := u_ixk hk
      have ek : (nI k).toNatClampNeg = k := u_cl (by omega)
      have qk : vp_in (nI k) 10 := u_inN hk (by omega)
      obtain ⟨⟨l1, l2, l3⟩, l4⟩ := hl k hk
      obtain ⟨b1, b2, b3⟩ := hb k hk
      obtain ⟨r1, r2, r3, a, ha, ea⟩ := b3 t4
      simp only [hf, pz, if_true, Option.elim]
      unfold f_P_burn_18_8 k_P_burn_18_8 f_M_burn_29_7 k_M_burn_29_7
      by_cases c1 : q < 0
      · simp only [c1, if_true, f_P_burn_49_10, k_P_burn_49_10, f_M_burn_48_9, k_M_burn_48_9, true_and]
        exact v_mono x r i h
      · simp only [c1, if_false]
        unfold f_P_burn_37_11 k_P_burn_37_11 f_M_burn_34_10 k_M_burn_34_10
        rw [ek, l1, b1]
        by_cases c2 : q.toInt64 ≤ lN (ws k)
        · simp only [c2, if_true]
          have hq0 : 0 ≤ q := by rw [Int32.lt_iff_toInt_lt, g_tI0] at c1; rw [Int32.le_iff_toInt_le, g_tI0]; omega
          obtain ⟨Q, hQe, hQ⟩ : ∃ Q, q = nI Q ∧ Q < 2 ^ 31 := ⟨q.toNatClampNeg, (Int32.ofNat_toNatClampNeg q hq0).symm, Int32.toNatClampNeg_lt q⟩
          have hwk : ws k ≤ 1000000 := Nat.le_trans (v_ws_le 10 hk) hs
          have eq64 : q.toInt64 = lN Q := by rw [hQe]; exact nI_l hQ
          rw [eq64] at c2
          have hQw : Q ≤ ws k := (lN_le hQ (by omega)).mp c2
          rcases l4 with ⟨t, -⟩ | ⟨-, -, m0, m1, m2, m3, m4⟩
          · rw [t4] at t
            exact absurd t (by decide)
          obtain ⟨od0, g0, d1, d2, d3, d4, d5⟩ := v_lotB_lt (Nat.le_of_lt hi') (hb k hk) 0 (by omega)
          obtain ⟨od1, g1, f1, f2, f3, f4, f5⟩ := v_lotB_lt (Nat.le_of_lt hi') (hb k hk) 1 (by omega)
          have d1 : r.2 9 (2 * k) = lN od0 := d1
          have d2 : r.2 10 (2 * k) = lN g0 := d2 t4
          have f2 := f2 t4
          rw [v_tim_B] at h5
          obtain ⟨T, m, tm, tB, tc, td⟩ := h5
          obtain ⟨va1, va2, va3⟩ := id va
          obtain ⟨kM, kN, fX, fR, m', tm', hm', tN, -⟩ := v_note tB (by omega) va1 va2
          unfold f_P_burn_53_13 k_P_burn_53_13 f_M_burn_52_13 k_M_burn_52_13 f_P_burn_61_18 k_P_burn_61_18 f_M_burn_53_18 k_M_burn_53_18
          rw [p2]
          generalize f_H_mark x (r.1 0 5) = y at fX tN ⊢
          generalize f_M_note r = z at fR tN ⊢
          have Y14 : y.2 (k + 14) = x.2 (k + 14) := fX.1 _ (by omega) (by omega)
          have Y24 : y.2 (k + 24) = x.2 (k + 24) := fX.1 _ (by omega) (by omega)
          have Y34 : y.2 (k + 34) = x.2 (k + 34) := fX.1 _ (by omega) (by omega)
          have Z8 : z.2 8 = r.2 8 := fR.1 _ (by omega) (by omega)
          have Z9 : z.2 9 = r.2 9 := fR.1 _ (by omega) (by omega)
          have Z10 : z.2 10 = r.2 10 := fR.1 _ (by omega) (by omega)
          obtain ⟨sx1, sx2, sx3, sx4, sx5, sx6⟩ := v_setXc (y := y) (k := k) (w := ws k) (a0 := od0) (a1 := od1) (b0 := g0 * ws k / 4294967296) (b1 := g1 * ws k / 4294967296) (by rw [Y14, l1, b1]) (by rw [Y24, l2, d1]) (by rw [Y24, l3, f1]) (by rw [Y34, m3, d2, v_grow d5]) (by rw [Y34, m4, f2, v_grow f5])
          obtain ⟨sr1, sr2, sr3, sr4, sr5, sr6, sr7, ksr⟩ := v_setRc (z := z) (k := k) (w := ws k) (a0 := od0) (a1 := od1) (b0 := g0 * ws k / 4294967296) (b1 := g1 * ws k / 4294967296) hk (by rw [Z8, b1]) (by rw [Z9, d1]) (by rw [Z9, f1]) (by rw [Z10, d2, v_grow d5]) (by rw [Z10, f2, v_grow f5])
          unfold f_P_burn_71_22 k_P_burn_71_22 f_M_burn_59_23 k_M_burn_59_23 f_P_burn_83_26 k_P_burn_83_26 f_M_burn_82_29 k_M_burn_82_29 f_P_burn_90_30 k_P_burn_90_30 f_M_burn_94_33 k_M_burn_94_33 f_M_burn_132_42 k_M_burn_132_42 f_P_pair
          generalize f_T_settle y k = Sx at sx1 sx2 sx3 sx4 sx5 sx6 ⊢
          generalize f_M_settle z (nI k) = Sr at sr1 sr2 sr3 sr4 sr5 sr6 sr7 ⊢
          have s8 : Sr.2 8 k = lN (ws k) := by rw [sr2 8 (by omega) (by omega), Z8, b1]
          have sL : Sx.2 (k + 14) 3 = lN (ws k) := by rw [sx2 _ (by omega) (by omega), Y14, l1, b1]
          rw [eq64, ek, i1, j1, s8, sL, lN_sub hQw]
          have lo1 : -24 ≤ lo.toInt := by rw [← t6]; exact r1
          have lo2 : lo.toInt < hi.toInt := by rw [← t6, ← t7]; exact r2
          have lo3 : hi.toInt ≤ 24 := by rw [← t7]; exact r3
          have hq1 : ∀ j, j < 49 → (g_L Sr 8 k (lN (ws k - Q))).2 1 j = lN (u_tab j) := fun j hj => by rw [g_L2p _ _ (by omega), sr2 1 (by omega) (by omega), fR.1 1 (by omega) (by omega)]; exact h1.2.2.2.2.2 j hj
          have hq2 : y.1 0 8 = nI p := by rw [fX.2 0 (by omega) (by omega)]; exact pe
          have hq3 : (g_L Sr 8 k (lN (ws k - Q))).2 0 4 = lN p := by rw [g_L2p _ _ (by omega), sr2 0 (by omega) (by omega), fR.1 0 (by omega) (by omega)]; exact pf
          have hq5 : (g_L Sr 8 k (lN (ws k - Q))).1 0 5 = r.1 0 5 := by rw [g_L1, sr1, fR.2.2 5 (by omega)]
          have hq4 : y.1 0 9 = (g_L Sr 8 k (lN (ws k - Q))).1 0 5 := by rw [hq5, fX.2 0 (by omega) (by omega)]; exact p2
          have hq6 : v_at p ((g_L Sr 8 k (lN (ws k - Q))).1 0 5).toInt := by rw [hq5]; exact va
          obtain ⟨z0, z0l, zx, zr, kzx, kzr⟩ := v_zero hq1 hq2 hq3 hq4 hq6 lo1 lo2 lo3 (w := Q) (by omega) (0 : Int32)
          obtain ⟨z1, z1l, wx, wr, kwx, kwr⟩ := v_one hq1 hq2 hq3 hq4 hq6 lo1 lo2 lo3 (w := Q) (by omega) (0 : Int32)
          rw [zx, zr, wx, wr]
          have A0 : (g_L Sx (k + 14) 3 (lN (ws k - Q))).2 (k + 24) 0 = lN (od0 + g0 * ws k / 4294967296) := by rw [g_L2p _ _ (by omega), sx3]
          rw [A0, lN_add]
          have A1 : (g_L (g_L Sx (k + 14) 3 (lN (ws k - Q))) (k + 24) 0 (lN (od0 + g0 * ws k / 4294967296 + z0))).2 (k + 24) 1 = lN (od1 + g1 * ws k / 4294967296) := by rw [g_L2k _ _ (by omega), g_L2p _ _ (by omega), sx4]
          rw [A1, lN_add, sr3, lN_add]
          have B1 : (g_L (g_L Sr 8 k (lN (ws k - Q))) 9 (2 * k) (lN (od0 + g0 * ws k / 4294967296 + z0))).2 9 (2 * k + 1) = lN (od1 + g1 * ws k / 4294967296) := by rw [g_L2k _ _ (by omega), g_L2p _ _ (by omega), sr4]
          rw [B1, lN_add]
          have u0 := v_set_le d3
          have u1 := v_set_le f3
          have uI : (i + 1) * 3000000 = i * 3000000 + 3000000 := Nat.succ_mul _ _
          have uM : i * 3000000 ≤ 512 * 3000000 := Nat.mul_le_mul_right _ (Nat.le_of_lt hi')
          have c8 : (g_L (g_L (g_L Sr 8 k (lN (ws k - Q))) 9 (2 * k) (lN (od0 + g0 * ws k / 4294967296 + z0))) 9 (2 * k + 1) (lN (od1 + g1 * ws k / 4294967296 + z1))).2 8 k = lN (ws k - Q) := by rw [g_L2p _ _ (by omega), g_L2p _ _ (by omega), g_L2s]
          have c90 : (g_L (g_L (g_L Sr 8 k (lN (ws k - Q))) 9 (2 * k) (lN (od0 + g0 * ws k / 4294967296 + z0))) 9 (2 * k + 1) (lN (od1 + g1 * ws k / 4294967296 + z1))).2 9 (2 * k) = lN (od0 + g0 * ws k / 4294967296 + z0) := by rw [g_L2k _ _ (by omega), g_L2s]
          have c91 : (g_L (g_L (g_L Sr 8 k (lN (ws k - Q))) 9 (2 * k) (lN (od0 + g0 * ws k / 4294967296 + z0))) 9 (2 * k + 1) (lN (od1 + g1 * ws k / 4294967296 + z1))).2 9 (2 * k + 1) = lN (od1 + g1 * ws k / 4294967296 + z1) := by rw [g_L2s]
          obtain ⟨sw, ksw⟩ := v_sweep hk c8 c90 c91 (by omega) (by omega) (by omega)
          rw [sw]
          refine ⟨⟨kM, kzx, kwx, True.intro⟩, ⟨qk, kN, ksr, qk, qk, kzr, kwr, q0, q0, q1, q1, ksw, True.intro⟩, rfl, ?_, ?_, ?_, ?_, ?_⟩
          · refine v_cfg_cg h1 ?_ ?_ ?_ ?_ ?_ ?_
            · show Sx.1 0 0 = _; rw [sx1, fX.2 0 (by omega) (by omega)]
            · show Sx.1 0 1 = _; rw [sx1, fX.2 0 (by omega) (by omega)]
            · show Sx.1 9 0 = _; rw [sx1, fX.2 9 (by omega) (by omega)]
            · rw [g_I1p _ _ (by omega)]; show Sr.1 0 0 = _; rw [sr1, fR.2.2 0 (by omega)]
            · rw [g_I1p _ _ (by omega)]; show Sr.1 0 1 = _; rw [sr1, fR.2.2 1 (by omega)]
            · rw [g_I2, g_L2p _ _ (by omega), g_L2p _ _ (by omega), g_L2p _ _ (by omega), sr2 1 (by omega) (by omega), fR.1 1 (by omega) (by omega)]
          · refine v_pr_cg h2 ?_ ?_ ?_ ?_ ?_ ?_
            · show Sx.1 0 7 = _; rw [sx1, fX.2 0 (by omega) (by omega)]
            · show Sx.1 0 8 = _; rw [sx1, fX.2 0 (by omega) (by omega)]
            · show Sx.1 0 9 = _; rw [sx1, fX.2 0 (by omega) (by omega)]
            · rw [g_I1p _ _ (by omega)]; show Sr.1 0 3 = _; rw [sr1, fR.2.2 3 (by omega)]
            · rw [g_I1p _ _ (by omega)]; show Sr.1 0 5 = _; rw [sr1, fR.2.2 5 (by omega)]
            · rw [g_I2, g_L2p _ _ (by omega), g_L2p _ _ (by omega), g_L2p _ _ (by omega), sr2 0 (by omega) (by omega), fR.1 0 (by omega) (by omega)]
          · refine v_wal_cg h3 (fun o ho => ?_) ?_ ?_ ?_
            · rw [g_L2p _ _ (by omega), g_L2p _ _ (by omega), g_L2p _ _ (by omega), sx2 _ (by omega) (by omega), fX.1 _ (by omega) (by omega)]
            · rw [g_L2p _ _ (by omega), g_L2p _ _ (by omega), g_L2p _ _ (by omega), sx2 _ (by omega) (by omega), fX.1 _ (by omega) (by omega)]
            · rw [g_I2, g_L2p _ _ (by omega), g_L2p _ _ (by omega), g_L2p _ _ (by omega), sr2 _ (by omega) (by omega), fR.1 _ (by omega) (by omega)]
            · rw [g_I2, g_L2p _ _ (by omega), g_L2p _ _ (by omega), g_L2p _ _ (by omega), sr2 _ (by omega) (by omega), fR.1 _ (by omega) (by omega)]
          · refine v_fin (w := ws k - Q) (o0 := od0 + g0 * ws k / 4294967296 + z0) (o1 := od1 + g1 * ws k / 4294967296 + z1) (a := a) (lo := lo) (hi := hi) hl hs hb hk hi' (fun j hj hjk => ?_) ⟨?_, ?_, ?_⟩ (fun j hj hjk => ⟨?_, ?_, ?_⟩) ⟨?_, ?_, ?_, ?_, ?_⟩ ?_ ⟨?_, ?_, ?_⟩ (fun j hj hjk => ⟨?_, ?_, ?_, ?_, ?_, fun t ht => ?_, fun t ht => ?_⟩) ⟨?_, ?_, ?_, ?_, ?_⟩ ha lo1 lo2 lo3 (by omega) (by omega) (by omega)
            · show Sx.1 (j + 14) = _; rw [sx1, fX.2 _ (by omega) (by omega)]
            · show Sx.1 (k + 14) 0 = _; rw [sx1, fX.2 _ (by omega) (by omega), m0, ea]
            · show Sx.1 (k + 14) 1 = _; rw [sx1, fX.2 _ (by omega) (by omega), m1, t6]
            · show Sx.1 (k + 14) 2 = _; rw [sx1, fX.2 _ (by omega) (by omega), m2, t7]
            · rw [g_L2p _ _ (by omega), g_L2p _ _ (by omega), g_L2p _ _ (by omega), sx2 _ (by omega) (by omega), fX.1 _ (by omega) (by omega)]
            · rw [g_L2p _ _ (by omega), g_L2p _ _ (by omega), g_L2p _ _ (by omega), sx2 _ (by omega) (by omega), fX.1 _ (by omega) (by omega)]
            · rw [g_L2p _ _ (by omega), g_L2p _ _ (by omega), g_L2p _ _ (by omega), sx2 _ (by omega) (by omega), fX.1 _ (by omega) (by omega)]
            · rw [g_L2p _ _ (by omega), g_L2p _ _ (by omega), g_L2s]
            · rw [g_L2k _ _ (by omega), g_L2s]
            · rw [g_L2s]
            · rw [g_L2p _ _ (by omega), g_L2p _ _ (by omega), g_L2p _ _ (by omega), sx5]
            · rw [g_L2p _ _ (by omega), g_L2p _ _ (by omega), g_L2p _ _ (by omega), sx6]
            · rw [g_I1s]
            · rw [g_I1p _ _ (by omega)]; show Sr.1 5 k = _; rw [sr1, fR.2.1 5 (by omega), ea]
            · rw [g_I1p _ _ (by omega)]; show Sr.1 6 k = _; rw [sr1, fR.2.1 6 (by omega), t6]
            · rw [g_I1p _ _ (by omega)]; show Sr.1 7 k = _; rw [sr1, fR.2.1 7 (by omega), t7]
            · rw [g_I1k _ _ hjk]; show Sr.1 4 j = _; rw [sr1, fR.2.1 4 (by omega)]
            · rw [g_I1p _ _ (by omega)]; show Sr.1 5 j = _; rw [sr1, fR.2.1 5 (by omega)]
            · rw [g_I1p _ _ (by omega)]; show Sr.1 6 j = _; rw [sr1, fR.2.1 6 (by omega)]
            · rw [g_I1p _ _ (by omega)]; show Sr.1 7 j = _; rw [sr1, fR.2.1 7 (by omega)]
            · rw [g_I2, g_L2p _ _ (by omega), g_L2p _ _ (by omega), g_L2k _ _ hjk, sr2 8 (by omega) (by omega), Z8]
            · rw [g_I2, g_L2k _ _ (by omega), g_L2k _ _ (by omega), g_L2p _ _ (by omega), (sr7 _ (by omega) (by omega)).1, Z9]
            · rw [g_I2, g_L2p _ _ (by omega), g_L2p _ _ (by omega), g_L2p _ _ (by omega), (sr7 _ (by omega) (by omega)).2, Z10]
            · rw [g_I2]; exact c8
            · rw [g_I2]; exact c90
            · rw [g_I2]; exact c91
            · rw [g_I2, g_L2p _ _ (by omega), g_L2p _ _ (by omega), g_L2p _ _ (by omega), sr5]
            · rw [g_I2, g_L2p _ _ (by omega), g_L2p _ _ (by omega), g_L2p _ _ (by omega), sr6]
          · apply v_tim_mono
            have tY : v_tim y z i := by
              rw [v_tim_B]
              refine ⟨T, m', tm', ?_, ?_, fun _ => hm'⟩
              · rw [fR.2.2 5 (by omega)]; exact tN
              · intro q
                rw [fR.2.2 3 (by omega), og] at q
                exact absurd q (by decide)
            refine v_tim_cg tY ?_ ?_ ?_ ?_ ?_ ?_ ?_ ?_ ?_ ?_ ?_ ?_ ?_
            · rw [g_L2p _ _ (by omega), g_L2p _ _ (by omega), g_L2p _ _ (by omega), sx2 _ (by omega) (by omega)]
            · rw [g_L2p _ _ (by omega), g_L2p _ _ (by omega), g_L2p _ _ (by omega), sx2 _ (by omega) (by omega)]
            · show Sx.1 5 2 = _; rw [sx1]
            · rw [g_L2p _ _ (by omega), g_L2p _ _ (by omega), g_L2p _ _ (by omega), sx2 _ (by omega) (by omega)]
            · rw [g_L2p _ _ (by omega), g_L2p _ _ (by omega), g_L2p _ _ (by omega), sx2 _ (by omega) (by omega)]
            · show Sx.1 8 = _; rw [sx1]
            · rw [g_I2, g_L2p _ _ (by omega), g_L2p _ _ (by omega), g_L2p _ _ (by omega), sr2 0 (by omega) (by omega)]
            · rw [g_I2, g_L2p _ _ (by omega), g_L2p _ _ (by omega), g_L2p _ _ (by omega), sr2 0 (by omega) (by omega)]
            · rw [g_I1p _ _ (by omega)]; show Sr.1 0 17 = _; rw [sr1]
            · rw [g_I1p _ _ (by omega)]; show Sr.1 0 3 = _; rw [sr1]
            · rw [g_I1p _ _ (by omega)]; show Sr.1 0 5 = _; rw [sr1]
            · rw [g_I2, g_L2p _ _ (by omega), g_L2p _ _ (by omega), g_L2p _ _ (by omega), sr2 11 (by omega) (by omega)]
            · rw [g_I2, g_L2p _ _ (by omega), g_L2p _ _ (by omega), g_L2p _ _ (by omega), sr2 12 (by omega) (by omega)]
        · simp only [c2, if_false, f_P_burn_49_33, k_P_burn_49_33, f_M_burn_48_43, k_M_burn_48_43, true_and, and_true]
          exact ⟨qk, v_mono x r i h⟩
