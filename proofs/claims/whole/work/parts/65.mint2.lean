theorem v_mintG {x r : g_S} {i : Nat} (h : v_V x r i) (hi5 : i < 512) (og : r.1 0 3 = 1) {ws : Nat → Nat} (hl : ∀ k, k < 10 → v_lot x r k) (hs : v_sum ws 10 ≤ 1000000) (hb : ∀ k, k < 10 → v_lotB r i k (ws k)) {a Q k : Nat} (ha : a < 4) (hQ : Q ≤ 1000000) (hQ1 : 1 ≤ Q) {lo hi : Int32} (s1 : -24 ≤ lo.toInt) (s2 : lo.toInt < hi.toInt) (s3 : hi.toInt ≤ 24) (hk : k < 10) (t3 t10 t3' t10' c21 b27 : Int32) (hx56 : (if 0 ≤ c21 then c21 else b27) = nI k)
    (hcase : (0 ≤ c21 ∧ r.1 4 k = 1 ∧ r.1 5 k = nI a ∧ r.1 6 k = lo ∧ r.1 7 k = hi) ∨ (¬ 0 ≤ c21 ∧ b27 = nI k ∧ r.1 4 k = 0)) :
    k_P_mint_51_26 x (nI a) lo hi (nI Q) t3 t10 k ∧ k_M_mint_131_33 r (nI a) lo hi (nI Q) t3' t10' c21 (lN (Q + v_sum ws 10)) b27 ∧ (f_P_mint_51_26 x (nI a) lo hi (nI Q) t3 t10 k).1 = (f_M_mint_131_33 r (nI a) lo hi (nI Q) t3' t10' c21 (lN (Q + v_sum ws 10)) b27).1 ∧ v_V (f_P_mint_51_26 x (nI a) lo hi (nI Q) t3 t10 k).2 (f_M_mint_131_33 r (nI a) lo hi (nI Q) t3' t10' c21 (lN (Q + v_sum ws 10)) b27).2 (i + 1) := by
  obtain ⟨h1, h2, h3, h4, h5⟩ := id h
  obtain ⟨p1, p2, p3⟩ := id h2
  obtain ⟨p, pe, pf, va⟩ : ∃ p, x.1 0 8 = nI p ∧ r.2 0 4 = lN p ∧ v_at p (r.1 0 5).toInt := by
    rcases p3 with ⟨q, -⟩ | ⟨-, q⟩
    · rw [og] at q; exact absurd q (by decide)
    · exact q
  have eq64 : (nI Q).toInt64 = lN Q := nI_l (by omega)
  unfold f_P_mint_51_26 k_P_mint_51_26 f_P_mint_65_29 k_P_mint_65_29 f_M_mint_131_33 k_M_mint_131_33
  rw [v_total hl hb, eq64, lN_add, Nat.add_comm Q]
  by_cases c : v_sum ws 10 + Q ≤ 1000000
  · have c' : lN (v_sum ws 10 + Q) ≤ (1000000 : Int64) := (lN_le (b := 1000000) (by omega) (by decide)).mpr c
    simp only [c', if_true]
    obtain ⟨z0, z0l, zx, zr, kzx, kzr⟩ := v_zero h1.2.2.2.2.2 pe pf p2 va s1 s2 s3 (w := Q) hQ (1 : Int32)
    obtain ⟨z1, z1l, wx, wr, kwx, kwr⟩ := v_one h1.2.2.2.2.2 pe pf p2 va s1 s2 s3 (w := Q) hQ (1 : Int32)
    unfold f_P_mint_83_31 k_P_mint_83_31 f_P_mint_90_35 k_P_mint_90_35 f_P_mint_102_39 k_P_mint_102_39 f_P_mint_113_43 k_P_mint_113_43 f_M_mint_144_35 k_M_mint_144_35 f_M_mint_151_39 k_M_mint_151_39 f_M_mint_163_43 k_M_mint_163_43
    rw [eq64, zx, zr, wx, wr]
    obtain ⟨i1, i2⟩ := u_ix2 (a := a) (t := 0) (by omega) (by omega)
    obtain ⟨j1, j2⟩ := u_ix2 (a := a) (t := 1) (by omega) (by omega)
    have y0 : (2 : Int32) * nI a + nI 0 = (2 : Int32) * nI a := Int32.add_zero _
    rw [y0] at i1 i2
    have y1 : nI 1 = (1 : Int32) := rfl
    rw [y1] at j1 j2
    have qa0 := u_in_mono i2 (n := 8) (by omega)
    have qa1 := u_in_mono j2 (n := 8) (by omega)
    have qa : vp_in (nI a) 4 := u_inN ha (by omega)
    have ea : (nI a).toNatClampNeg = a := u_cl (by omega)
    have wa0 : x.2 (a + 10) 0 = r.2 2 (2 * a) := h3.1 a 0 ha (by omega)
    have wa1 := h3.1 a 1 ha (by omega)
    have i1 : ((2 : Int32) * nI a).toNatClampNeg = 2 * a := i1
    simp only [f_P_canPay_31_3, f_P_canPay_31_7, f_P_canPay_27_8, f_P_canPay_13_4, f_P_canPay, k_P_canPay_31_3, k_P_canPay_31_7, k_P_canPay_27_8, k_P_canPay_13_4, k_P_canPay, ea, wa0, wa1, i1]
    by_cases d0 : r.2 2 (2 * a) < lN z0
    · simp only [d0, if_true, f_P_mint_119_73, k_P_mint_119_73, f_M_mint_198_46, k_M_mint_198_46]
      exact ⟨⟨kzx, kwx, ⟨qa, True.intro⟩, True.intro⟩, ⟨kzr, kwr, qa0, True.intro⟩, True.intro, v_mono x r i h⟩
    · simp only [d0, if_false]
      unfold f_M_mint_182_47 k_M_mint_182_47
      rw [j1]
      by_cases d1 : r.2 2 (2 * a + 1) < lN z1
      · have d1' : ¬ lN z1 ≤ r.2 2 (2 * a + 1) := Int64.not_le.mpr d1
        simp only [d1, d1', if_true, if_false, f_P_mint_119_73, k_P_mint_119_73, f_M_mint_198_85, k_M_mint_198_85]
        exact ⟨⟨kzx, kwx, ⟨qa, qa, True.intro⟩, True.intro⟩, ⟨kzr, kwr, qa0, qa1, True.intro⟩, True.intro, v_mono x r i h⟩
      · have d1' : lN z1 ≤ r.2 2 (2 * a + 1) := Int64.not_lt.mp d1
        simp only [d1, d1', if_true, if_false, g_10]
        rw [v_tim_B] at h5
        obtain ⟨T, m, tm, tB, tc, td⟩ := h5
        obtain ⟨va1, va2, va3⟩ := id va
        obtain ⟨kM, kN, fX, fR, m', tm', hm', tN, -⟩ := v_note tB (by omega) va1 va2
        unfold f_P_mint_123_45 k_P_mint_123_45 f_P_mint_131_50 k_P_mint_131_50 f_P_mint_140_55 k_P_mint_140_55 f_P_mint_145_58 k_P_mint_145_58 f_P_mint_159_62 k_P_mint_159_62 f_P_mint_161_66 k_P_mint_161_66 f_M_mint_202_50 k_M_mint_202_50 f_M_mint_203_55 k_M_mint_203_55 f_M_mint_299_62 k_M_mint_299_62 f_M_mint_302_67 k_M_mint_302_67 f_M_mint_324_74 k_M_mint_324_74 f_P_pair
        rw [p2, hx56]
        generalize f_H_mark x (r.1 0 5) = y0 at fX tN ⊢
        generalize f_M_note r = z at fR tN ⊢
        have kpx := (v_payX y0 ha (lN z0) (lN z1)).2
        obtain ⟨px1, px2⟩ := v_payXF y0 ha (lN z0) (lN z1)
        have ek : (nI k).toNatClampNeg = k := u_cl (by omega)
        have qk : vp_in (nI k) 10 := u_inN hk (by omega)
        obtain ⟨ii, jj, q0, q1⟩ := u_ixk hk
        have wY : ∀ R0 : g_S, R0.2 2 = r.2 2 → R0.2 3 = r.2 3 → v_wal (f_P_pay y0 (nI a) (lN z0) (lN z1)) (f_M_pay R0 (nI a) (lN z0) (lN z1)) := fun R0 e2 e3 => v_pay (v_wal_cg h3 (fun o ho => fX.1 _ (by omega) (by omega)) (fX.1 _ (by omega) (by omega)) e2 e3) ha _ _
        generalize f_P_pay y0 (nI a) (lN z0) (lN z1) = y at px1 px2 wY ⊢
        have Y14 : ∀ j, j < 10 → y.2 (j + 14) = x.2 (j + 14) := fun j hj => (px2 _ (by omega) (by omega)).trans (fX.1 _ (by omega) (by omega))
        have Y24 : ∀ j, j < 10 → y.2 (j + 24) = x.2 (j + 24) := fun j hj => (px2 _ (by omega) (by omega)).trans (fX.1 _ (by omega) (by omega))
        have Y34 : ∀ j, j < 10 → y.2 (j + 34) = x.2 (j + 34) := fun j hj => (px2 _ (by omega) (by omega)).trans (fX.1 _ (by omega) (by omega))
        have Y1 : ∀ p, p ≠ 8 → p ≠ 5 → y.1 p = x.1 p := fun p q1 q2 => by rw [px1]; exact fX.2 p q1 q2
        have Z8 : z.2 8 = r.2 8 := fR.1 _ (by omega) (by omega)
        have Z9 : z.2 9 = r.2 9 := fR.1 _ (by omega) (by omega)
        have Z10 : z.2 10 = r.2 10 := fR.1 _ (by omega) (by omega)
        have hth : f_T_isThere y k = f_T_isThere x k := by rw [v_there, v_there, Y14 k hk, Y24 k hk]
        obtain ⟨⟨l1, l2, l3⟩, l4⟩ := hl k hk
        obtain ⟨b1, b2, b3⟩ := hb k hk
        obtain ⟨o0, o1, g0, g1, kZ, hyz⟩ : ∃ o0 o1 g0 g1, (if 0 ≤ c21 then True else (vp_in b27 10) ∧ (vp_in b27 10) ∧ (vp_in b27 10) ∧ (vp_in b27 10) ∧ (vp_in b27 10) ∧ (vp_in ((2 : Int32) * b27) 20) ∧ (vp_in (((2 : Int32) * b27) + (1 : Int32)) 20) ∧ (vp_in ((2 : Int32) * b27) 20) ∧ (vp_in (((2 : Int32) * b27) + (1 : Int32)) 20) ∧ True) ∧ v_yz y (if f_T_isThere y k = 0 then f_T_begin y k (nI a) lo hi else y) z (if 0 ≤ c21 then z else g_L (g_L (g_L (g_L (g_L (g_I (g_I (g_I (g_I z 4 b27.toNatClampNeg (1 : Int32)) 5 b27.toNatClampNeg (nI a)) 6 b27.toNatClampNeg lo) 7 b27.toNatClampNeg hi) 8 b27.toNatClampNeg (0 : Int64)) 9 (((2 : Int32) * b27).toNatClampNeg) (0 : Int64)) 9 ((((2 : Int32) * b27) + (1 : Int32)).toNatClampNeg) (0 : Int64)) 10 (((2 : Int32) * b27).toNatClampNeg) (0 : Int64)) 10 ((((2 : Int32) * b27) + (1 : Int32)).toNatClampNeg) (0 : Int64)) i k (ws k) o0 o1 g0 g1 a lo hi := by
          rcases hcase with ⟨e0, e1, e2, e3, e4⟩ | ⟨e0, e1, e2⟩
          · rcases l4 with ⟨t, -⟩ | ⟨-, nz, m0, m1, m2, m3, m4⟩
            · rw [e1] at t; exact absurd t (by decide)
            obtain ⟨od0, g0, f1, f2, f3, f4, f5⟩ := v_lotB_lt (Nat.le_of_lt hi5) (hb k hk) 0 (by omega)
            obtain ⟨od1, g1, u1, u2, u3, u4, u5⟩ := v_lotB_lt (Nat.le_of_lt hi5) (hb k hk) 1 (by omega)
            have f1 : r.2 9 (2 * k) = lN od0 := f1
            have f2 : r.2 10 (2 * k) = lN g0 := f2 e1
            have u2 := u2 e1
            have nt : ¬ f_T_isThere y k = 0 := by
              rw [hth, v_thereX (hl k hk), e1]
              decide
            rw [if_neg nt, if_pos e0, if_pos e0]
            refine ⟨od0, od1, g0 * ws k / 4294967296, g1 * ws k / 4294967296, True.intro, ⟨?_, ?_, ?_, fun _ _ => rfl, rfl⟩, ⟨?_, ?_, ?_, ?_, fun _ _ _ _ _ => rfl, fun _ _ _ => rfl⟩, ⟨fun _ _ _ _ => rfl, fun _ _ => rfl, fun _ _ _ => ⟨rfl, rfl⟩⟩, ⟨?_, ?_, ?_, ?_, ?_⟩, ⟨?_, ?_, ?_, ?_, ?_⟩, v_set_le f3, v_set_le u3⟩
            · rw [Y1 _ (by omega) (by omega), m0, e2]
            · rw [Y1 _ (by omega) (by omega), m1, e3]
            · rw [Y1 _ (by omega) (by omega), m2, e4]
            · rw [fR.2.1 4 (by omega)]; exact e1
            · rw [fR.2.1 5 (by omega)]; exact e2
            · rw [fR.2.1 6 (by omega)]; exact e3
            · rw [fR.2.1 7 (by omega)]; exact e4
            · rw [Z8]; exact b1
            · rw [Z9]; exact f1
            · rw [Z9]; exact u1
            · rw [Z10, f2, v_grow f5]
            · rw [Z10, u2, v_grow u5]
            · rw [Y14 k hk, l1, b1]
            · rw [Y24 k hk, l2, f1]
            · rw [Y24 k hk, l3, u1]
            · rw [Y34 k hk, m3, f2, v_grow f5]
            · rw [Y34 k hk, m4, u2, v_grow u5]
          · obtain ⟨w0, w1, w2⟩ : x.2 (k + 14) 3 = 0 ∧ x.2 (k + 24) 0 = 0 ∧ x.2 (k + 24) 1 = 0 := by
              rcases l4 with ⟨-, q⟩ | ⟨t, -⟩
              · exact q
              · rw [e2] at t; exact absurd t (by decide)
            have nt : f_T_isThere y k = 0 := by
              rw [hth, v_thereX (hl k hk), e2]
            have hw0 : ws k = 0 := by
              have q : lN (ws k) = lN 0 := by rw [← b1, ← l1, w0]; rfl
              have q2 := v_ws_le (ws := ws) (k := k) 10 hk
              exact (lN_eq (by omega) (by decide)).mp q
            have dv : ∀ G : Int64, G * lN (ws k) / (4294967296 : Int64) = lN 0 := by
              intro G
              rw [hw0]
              show G * 0 / (4294967296 : Int64) = 0
              rw [Int64.mul_zero]
              decide
            subst e1
            rw [if_pos nt, if_neg e0, if_neg e0, ek, ii, jj]
            refine ⟨0, 0, 0, 0, ⟨qk, qk, qk, qk, qk, q0, q1, q0, q1, True.intro⟩, ⟨?_, ?_, ?_, fun p hp => ?_, rfl⟩, ⟨?_, ?_, ?_, ?_, fun p a1 a2 a3 a4 => ?_, fun p j hj => ?_⟩, ⟨fun p a1 a2 a3 => ?_, fun j hj => ?_, fun j a1 a2 => ⟨?_, ?_⟩⟩, ⟨?_, ?_, ?_, dv _, dv _⟩, ⟨?_, ?_, ?_, dv _, dv _⟩, Nat.zero_le _, Nat.zero_le _⟩
            · unfold f_T_begin; rw [g_I1k _ _ (by omega), g_I1k _ _ (by omega), g_I1s]
            · unfold f_T_begin; rw [g_I1k _ _ (by omega), g_I1s]
            · unfold f_T_begin; rw [g_I1s]
            · unfold f_T_begin; rw [g_I1p _ _ hp, g_I1p _ _ hp, g_I1p _ _ hp]
            · simp only [g_L1]; rw [g_I1p _ _ (by omega), g_I1p _ _ (by omega), g_I1p _ _ (by omega), g_I1s]
            · simp only [g_L1]; rw [g_I1p _ _ (by omega), g_I1p _ _ (by omega), g_I1s]
            · simp only [g_L1]; rw [g_I1p _ _ (by omega), g_I1s]
            · simp only [g_L1]; rw [g_I1s]
            · simp only [g_L1]; rw [g_I1p _ _ a4, g_I1p _ _ a3, g_I1p _ _ a2, g_I1p _ _ a1]
            · simp only [g_L1, g_I1]
              simp [hj]
            · rw [g_L2p _ _ a3, g_L2p _ _ a3, g_L2p _ _ a2, g_L2p _ _ a2, g_L2p _ _ a1]; rfl
            · rw [g_L2p _ _ (by omega), g_L2p _ _ (by omega), g_L2p _ _ (by omega), g_L2p _ _ (by omega), g_L2k _ _ hj]; rfl
            · rw [g_L2p _ _ (by omega), g_L2p _ _ (by omega), g_L2k _ _ a2, g_L2k _ _ a1, g_L2p _ _ (by omega)]; rfl
            · rw [g_L2k _ _ a2, g_L2k _ _ a1, g_L2p _ _ (by omega), g_L2p _ _ (by omega), g_L2p _ _ (by omega)]; rfl
            · rw [g_L2p _ _ (by omega), g_L2p _ _ (by omega), g_L2p _ _ (by omega), g_L2p _ _ (by omega), g_L2s, hw0]; rfl
            · rw [g_L2p _ _ (by omega), g_L2p _ _ (by omega), g_L2k _ _ (by omega), g_L2s]; rfl
            · rw [g_L2p _ _ (by omega), g_L2p _ _ (by omega), g_L2s]; rfl
            · rw [Y14 k hk, l1, b1]
            · rw [Y24 k hk, w1]; rfl
            · rw [Y24 k hk, w2]; rfl
        generalize (if f_T_isThere y k = 0 then f_T_begin y k (nI a) lo hi else y) = Y at hyz ⊢
        generalize (if 0 ≤ c21 then z else g_L (g_L (g_L (g_L (g_L (g_I (g_I (g_I (g_I z 4 b27.toNatClampNeg (1 : Int32)) 5 b27.toNatClampNeg (nI a)) 6 b27.toNatClampNeg lo) 7 b27.toNatClampNeg hi) 8 b27.toNatClampNeg (0 : Int64)) 9 (((2 : Int32) * b27).toNatClampNeg) (0 : Int64)) 9 ((((2 : Int32) * b27) + (1 : Int32)).toNatClampNeg) (0 : Int64)) 10 (((2 : Int32) * b27).toNatClampNeg) (0 : Int64)) 10 ((((2 : Int32) * b27) + (1 : Int32)).toNatClampNeg) (0 : Int64)) = Z at hyz ⊢
        obtain ⟨⟨yA, yB, yC, yD, yE⟩, ⟨zA, zB, zC, zD, zE, zF⟩, ⟨zG, zH, zI⟩, ⟨n1, n2, n3, n4, n5⟩, ⟨m1, m2, m3, m4, m5⟩, bd0, bd1⟩ := hyz
        obtain ⟨sx1, sx2, sx3, sx4, sx5, sx6⟩ := v_setXc (y := Y) (k := k) (by rw [yE]; exact m1) (by rw [yE]; exact m2) (by rw [yE]; exact m3) (by rw [yE]; exact m4) (by rw [yE]; exact m5)
        obtain ⟨sr1, sr2, sr3, sr4, sr5, sr6, sr7, ksr⟩ := v_setRc (z := Z) (k := k) hk n1 n2 n3 n4 n5
        generalize f_T_settle Y k = Sx at sx1 sx2 sx3 sx4 sx5 sx6 ⊢
        generalize f_M_settle Z (nI k) = Sr at sr1 sr2 sr3 sr4 sr5 sr6 sr7 ⊢
        have sL : Sx.2 (k + 14) 3 = lN (ws k) := by rw [sx2 _ (by omega) (by omega), yE]; exact m1
        have s8 : Sr.2 8 k = lN (ws k) := by rw [sr2 8 (by omega) (by omega)]; exact n1
        rw [ek, sL, s8, eq64, lN_add]
        have Rrow : ∀ p, p ≠ 8 → p ≠ 9 → p ≠ 10 → p ≠ 11 → p ≠ 12 → (g_L Sr 8 k (lN (ws k + Q))).2 p = r.2 p := fun p a1 a2 a3 a4 a5 => by rw [g_L2p _ _ a1, sr2 p a2 a3, zG p a1 a2 a3, fR.1 p a4 a5]
        have kpr := (v_payR (g_L Sr 8 k (lN (ws k + Q))) ha (lN z0) (lN z1)).2
        obtain ⟨pr1, pr2⟩ := v_payRF (g_L Sr 8 k (lN (ws k + Q))) ha (lN z0) (lN z1)
        have hW := wY (g_L Sr 8 k (lN (ws k + Q))) (Rrow 2 (by omega) (by omega) (by omega) (by omega) (by omega)) (Rrow 3 (by omega) (by omega) (by omega) (by omega) (by omega))
        generalize f_M_pay (g_L Sr 8 k (lN (ws k + Q))) (nI a) (lN z0) (lN z1) = R at pr1 pr2 hW ⊢
        have hwk := v_ws_le (ws := ws) (k := k) 10 hk
        have uI : (i + 1) * 3000000 = i * 3000000 + 3000000 := Nat.succ_mul _ _
        have R1 : ∀ p, p ≠ 4 → p ≠ 5 → p ≠ 6 → p ≠ 7 → R.1 p = z.1 p := fun p a1 a2 a3 a4 => by rw [pr1, g_L1, sr1, zE p a1 a2 a3 a4]
        have RS : R.1 = Z.1 := by rw [pr1, g_L1, sr1]
        have X1 : ∀ p, p ≠ k + 14 → (g_L Sx (k + 14) 3 (lN (ws k + Q))).1 p = y.1 p := fun p hp => by rw [g_L1, sx1, yD p hp]
        have X2 : ∀ p, p ≠ k + 14 → p ≠ k + 24 → p ≠ k + 34 → (g_L Sx (k + 14) 3 (lN (ws k + Q))).2 p = y.2 p := fun p a1 a2 a3 => by rw [g_L2p _ _ a1, sx2 p a2 a3, yE]
        have R2 : ∀ p, p ≠ 2 → p ≠ 3 → p ≠ 8 → p ≠ 9 → p ≠ 10 → R.2 p = z.2 p := fun p a1 a2 a3 a4 a5 => by rw [pr2 p a1 a2, g_L2p _ _ a3, sr2 p a4 a5, zG p a3 a4 a5]
        refine ⟨⟨kzx, kwx, ⟨qa, qa, True.intro⟩, kM, kpx, True.intro⟩, ⟨kzr, kwr, qa0, qa1, kN, kZ, ksr, qk, qk, kpr, True.intro⟩, rfl, ?_, ?_, ?_, ?_, ?_⟩
        · refine v_cfg_cg h1 ?_ ?_ ?_ ?_ ?_ ?_
          · rw [X1 0 (by omega), Y1 0 (by omega) (by omega)]
          · rw [X1 0 (by omega), Y1 0 (by omega) (by omega)]
          · rw [X1 9 (by omega), Y1 9 (by omega) (by omega)]
          · rw [R1 0 (by omega) (by omega) (by omega) (by omega), fR.2.2 0 (by omega)]
          · rw [R1 0 (by omega) (by omega) (by omega) (by omega), fR.2.2 1 (by omega)]
          · rw [R2 1 (by omega) (by omega) (by omega) (by omega) (by omega), fR.1 1 (by omega) (by omega)]
        · refine v_pr_cg h2 ?_ ?_ ?_ ?_ ?_ ?_
          · rw [X1 0 (by omega), Y1 0 (by omega) (by omega)]
          · rw [X1 0 (by omega), Y1 0 (by omega) (by omega)]
          · rw [X1 0 (by omega), Y1 0 (by omega) (by omega)]
          · rw [R1 0 (by omega) (by omega) (by omega) (by omega), fR.2.2 3 (by omega)]
          · rw [R1 0 (by omega) (by omega) (by omega) (by omega), fR.2.2 5 (by omega)]
          · rw [R2 0 (by omega) (by omega) (by omega) (by omega) (by omega), fR.1 0 (by omega) (by omega)]
        · exact v_wal_cg hW (fun o ho => X2 _ (by omega) (by omega) (by omega)) (X2 _ (by omega) (by omega) (by omega)) rfl rfl
        · refine v_fin (w := ws k + Q) (o0 := o0 + g0) (o1 := o1 + g1) (a := a) (lo := lo) (hi := hi) hl hs hb hk hi5 (fun j hj hjk => ?_) ⟨?_, ?_, ?_⟩ (fun j hj hjk => ⟨?_, ?_, ?_⟩) ⟨?_, ?_, ?_, ?_, ?_⟩ ?_ ⟨?_, ?_, ?_⟩ (fun j hj hjk => ⟨?_, ?_, ?_, ?_, ?_, fun t ht => ?_, fun t ht => ?_⟩) ⟨?_, ?_, ?_, ?_, ?_⟩ ha s1 s2 s3 (Nat.le_trans bd0 (Nat.mul_le_mul_right _ (Nat.le_succ i))) (Nat.le_trans bd1 (Nat.mul_le_mul_right _ (Nat.le_succ i))) (by omega)
          · rw [X1 _ (by omega), Y1 _ (by omega) (by omega)]
          · rw [g_L1, sx1]; exact yA
          · rw [g_L1, sx1]; exact yB
          · rw [g_L1, sx1]; exact yC
          · rw [X2 _ (by omega) (by omega) (by omega), Y14 j hj]
          · rw [X2 _ (by omega) (by omega) (by omega), Y24 j hj]
          · rw [X2 _ (by omega) (by omega) (by omega), Y34 j hj]
          · rw [g_L2s]
          · rw [g_L2p _ _ (by omega), sx3]
          · rw [g_L2p _ _ (by omega), sx4]
          · rw [g_L2p _ _ (by omega), sx5]
          · rw [g_L2p _ _ (by omega), sx6]
          · rw [RS, zA, if_neg (by omega)]
          · rw [RS]; exact zB
          · rw [RS]; exact zC
          · rw [RS]; exact zD
          · rw [RS, zF _ _ hjk, fR.2.1 4 (by omega)]
          · rw [RS, zF _ _ hjk, fR.2.1 5 (by omega)]
          · rw [RS, zF _ _ hjk, fR.2.1 6 (by omega)]
          · rw [RS, zF _ _ hjk, fR.2.1 7 (by omega)]
          · rw [pr2 8 (by omega) (by omega), g_L2k _ _ hjk, sr2 8 (by omega) (by omega), zH _ hjk, Z8]
          · rw [pr2 9 (by omega) (by omega), g_L2p _ _ (by omega), (sr7 _ (by omega) (by omega)).1, (zI _ (by omega) (by omega)).1, Z9]
          · rw [pr2 10 (by omega) (by omega), g_L2p _ _ (by omega), (sr7 _ (by omega) (by omega)).2, (zI _ (by omega) (by omega)).2, Z10]
          · rw [pr2 8 (by omega) (by omega), g_L2s]
          · rw [pr2 9 (by omega) (by omega), g_L2p _ _ (by omega), sr3]
          · rw [pr2 9 (by omega) (by omega), g_L2p _ _ (by omega), sr4]
          · rw [pr2 10 (by omega) (by omega), g_L2p _ _ (by omega), sr5]
          · rw [pr2 10 (by omega) (by omega), g_L2p _ _ (by omega), sr6]
        · apply v_tim_mono
          have tY : v_tim y0 z i := by
            rw [v_tim_B]
            refine ⟨T, m', tm', ?_, ?_, fun _ => hm'⟩
            · rw [fR.2.2 5 (by omega)]; exact tN
            · intro q
              rw [fR.2.2 3 (by omega), og] at q
              exact absurd q (by decide)
          have yy : ∀ p, p < 10 → p ≠ 2 → (g_L Sx (k + 14) 3 (lN (ws k + Q))).2 p = y0.2 p := fun p a1 a2 => by rw [X2 p (by omega) (by omega) (by omega), px2 p a2 (by omega)]
          have y1' : ∀ p, p < 10 → (g_L Sx (k + 14) 3 (lN (ws k + Q))).1 p = y0.1 p := fun p a1 => by rw [X1 p (by omega), px1]
          refine v_tim_cg tY ?_ ?_ ?_ ?_ ?_ ?_ ?_ ?_ ?_ ?_ ?_ ?_ ?_
          · rw [yy 5 (by omega) (by omega)]
          · rw [yy 5 (by omega) (by omega)]
          · rw [y1' 5 (by omega)]
          · rw [yy 6 (by omega) (by omega)]
          · rw [yy 7 (by omega) (by omega)]
          · rw [y1' 8 (by omega)]
          · rw [R2 0 (by omega) (by omega) (by omega) (by omega) (by omega)]
          · rw [R2 0 (by omega) (by omega) (by omega) (by omega) (by omega)]
          · rw [R1 0 (by omega) (by omega) (by omega) (by omega)]
          · rw [R1 0 (by omega) (by omega) (by omega) (by omega)]
          · rw [R1 0 (by omega) (by omega) (by omega) (by omega)]
          · rw [R2 11 (by omega) (by omega) (by omega) (by omega) (by omega)]
          · rw [R2 12 (by omega) (by omega) (by omega) (by omega) (by omega)]
  · have c' : ¬ lN (v_sum ws 10 + Q) ≤ (1000000 : Int64) := fun q => c ((lN_le (b := 1000000) (by omega) (by decide)).mp q)
    simp only [c', if_false, f_P_mint_79_74, k_P_mint_79_74, f_M_mint_140_86, k_M_mint_140_86, true_and]
    exact v_mono x r i h
theorem w_mint : v_c_mint v_V := by
  intro x r i o lo hi q h hi5
  obtain ⟨h1, h2, h3, h4, h5⟩ := id h
  obtain ⟨p1, p2, p3⟩ := id h2
  obtain ⟨hl, ws, hs, hb⟩ := id h4
  have hf := v_find hl o lo hi
  have hfo := v_fof hl o lo hi
  obtain ⟨hrg, kr1, kr2⟩ := u_range h1 lo hi
  unfold f_P_mint k_P_mint f_M_mint k_M_mint
  rcases p3 with ⟨og, -⟩ | ⟨og, -⟩
  · have o' : x.1 0 7 = 0 := p1.trans og
    simp only [og, o', if_true, f_P_mint_7_76, k_P_mint_7_76, f_M_mint_7_156, k_M_mint_7_156, true_and]
    exact v_mono x r i h
  · have n1 : ¬ r.1 0 3 = 0 := by rw [og]; decide
    have n2 : ¬ x.1 0 7 = 0 := by rw [p1, og]; decide
    simp only [n1, n2, if_false, f_P_mint_11_2, k_P_mint_11_2, f_M_mint_11_2, k_M_mint_11_2, f_P_mint_12_5, k_P_mint_12_5, f_M_mint_12_5, k_M_mint_12_5]
    rcases u_isOwner o with ⟨e1, e2⟩ | ⟨e1, e2, a, ha, rfl⟩
    · simp only [e1, e2, if_true, f_P_mint_40_7, k_P_mint_40_7, f_M_mint_40_7, k_M_mint_40_7, true_and]
      exact v_mono x r i h
    · simp only [e1, e2, g_10, if_false, f_P_mint_18_8, k_P_mint_18_8, f_M_mint_18_8, k_M_mint_18_8, f_P_mint_21_12, k_P_mint_21_12, f_M_mint_21_12, k_M_mint_21_12, kr1, kr2, true_and]
      rcases hrg with ⟨e3, e4⟩ | ⟨e3, e4, s1, s2, s3⟩
      · simp only [e3, e4, if_true, f_P_mint_40_14, k_P_mint_40_14, f_M_mint_40_14, k_M_mint_40_14, true_and]
        exact v_mono x r i h
      · simp only [e3, e4, g_10, if_false, f_P_mint_27_15, k_P_mint_27_15, f_M_mint_27_15, k_M_mint_27_15]
        by_cases c1 : q < (1 : Int32)
        · simp only [c1, if_true, f_P_mint_40_17, k_P_mint_40_17, f_M_mint_40_17, k_M_mint_40_17, true_and]
          exact v_mono x r i h
        · simp only [c1, if_false, f_P_mint_33_18, k_P_mint_33_18, f_M_mint_33_18, k_M_mint_33_18]
          by_cases c2 : q ≤ (1000000 : Int32)
          · simp only [c2, if_true, f_P_mint_44_20, k_P_mint_44_20, f_M_mint_44_20, k_M_mint_44_20, f_M_mint_48_23, k_M_mint_48_23]
            rw [Int32.lt_iff_toInt_lt, show (1 : Int32).toInt = 1 from rfl] at c1
            rw [Int32.le_iff_toInt_le, show (1000000 : Int32).toInt = 1000000 from rfl] at c2
            have eN := Int32.toNat_toInt q
            obtain ⟨Q, rfl, hQ1, hQ⟩ : ∃ Q, q = nI Q ∧ 1 ≤ Q ∧ Q ≤ 1000000 := ⟨q.toNatClampNeg, (Int32.ofNat_toNatClampNeg q (by rw [Int32.le_iff_toInt_le, g_tI0]; omega)).symm, by omega, by omega⟩
            have eq64 : (nI Q).toInt64 = lN Q := nI_l (by omega)
            rw [eq64, v_mloop hl hb _ _ _ _ _ _ _ 10 (Nat.le_refl _) Q (-1), hfo]
            unfold f_M_mint_121_31 k_M_mint_121_31
            cases hx : f_B_find x (nI a) lo hi with
            | some k =>
              rw [hx] at hf
              have hf : f_M_find r (nI a) lo hi = nI k := hf
              obtain ⟨hk, t4, t5, t6, t7⟩ := v_found hl hx
              have pz : (0 : Int32) ≤ nI k := nI_pos' (by omega)
              rw [hf]
              simp only [pz, if_true, Option.elim]
              exact v_mintG h hi5 og hl hs hb ha hQ hQ1 s1 s2 s3 hk _ _ _ _ (nI k) _ (if_pos pz) (Or.inl ⟨pz, t4, t5, t6, t7⟩)
            | none =>
              rw [hx] at hf
              have hf : f_M_find r (nI a) lo hi = -1 := hf
              have nz : ¬ (0 : Int32) ≤ -1 := by decide
              rw [hf]
              simp only [nz, if_false]
              unfold f_M_mint_126_87 k_M_mint_126_87
              cases hv : v_lf r 10 with
              | none =>
                have nz1 : (-1 : Int32) < 0 := by decide
                simp only [Option.elim, nz1, if_true, f_P_mint_51_25, k_P_mint_51_25, f_M_mint_140_89, k_M_mint_140_89, true_and]
                exact v_mono x r i h
              | some k =>
                obtain ⟨hk, hfree⟩ := v_lf_free 10 hv
                have np : ¬ nI k < 0 := nI_pos (by omega)
                simp only [Option.elim, np, if_false, v_m90, v_mk90]
                exact v_mintG h hi5 og hl hs hb ha hQ hQ1 s1 s2 s3 hk _ _ _ _ (-1) (nI k) (if_neg nz) (Or.inr ⟨nz, rfl, hfree⟩)
          · simp only [c2, if_false, f_P_mint_40_75, k_P_mint_40_75, f_M_mint_40_155, k_M_mint_40_155, true_and]
            exact v_mono x r i h
