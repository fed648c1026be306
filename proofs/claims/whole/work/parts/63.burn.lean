/-! one lot anew, its growth taken -/
theorem v_fin {x r X R : g_S} {i k w o0 o1 a : Nat} {ws : Nat → Nat} {lo hi : Int32} (hl : ∀ k, k < 10 → v_lot x r k) (hs : v_sum ws 10 ≤ 1000000) (hb : ∀ k, k < 10 → v_lotB r i k (ws k)) (hk : k < 10) (hi5 : i < 512)
    (x1 : ∀ j, j < 10 → j ≠ k → X.1 (j + 14) = x.1 (j + 14)) (x2 : X.1 (k + 14) 0 = nI a ∧ X.1 (k + 14) 1 = lo ∧ X.1 (k + 14) 2 = hi) (x3 : ∀ j, j < 10 → j ≠ k → X.2 (j + 14) 3 = x.2 (j + 14) 3 ∧ X.2 (j + 24) = x.2 (j + 24) ∧ X.2 (j + 34) = x.2 (j + 34)) (x4 : X.2 (k + 14) 3 = lN w ∧ X.2 (k + 24) 0 = lN o0 ∧ X.2 (k + 24) 1 = lN o1 ∧ X.2 (k + 34) 0 = 0 ∧ X.2 (k + 34) 1 = 0)
    (r1 : R.1 4 k = if w = 0 ∧ o0 = 0 ∧ o1 = 0 then 0 else 1) (r2 : R.1 5 k = nI a ∧ R.1 6 k = lo ∧ R.1 7 k = hi) (r3 : v_oR r R k) (r4 : R.2 8 k = lN w ∧ R.2 9 (2 * k) = lN o0 ∧ R.2 9 (2 * k + 1) = lN o1 ∧ R.2 10 (2 * k) = 0 ∧ R.2 10 (2 * k + 1) = 0)
    (ha : a < 4) (s1 : -24 ≤ lo.toInt) (s2 : lo.toInt < hi.toInt) (s3 : hi.toInt ≤ 24) (c0 : o0 ≤ (i + 1) * 3000000) (c1 : o1 ≤ (i + 1) * 3000000) (c2 : v_sum ws 10 + w ≤ 1000000 + ws k) : v_lots X R (i + 1) := by
  obtain ⟨x20, x21, x22⟩ := x2
  obtain ⟨x40, x41, x42, x43, x44⟩ := x4
  obtain ⟨r20, r21, r22⟩ := r2
  obtain ⟨r40, r41, r42, r43, r44⟩ := r4
  have hwk := v_ws_le (ws := ws) (k := k) 10 hk
  have bI : (i + 1) * 3000000 ≤ 512 * 3000000 := Nat.mul_le_mul_right _ hi5
  have bw : w < 2 ^ 31 := by omega
  have b0 : o0 < 2 ^ 31 := by omega
  have b1 : o1 < 2 ^ 31 := by omega
  refine v_upd (ws := ws) (w' := w) hl hs hb hk (fun j hj hjk => ⟨fun s _ => by rw [x1 j hj hjk], (x3 j hj hjk).1, (x3 j hj hjk).2.1, (x3 j hj hjk).2.2⟩) r3 ?_ ?_ c2
  · unfold v_lot
    rw [x40, x41, x42, x43, x44, x20, x21, x22, r1, r20, r21, r22, r40, r41, r42, r43, r44]
    refine ⟨⟨rfl, rfl, rfl⟩, ?_⟩
    by_cases c : w = 0 ∧ o0 = 0 ∧ o1 = 0
    · rw [if_pos c]
      obtain ⟨rfl, rfl, rfl⟩ := c
      exact Or.inl ⟨rfl, rfl, rfl, rfl⟩
    · rw [if_neg c]
      refine Or.inr ⟨rfl, fun q => c ⟨(lN_eq (b := 0) bw (by decide)).mp q.1, (lN_eq (b := 0) b0 (by decide)).mp q.2.1, (lN_eq (b := 0) b1 (by decide)).mp q.2.2⟩, rfl, rfl, rfl, rfl, rfl⟩
  · refine ⟨r40, fun t ht => ?_, fun _ => ⟨by rw [r21]; exact s1, by rw [r21, r22]; exact s2, by rw [r22]; exact s3, a, ha, r20⟩⟩
    by_cases tt : t = 0
    · subst tt
      refine ⟨o0, 0, r41, fun _ => r43, ?_⟩
      rw [Nat.zero_mul, Nat.add_zero, Nat.mul_comm]
      exact Nat.mul_le_mul_left _ c0
    · have tt : t = 1 := by omega
      subst tt
      refine ⟨o1, 0, r42, fun _ => r44, ?_⟩
      rw [Nat.zero_mul, Nat.add_zero, Nat.mul_comm]
      exact Nat.mul_le_mul_left _ c1
theorem v_grow {g w : Nat} (h : g * w < 2 ^ 63) : lN g * lN w / (4294967296 : Int64) = lN (g * w / 4294967296) := by
  rw [lN_mul, show (4294967296 : Int64) = lN 4294967296 from rfl, pk_lDiv h (by decide) (by decide)]
theorem v_set_le {od g w i : Nat} (h : od * 4294967296 + g * w ≤ 4294967296 * (i * 3000000)) : od + g * w / 4294967296 ≤ i * 3000000 := by
  have h1 := Nat.div_mul_le_self (g * w) 4294967296
  have h2 : (od + g * w / 4294967296) * 4294967296 ≤ i * 3000000 * 4294967296 := by
    rw [Nat.add_mul, Nat.mul_comm (i * 3000000)]
    exact Nat.le_trans (Nat.add_le_add_left h1 _) h
  exact Nat.le_of_mul_le_mul_right h2 (by decide)
theorem w_burn : v_c_burn v_V := by
  intro x r i o lo hi q h hi'
  obtain ⟨h1, h2, h3, h4, h5⟩ := id h
  obtain ⟨p1, p2, p3⟩ := id h2
  obtain ⟨hl, ws, hs, hb⟩ := id h4
  have hf := v_find hl o lo hi
  unfold f_P_burn k_P_burn f_M_burn k_M_burn
  rcases p3 with ⟨og, -⟩ | ⟨og, p, pe, pf, va⟩
  · have o' : x.1 0 7 = 0 := p1.trans og
    simp only [og, o', if_true, f_P_burn_7_34, k_P_burn_7_34, f_M_burn_7_45, k_M_burn_7_45, true_and]
    exact v_mono x r i h
  · have n1 : ¬ r.1 0 3 = 0 := by rw [og]; decide
    have n2 : ¬ x.1 0 7 = 0 := by rw [p1, og]; decide
    simp only [n1, n2, if_false]
    unfold f_P_burn_11_2 k_P_burn_11_2 f_M_burn_11_2 k_M_burn_11_2 f_M_burn_15_5 k_M_burn_15_5
    cases hx : f_B_find x o lo hi with
    | none =>
      rw [hx] at hf
      have hf : f_M_find r o lo hi = -1 := hf
      have nn : ¬ (0 : Int32) ≤ -1 := by decide
      simp only [hf, nn, if_false, Option.elim, f_P_burn_18_7, k_P_burn_18_7, f_M_burn_25_44, k_M_burn_25_44, true_and]
      exact v_mono x r i h
    | some k =>
      rw [hx] at hf
      have hf : f_M_find r o lo hi = nI k := hf
      obtain ⟨hk, t4, t5, t6, t7⟩ := v_found hl hx
      have pz : (0 : Int32) ≤ nI k := nI_pos' (by omega)
      obtain ⟨i1, j1, q0, q1⟩ := u_ixk hk
      have ek : (nI k).toNatClampNeg = k := u_cl (by omega)
      have qk : vp_in (nI k) 10 := u_inN hk (by omega)
      obtain ⟨⟨l1, l2, l3⟩, l4⟩ := hl k hk
      obtain ⟨b1, b2, b3⟩ := hb k hk
      obtain ⟨r1, r2, r3, a, ha, ea⟩ := b3 t4
      simp only [hf, pz, if_true, Option.elim]
      unfold f_P_burn_18_8 k_P_burn_18_8 f_M_burn_29_7 k_M_burn_29_7
      by_cases c1 : q < 0
      · simp only [c1, if_true, f_P_burn_49_10, k_P_burn_49_10, f_M_burn_48_9, k_M_burn_48_9, true_and]
        exact v_mono x r i h
      · simp only [c1, if_false]
        unfold f_P_burn_37_11 k_P_burn_37_11 f_M_burn_34_10 k_M_burn_34_10
        rw [ek, l1, b1]
        by_cases c2 : q.toInt64 ≤ lN (ws k)
        · simp only [c2, if_true]
          obtain ⟨Q, rfl⟩ : ∃ Q, q = nI Q := ⟨q.toNatClampNeg, (Int32.ofNat_toNatClampNeg q (by rw [Int32.lt_iff_toInt_lt, g_tI0] at c1; rw [Int32.le_iff_toInt_le, g_tI0]; omega)).symm⟩
          have hQ31 : Q % 2 ^ 32 < 2 ^ 32 := Nat.mod_lt _ (by decide)
          sorry
        · simp only [c2, if_false, f_P_burn_49_33, k_P_burn_49_33, f_M_burn_48_43, k_M_burn_48_43, true_and, and_true]
          exact ⟨qk, v_mono x r i h⟩
