/-- both say the same of a trade, and if it is one they work it out alike -/
theorem v_trade {x r : g_S} {i : Nat} {d : Int32} (h : v_V x r i) (ho : r.1 0 3 = 1) (hd : d = 0 ∨ d = 1) (am lim : Int32) :
    k_P_isTrade x d am lim ∧ k_M_work r d am lim ∧ ((f_P_isTrade x d am lim = 0 ∧ f_M_work r d am lim = (0, r)) ∨
      (f_P_isTrade x d am lim = 1 ∧ (f_M_work r d am lim).1 = 1 ∧ k_P_priceOf lim ∧ k_D_startAt x (x.1 0 8) (x.1 0 9) d ∧ k_D_workOut (f_D_startAt x (x.1 0 8) (x.1 0 9) d) am (f_P_priceOf lim) ∧
        ∃ ws fe p L b A q F c, v_St x r i ws d fe L ∧ v_T x r (f_D_workOut (f_D_startAt x (x.1 0 8) (x.1 0 9) d) am (f_P_priceOf lim)) (f_M_work r d am lim).2 ws d L b A q F c ∧ r.2 0 4 = lN p)) := by
  obtain ⟨⟨c1, c2, c3, c4, ⟨fe, f1, f2⟩, c6⟩, ⟨q1, q2, q3⟩, -, ⟨l1, ws, l2, l3⟩, -⟩ := h
  rcases q3 with ⟨w, -⟩ | ⟨-, p, p1, p2, va⟩
  · rw [ho] at w; exact absurd w (by decide)
  have hp := u_at_pp va
  unfold u_pp at hp
  unfold f_P_isTrade k_P_isTrade f_M_work k_M_work
  by_cases a0 : am = 0
  · simp only [a0, if_true]
    exact ⟨True.intro, True.intro, Or.inl ⟨rfl, rfl⟩⟩
  simp only [a0, if_false]
  unfold f_P_isTrade_4_3 k_P_isTrade_4_3 f_M_work_4_3 k_M_work_4_3
  by_cases a1 : am < (-1000000 : Int32)
  · rw [if_pos a1, if_pos a1, if_pos a1, if_pos a1]
    exact ⟨True.intro, True.intro, Or.inl ⟨rfl, rfl⟩⟩
  rw [if_neg a1, if_neg a1, if_neg a1, if_neg a1]
  unfold f_P_isTrade_10_6 k_P_isTrade_10_6 f_M_work_10_6 k_M_work_10_6
  by_cases a2 : (1000000 : Int32) < am
  · rw [if_pos a2, if_pos a2, if_pos a2, if_pos a2]
    exact ⟨True.intro, True.intro, Or.inl ⟨rfl, rfl⟩⟩
  rw [if_neg a2, if_neg a2, if_neg a2, if_neg a2]
  unfold f_P_isTrade_16_9 k_P_isTrade_16_9 f_M_work_16_9 k_M_work_16_9 f_P_isTrade_17_12 k_P_isTrade_17_12 f_M_work_17_12 k_M_work_17_12
  rcases u_isStep lim with ⟨s1, s2⟩ | ⟨s1, s2, st1, st2⟩
  · rw [s1, s2]
    simp only [if_true]
    exact ⟨True.intro, True.intro, Or.inl ⟨rfl, rfl⟩⟩
  rw [s1, s2]
  simp only [g_10, if_false]
  obtain ⟨e1, k1⟩ := u_priceP st1 st2
  obtain ⟨e2, k2⟩ := u_priceM c6 st1 st2
  have bP := u_P_lo st1 st2
  obtain ⟨b, A, hA, hA2, ea⟩ := u_amt a0 a1 a2
  unfold f_P_isTrade_25_14 k_P_isTrade_25_14 f_M_work_23_15 k_M_work_23_15
  rcases hd with rfl | rfl
  · simp only [if_true]
    unfold f_P_isTrade_48_16 k_P_isTrade_48_16 f_M_work_43_17 k_M_work_43_17 f_P_isTrade_49_20 k_P_isTrade_49_20 f_M_work_45_21 k_M_work_45_21
    rw [e1, e2, p1, p2]
    by_cases cc : u_P lim.toInt ≤ p
    · rw [if_pos ((nI_leI (by omega) (by omega)).mpr cc), if_pos ((nI_leI (by omega) (by omega)).mpr cc)]
      have n : ¬ lN p < lN (u_P lim.toInt) := fun w => by
        have := (lN_lt (by omega) (by omega)).mp w
        omega
      rw [if_neg n, if_neg n]
      exact ⟨⟨k1, True.intro⟩, ⟨k2, True.intro⟩, Or.inl ⟨rfl, rfl⟩⟩
    · have n : lN p < lN (u_P lim.toInt) := (lN_lt (by omega) (by omega)).mpr (by omega)
      rw [if_neg (fun w => cc ((nI_leI (by omega) (by omega)).mp w)), if_neg (fun w => cc ((nI_leI (by omega) (by omega)).mp w)), if_pos n, if_pos n]
      have S : v_St x r i ws 0 fe (u_P lim.toInt) := ⟨l1, l3, l2, Or.inl rfl, f1, by rw [c4]; exact f2, f2, c6, bP⟩
      unfold f_M_work_58_23 k_M_work_58_23 f_M_work_114_28 k_M_work_114_28 f_M_work_163_34 k_M_work_163_34
      obtain ⟨m1, m2, m3⟩ := v_clM1 r 0 am lim 1 (lN (u_P lim.toInt)) 10 0 (g_L (g_L (g_L (g_I (g_L r 0 20 (r.2 0 4)) 0 21 (r.1 0 5)) 0 22 am.toInt64) 0 23 (0 : Int64)) 0 24 (0 : Int64)) rfl
      generalize f_M_work_L93 r 0 am lim 1 (lN (u_P lim.toInt)) 10 0 (g_L (g_L (g_L (g_I (g_L r 0 20 (r.2 0 4)) 0 21 (r.1 0 5)) 0 22 am.toInt64) 0 23 (0 : Int64)) 0 24 (0 : Int64)) = s at m1 m2 m3
      obtain ⟨y1, y2⟩ := u_wl1 r 0 am lim 1 (lN (u_P lim.toInt)) s 1000 0 s
      rw [y1, y2]
      obtain ⟨A', q, F', c', z1, z2, z3⟩ := v_run (st := lim) S p1 q2 p2 va (Or.inl ⟨rfl, by omega⟩) st1 st2 hA hA2 ea (s := s) m1 (fun a j hh => m2 a j (Or.inl hh)) (fun k hk => m3 k (Nat.zero_le _) hk)
      rw [p1] at z1 z2
      exact ⟨⟨k1, True.intro⟩, ⟨k2, z3, True.intro⟩, Or.inr ⟨rfl, rfl, k1, ⟨Or.inl rfl, True.intro⟩, z2, ws, fe, p, _, b, A', q, F', c', S, z1, rfl⟩⟩
  · simp only [g_10, if_false]
    unfold f_P_isTrade_29_24 k_P_isTrade_29_24 f_M_work_27_54 k_M_work_27_54 f_P_isTrade_30_28 k_P_isTrade_30_28 f_M_work_29_58 k_M_work_29_58
    rw [e1, e2, p1, p2]
    by_cases cc : p ≤ u_P lim.toInt
    · rw [if_pos ((nI_leI (by omega) (by omega)).mpr cc), if_pos ((nI_leI (by omega) (by omega)).mpr cc)]
      have n : ¬ lN (u_P lim.toInt) < lN p := fun w => by
        have := (lN_lt (by omega) (by omega)).mp w
        omega
      rw [if_neg n, if_neg n]
      exact ⟨⟨k1, True.intro⟩, ⟨k2, True.intro⟩, Or.inl ⟨rfl, rfl⟩⟩
    · have n : lN (u_P lim.toInt) < lN p := (lN_lt (by omega) (by omega)).mpr (by omega)
      rw [if_neg (fun w => cc ((nI_leI (by omega) (by omega)).mp w)), if_neg (fun w => cc ((nI_leI (by omega) (by omega)).mp w)), if_pos n, if_pos n]
      have S : v_St x r i ws 1 fe (u_P lim.toInt) := ⟨l1, l3, l2, Or.inr rfl, f1, by rw [c4]; exact f2, f2, c6, bP⟩
      unfold f_M_work_58_60 k_M_work_58_60 f_M_work_114_65 k_M_work_114_65 f_M_work_163_71 k_M_work_163_71
      obtain ⟨m1, m2, m3⟩ := v_clM2 r 1 am lim 1 (lN (u_P lim.toInt)) 10 0 (g_L (g_L (g_L (g_I (g_L r 0 20 (r.2 0 4)) 0 21 (r.1 0 5)) 0 22 am.toInt64) 0 23 (0 : Int64)) 0 24 (0 : Int64)) rfl
      generalize f_M_work_L93_1 r 1 am lim 1 (lN (u_P lim.toInt)) 10 0 (g_L (g_L (g_L (g_I (g_L r 0 20 (r.2 0 4)) 0 21 (r.1 0 5)) 0 22 am.toInt64) 0 23 (0 : Int64)) 0 24 (0 : Int64)) = s at m1 m2 m3
      obtain ⟨y1, y2⟩ := u_wl2 r 1 am lim 1 (lN (u_P lim.toInt)) s 1000 0 s
      rw [y1, y2]
      obtain ⟨A', q, F', c', z1, z2, z3⟩ := v_run (st := lim) S p1 q2 p2 va (Or.inr ⟨rfl, by omega⟩) st1 st2 hA hA2 ea (s := s) m1 (fun a j hh => m2 a j (Or.inl hh)) (fun k hk => m3 k (Nat.zero_le _) hk)
      rw [p1] at z1 z2
      exact ⟨⟨k1, True.intro⟩, ⟨k2, z3, True.intro⟩, Or.inr ⟨rfl, rfl, k1, ⟨Or.inr rfl, True.intro⟩, z2, ws, fe, p, _, b, A', q, F', c', S, z1, rfl⟩⟩
theorem w_quote : v_c_quote v_V := by
  intro x r i d am lim h hi hd
  have hq := h.2.1
  unfold f_P_quote k_P_quote f_M_quote k_M_quote
  rw [hq.1]
  rcases hq.2.2 with ⟨w, -⟩ | ⟨w, -⟩
  · simp only [w, if_true]
    exact ⟨True.intro, True.intro, rfl, v_mono _ _ _ h⟩
  · simp only [w, g_10, if_false]
    obtain ⟨kt, kw, hh⟩ := v_trade h w hd am lim
    unfold f_P_quote_11_2 k_P_quote_11_2 f_M_quote_11_2 k_M_quote_11_2 f_P_quote_15_6 k_P_quote_15_6 f_M_quote_15_9 k_M_quote_15_9
    rcases hh with ⟨e1, e2⟩ | ⟨e1, e2, k1, k2, k3, ws, fe, p, L, b, A, q, F, c, S, T, -⟩
    · rw [e1, e2]
      simp only [if_true]
      exact ⟨⟨kt, True.intro⟩, ⟨kw, True.intro⟩, rfl, v_mono _ _ _ h⟩
    · rw [e1, e2]
      simp only [g_10, if_false]
      unfold f_P_quote_25_8 k_P_quote_25_8 f_P_quote_38_13 k_P_quote_38_13 f_P_quote_51_17 k_P_quote_51_17 f_P_quote_54_22 k_P_quote_54_22 f_M_quote_21_12 k_M_quote_21_12 f_P_pair
      generalize f_D_workOut (f_D_startAt x (x.1 0 8) (x.1 0 9) d) am (f_P_priceOf lim) = y at T
      generalize (f_M_work r d am lim).2 = s at T
      obtain ⟨fx, fr, -, -, -, -, -, -, -, -, -, -, -, e6, e7, -, -⟩ := T
      refine ⟨⟨kt, k2, k1, k3, True.intro⟩, ⟨kw, True.intro⟩, ?_, v_mono _ _ _ (v_fr_V h fx fr)⟩
      show y.2 9 6 * 4294967296 + y.2 9 7 = s.2 0 23 * 4294967296 + s.2 0 24
      rw [e6, e7]
