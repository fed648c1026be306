/-- a mark and a note -/
theorem v_push {x r : g_S} {i : Nat} {c : Int32} {T m : Nat} {tm : Nat → Nat} (h : v_tmB x r i c T m tm) (hl : ∀ j, j + 1 = m → tm j < T) (c1 : -25 ≤ c.toInt) (c2 : c.toInt ≤ 24) :
    k_H_mark_27_2 x c ∧ k_M_note_27_2 r ∧ v_frH x (f_H_mark_27_2 x c) ∧ v_frN r (f_M_note_27_2 r) ∧ ∃ m' tm', 1 ≤ m' ∧ v_tmB (f_H_mark_27_2 x c) (f_M_note_27_2 r) i c T m' tm' ∧ ∀ j, j + 1 = m' → tm' j = T := by
  have h5 := h.2.2.2.2.1
  have h6 := h.2.2.2.2.2.1
  have h7 := h.2.2.2.2.2.2.1
  by_cases e : m = 8
  · subst e
    have eX : f_H_mark_27_2 x c = f_H_mark_40_6 x c (f_H_dropOldest x) := by
      unfold f_H_mark_27_2
      rw [h5, if_pos (show nI 8 = (8 : Int32) from rfl)]
    have kX : k_H_mark_27_2 x c = k_H_mark_40_6 x c (f_H_dropOldest x) := by
      unfold k_H_mark_27_2
      rw [h5, if_pos (show nI 8 = (8 : Int32) from rfl)]
    have eR : f_M_note_27_2 r = f_M_note_84_4 (g_I (f_M_note_L38 r 7 0 r) 0 17 (7 : Int32)) := by
      unfold f_M_note_27_2
      rw [h6, if_pos (show nI 8 = (8 : Int32) from rfl)]
      rfl
    have kR : k_M_note_27_2 r = k_M_note_78_12 r (f_M_note_L38 r 7 0 r) := by
      unfold k_M_note_27_2
      rw [h6, if_pos (show nI 8 = (8 : Int32) from rfl)]
      rfl
    have hd := v_drop (r0 := r) h
    have hd5 := hd.2.2.2.2.1
    rw [eX, kX, eR, kR]
    have q7 : vp_in (nI 7) 8 := u_inN (by omega) (by omega)
    refine ⟨?_, ⟨q7, q7, True.intro⟩, v_frH.tr ?_ (v_plainF _ _ _), v_frN.tr ?_ (v_plainG _), 8, _, by omega, v_plain hd (by omega) (fun j hj => ?_) c1 c2, fun j hj => if_pos (by omega)⟩
    · unfold k_H_mark_40_6
      rw [hd5]
      exact ⟨q7, q7, q7, True.intro⟩
    · obtain ⟨a1, a2, a3, a4, a5⟩ := v_dropX (x0 := x) (x := x) 7 0 x rfl ⟨fun j => rfl, fun j => rfl, fun j => rfl, fun _ _ _ => rfl, fun _ _ => rfl⟩
      refine ⟨fun p p1 p2 => ?_, fun p p1 p2 => ?_⟩
      · show (g_I _ 5 2 _).2 p = _
        rw [g_I2]
        exact a4 p p1 p2
      · show (g_I _ 5 2 _).1 p = _
        rw [g_I1p _ _ p2]
        exact a5 p p1
    · obtain ⟨b1, b2, b4, b5⟩ := v_dropR (r0 := r) (r := r) 7 0 r rfl ⟨fun j => rfl, fun j => rfl, fun _ _ _ => rfl, rfl⟩
      refine ⟨fun p p1 p2 => ?_, fun p p1 => ?_, fun k k1 => ?_⟩
      · rw [g_I2]
        exact b4 p p1 p2
      · rw [g_I1p _ _ p1, b5]
      · rw [g_I1k _ _ k1, b5]
    · exact hl (j + 1) (by omega)
  · have n8 : ¬ nI m = (8 : Int32) := fun q => e ((nI_eq (by omega) (by decide)).mp (q.trans (show (8 : Int32) = nI 8 from rfl)))
    have eX : f_H_mark_27_2 x c = f_H_mark_40_6 x c x := by
      unfold f_H_mark_27_2
      rw [h5, if_neg n8]
    have kX : k_H_mark_27_2 x c = k_H_mark_40_6 x c x := by
      unfold k_H_mark_27_2
      rw [h5, if_neg n8]
    have eR : f_M_note_27_2 r = f_M_note_84_4 r := by
      unfold f_M_note_27_2
      rw [h6, if_neg n8]
    have kR : k_M_note_27_2 r = k_M_note_84_4 r := by
      unfold k_M_note_27_2
      rw [h6, if_neg n8]
    have q : vp_in (nI m) 8 := u_inN (by omega) (by omega)
    rw [eX, kX, eR, kR]
    refine ⟨?_, ?_, v_plainF _ _ _, v_plainG _, m + 1, _, by omega, v_plain h (by omega) hl c1 c2, fun j hj => if_pos (by omega)⟩
    · unfold k_H_mark_40_6
      rw [h5]
      exact ⟨q, q, q, True.intro⟩
    · unfold k_M_note_84_4
      rw [h6]
      exact ⟨q, q, True.intro⟩
theorem v_note {x r : g_S} {i : Nat} {c : Int32} {T m : Nat} {tm : Nat → Nat} (h : v_tmB x r i c T m tm) (hi : i < 600) (c1 : -25 ≤ c.toInt) (c2 : c.toInt ≤ 24) :
    k_H_mark x c ∧ k_M_note r ∧ v_frH x (f_H_mark x c) ∧ v_frN r (f_M_note r) ∧ ∃ m' tm', 1 ≤ m' ∧ v_tmB (f_H_mark x c) (f_M_note r) i c T m' tm' ∧ ∀ j, j + 1 = m' → tm' j = T := by
  have hh := h
  obtain ⟨h1, h2, h3, h4, h5, h6, h7, h8, h9, h10⟩ := h
  have hT : T < 2 ^ 31 := Nat.lt_of_le_of_lt h3 (Nat.lt_of_le_of_lt (Nat.mul_le_mul_right 10000 (Nat.le_of_lt hi)) (by decide))
  cases m with
  | zero =>
    have z : nI 0 ≤ (0 : Int32) := by decide
    have eX : f_H_mark x c = f_H_mark_27_2 x c := by
      unfold f_H_mark
      rw [h5, if_pos z]
    have kX : k_H_mark x c = k_H_mark_27_2 x c := by
      unfold k_H_mark
      rw [h5, if_pos z]
    have eR : f_M_note r = f_M_note_27_2 r := by
      unfold f_M_note
      rw [h6, if_pos z]
    have kR : k_M_note r = k_M_note_27_2 r := by
      unfold k_M_note
      rw [h6, if_pos z]
    rw [eX, kX, eR, kR]
    exact v_push hh (fun j hj => absurd hj (by omega)) c1 c2
  | succ m =>
    have z : ¬ nI (m + 1) ≤ (0 : Int32) := nI_nle (by omega) (by omega)
    have ep : nI (m + 1) - 1 = nI m := nI_pred m
    have q : vp_in (nI m) 8 := u_inN (by omega) (by omega)
    have em : (nI m).toNatClampNeg = m := u_cl (by omega)
    obtain ⟨a1, a2, a3⟩ := h8 m (by omega)
    obtain ⟨a4, a5⟩ := h10 m rfl
    have eX : f_H_mark x c = if lN (tm m) = lN T then x else f_H_mark_27_2 x c := by
      unfold f_H_mark
      rw [h5, if_neg z]
      unfold f_H_mark_7_14
      rw [h5, ep, em, a1, h1]
      rfl
    have kX : k_H_mark x c = (vp_in (nI m) 8 ∧ if lN (tm m) = lN T then True else k_H_mark_27_2 x c) := by
      unfold k_H_mark
      rw [h5, if_neg z]
      unfold k_H_mark_7_14
      rw [h5, ep, em, a1, h1]
      rfl
    have eR : f_M_note r = if lN (tm m) = lN T then r else f_M_note_27_2 r := by
      unfold f_M_note
      rw [h6, if_neg z]
      unfold f_M_note_7_18
      rw [h6, ep, em, a2, h2]
      unfold f_M_note_27_21 f_M_note_36_26
      rw [v_L38_1]
      rfl
    have kR : k_M_note r = (vp_in (nI m) 8 ∧ if lN (tm m) = lN T then True else k_M_note_27_2 r) := by
      unfold k_M_note
      rw [h6, if_neg z]
      unfold k_M_note_7_18
      rw [h6, ep, em, a2, h2]
      unfold k_M_note_27_21 k_M_note_36_26
      rw [v_L38_1]
      rfl
    rw [eX, kX, eR, kR]
    by_cases e : tm m = T
    · have e' : lN (tm m) = lN T := by rw [e]
      rw [if_pos e', if_pos e', if_pos e', if_pos e']
      exact ⟨⟨q, True.intro⟩, ⟨q, True.intro⟩, ⟨fun _ _ _ => rfl, fun _ _ _ => rfl⟩, ⟨fun _ _ _ => rfl, fun _ _ => rfl, fun _ _ => rfl⟩, m + 1, tm, by omega, hh, fun j hj => by rw [show j = m by omega]; exact e⟩
    · have e' : ¬ lN (tm m) = lN T := fun q => e ((lN_eq (by omega) hT).mp q)
      rw [if_neg e', if_neg e', if_neg e', if_neg e']
      have hlst : ∀ j, j + 1 = m + 1 → tm j < T := by
        intro j hj
        have e9 : j = m := by omega
        rw [e9]
        omega
      obtain ⟨p1, p2, p3, p4, p5⟩ := v_push hh hlst c1 c2
      exact ⟨⟨q, p1⟩, ⟨q, p2⟩, p3, p4, p5⟩
/-! advance -/
theorem w_advance : v_c_advance v_V := by
  intro x r i n h hi
  simp only [f_P_advance_11_2, f_P_advance_22_9, f_P_advance_13_5, f_P_advance_11_10, f_P_advance_4_3, f_P_advance, f_M_advance_11_2, f_M_advance_48_9, f_M_advance_13_5, f_M_advance_11_11, f_M_advance_4_3, f_M_advance]
  by_cases c1 : n < 0
  · simp only [c1, if_true, true_and]
    exact v_mono x r i h
  · by_cases c2 : n ≤ (10000 : Int32)
    · simp only [c1, c2, if_true, if_false, true_and]
      obtain ⟨h1, h2, h3, h4, h5⟩ := h
      obtain ⟨N, hN, rfl⟩ : ∃ N, N ≤ 10000 ∧ n = nI N := by
        rw [Int32.lt_iff_toInt_lt, g_tI0] at c1
        rw [Int32.le_iff_toInt_le, show (10000 : Int32).toInt = 10000 from rfl] at c2
        have e := Int32.toNat_toInt n
        exact ⟨n.toNatClampNeg, by omega, (Int32.ofNat_toNatClampNeg n (by rw [Int32.le_iff_toInt_le, g_tI0]; omega)).symm⟩
      have eN : (nI N).toInt64 = lN N := nI_l (by omega)
      have eC : x.1 0 9 = r.1 0 5 := h2.2.1
      have eS : (if r.1 0 3 = 0 then (0 : Int64) else (r.1 0 5).toInt64 * lN N) = (r.1 0 5).toInt64 * lN N := by
        rcases h2.2.2 with ⟨a1, -, -, a2⟩ | ⟨a1, -⟩
        · rw [if_pos a1, a2]
          show (0 : Int64) = 0 * lN N
          rw [Int64.zero_mul]
        · rw [if_neg (by rw [a1]; decide)]
      unfold f_H_tick
      rw [eN, eC, eS]
      refine ⟨v_cfg_cg h1 rfl rfl rfl rfl rfl rfl, v_pr_cg h2 rfl rfl rfl rfl rfl rfl, v_wal_cg h3 ?_ rfl rfl rfl, v_lots_cg (v_lots_mono h4) ?_ ⟨rfl, rfl, rfl, rfl, rfl, rfl, rfl⟩, ?_⟩
      · intro o ho
        rw [g_L2p _ _ (by omega), g_L2p _ _ (by omega)]
      · intro k hk
        refine ⟨fun s _ => rfl, ?_, ?_, ?_⟩
        · rw [g_L2p _ _ (by omega), g_L2p _ _ (by omega)]
        · rw [g_L2p _ _ (by omega), g_L2p _ _ (by omega)]
        · rw [g_L2p _ _ (by omega), g_L2p _ _ (by omega)]
      · rw [v_tim_B] at h5 ⊢
        obtain ⟨T, m, tm, ⟨t1, t2, t3, t4, t5, t6, t7, t8, t9, t10⟩, t11, t12⟩ := h5
        refine ⟨T + N, m, tm, ⟨?_, ?_, ?_, ?_, t5, t6, t7, t8, t9, fun j hj => ?_⟩, t11, t12⟩
        · show x.2 5 0 + lN N = lN (T + N)
          rw [t1, lN_add]
        · show r.2 0 15 + lN N = lN (T + N)
          rw [t2, lN_add]
        · rw [Nat.succ_mul]
          exact Nat.add_le_add t3 hN
        · show x.2 5 1 + _ = r.2 0 16 + _
          rw [t4]
        · obtain ⟨u1, u2⟩ := t10 j hj
          refine ⟨by omega, ?_⟩
          show r.2 0 16 + (r.1 0 5).toInt64 * lN N = r.2 12 j + (r.1 0 5).toInt64 * lN (T + N - tm j)
          rw [u2, show T + N - tm j = (T - tm j) + N by omega, ← lN_add, Int64.mul_add, Int64.add_assoc]
    · simp only [c1, c2, if_false, true_and]
      exact v_mono x r i h
/-! open -/
theorem w_open : v_c_open v_V := by
  intro x r i n h hi
  simp only [f_P_open_14_2, f_P_open_39_17, f_P_open_23_12, f_P_open_16_8, f_P_open_14_18, f_P_open_8_6, f_P_open_7_3, f_P_open, k_P_open_14_2, k_P_open_39_17, k_P_open_23_12, k_P_open_16_8, k_P_open_14_18, k_P_open_8_6, k_P_open_7_3, k_P_open, f_M_open_14_2, f_M_open_36_17, f_M_open_29_12, f_M_open_16_8, f_M_open_14_18, f_M_open_8_6, f_M_open_7_3, f_M_open, k_M_open_14_2, k_M_open_36_17, k_M_open_29_12, k_M_open_16_8, k_M_open_14_18, k_M_open_8_6, k_M_open_7_3, k_M_open]
  obtain ⟨h1, h2, h3, h4, h5⟩ := id h
  obtain ⟨p1, p2, p3⟩ := id h2
  rcases p3 with ⟨o, b1, b2, b3⟩ | ⟨o, -⟩
  · have o' : x.1 0 7 = 0 := p1.trans o
    simp only [o, o', if_true]
    rcases u_isStep n with ⟨e1, e2⟩ | ⟨e1, e2, s1, s2⟩
    · simp only [e1, e2, if_true, true_and]
      exact v_mono x r i h
    · simp only [e1, e2, g_10, if_false]
      obtain ⟨q1, q2⟩ := u_priceP s1 s2
      have hr : ∀ j, j < 49 → (g_I (g_I r 0 3 (1 : Int32)) 0 5 n).2 1 j = lN (u_tab j) := h1.2.2.2.2.2
      obtain ⟨q3, q4⟩ := u_priceM hr s1 s2
      rw [v_tim_B] at h5
      obtain ⟨T, m, tm, t, t11, t12⟩ := h5
      have m0 := t11 o
      subst m0
      have tB : v_tmB (g_I (g_I (g_I x 0 7 (1 : Int32)) 0 8 (f_P_priceOf n)) 0 9 n) (g_L (g_I (g_I r 0 3 (1 : Int32)) 0 5 n) 0 4 (f_M_price (g_I (g_I r 0 3 (1 : Int32)) 0 5 n) n)) i n T 0 tm := by
        obtain ⟨t1, t2, t3, t4, t5, t6, t7, t8, t9, t10⟩ := t
        exact ⟨t1, t2, t3, t4, t5, t6, t7, fun j hj => absurd hj (by omega), fun j hj => absurd hj (by omega), fun j hj => absurd hj (by omega)⟩
      obtain ⟨k1, k2, fX, fR, m', tm', hm', tN, -⟩ := v_note tB (by omega) (by omega) (by omega)
      refine ⟨⟨q2, k1, True.intro⟩, ⟨q4, k2, True.intro⟩, True.intro, ?_⟩
      have lo := u_P_lo s1 s2
      refine ⟨v_cfg_cg h1 ?_ ?_ ?_ ?_ ?_ ?_, ?_, v_wal_cg h3 ?_ ?_ ?_ ?_, v_lots_cg (v_lots_mono h4) ?_ ?_, ?_⟩
      · rw [fX.2 0 (by omega) (by omega)]; rfl
      · rw [fX.2 0 (by omega) (by omega)]; rfl
      · rw [fX.2 9 (by omega) (by omega)]; rfl
      · rw [fR.2.2 0 (by omega)]; rfl
      · rw [fR.2.2 1 (by omega)]; rfl
      · rw [fR.1 1 (by omega) (by omega)]; rfl
      · unfold v_pr
        rw [fX.2 0 (by omega) (by omega), fR.2.2 3 (by omega), fR.2.2 5 (by omega), fR.1 0 (by omega) (by omega)]
        refine ⟨rfl, rfl, Or.inr ⟨rfl, u_P n.toInt, q1, q3, ?_⟩⟩
        show v_at (u_P n.toInt) n.toInt
        exact ⟨by omega, s2, u_P_le s1 (by omega) s2, u_P_le s2 s1 (by omega), fun _ => Nat.le_refl _, fun h => u_P_le (by omega) s1 (by omega)⟩
      · intro o ho
        rw [fX.1 _ (by omega) (by omega)]; rfl
      · rw [fX.1 2 (by omega) (by omega)]; rfl
      · rw [fR.1 2 (by omega) (by omega)]; rfl
      · rw [fR.1 3 (by omega) (by omega)]; rfl
      · intro k hk
        refine ⟨fun s _ => ?_, ?_, ?_, ?_⟩
        · rw [fX.2 _ (by omega) (by omega), g_I1p _ _ (by omega), g_I1p _ _ (by omega), g_I1p _ _ (by omega)]
        · rw [fX.1 _ (by omega) (by omega)]; rfl
        · rw [fX.1 _ (by omega) (by omega)]; rfl
        · rw [fX.1 _ (by omega) (by omega)]; rfl
      · refine ⟨?_, ?_, ?_, ?_, ?_, ?_, ?_⟩
        · rw [fR.2.1 4 (by omega)]; rfl
        · rw [fR.2.1 5 (by omega)]; rfl
        · rw [fR.2.1 6 (by omega)]; rfl
        · rw [fR.2.1 7 (by omega)]; rfl
        · rw [fR.1 8 (by omega) (by omega)]; rfl
        · rw [fR.1 9 (by omega) (by omega)]; rfl
        · rw [fR.1 10 (by omega) (by omega)]; rfl
      · apply v_tim_mono
        rw [v_tim_B]
        have c5 : (f_M_note (g_L (g_I (g_I r 0 3 (1 : Int32)) 0 5 n) 0 4 (f_M_price (g_I (g_I r 0 3 (1 : Int32)) 0 5 n) n))).1 0 5 = n := by
          rw [fR.2.2 5 (by omega)]; rfl
        have c3 : (f_M_note (g_L (g_I (g_I r 0 3 (1 : Int32)) 0 5 n) 0 4 (f_M_price (g_I (g_I r 0 3 (1 : Int32)) 0 5 n) n))).1 0 3 = 1 := by
          rw [fR.2.2 3 (by omega)]; rfl
        refine ⟨T, m', tm', ?_, ?_, ?_⟩
        · rw [c5]; exact tN
        · intro q
          rw [c3] at q
          exact absurd q (by decide)
        · intro _; exact hm'
  · have n1 : ¬ r.1 0 3 = 0 := by rw [o]; decide
    have n2 : ¬ x.1 0 7 = 0 := by rw [p1, o]; decide
    simp only [n1, n2, if_false, true_and]
    exact v_mono x r i h
