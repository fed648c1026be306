/-! one leg: what goes in, what goes out, where the price comes to -/
def u_in (d : Int32) (p q D : Nat) : Nat := if d = 0 then q_up (D * (q - p)) 65536 else q_up (D * 65536 * (p - q)) (q * p)
def u_out (d : Int32) (p q D : Nat) : Nat := if d = 0 then D * 65536 * (q - p) / (p * q) else D * (p - q) / 65536
theorem u_q1 (a b : Nat) : u_q a b 1 = q_up a b := if_neg (by decide)
theorem u_q0 (a b : Nat) : u_q a b 0 = a / b := if_pos rfl
def u_pp (p : Nat) : Prop := 36223 ≤ p ∧ p ≤ 118522
def u_way (d : Int32) (p q : Nat) : Prop := (d = 0 ∧ p ≤ q) ∨ (d = 1 ∧ q ≤ p)
theorem u_in_le {d : Int32} {p q D : Nat} (hp : u_pp p) (hq : u_pp q) (hD : D ≤ 1000000) (h : u_way d p q) : u_in d p q D ≤ 2000000 := by
  unfold u_pp at hp hq
  unfold u_in
  rcases h with ⟨rfl, h⟩ | ⟨rfl, h⟩
  · rw [if_pos rfl, ← u_q1]
    exact u_one_le (by omega) hD 1
  · rw [if_neg (by decide), ← u_q1]
    exact u_zero_le (by omega) h hD 1
theorem u_out_le {d : Int32} {p q D : Nat} (hp : u_pp p) (hq : u_pp q) (hD : D ≤ 1000000) (h : u_way d p q) : u_out d p q D ≤ 2000000 := by
  unfold u_pp at hp hq
  unfold u_out
  rcases h with ⟨rfl, h⟩ | ⟨rfl, h⟩
  · rw [if_pos rfl, ← u_q0]
    exact u_zero_le (by omega) h hD 0
  · rw [if_neg (by decide), ← u_q0]
    exact u_one_le (by omega) hD 0
theorem v_inX {x : g_S} {d : Int32} (h1 : x.1 9 1 = d) {p q D : Nat} (h4 : x.1 9 4 = nI p) (hp : u_pp p) (hq : u_pp q) (hD : D ≤ 1000000) (h : u_way d p q) : f_D_amountIn x (lN D) (nI q) = lN (u_in d p q D) ∧ k_D_amountIn x (lN D) (nI q) := by
  unfold u_pp at hp hq
  unfold f_D_amountIn k_D_amountIn f_D_amountIn_22_2 f_D_amountIn_7_6 f_D_amountIn_16_10 k_D_amountIn_22_2 k_D_amountIn_7_6 k_D_amountIn_16_10 u_in
  rw [h1, h4, nI_l (n := p) (by omega), nI_l (n := q) (by omega)]
  rcases h with ⟨rfl, h⟩ | ⟨rfl, h⟩
  · simp only [if_true, u_oneP h (by omega) hD, u_q1]
    exact ⟨True.intro, ⟨u_kquoP _ _ _, True.intro⟩, True.intro⟩
  · simp only [g_10, if_false, u_zeroP h (by omega) (by omega) hD, u_q1]
    exact ⟨True.intro, ⟨u_kquoP _ _ _, True.intro⟩, True.intro⟩
theorem v_outX {x : g_S} {d : Int32} (h1 : x.1 9 1 = d) {p q D : Nat} (h4 : x.1 9 4 = nI p) (hp : u_pp p) (hq : u_pp q) (hD : D ≤ 1000000) (h : u_way d p q) : f_D_amountOut x (lN D) (nI q) = lN (u_out d p q D) ∧ k_D_amountOut x (lN D) (nI q) := by
  unfold u_pp at hp hq
  unfold f_D_amountOut k_D_amountOut f_D_amountOut_22_2 f_D_amountOut_7_6 f_D_amountOut_16_10 k_D_amountOut_22_2 k_D_amountOut_7_6 k_D_amountOut_16_10 u_out
  rw [h1, h4, nI_l (n := p) (by omega), nI_l (n := q) (by omega)]
  rcases h with ⟨rfl, h⟩ | ⟨rfl, h⟩
  · simp only [if_true, u_zeroP h (by omega) (by omega) hD, u_q0]
    exact ⟨True.intro, ⟨u_kquoP _ _ _, True.intro⟩, True.intro⟩
  · simp only [g_10, if_false, u_oneP h (by omega) hD, u_q0]
    exact ⟨True.intro, ⟨u_kquoP _ _ _, True.intro⟩, True.intro⟩
theorem v_inM {d : Int32} {p q D : Nat} (hp : u_pp p) (hq : u_pp q) (hD : D ≤ 1000000) (h : u_way d p q) : f_M_in d (lN p) (lN q) (lN D) = lN (u_in d p q D) ∧ k_M_in d (lN p) (lN q) (lN D) := by
  unfold u_pp at hp hq
  unfold f_M_in k_M_in f_M_in_15_2 f_M_in_4_6 f_M_in_9_10 k_M_in_15_2 k_M_in_4_6 k_M_in_9_10 u_in
  rcases h with ⟨rfl, h⟩ | ⟨rfl, h⟩
  · simp only [if_true, u_oneM h (by omega) hD, u_q1]
    exact ⟨True.intro, ⟨u_kquoM (by decide) _, True.intro⟩, True.intro⟩
  · simp only [g_10, if_false, u_zeroM h (by omega) (by omega) hD, u_q1]
    exact ⟨True.intro, ⟨u_kquoM (u_k0 (by omega) (by omega) (by omega) (by omega)) _, True.intro⟩, True.intro⟩
theorem v_outM {d : Int32} {p q D : Nat} (hp : u_pp p) (hq : u_pp q) (hD : D ≤ 1000000) (h : u_way d p q) : f_M_goesOut d (lN p) (lN q) (lN D) = lN (u_out d p q D) ∧ k_M_goesOut d (lN p) (lN q) (lN D) := by
  unfold u_pp at hp hq
  unfold f_M_goesOut k_M_goesOut f_M_goesOut_15_2 f_M_goesOut_4_6 f_M_goesOut_9_10 k_M_goesOut_15_2 k_M_goesOut_4_6 k_M_goesOut_9_10 u_out
  rcases h with ⟨rfl, h⟩ | ⟨rfl, h⟩
  · simp only [if_true, u_zeroM h (by omega) (by omega) hD, u_q0]
    exact ⟨True.intro, ⟨u_kquoM (u_k0 (by omega) (by omega) (by omega) (by omega)) _, True.intro⟩, True.intro⟩
  · simp only [g_10, if_false, u_oneM h (by omega) hD, u_q0]
    exact ⟨True.intro, ⟨u_kquoM (by decide) _, True.intro⟩, True.intro⟩
theorem u_feeL {A fe : Nat} (hA : A ≤ 1000000) (hf : fe ≤ 100) : lN A * ((1000 : Int64) - (nI fe).toInt64) / (1000 : Int64) = lN (A * (1000 - fe) / 1000) := by
  have h1 : A * (1000 - fe) ≤ 1000000 * 1000 := Nat.mul_le_mul hA (by omega)
  rw [nI_l (by omega), show (1000 : Int64) = lN 1000 from rfl, lN_sub (by omega), lN_mul, pk_lDiv (by omega) (by omega) (by omega)]
/-- paying -/
theorem v_goPay {x r : g_S} {d : Int32} (h1 : x.1 9 1 = d) {p t D A fe : Nat} (h4 : x.1 9 4 = nI p) (h0 : x.1 9 0 = nI fe) (h3 : x.2 9 3 = lN A) (r20 : r.2 0 20 = lN p) (r22 : r.2 0 22 = lN A) (hp : u_pp p) (ht : u_pp t) (hD : D ≤ 1000000) (h : u_way d p t) (hA0 : 0 < A) (hA : A ≤ 1000000) (hf : fe ≤ 100) (w : Int64) :
    ∃ q, f_D_priceAfterPaying x (lN D) (nI t) = nI q ∧ (if (if lN (A * (1000 - fe) / 1000) < f_M_in d (lN p) (lN t) (lN D) then (0 : Int32) else 1) = 0 then f_M_onTheWay r d (lN D) (lN (A * (1000 - fe) / 1000)) w else lN t) = lN q ∧ u_way d p q ∧ u_way d q t ∧ u_in d p q D ≤ A * (1000 - fe) / 1000 ∧
      k_D_priceAfterPaying x (lN D) (nI t) ∧ (if (if lN (A * (1000 - fe) / 1000) < f_M_in d (lN p) (lN t) (lN D) then (0 : Int32) else 1) = 0 then k_M_onTheWay r d (lN D) (lN (A * (1000 - fe) / 1000)) w ∧ True else True) := by
  obtain ⟨e1, k1⟩ := v_inX h1 h4 hp ht hD h
  obtain ⟨e2, k2⟩ := v_inM hp ht hD h
  have b1 := u_in_le hp ht hD h
  have b2 : A * (1000 - fe) / 1000 ≤ 1000000 := by
    have : A * (1000 - fe) ≤ 1000000 * 1000 := Nat.mul_le_mul hA (by omega)
    omega
  have n22 : ¬ r.2 0 22 ≤ (0 : Int64) := by
    rw [r22]
    intro q
    have := (lN_le (a := A) (b := 0) (by omega) (by decide)).mp q
    omega
  unfold f_D_priceAfterPaying k_D_priceAfterPaying f_D_priceAfterPaying_25_4 k_D_priceAfterPaying_25_4
  rw [e1, e2, h3, h0, u_feeL hA hf]
  generalize hu : A * (1000 - fe) / 1000 = u at b2 ⊢
  by_cases c1 : u < u_in d p t D
  · have c1' : lN u < lN (u_in d p t D) := (lN_lt (by omega) (by omega)).mpr c1
    simp only [c1', if_true]
    unfold f_D_priceAfterPaying_34_6 k_D_priceAfterPaying_34_6 f_M_onTheWay k_M_onTheWay
    unfold u_pp at hp ht
    rcases h with ⟨rfl, h⟩ | ⟨rfl, h⟩
    · simp only [n22, h1, if_true, if_false]
      unfold f_D_priceAfterPaying_72_8 k_D_priceAfterPaying_72_8 f_D_priceAfterPaying_85_12 k_D_priceAfterPaying_85_12 f_M_onTheWay_16_13 k_M_onTheWay_16_13 f_M_onTheWay_44_15 k_M_onTheWay_44_15
      unfold u_in at c1
      rw [if_pos rfl] at c1
      obtain ⟨t1, t2, t3⟩ := q_T2 h c1
      rw [h3, h0, u_feeL hA hf, hu, h4, r20, nI_l (n := p) (by omega), show (65536 : Int64) = lN 65536 from rfl, lN_mul, u_quoP (by omega) t1 (by omega), u_q0, pk_lDiv (by omega) t1 (by omega), lN_add, lN_i]
      refine ⟨p + u * 65536 / D, rfl, by simp only [if_true], Or.inl ⟨rfl, Nat.le_add_right _ _⟩, Or.inl ⟨rfl, by omega⟩, ?_, ⟨k1, u_kquoP _ _ _, True.intro⟩, ?_⟩
      · unfold u_in
        rw [if_pos rfl]
        exact t3
      · simp only [if_true]
        refine ⟨⟨fun q => ?_, True.intro⟩, True.intro⟩
        have := (lN_eq (a := D) (b := 0) (by omega) (by decide)).mp q
        omega
    · simp only [n22, h1, g_10, if_true, if_false]
      unfold f_D_priceAfterPaying_41_13 k_D_priceAfterPaying_41_13 f_D_priceAfterPaying_67_17 k_D_priceAfterPaying_67_17 f_M_onTheWay_16_13 k_M_onTheWay_16_13 f_M_onTheWay_20_17 k_M_onTheWay_20_17 f_M_onTheWay_38_21 k_M_onTheWay_38_21
      unfold u_in at c1
      rw [if_neg (by decide)] at c1
      obtain ⟨t1, t2, t3, t4⟩ := q_T1 (by omega) h c1
      have z1 : D * 65536 * p ≤ 1000000 * 65536 * 118522 := Nat.mul_le_mul (Nat.mul_le_mul_right _ hD) (by omega)
      have z2 : u * p ≤ 1000000 * 118522 := Nat.mul_le_mul b2 (by omega)
      have z3 : D * 65536 * p < 2 ^ 60 := Nat.lt_of_le_of_lt z1 (by decide)
      have z4 : D * 65536 + u * p < 2 ^ 60 := Nat.lt_of_le_of_lt (Nat.add_le_add (Nat.mul_le_mul_right _ hD) z2) (by decide)
      have z5 : 0 < D * 65536 + u * p := Nat.lt_of_lt_of_le t1 (Nat.le_add_right _ _)
      have z6 : D * 65536 * p + (D * 65536 + u * p) < 2 ^ 63 := Nat.lt_of_lt_of_le (Nat.add_lt_add z3 z4) (by decide)
      rw [h3, h0, u_feeL hA hf, hu, h4, r20, nI_l (n := p) (by omega), show (65536 : Int64) = lN 65536 from rfl, lN_mul, lN_mul, lN_mul, lN_add, u_quoP (Nat.lt_trans z3 (by decide)) z5 (Nat.lt_trans z4 (by decide)), u_q1]
      simp only [g_10, if_true, if_false]
      rw [u_quoM z5 z6, u_q1, lN_i]
      refine ⟨_, rfl, rfl, Or.inr ⟨rfl, t3⟩, Or.inr ⟨rfl, by omega⟩, ?_, ⟨k1, u_kquoP _ _ _, True.intro⟩, ⟨u_kquoM (fun q => ?_) _, True.intro⟩, True.intro⟩
      · unfold u_in
        rw [if_neg (by decide)]
        exact t4
      · have := (pk_lEQ (a := D * 65536 + u * p) (b := 0) (Nat.lt_trans z4 (by decide)) (by decide)).mp q
        exact absurd this (Nat.ne_of_gt z5)
  · have c1' : ¬ lN u < lN (u_in d p t D) := fun q => c1 ((lN_lt (by omega) (by omega)).mp q)
    simp only [c1', g_10, if_false]
    refine ⟨t, rfl, rfl, h, ?_, by omega, ⟨k1, True.intro⟩, True.intro⟩
    rcases h with ⟨q, -⟩ | ⟨q, -⟩
    · exact Or.inl ⟨q, Nat.le_refl _⟩
    · exact Or.inr ⟨q, Nat.le_refl _⟩
/-- taking -/
theorem v_goTake {x r : g_S} {d : Int32} (h1 : x.1 9 1 = d) {p t D V : Nat} (h4 : x.1 9 4 = nI p) (h3 : x.2 9 3 = -(lN V)) (r20 : r.2 0 20 = lN p) (r22 : r.2 0 22 = -(lN V)) (n22 : r.2 0 22 ≤ (0 : Int64)) (hp : u_pp p) (ht : u_pp t) (hD : D ≤ 1000000) (h : u_way d p t) (hV : V ≤ 1000000) (w : Int64) :
    ∃ q, f_D_priceAfterTaking x (lN D) (nI t) = nI q ∧ (if (if lN V < f_M_goesOut d (lN p) (lN t) (lN D) then (0 : Int32) else 1) = 0 then f_M_onTheWay r d (lN D) w (lN V) else lN t) = lN q ∧ u_way d p q ∧ u_way d q t ∧ (q = t ∨ V ≤ u_out d p q D) ∧
      k_D_priceAfterTaking x (lN D) (nI t) ∧ (if (if lN V < f_M_goesOut d (lN p) (lN t) (lN D) then (0 : Int32) else 1) = 0 then k_M_onTheWay r d (lN D) w (lN V) ∧ True else True) := by
  obtain ⟨e1, k1⟩ := v_outX h1 h4 hp ht hD h
  obtain ⟨e2, k2⟩ := v_outM hp ht hD h
  have b1 := u_out_le hp ht hD h
  have nn : -(x.2 9 3) = lN V := by rw [h3, Int64.neg_neg]
  unfold f_D_priceAfterTaking k_D_priceAfterTaking f_D_priceAfterTaking_12_4 k_D_priceAfterTaking_12_4
  rw [e1, e2, nn]
  by_cases c1 : V < u_out d p t D
  · have c1' : lN V < lN (u_out d p t D) := (lN_lt (by omega) (by omega)).mpr c1
    simp only [c1', if_true]
    unfold f_D_priceAfterTaking_21_6 k_D_priceAfterTaking_21_6 f_M_onTheWay k_M_onTheWay
    unfold u_pp at hp ht
    rcases h with ⟨rfl, h⟩ | ⟨rfl, h⟩
    · simp only [n22, h1, if_true]
      unfold f_D_priceAfterTaking_47_8 k_D_priceAfterTaking_47_8 f_D_priceAfterTaking_73_12 k_D_priceAfterTaking_73_12 f_M_onTheWay_58_2 k_M_onTheWay_58_2 f_M_onTheWay_81_4 k_M_onTheWay_81_4
      unfold u_out at c1
      rw [if_pos rfl] at c1
      obtain ⟨t1, t2, t3, t4⟩ := q_T4 (by omega) h c1
      have z1 : D * 65536 * p ≤ 1000000 * 65536 * 118522 := Nat.mul_le_mul (Nat.mul_le_mul_right _ hD) (by omega)
      rw [nn, h4, r20, nI_l (n := p) (by omega), show (65536 : Int64) = lN 65536 from rfl, lN_mul, lN_mul, lN_mul, lN_sub (by omega), u_quoP (by omega) (by omega) (by omega), u_q1]
      simp only [if_true]
      rw [u_quoM (by omega) (by omega), u_q1, lN_i]
      refine ⟨_, rfl, rfl, Or.inl ⟨rfl, t2⟩, Or.inl ⟨rfl, t3⟩, Or.inr ?_, ⟨k1, u_kquoP _ _ _, True.intro⟩, ⟨u_kquoM (fun q => ?_) _, True.intro⟩, True.intro⟩
      · unfold u_out
        rw [if_pos rfl]
        exact t4
      · have := (pk_lEQ (a := D * 65536 - V * p) (b := 0) (by omega) (by decide)).mp q
        omega
    · simp only [n22, h1, g_10, if_true, if_false]
      unfold f_D_priceAfterTaking_28_13 k_D_priceAfterTaking_28_13 f_D_priceAfterTaking_41_17 k_D_priceAfterTaking_41_17 f_M_onTheWay_58_2 k_M_onTheWay_58_2 f_M_onTheWay_62_8 k_M_onTheWay_62_8 f_M_onTheWay_74_12 k_M_onTheWay_74_12
      unfold u_out at c1
      rw [if_neg (by decide)] at c1
      obtain ⟨t1, t2, t3⟩ := q_T3 h c1
      rw [nn, h4, r20, nI_l (n := p) (by omega), show (65536 : Int64) = lN 65536 from rfl, lN_mul, u_quoP (by omega) (by omega) (by omega), u_q1]
      simp only [g_10, if_true, if_false]
      rw [u_quoM (by omega) (by omega), u_q1, lN_sub (by omega), lN_i]
      refine ⟨_, rfl, rfl, Or.inr ⟨rfl, by omega⟩, Or.inr ⟨rfl, by omega⟩, Or.inr ?_, ⟨k1, u_kquoP _ _ _, True.intro⟩, ⟨u_kquoM (fun q => ?_) _, True.intro⟩, True.intro⟩
      · unfold u_out
        rw [if_neg (by decide)]
        exact t3
      · have := (lN_eq (a := D) (b := 0) (by omega) (by decide)).mp q
        omega
  · have c1' : ¬ lN V < lN (u_out d p t D) := fun q => c1 ((lN_lt (by omega) (by omega)).mp q)
    simp only [c1', g_10, if_false]
    refine ⟨t, rfl, rfl, h, ?_, Or.inl rfl, ⟨k1, True.intro⟩, True.intro⟩
    rcases h with ⟨q, -⟩ | ⟨q, -⟩
    · exact Or.inl ⟨q, Nat.le_refl _⟩
    · exact Or.inr ⟨q, Nat.le_refl _⟩
