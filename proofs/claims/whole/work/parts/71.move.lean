/-! the step of a price; moving there -/
theorem u_Ptab (j : Nat) : u_P ((j : Int) - 24) = u_tab j := by
  unfold u_P
  rw [show ((j : Int) - 24 + 24).toNat = j by omega]
theorem u_great {q : Nat} (hq : u_pp q) : ∃ n, n < 49 ∧ f_P_greatestStepAt (nI q) = Int32.ofNat n + (-24 : Int32) ∧ k_P_greatestStepAt (nI q) ∧ u_tab n ≤ q ∧ ∀ j, n < j → j < 49 → q < u_tab j := by
  unfold u_pp at hq
  have key : ∀ jn, jn ≤ 49 → (∀ j, jn ≤ j → j < 49 → q < u_tab j) → ∃ n, n < 49 ∧ f_P_greatestStepAt_L3 (nI q) jn = Int32.ofNat n + (-24 : Int32) ∧ k_P_greatestStepAt_L3 (nI q) jn ∧ u_tab n ≤ q ∧ ∀ j, n < j → j < 49 → q < u_tab j := by
    intro jn
    induction jn with
    | zero =>
      intro _ h
      have := h 0 (by omega) (by omega)
      have e : u_tab 0 = 36223 := rfl
      omega
    | succ jn ih =>
      intro hj h
      have eo := u_ofn (jk := jn) (by omega)
      obtain ⟨e1, k1⟩ := u_priceP (n := Int32.ofNat jn + (-24 : Int32)) (by omega) (by omega)
      rw [eo, u_Ptab] at e1
      have b := u_tab_hi (j := jn) (by omega)
      unfold f_P_greatestStepAt_L3 k_P_greatestStepAt_L3
      rw [e1]
      by_cases c : u_tab jn ≤ q
      · have c' : nI (u_tab jn) ≤ nI q := (nI_leI (by omega) (by omega)).mpr c
        rw [if_pos c', if_pos c']
        exact ⟨jn, by omega, rfl, ⟨k1, True.intro⟩, c, fun j h1 h2 => h j (by omega) h2⟩
      · have c' : ¬ nI (u_tab jn) ≤ nI q := fun w => c ((nI_leI (by omega) (by omega)).mp w)
        rw [if_neg c', if_neg c']
        obtain ⟨n, a1, a2, a3, a4⟩ := ih (by omega) (fun j h1 h2 => by
          by_cases e : j = jn
          · rw [e]; omega
          · exact h j (by omega) h2)
        exact ⟨n, a1, a2, ⟨k1, a3⟩, a4⟩
  obtain ⟨n, a1, a2, a3, a4⟩ := key 49 (Nat.le_refl _) (fun j h1 h2 => by omega)
  unfold f_P_greatestStepAt k_P_greatestStepAt f_P_greatestStepAt_23_5 k_P_greatestStepAt_23_5
  exact ⟨n, a1, a2, ⟨a3, True.intro⟩, a4⟩
def u_lp (q : Int64) : Nat → Nat → g_S → g_S
  | 0, _, τ => τ
  | jn + 1, jk, τ => u_lp q jn (jk + 1) (g_I τ 0 21 (if q < (f_M_price τ (Int32.ofNat jk + (-24 : Int32))) then τ.1 0 21 else Int32.ofNat jk + (-24 : Int32)))
def u_lk (q : Int64) : Nat → Nat → g_S → Prop
  | 0, _, _ => True
  | jn + 1, jk, τ => (k_M_price τ (Int32.ofNat jk + (-24 : Int32))) ∧ u_lk q jn (jk + 1) (g_I τ 0 21 (if q < (f_M_price τ (Int32.ofNat jk + (-24 : Int32))) then τ.1 0 21 else Int32.ofNat jk + (-24 : Int32)))
theorem u_lp1 (σ : g_S) (dn : Int32) (lim : Int64) (r2 : Int32) (x5 r10 x13 x17 : Int64) (x21 : Int32) (q r32 r36 x39 x43 x48 : Int64) (t : g_S) (x58 : Int32) : ∀ jn jk τ, f_M_leg_L538 σ dn lim r2 x5 r10 x13 x17 x21 q r32 r36 x39 x43 x48 t x58 jn jk τ = u_lp q jn jk τ ∧ (u_lk q jn jk τ → k_M_leg_L538 σ dn lim r2 x5 r10 x13 x17 x21 q r32 r36 x39 x43 x48 t x58 jn jk τ) := by
  intro jn
  induction jn with
  | zero => intro jk τ; exact ⟨rfl, fun _ => True.intro⟩
  | succ jn ih =>
    intro jk τ
    exact ⟨(ih _ _).1, fun h => ⟨h.1, (ih _ _).2 h.2⟩⟩
theorem u_lp2 (σ : g_S) (dn : Int32) (lim : Int64) (r2 : Int32) (x5 r10 x13 x17 : Int64) (x21 : Int32) (q r32 r36 x39 x43 x48 : Int64) (t : g_S) (x58 : Int32) (r85 : Int64) : ∀ jn jk τ, f_M_leg_L538_1 σ dn lim r2 x5 r10 x13 x17 x21 q r32 r36 x39 x43 x48 t x58 r85 jn jk τ = u_lp q jn jk τ ∧ (u_lk q jn jk τ → k_M_leg_L538_1 σ dn lim r2 x5 r10 x13 x17 x21 q r32 r36 x39 x43 x48 t x58 r85 jn jk τ) := by
  intro jn
  induction jn with
  | zero => intro jk τ; exact ⟨rfl, fun _ => True.intro⟩
  | succ jn ih =>
    intro jk τ
    exact ⟨(ih _ _).1, fun h => ⟨h.1, (ih _ _).2 h.2⟩⟩
theorem u_lpM {q : Nat} (hq : u_pp q) : ∀ (jn jk : Nat) (τ : g_S), jk + jn = 49 → (∀ j, j < 49 → τ.2 1 j = lN (u_tab j)) → (∃ m, m < 49 ∧ τ.1 0 21 = Int32.ofNat m + (-24 : Int32) ∧ u_tab m ≤ q ∧ ∀ j, j < jk → u_tab j ≤ q → j ≤ m) →
    (u_lp (lN q) jn jk τ).2 = τ.2 ∧ (∀ a b, ¬ (a = 0 ∧ b = 21) → (u_lp (lN q) jn jk τ).1 a b = τ.1 a b) ∧ (∃ m, m < 49 ∧ (u_lp (lN q) jn jk τ).1 0 21 = Int32.ofNat m + (-24 : Int32) ∧ u_tab m ≤ q ∧ ∀ j, j < 49 → u_tab j ≤ q → j ≤ m) ∧ u_lk (lN q) jn jk τ := by
  intro jn
  induction jn with
  | zero =>
    intro jk τ h1 h2 h3
    have e : jk = 49 := by omega
    rw [e] at h3
    exact ⟨rfl, fun _ _ _ => rfl, h3, True.intro⟩
  | succ jn ih =>
    intro jk τ h1 h2 h3
    have hq' := hq
    unfold u_pp at hq'
    have eo := u_ofn (jk := jk) (by omega)
    obtain ⟨e1, k1⟩ := u_priceM h2 (n := Int32.ofNat jk + (-24 : Int32)) (by omega) (by omega)
    rw [eo, u_Ptab] at e1
    have b := u_tab_hi (j := jk) (by omega)
    unfold u_lp u_lk
    have st : ∃ m, m < 49 ∧ (g_I τ 0 21 (if lN q < (f_M_price τ (Int32.ofNat jk + (-24 : Int32))) then τ.1 0 21 else Int32.ofNat jk + (-24 : Int32))).1 0 21 = Int32.ofNat m + (-24 : Int32) ∧ u_tab m ≤ q ∧ ∀ j, j < jk + 1 → u_tab j ≤ q → j ≤ m := by
      rw [g_I1, if_pos ⟨rfl, rfl⟩, e1]
      by_cases c : q < u_tab jk
      · rw [if_pos ((lN_lt (by omega) (by omega)).mpr c)]
        obtain ⟨m, a1, a2, a3, a4⟩ := h3
        refine ⟨m, a1, a2, a3, fun j hj h => ?_⟩
        by_cases e : j = jk
        · rw [e] at h; omega
        · exact a4 j (by omega) h
      · rw [if_neg (fun w => c ((lN_lt (by omega) (by omega)).mp w))]
        exact ⟨jk, by omega, rfl, by omega, fun j hj _ => by omega⟩
    obtain ⟨i1, i2, i3, i4⟩ := ih (jk + 1) (g_I τ 0 21 (if lN q < (f_M_price τ (Int32.ofNat jk + (-24 : Int32))) then τ.1 0 21 else Int32.ofNat jk + (-24 : Int32))) (by omega) (fun j hj => h2 j hj) st
    refine ⟨i1, fun a c h => ?_, i3, k1, i4⟩
    rw [i2 a c h, g_I1, if_neg h]
/-- the move -/
theorem v_move {x r : g_S} {d c nx nm : Int32} {p q : Nat} (hd : d = 0 ∨ d = 1) (h1 : x.1 9 1 = d) (h4 : x.1 9 4 = nI p) (h5 : x.1 9 5 = c) (r20 : r.2 0 20 = lN p) (r21 : r.1 0 21 = c) (hr : ∀ j, j < 49 → r.2 1 j = lN (u_tab j)) (va : v_at p c.toInt) (hp : u_pp p) (hq : u_pp q) (hn : (nx = 1000 ∧ nm = 99) ∨ (nm = nx ∧ -24 ≤ nx.toInt ∧ nx.toInt ≤ 24))
    (σ : g_S) (lim x5 r10 x13 x17 : Int64) (x21 : Int32) (r32 r36 x39 x43 x48 : Int64) :
    ∃ c' : Int32, v_at q c'.toInt ∧ (-24 ≤ nx.toInt → nx.toInt ≤ 24 → q = u_P nx.toInt → c'.toInt = if d = 0 then nx.toInt else nx.toInt - 1) ∧
      ((f_D_moveTo x (nI q) nx).1 9 4 = nI q ∧ (f_D_moveTo x (nI q) nx).1 9 5 = c' ∧ (∀ a b, ¬ (a = 9 ∧ (b = 4 ∨ b = 5)) → (f_D_moveTo x (nI q) nx).1 a b = x.1 a b) ∧ (f_D_moveTo x (nI q) nx).2 = x.2 ∧ k_D_moveTo x (nI q) nx) ∧
      ((f_M_leg_461_57 σ d lim nm x5 r10 x13 x17 x21 (lN q) r32 r36 x39 x43 x48 r).2 0 20 = lN q ∧ (f_M_leg_461_57 σ d lim nm x5 r10 x13 x17 x21 (lN q) r32 r36 x39 x43 x48 r).1 0 21 = c' ∧ (∀ a b, ¬ (a = 0 ∧ b = 21) → (f_M_leg_461_57 σ d lim nm x5 r10 x13 x17 x21 (lN q) r32 r36 x39 x43 x48 r).1 a b = r.1 a b) ∧ (∀ a b, ¬ (a = 0 ∧ b = 20) → (f_M_leg_461_57 σ d lim nm x5 r10 x13 x17 x21 (lN q) r32 r36 x39 x43 x48 r).2 a b = r.2 a b) ∧ k_M_leg_461_57 σ d lim nm x5 r10 x13 x17 x21 (lN q) r32 r36 x39 x43 x48 r) := by
  have hp' := hp
  have hq' := hq
  unfold u_pp at hp' hq'
  obtain ⟨n, g1, g2, g3, g4, g5⟩ := u_great hq
  have hr2 : ∀ j, j < 49 → (g_I (g_L r 0 20 (lN q)) 0 21 (-24 : Int32)).2 1 j = lN (u_tab j) := by
    intro j hj
    rw [g_I2, g_L2, if_neg (by omega), hr j hj]
  obtain ⟨l1, l2, ⟨m, m1, m2, m3, m4⟩, l4⟩ := u_lpM hq 49 0 (g_I (g_L r 0 20 (lN q)) 0 21 (-24 : Int32)) rfl hr2 ⟨0, by omega, by rw [g_I1, if_pos ⟨rfl, rfl⟩]; decide, hq'.1, fun j hj => by omega⟩
  have emn : m = n := by
    have a1 := m4 n g1 g4
    by_cases e : n < m
    · have := g5 m e m1
      omega
    · omega
  rw [emn] at m2
  have eo := u_ofn g1
  have vg : v_at q (Int32.ofNat n + (-24 : Int32)).toInt := by
    rw [eo]
    have P1 : u_P (-24) = 36223 := rfl
    have P2 : u_P 24 = 118522 := rfl
    refine ⟨by omega, by omega, by omega, by omega, fun _ => ?_, fun h => ?_⟩
    · rw [u_Ptab]; exact g4
    · rw [show (n : Int) - 24 + 1 = ((n + 1 : Nat) : Int) - 24 by omega, u_Ptab]
      exact Nat.le_of_lt (g5 (n + 1) (by omega) (by omega))
  -- the greatest step at the price
  have frG : (u_lp (lN q) 49 0 (g_I (g_L r 0 20 (lN q)) 0 21 (-24 : Int32))).2 0 20 = lN q ∧ (∀ a b, ¬ (a = 0 ∧ b = 21) → (u_lp (lN q) 49 0 (g_I (g_L r 0 20 (lN q)) 0 21 (-24 : Int32))).1 a b = r.1 a b) ∧ (∀ a b, ¬ (a = 0 ∧ b = 20) → (u_lp (lN q) 49 0 (g_I (g_L r 0 20 (lN q)) 0 21 (-24 : Int32))).2 a b = r.2 a b) := by
    refine ⟨?_, fun a b h => ?_, fun a b h => ?_⟩
    · rw [l1, g_I2, g_L2, if_pos ⟨rfl, rfl⟩]
    · rw [l2 a b h, g_I1, if_neg h, g_L1]
    · rw [l1, g_I2, g_L2, if_neg h]
  generalize hL : u_lp (lN q) 49 0 (g_I (g_L r 0 20 (lN q)) 0 21 (-24 : Int32)) = L at m2 frG
  obtain ⟨f1, f2, f3⟩ := frG
  have cpq : (nI q = nI p) ↔ q = p := nI_eq (by omega) (by omega)
  have cpl : (lN q = lN p) ↔ q = p := lN_eq (by omega) (by omega)
  unfold f_D_moveTo k_D_moveTo f_M_leg_461_57 k_M_leg_461_57 f_D_moveTo_13_4 k_D_moveTo_13_4 f_M_leg_476_61 k_M_leg_476_61
  rw [h4, r20]
  rcases hn with ⟨rfl, rfl⟩ | ⟨rfl, n1, n2⟩
  · simp only [if_true]
    unfold f_D_moveTo_55_6 k_D_moveTo_55_6 f_M_leg_523_63 k_M_leg_523_63
    by_cases e : q = p
    · simp only [cpq.mpr e, cpl.mpr e, if_true]
      unfold f_D_moveTo_67_8 k_D_moveTo_67_8 f_M_leg_576_65 k_M_leg_576_65
      refine ⟨c, by rw [e]; exact va, fun _ w => absurd w (by decide), ⟨?_, ?_, fun a b h => ?_, rfl, True.intro⟩, ?_, ?_, fun a b h => rfl, fun a b h => ?_, True.intro⟩
      · rw [g_I1, if_pos ⟨rfl, rfl⟩]
      · rw [g_I1, if_neg (by decide), h5]
      · rw [g_I1, if_neg (fun w => h ⟨w.1, Or.inl w.2⟩)]
      · rw [g_L2, if_pos ⟨rfl, rfl⟩]
      · rw [g_L1, r21]
      · rw [g_L2, if_neg h]
    · have e1 : ¬ nI q = nI p := fun w => e (cpq.mp w)
      have e2 : ¬ lN q = lN p := fun w => e (cpl.mp w)
      simp only [e1, e2, g_10, if_false]
      unfold f_D_moveTo_59_9 k_D_moveTo_59_9 f_D_moveTo_61_13 k_D_moveTo_61_13 f_M_leg_528_66 k_M_leg_528_66 f_M_leg_576_72 k_M_leg_576_72
      obtain ⟨p1, p2⟩ := u_lp1 σ d lim 99 x5 r10 x13 x17 x21 (lN q) r32 r36 x39 x43 x48 r 1 49 0 (g_I (g_L r 0 20 (lN q)) 0 21 (-24 : Int32))
      rw [p1, hL, g2]
      refine ⟨_, vg, fun _ w => absurd w (by decide), ⟨?_, ?_, fun a b h => ?_, rfl, g3, True.intro⟩, f1, m2, f2, f3, p2 l4, True.intro⟩
      · rw [g_I1, if_neg (by decide), g_I1, if_pos ⟨rfl, rfl⟩]
      · rw [g_I1, if_pos ⟨rfl, rfl⟩]
      · rw [g_I1, if_neg (fun w => h ⟨w.1, Or.inr w.2⟩), g_I1, if_neg (fun w => h ⟨w.1, Or.inl w.2⟩)]
  · have x1 : ¬ nm = 1000 := by
      intro w
      rw [w, show (1000 : Int32).toInt = 1000 from rfl] at n2
      omega
    have x2 : ¬ nm = 99 := by
      intro w
      rw [w, show (99 : Int32).toInt = 99 from rfl] at n2
      omega
    simp only [x1, x2, if_false]
    obtain ⟨e3, k3⟩ := u_priceP n1 n2
    have hr3 : ∀ j, j < 49 → (g_L r 0 20 (lN q)).2 1 j = lN (u_tab j) := by
      intro j hj
      rw [g_L2, if_neg (by omega), hr j hj]
    obtain ⟨e4, k4⟩ := u_priceM hr3 n1 n2
    have bP := u_P_lo n1 n2
    unfold f_D_moveTo_26_14 k_D_moveTo_26_14 f_M_leg_491_83 k_M_leg_491_83 f_D_moveTo_28_18 k_D_moveTo_28_18 f_M_leg_496_87 k_M_leg_496_87
    rw [e3, e4]
    by_cases eP : q = u_P nm.toInt
    · have c1 : nI q = nI (u_P nm.toInt) := by rw [← eP]
      have c2 : lN q = lN (u_P nm.toInt) := by rw [← eP]
      rw [if_pos c1, if_pos c1, if_pos c2, if_pos c2]
      unfold f_D_moveTo_34_28 k_D_moveTo_34_28 f_D_moveTo_49_32 k_D_moveTo_49_32 f_M_leg_503_109 k_M_leg_503_109 f_M_leg_517_113 k_M_leg_517_113
      rw [h1]
      have ec : (if d = 0 then nm else nm - 1).toInt = if d = 0 then nm.toInt else nm.toInt - 1 := by
        rcases hd with rfl | rfl
        · simp only [if_true]
        · simp only [g_10, if_false]
          rw [Int32.toInt_sub, show (1 : Int32).toInt = 1 from rfl, Int.bmod_eq_of_le_mul_two (by omega) (by omega)]
      refine ⟨if d = 0 then nm else nm - 1, ?_, fun _ _ _ => ec, ⟨?_, ?_, fun a b h => ?_, rfl, k3, True.intro⟩, ?_, ?_, fun a b h => ?_, fun a b h => ?_, k4, True.intro⟩
      · rw [ec, eP]
        have P1 : u_P (-24) = 36223 := rfl
        have P2 : u_P 24 = 118522 := rfl
        rcases hd with rfl | rfl
        · simp only [if_true]
          exact ⟨by omega, by omega, by omega, by omega, fun _ => Nat.le_refl _, fun h => u_P_le (by omega) n1 (by omega)⟩
        · simp only [g_10, if_false]
          refine ⟨by omega, by omega, by omega, by omega, fun h => u_P_le (by omega) h n2, fun h => ?_⟩
          rw [show nm.toInt - 1 + 1 = nm.toInt by omega]
          exact Nat.le_refl _
      · rw [g_I1, if_neg (by decide), g_I1, if_pos ⟨rfl, rfl⟩]
      · rw [g_I1, if_pos ⟨rfl, rfl⟩]
      · rw [g_I1, if_neg (fun w => h ⟨w.1, Or.inr w.2⟩), g_I1, if_neg (fun w => h ⟨w.1, Or.inl w.2⟩)]
      · rw [g_I2, g_L2, if_pos ⟨rfl, rfl⟩]
      · rw [g_I1, if_pos ⟨rfl, rfl⟩]
      · rw [g_I1, if_neg h, g_L1]
      · rw [g_I2, g_L2, if_neg h]
    · have c1 : ¬ nI q = nI (u_P nm.toInt) := fun w => eP ((nI_eq (by omega) (by omega)).mp w)
      have c2 : ¬ lN q = lN (u_P nm.toInt) := fun w => eP ((lN_eq (by omega) (by omega)).mp w)
      rw [if_neg c1, if_neg c1, if_neg c2, if_neg c2]
      unfold f_D_moveTo_55_20 k_D_moveTo_55_20 f_M_leg_523_89 k_M_leg_523_89
      by_cases e : q = p
      · simp only [cpq.mpr e, cpl.mpr e, if_true]
        unfold f_D_moveTo_67_22 k_D_moveTo_67_22 f_M_leg_576_91 k_M_leg_576_91
        refine ⟨c, by rw [e]; exact va, fun _ _ w => absurd w eP, ⟨?_, ?_, fun a b h => ?_, rfl, k3, True.intro⟩, ?_, ?_, fun a b h => rfl, fun a b h => ?_, k4, True.intro⟩
        · rw [g_I1, if_pos ⟨rfl, rfl⟩]
        · rw [g_I1, if_neg (by decide), h5]
        · rw [g_I1, if_neg (fun w => h ⟨w.1, Or.inl w.2⟩)]
        · rw [g_L2, if_pos ⟨rfl, rfl⟩]
        · rw [g_L1, r21]
        · rw [g_L2, if_neg h]
      · have e1 : ¬ nI q = nI p := fun w => e (cpq.mp w)
        have e2 : ¬ lN q = lN p := fun w => e (cpl.mp w)
        simp only [e1, e2, g_10, if_false]
        unfold f_D_moveTo_59_23 k_D_moveTo_59_23 f_D_moveTo_61_27 k_D_moveTo_61_27 f_M_leg_528_92 k_M_leg_528_92 f_M_leg_576_98 k_M_leg_576_98
        obtain ⟨p1, p2⟩ := u_lp2 σ d lim nm x5 r10 x13 x17 x21 (lN q) r32 r36 x39 x43 x48 r 1 (lN (u_P nm.toInt)) 49 0 (g_I (g_L r 0 20 (lN q)) 0 21 (-24 : Int32))
        rw [p1, hL, g2]
        refine ⟨_, vg, fun _ _ w => absurd w eP, ⟨?_, ?_, fun a b h => ?_, rfl, k3, g3, True.intro⟩, f1, m2, f2, f3, k4, p2 l4, True.intro⟩
        · rw [g_I1, if_neg (by decide), g_I1, if_pos ⟨rfl, rfl⟩]
        · rw [g_I1, if_pos ⟨rfl, rfl⟩]
        · rw [g_I1, if_neg (fun w => h ⟨w.1, Or.inr w.2⟩), g_I1, if_neg (fun w => h ⟨w.1, Or.inl w.2⟩)]
