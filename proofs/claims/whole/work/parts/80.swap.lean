/-! the end of a swap -/
theorem v_swL (σ : g_S) (o dn am lim r3 r10 : Int32) (τ12 : g_S) (τ28 : g_S) (x30 x34 : Int64) (τ41 : g_S) {t : Nat} (ht : t < 2) : ∀ (jn jk : Nat) (τ : g_S), jk + jn = 10 →
    (f_M_swap_L111 σ o dn am lim r3 r10 τ12 (nI t) τ28 x30 x34 τ41 jn jk τ).1 = τ.1 ∧ (∀ p, p ≠ 10 → (f_M_swap_L111 σ o dn am lim r3 r10 τ12 (nI t) τ28 x30 x34 τ41 jn jk τ).2 p = τ.2 p) ∧ (∀ j, (j < 2 * jk ∨ ¬ j % 2 = t) → (f_M_swap_L111 σ o dn am lim r3 r10 τ12 (nI t) τ28 x30 x34 τ41 jn jk τ).2 10 j = τ.2 10 j) ∧
    (∀ k, jk ≤ k → k < 10 → (f_M_swap_L111 σ o dn am lim r3 r10 τ12 (nI t) τ28 x30 x34 τ41 jn jk τ).2 10 (2 * k + t) = τ.2 10 (2 * k + t) + (if τ.1 4 k = 0 then (0 : Int64) else τ.2 13 k)) ∧ k_M_swap_L111 σ o dn am lim r3 r10 τ12 (nI t) τ28 x30 x34 τ41 jn jk τ := by
  intro jn
  induction jn with
  | zero => intro jk τ h; exact ⟨rfl, fun _ _ => rfl, fun _ _ => rfl, fun k h1 h2 => absurd h1 (by omega), True.intro⟩
  | succ jn ih =>
    intro jk τ h
    obtain ⟨i1, i2⟩ := u_ix2 (a := jk) (t := t) (by omega) ht
    have i1' : ((2 : Int32) * Int32.ofNat jk + nI t).toNatClampNeg = 2 * jk + t := i1
    have i3 : vp_in ((2 : Int32) * Int32.ofNat jk + nI t) 20 := u_in_mono i2 (by omega)
    unfold f_M_swap_L111 k_M_swap_L111
    rw [i1']
    generalize hv : τ.2 10 (2 * jk + t) + (if τ.1 4 jk = 0 then (0 : Int64) else τ.2 13 jk) = v
    obtain ⟨h1, h2, h3, h4, h5⟩ := ih (jk + 1) (g_L τ 10 (2 * jk + t) v) (by omega)
    refine ⟨h1, fun p hp => ?_, fun j hj => ?_, fun k k1 k2 => ?_, i3, i3, h5⟩
    · rw [h2 p hp, g_L2p _ _ hp]
    · rw [h3 j (by omega), g_L2k _ _ (by omega)]
    · by_cases ek : k = jk
      · rw [ek, h3 _ (by omega), g_L2s, hv]
      · rw [h4 k (by omega) k2, g_L2k _ _ (by omega), g_L2p _ _ (by omega)]
        rfl
theorem v_trX (x : g_S) {a t : Nat} (ha : a < 4) (ht : t < 2) (am : Int64) : (f_P_transfer x (nI a) (nI t) am).1 = x.1 ∧ (∀ p j, (f_P_transfer x (nI a) (nI t) am).2 p j = if p = 2 ∧ j = t then x.2 2 t + am else if p = a + 10 ∧ j = t then x.2 (a + 10) t - am else x.2 p j) ∧ k_P_transfer x (nI a) (nI t) am := by
  have q : vp_in (nI a) 4 := u_inN ha (by omega)
  have q0 : vp_in (nI t) 2 := u_inN ht (by omega)
  refine ⟨rfl, fun p j => ?_, q, q0, q0, q0, q0, True.intro⟩
  unfold f_P_transfer
  rw [u_cl (a := a) (by omega), u_cl (a := t) (by omega), g_L2p x _ (by omega : (2 : Nat) ≠ a + 10), g_L2, g_L2]
/-- both wallets behind the two transfers -/
theorem v_tr2 {y s : g_S} (h : v_wal y s) {a t t' : Nat} (ha : a < 4) (ht : (t = 0 ∧ t' = 1) ∨ (t = 1 ∧ t' = 0)) (P G X Y : Int64) (hX : (t = 0 ∧ X = P ∧ Y = -G) ∨ (t = 1 ∧ X = -G ∧ Y = P)) :
    v_wal (f_P_transfer (f_P_transfer y (nI a) (nI t) P) (nI a) (nI t') (-G)) (f_M_pay s (nI a) X Y) := by
  obtain ⟨-, t1, -⟩ := v_trX y ha (t := t) (by omega) P
  obtain ⟨-, t2, -⟩ := v_trX (f_P_transfer y (nI a) (nI t) P) ha (t := t') (by omega) (-G)
  generalize f_P_transfer (f_P_transfer y (nI a) (nI t) P) (nI a) (nI t') (-G) = z at t2
  generalize f_P_transfer y (nI a) (nI t) P = z1 at t1 t2
  rw [(v_payR s ha X Y).1]
  obtain ⟨h1, h2⟩ := h
  rcases ht with ⟨rfl, rfl⟩ | ⟨rfl, rfl⟩
  · have hX' : X = P ∧ Y = -G := by
      rcases hX with ⟨-, w⟩ | ⟨w, -⟩
      · exact w
      · exact absurd w (by decide)
    obtain ⟨rfl, rfl⟩ := hX'
    refine ⟨fun o t ho ht => ?_, fun t ht => ?_⟩
    · rw [g_L2p _ _ (by omega), g_L2p _ _ (by omega), t2, if_neg (by omega)]
      by_cases e : o = a
      · subst e
        rcases (show t = 0 ∨ t = 1 by omega) with rfl | rfl
        · rw [if_neg (by omega), t1, if_neg (by omega), if_pos ⟨rfl, rfl⟩, g_L2k _ _ (by omega), show 2 * o + 0 = 2 * o from rfl, g_L2s, h1 o 0 ho (by omega), Nat.add_zero]
        · rw [if_pos ⟨rfl, rfl⟩, t1, if_neg (by omega), if_neg (by omega), g_L2s, h1 o 1 ho (by omega)]
      · rw [if_neg (by omega), t1, if_neg (by omega), if_neg (by omega), g_L2k _ _ (by omega), g_L2k _ _ (by omega), h1 o t ho ht]
    · rcases (show t = 0 ∨ t = 1 by omega) with rfl | rfl
      · rw [t2, if_neg (by omega), if_neg (by omega), t1, if_pos ⟨rfl, rfl⟩, g_L2k _ _ (by omega), g_L2s, h2 0 (by omega)]
      · rw [t2, if_pos ⟨rfl, rfl⟩, t1, if_neg (by omega), if_neg (by omega), g_L2s, h2 1 (by omega)]
  · have hX' : X = -G ∧ Y = P := by
      rcases hX with ⟨w, -⟩ | ⟨-, w⟩
      · exact absurd w (by decide)
      · exact w
    obtain ⟨rfl, rfl⟩ := hX'
    refine ⟨fun o t ho ht => ?_, fun t ht => ?_⟩
    · rw [g_L2p _ _ (by omega), g_L2p _ _ (by omega), t2, if_neg (by omega)]
      by_cases e : o = a
      · subst e
        rcases (show t = 0 ∨ t = 1 by omega) with rfl | rfl
        · rw [if_pos ⟨rfl, rfl⟩, t1, if_neg (by omega), if_neg (by omega), g_L2k _ _ (by omega), show 2 * o + 0 = 2 * o from rfl, g_L2s, h1 o 0 ho (by omega), Nat.add_zero]
        · rw [if_neg (by omega), t1, if_neg (by omega), if_pos ⟨rfl, rfl⟩, g_L2s, h1 o 1 ho (by omega)]
      · rw [if_neg (by omega), t1, if_neg (by omega), if_neg (by omega), g_L2k _ _ (by omega), g_L2k _ _ (by omega), h1 o t ho ht]
    · rcases (show t = 0 ∨ t = 1 by omega) with rfl | rfl
      · rw [t2, if_pos ⟨rfl, rfl⟩, t1, if_neg (by omega), if_neg (by omega), g_L2k _ _ (by omega), g_L2s, h2 0 (by omega)]
      · rw [t2, if_neg (by omega), if_neg (by omega), t1, if_pos ⟨rfl, rfl⟩, g_L2s, h2 1 (by omega)]
/-- the last mark is now: the step may change -/
theorem v_tmB_c {x r : g_S} {i : Nat} {c : Int32} {T m : Nat} {tm : Nat → Nat} (h : v_tmB x r i c T m tm) (hl : ∀ j, j + 1 = m → tm j = T) (c' : Int32) : v_tmB x (g_I r 0 5 c') i c' T m tm := by
  obtain ⟨h1, h2, h3, h4, h5, h6, h7, h8, h9, h10⟩ := h
  refine ⟨h1, h2, h3, h4, h5, ?_, h7, h8, h9, fun j hj => ?_⟩
  · rw [g_I1k _ _ (by omega)]; exact h6
  · obtain ⟨a1, a2⟩ := h10 j hj
    refine ⟨a1, ?_⟩
    rw [g_I2, a2, hl j hj, Nat.sub_self, show lN 0 = (0 : Int64) from rfl, Int64.mul_zero, Int64.mul_zero]
