/-! one leg keeps the relation -/
theorem v_dp_cg {r0 r : g_S} (h : v_sR r0 r) (ws : Nat → Nat) (c : Int32) : ∀ n, v_dp r ws c n = v_dp r0 ws c n := by
  obtain ⟨h4, -, h6, h7, -⟩ := h
  intro n
  induction n with
  | zero => rfl
  | succ n ih =>
    unfold v_dp
    rw [ih, h4, h6, h7]
theorem v_legZ {x0 r0 x r : g_S} {i : Nat} {ws : Nat → Nat} {d c nx nm : Int32} {fe lim A p F : Nat} {b : Bool} (S : v_St x0 r0 i ws d fe lim) (T : v_T x0 r0 x r ws d lim b A p F c) {t q D u V inn out0 out fee A' : Nat} {x21 : Int32} (eD : D = v_dp r0 ws c 10)
    (hn : (nx = 1000 ∧ nm = 99) ∨ (nm = nx ∧ -24 ≤ nx.toInt ∧ nx.toInt ≤ 24 ∧ (d = 0 → c.toInt < nx.toInt) ∧ (d = 1 → nx.toInt ≤ c.toInt)))
    (ht : u_pp t) (w2 : u_way d t lim) (tl : t = lim ∨ (-24 ≤ nx.toInt ∧ nx.toInt ≤ 24 ∧ t = u_P nx.toInt ∧ (d = 0 → c.toInt < nx.toInt) ∧ (d = 1 → nx.toInt ≤ c.toInt)))
    (wq : u_way d p q) (wt : u_way d q t) (hA' : A' ≤ A) (fin : A' = 0 ∨ q = t) (hfee : fee ≤ 6 * u_ds p q ∨ (A' = 0 ∧ fee ≤ 1000000)) (hA : 0 < A)
    (X : f_D_goOneLeg x = f_D_moveTo (f_B_growPending (g_L (g_L (g_L x 9 6 ((x.2 9 6) + (lN inn + lN fee))) 9 7 ((x.2 9 7) + lN out)) 9 3 (u_lf b A')) c (lN fee) (lN D)) (nI q) nx ∧
      (k_D_moveTo (f_B_growPending (g_L (g_L (g_L x 9 6 ((x.2 9 6) + (lN inn + lN fee))) 9 7 ((x.2 9 7) + lN out)) 9 3 (u_lf b A')) c (lN fee) (lN D)) (nI q) nx → k_D_goOneLeg x))
    (M : f_M_leg r d (lN lim) = f_M_leg_461_57 r d (lN lim) nm (lN t) (lN D) (lN u) (lN V) x21 (lN q) (lN inn) (lN out0) (lN out) (lN fee) (u_lf b A') (f_M_leg_L380 r d (lN lim) nm (lN t) (lN D) (lN u) (lN V) x21 (lN q) (lN inn) (lN out0) (lN out) (lN fee) (u_lf b A') 10 0 (g_L (g_L (g_L r 0 23 ((r.2 0 23) + (lN inn + lN fee))) 0 24 ((r.2 0 24) + lN out)) 0 22 (u_lf b A'))) ∧
    (k_M_leg_L380 r d (lN lim) nm (lN t) (lN D) (lN u) (lN V) x21 (lN q) (lN inn) (lN out0) (lN out) (lN fee) (u_lf b A') 10 0 (g_L (g_L (g_L r 0 23 ((r.2 0 23) + (lN inn + lN fee))) 0 24 ((r.2 0 24) + lN out)) 0 22 (u_lf b A')) →
      k_M_leg_461_57 r d (lN lim) nm (lN t) (lN D) (lN u) (lN V) x21 (lN q) (lN inn) (lN out0) (lN out) (lN fee) (u_lf b A') (f_M_leg_L380 r d (lN lim) nm (lN t) (lN D) (lN u) (lN V) x21 (lN q) (lN inn) (lN out0) (lN out) (lN fee) (u_lf b A') 10 0 (g_L (g_L (g_L r 0 23 ((r.2 0 23) + (lN inn + lN fee))) 0 24 ((r.2 0 24) + lN out)) 0 22 (u_lf b A'))) → k_M_leg r d (lN lim))) :
    ∃ F' c', v_T x0 r0 (f_D_goOneLeg x) (f_M_leg r d (lN lim)) ws d lim b A' q F' c' ∧ (A' = 0 ∨ q = lim ∨ ((d = 0 → c.toInt < c'.toInt) ∧ (d = 1 → c'.toInt < c.toInt))) ∧ k_D_goOneLeg x ∧ k_M_leg r d (lN lim) := by
  obtain ⟨s1, s2, s3, hd, s5, s6, s7, s8, s9⟩ := S
  obtain ⟨fx, fr, h1, h2, h4, h5, r20, r21, va, way, L, r22, hA2, e6, e7, bF, pe⟩ := T
  have hp := u_at_pp va
  have hq := u_way_pp wq wt hp ht
  have wl := u_way_tr wt w2
  have ds := u_way_ds wq wl
  rw [if_neg (by omega)] at bF
  have hfb : fee ≤ 3000000 := by omega
  obtain ⟨X1, X2⟩ := X
  obtain ⟨M1, M2⟩ := M
  have ey : ∀ a j, a ≠ 9 → (g_L (g_L (g_L x 9 6 ((x.2 9 6) + (lN inn + lN fee))) 9 7 ((x.2 9 7) + lN out)) 9 3 (u_lf b A')).2 a j = x.2 a j := by
    intro a j h
    rw [g_L2, if_neg (by omega), g_L2, if_neg (by omega), g_L2, if_neg (by omega)]
  have ey3 : (g_L (g_L (g_L x 9 6 ((x.2 9 6) + (lN inn + lN fee))) 9 7 ((x.2 9 7) + lN out)) 9 3 (u_lf b A')).2 9 3 = u_lf b A' := by
    rw [g_L2, if_pos ⟨rfl, rfl⟩]
  have ey6 : (g_L (g_L (g_L x 9 6 ((x.2 9 6) + (lN inn + lN fee))) 9 7 ((x.2 9 7) + lN out)) 9 3 (u_lf b A')).2 9 6 = (x.2 9 6) + (lN inn + lN fee) := by
    rw [g_L2, if_neg (by decide), g_L2, if_neg (by decide), g_L2, if_pos ⟨rfl, rfl⟩]
  have ey7 : (g_L (g_L (g_L x 9 6 ((x.2 9 6) + (lN inn + lN fee))) 9 7 ((x.2 9 7) + lN out)) 9 3 (u_lf b A')).2 9 7 = (x.2 9 7) + lN out := by
    rw [g_L2, if_neg (by decide), g_L2, if_pos ⟨rfl, rfl⟩]
  have ey1 : (g_L (g_L (g_L x 9 6 ((x.2 9 6) + (lN inn + lN fee))) 9 7 ((x.2 9 7) + lN out)) 9 3 (u_lf b A')).1 = x.1 := rfl
  generalize g_L (g_L (g_L x 9 6 ((x.2 9 6) + (lN inn + lN fee))) 9 7 ((x.2 9 7) + lN out)) 9 3 (u_lf b A') = y at X1 X2 ey ey1 ey3 ey6 ey7
  have es : ∀ a j, ¬ (a = 0 ∧ 22 ≤ j ∧ j ≤ 24) → (g_L (g_L (g_L r 0 23 ((r.2 0 23) + (lN inn + lN fee))) 0 24 ((r.2 0 24) + lN out)) 0 22 (u_lf b A')).2 a j = r.2 a j := by
    intro a j h
    rw [g_L2, if_neg (by omega), g_L2, if_neg (by omega), g_L2, if_neg (by omega)]
  have es2 : (g_L (g_L (g_L r 0 23 ((r.2 0 23) + (lN inn + lN fee))) 0 24 ((r.2 0 24) + lN out)) 0 22 (u_lf b A')).2 0 22 = u_lf b A' := by
    rw [g_L2, if_pos ⟨rfl, rfl⟩]
  have es3 : (g_L (g_L (g_L r 0 23 ((r.2 0 23) + (lN inn + lN fee))) 0 24 ((r.2 0 24) + lN out)) 0 22 (u_lf b A')).2 0 23 = (r.2 0 23) + (lN inn + lN fee) := by
    rw [g_L2, if_neg (by decide), g_L2, if_neg (by decide), g_L2, if_pos ⟨rfl, rfl⟩]
  have es4 : (g_L (g_L (g_L r 0 23 ((r.2 0 23) + (lN inn + lN fee))) 0 24 ((r.2 0 24) + lN out)) 0 22 (u_lf b A')).2 0 24 = (r.2 0 24) + lN out := by
    rw [g_L2, if_neg (by decide), g_L2, if_pos ⟨rfl, rfl⟩]
  have es1 : (g_L (g_L (g_L r 0 23 ((r.2 0 23) + (lN inn + lN fee))) 0 24 ((r.2 0 24) + lN out)) 0 22 (u_lf b A')).1 = r.1 := rfl
  generalize g_L (g_L (g_L r 0 23 ((r.2 0 23) + (lN inn + lN fee))) 0 24 ((r.2 0 24) + lN out)) 0 22 (u_lf b A') = s at M1 M2 es es1 es2 es3 es4
  obtain ⟨g1, g2, g3, -⟩ := v_growC y c (lN fee) (lN D)
  generalize f_B_growPending y c (lN fee) (lN D) = x' at X1 X2 g1 g2 g3
  have lp : (f_M_leg_L380 r d (lN lim) nm (lN t) (lN D) (lN u) (lN V) x21 (lN q) (lN inn) (lN out0) (lN out) (lN fee) (u_lf b A') 10 0 s).1 = s.1 ∧ (∀ a j, a ≠ 13 → (f_M_leg_L380 r d (lN lim) nm (lN t) (lN D) (lN u) (lN V) x21 (lN q) (lN inn) (lN out0) (lN out) (lN fee) (u_lf b A') 10 0 s).2 a j = s.2 a j) ∧
      (∀ k, k < 10 → (f_M_leg_L380 r d (lN lim) nm (lN t) (lN D) (lN u) (lN V) x21 (lN q) (lN inn) (lN out0) (lN out) (lN fee) (u_lf b A') 10 0 s).2 13 k = s.2 13 k + (if D = 0 then 0 else (if (s.1 4 k) = 0 then (0 : Int64) else (if (s.1 0 21) < (s.1 6 k) then (0 : Int64) else (if (s.1 7 k) ≤ (s.1 0 21) then (0 : Int64) else (lN fee * (4294967296 : Int64)) / lN D))))) ∧
      k_M_leg_L380 r d (lN lim) nm (lN t) (lN D) (lN u) (lN V) x21 (lN q) (lN inn) (lN out0) (lN out) (lN fee) (u_lf b A') 10 0 s := by
    by_cases D0 : D = 0
    · have z : lN D ≤ (0 : Int64) := by rw [D0]; decide
      have eL : f_M_leg_L380 r d (lN lim) nm (lN t) (lN D) (lN u) (lN V) x21 (lN q) (lN inn) (lN out0) (lN out) (lN fee) (u_lf b A') 10 0 s = s := by
        unfold f_M_leg_L380
        rw [if_pos z]
      have kL : k_M_leg_L380 r d (lN lim) nm (lN t) (lN D) (lN u) (lN V) x21 (lN q) (lN inn) (lN out0) (lN out) (lN fee) (u_lf b A') 10 0 s := by
        unfold k_M_leg_L380
        rw [if_pos z]
        exact True.intro
      rw [eL]
      exact ⟨rfl, fun _ _ _ => rfl, fun k _ => by rw [if_pos D0, Int64.add_zero], kL⟩
    · have d1 := v_dp_le r0 ws c 10
      have z : ¬ lN D ≤ (0 : Int64) := (u_lfT (A := D) (by omega) (by omega)).1
      obtain ⟨q1, q2, q3, q4⟩ := v_legL r d (lN lim) nm (lN t) (lN D) (lN u) (lN V) x21 (lN q) (lN inn) (lN out0) (lN out) (lN fee) (u_lf b A') z 10 0 s rfl
      simp only [D0, if_false]
      exact ⟨q1, fun a j h => q2 a j (Or.inl h), fun k hk => q3 k (Nat.zero_le _) hk, q4⟩
  obtain ⟨l1, l2, l3, l4⟩ := lp
  have M3 := M2 l4
  generalize f_M_leg_L380 r d (lN lim) nm (lN t) (lN D) (lN u) (lN V) x21 (lN q) (lN inn) (lN out0) (lN out) (lN fee) (u_lf b A') 10 0 s = r' at M1 M3 l1 l2 l3
  have fy : v_frX x0 y := by
    obtain ⟨f1, f2, f3⟩ := fx
    exact ⟨fun a j h => by rw [ey1]; exact f1 a j h, fun a j h h' => by rw [ey a j h]; exact f2 a j h h', by rw [ey1]; exact f3⟩
  have fs : v_frR r0 s := by
    obtain ⟨f1, f2⟩ := fr
    exact ⟨fun a j h => by rw [es1]; exact f1 a j h, fun a j h h' => by rw [es a j (by omega)]; exact f2 a j h h'⟩
  have pe2 : v_pend r0 y s ws F := by
    intro k hk tk
    obtain ⟨pn, p1, p2, p3⟩ := pe k hk tk
    exact ⟨pn, by rw [ey _ _ (by omega)]; exact p1, by rw [es _ _ (by omega)]; exact p2, p3⟩
  have pe3 : v_pend r0 x' r' ws (F + fee) := v_legG s1 s3 eD fy fs (by rw [es1]; exact r21) pe2 hfb g3 l3
  have hn' : (nx = 1000 ∧ nm = 99) ∨ (nm = nx ∧ -24 ≤ nx.toInt ∧ nx.toInt ≤ 24) := by
    rcases hn with h | ⟨a1, a2, a3, -⟩
    · exact Or.inl h
    · exact Or.inr ⟨a1, a2, a3⟩
  obtain ⟨c', va', prog, ⟨m1, m2, m3, m4, m5⟩, n1, n2, n3, n4, n5⟩ := v_move (x := x') (r := r') (d := d) (c := c) (nx := nx) (nm := nm) (p := p) (q := q) hd (by rw [g1, ey1]; exact h1) (by rw [g1, ey1]; exact h4) (by rw [g1, ey1]; exact h5) (by rw [l2 _ _ (by omega), es _ _ (by omega)]; exact r20) (by rw [l1, es1]; exact r21) (fun j hj => by rw [l2 _ _ (by omega), es _ _ (by omega), fr.2 _ _ (by omega) (by omega)]; exact s8 j hj) va hp hq hn' r (lN lim) (lN t) (lN D) (lN u) (lN V) x21 (lN inn) (lN out0) (lN out) (lN fee) (u_lf b A')
  refine ⟨F + fee, c', ?_, ?_, X2 m5, M3 n5⟩
  · rw [X1, M1]
    refine ⟨⟨fun a j h => ?_, fun a j h h' => ?_, ?_⟩, ⟨fun a j h => ?_, fun a j h h' => ?_⟩, ?_, ?_, m1, m2, n1, n2, va', wl, ?_, ?_, by omega, ?_, ?_, ?_, fun k hk tk => ?_⟩
    · rw [m3 a j (by omega), g1]; exact fy.1 a j h
    · rw [m4, g2 a j (by omega)]; exact fy.2.1 a j h h'
    · rw [m3 9 0 (by omega), g1]; exact fy.2.2
    · rw [n3 a j h, l1]; exact fs.1 a j h
    · rw [n4 a j (by omega), l2 a j h]; exact fs.2 a j h h'
    · rw [m3 9 1 (by omega), g1, ey1]; exact h1
    · rw [m3 9 2 (by omega), g1, ey1]; exact h2
    · rw [m4, g2 _ _ (by omega)]; exact ey3
    · rw [n4 _ _ (by omega), l2 _ _ (by omega)]; exact es2
    · rw [m4, g2 _ _ (by omega), n4 _ _ (by omega), l2 _ _ (by omega), ey6, es3, e6]
    · rw [m4, g2 _ _ (by omega), n4 _ _ (by omega), l2 _ _ (by omega), ey7, es4, e7]
    · rcases hfee with hf | ⟨hf0, hf⟩
      · split <;> omega
      · rw [if_pos hf0]; omega
    · obtain ⟨pn, p1, p2, p3⟩ := pe3 k hk tk
      exact ⟨pn, by rw [m4]; exact p1, by rw [n4 _ _ (by omega)]; exact p2, p3⟩
  · rcases fin with f0 | ft
    · exact Or.inl f0
    · rcases tl with tl | ⟨t1, t2, t3, t4, t5⟩
      · exact Or.inr (Or.inl (by rw [ft, tl]))
      · right; right
        have e := prog t1 t2 (by rw [ft, t3])
        refine ⟨fun h => ?_, fun h => ?_⟩
        · rw [e, if_pos h]; exact t4 h
        · rw [e, if_neg (by rw [h]; decide)]
          have := t5 h
          omega
