/-- one leg -/
theorem v_leg {x0 r0 x r : g_S} {i : Nat} {ws : Nat → Nat} {d c : Int32} {fe lim A p F : Nat} {b : Bool} (S : v_St x0 r0 i ws d fe lim) (T : v_T x0 r0 x r ws d lim b A p F c) (hA : 0 < A) :
    ∃ A' q F' c', v_T x0 r0 (f_D_goOneLeg x) (f_M_leg r d (lN lim)) ws d lim b A' q F' c' ∧ (A' = 0 ∨ q = lim ∨ ((d = 0 → c.toInt < c'.toInt) ∧ (d = 1 → c'.toInt < c.toInt))) ∧ k_D_goOneLeg x ∧ k_M_leg r d (lN lim) := by
  have S' := S
  have T' := T
  obtain ⟨s1, s2, s3, hd, s5, s6, s7, s8, s9⟩ := S
  obtain ⟨fx, fr, h1, h2, h4, h5, r20, r21, va, way, L, r22, hA2, e6, e7, bF, pe⟩ := T
  have hp := u_at_pp va
  have sX := v_frX_sX fx
  have sR := v_frR_sR fr
  have hl : ∀ k, k < 10 → v_lot x r k := fun k hk => v_lot_cg hk (s1 k hk) sX sR
  have hb : ∀ k, k < 10 → v_lotB r i k (ws k) := fun k hk => v_lotB_cg (s2 k hk) sR
  have hw : ∀ k, k < 10 → ws k ≤ 1000000 := fun k hk => Nat.le_trans (v_ws_le 10 hk) s3
  have hr : ∀ j, j < 49 → r.2 1 j = lN (u_tab j) := fun j hj => by rw [fr.2 _ _ (by omega) (by omega)]; exact s8 j hj
  have h0 : x.1 9 0 = nI fe := by rw [fx.2.2]; exact s6
  have r1 : r.1 0 1 = nI fe := by rw [fr.1 _ _ (by omega)]; exact s7
  have kN := v_nextK hl hb hw d
  generalize hnx : (if d = 0 then f_B_markedAbove x c else f_B_markedAtOrBelow x c) = nx
  have hn := v_next hl hb hw r21 d hd nx hnx.symm
  generalize hnm : f_M_nextStep r d = nm at hn
  obtain ⟨t, ht, t1, t2, t3, t4, t5, t6, t7⟩ := v_tgt hd h1 h2 hr va s9 way hn
  have eDM := v_dpM hb c
  have eDX : f_B_depthAt x c = lN (v_dp r ws c 10) := by rw [v_depth hl c, eDM]
  have eD0 := v_dp_cg sR ws c 10
  have dle := v_dp_le r ws c 10
  generalize v_dp r ws c 10 = D at eDM eDX eD0 dle
  have hD : D ≤ 1000000 := by omega
  cases b
  · -- taking
    have L' : x.2 9 3 = -(lN A) := L
    have r22' : r.2 0 22 = -(lN A) := r22
    obtain ⟨nA, pA⟩ := u_lfF hA hA2
    have nAx : x.2 9 3 ≤ (0 : Int64) := by rw [L']; exact nA
    have pAx : ¬ (0 : Int64) ≤ x.2 9 3 := by rw [L']; exact pA
    have nAr : r.2 0 22 ≤ (0 : Int64) := by rw [r22']; exact nA
    have pAr : ¬ (0 : Int64) ≤ r.2 0 22 := by rw [r22']; exact pA
    obtain ⟨q, g1, g2, g3, g4, g5, g6, g7⟩ := v_goTake h1 h4 L' r20 r22' nAr hp ht hD t5 hA2 (lN 0)
    have hq := u_way_pp g3 g4 hp ht
    obtain ⟨i1, i2⟩ := v_inX h1 h4 hp hq hD g3
    obtain ⟨i3, i4⟩ := v_inM hp hq hD g3
    obtain ⟨o1, o2⟩ := v_outX h1 h4 hp hq hD g3
    obtain ⟨o3, o4⟩ := v_outM hp hq hD g3
    obtain ⟨-, ki⟩ := v_inM hp ht hD t5
    obtain ⟨-, ko⟩ := v_outM hp ht hD t5
    have bi := u_in_le hp hq hD g3
    have bo := u_out_le hp hq hD g3
    have bd := u_in_ds hp hq hD g3
    obtain ⟨q1, q2, q3⟩ := u_feeP bi s5
    have bfee := u_fee_ds s5 bd
    generalize u_in d p q D = inn at i1 i3 bi bd q1 q2 q3 bfee
    generalize u_out d p q D = out0 at o1 o3 bo g5
    generalize q_up (inn * fe) (1000 - fe) = fee at q1 q2 bfee
    have emin : ∃ out, out ≤ A ∧ out ≤ out0 ∧ (out = A ∨ out = out0) ∧ (if lN A < lN out0 then lN A else lN out0) = lN out ∧ (if lN out0 ≤ lN A then lN out0 else lN A) = lN out := by
      by_cases e : A < out0
      · refine ⟨A, by omega, by omega, Or.inl rfl, if_pos ((lN_lt (by omega) (by omega)).mpr e), if_neg (fun w => ?_)⟩
        have := (lN_le (by omega) (by omega)).mp w
        omega
      · refine ⟨out0, by omega, by omega, Or.inr rfl, if_neg (fun w => ?_), if_pos ((lN_le (by omega) (by omega)).mpr (by omega))⟩
        have := (lN_lt (by omega) (by omega)).mp w
        omega
    obtain ⟨out, m1, m2, m3, m4, m5⟩ := emin
    have nn : -(-(lN A)) = lN A := Int64.neg_neg
    have el : -(lN A) + lN out = u_lf false (A - out) := by
      show -(lN A) + lN out = -(lN (A - out))
      rw [← lN_sub m1]
      grind
    have X := v_legX (x := x) (d := d) (c := c) (nx := nx) (t := t) (q := q) (D := D) (inn := inn) (out0 := out0) (out := out) (fee := fee) (A' := A - out) (b := false) h1 h5 hnx.symm t1 t2 eDX (by rw [if_pos nAx]; exact g1) (by rw [if_pos nAx]; exact ⟨g6, True.intro⟩) i1 i2 o1 o2 (by rw [if_neg pAx, L', nn]; exact m4) (by rw [if_pos nAx, if_pos rfl, h0]; exact q1) (by rw [if_pos nAx, L']; exact el)
    have M := v_legM (r := r) (d := d) (c := c) (nm := nm) (lim := lim) (t := t) (q := q) (D := D) (u := 0) (V := A) (inn := inn) (out0 := out0) (out := out) (fee := fee) (A' := A - out) (b := false) r21 hnm kN t3 t4 eDM (by rw [if_pos nAr]; rfl) (by rw [if_neg pAr, r22', nn]) (x21 := if lN A < f_M_goesOut d (lN p) (lN t) (lN D) then (0 : Int32) else 1) (by rw [if_pos nAr, r20]) (by rw [if_pos nAr, r20]; exact ⟨ko, True.intro⟩) g2 g7 (by rw [r20]; exact i3) (by rw [r20]; exact i4) (by rw [r20]; exact o3) (by rw [r20]; exact o4) (by rw [if_neg pAr]; exact m5) (by rw [if_pos nAr, r1]; exact q2) (by rw [r1]; exact q3) (by rw [if_pos nAr, r22']; exact el)
    obtain ⟨F', c', z⟩ := v_legZ S' T' eD0 hn ht t6 t7 g3 g4 (Nat.sub_le _ _) (by omega) (Or.inl bfee) hA X M
    exact ⟨A - out, q, F', c', z⟩
  · -- paying
    have L' : x.2 9 3 = lN A := L
    have r22' : r.2 0 22 = lN A := r22
    obtain ⟨nA, pA⟩ := u_lfT hA hA2
    have nAx : ¬ x.2 9 3 ≤ (0 : Int64) := by rw [L']; exact nA
    have pAx : (0 : Int64) ≤ x.2 9 3 := by rw [L']; exact pA
    have nAr : ¬ r.2 0 22 ≤ (0 : Int64) := by rw [r22']; exact nA
    have pAr : (0 : Int64) ≤ r.2 0 22 := by rw [r22']; exact pA
    obtain ⟨q, g1, g2, g3, g4, g5, g6, g7⟩ := v_goPay h1 h4 h0 L' r20 r22' hp ht hD t5 hA hA2 s5 (lN 0)
    have hq := u_way_pp g3 g4 hp ht
    obtain ⟨i1, i2⟩ := v_inX h1 h4 hp hq hD g3
    obtain ⟨i3, i4⟩ := v_inM hp hq hD g3
    obtain ⟨o1, o2⟩ := v_outX h1 h4 hp hq hD g3
    obtain ⟨o3, o4⟩ := v_outM hp hq hD g3
    obtain ⟨-, ki⟩ := v_inM hp ht hD t5
    have bi := u_in_le hp hq hD g3
    have bd := u_in_ds hp hq hD g3
    obtain ⟨q1, q2, q3⟩ := u_feeP bi s5
    have bfee := u_fee_ds s5 bd
    obtain ⟨a1, a2⟩ := u_fee_A s5 g5
    generalize u_in d p q D = inn at i1 i3 bi bd q1 q2 q3 bfee a1 a2
    generalize u_out d p q D = out at o1 o3
    generalize q_up (inn * fe) (1000 - fe) = fee0 at q1 q2 bfee a2
    unfold u_pp at hq ht
    have ecq : (nI q = nI t) ↔ q = t := nI_eq (by omega) (by omega)
    have ecl : (lN q = lN t) ↔ q = t := lN_eq (by omega) (by omega)
    have efee : ∃ fee, inn + fee ≤ A ∧ (fee ≤ 6 * u_ds p q ∨ (A - inn - fee = 0 ∧ fee ≤ 1000000)) ∧ (A - inn - fee = 0 ∨ q = t) ∧ (if (if nI q = nI t then (0 : Int32) else (1 : Int32)) = 0 then lN fee0 else lN A - lN inn) = lN fee ∧ (if lN q = lN t then lN fee0 else lN A - lN inn) = lN fee := by
      by_cases e : q = t
      · exact ⟨fee0, by omega, Or.inl bfee, Or.inr e, by rw [if_pos (ecq.mpr e), if_pos rfl], if_pos (ecl.mpr e)⟩
      · refine ⟨A - inn, by omega, Or.inr ⟨by omega, by omega⟩, Or.inl (by omega), ?_, ?_⟩
        · rw [if_neg (fun w => e (ecq.mp w)), if_neg (by decide), lN_sub a1]
        · rw [if_neg (fun w => e (ecl.mp w)), lN_sub a1]
    obtain ⟨fee, f1, f2, f3, f4, f5⟩ := efee
    have el : lN A + -(lN inn + lN fee) = u_lf true (A - inn - fee) := by
      show lN A + -(lN inn + lN fee) = lN (A - inn - fee)
      rw [← lN_sub (show fee ≤ A - inn by omega), ← lN_sub a1]
      grind
    have el2 : lN A - lN inn - lN fee = u_lf true (A - inn - fee) := by
      show lN A - lN inn - lN fee = lN (A - inn - fee)
      rw [← lN_sub (show fee ≤ A - inn by omega), ← lN_sub a1]
    have X := v_legX (x := x) (d := d) (c := c) (nx := nx) (t := t) (q := q) (D := D) (inn := inn) (out0 := out) (out := out) (fee := fee) (A' := A - inn - fee) (b := true) h1 h5 hnx.symm t1 t2 eDX (by rw [if_neg nAx]; exact g1) (by rw [if_neg nAx]; exact ⟨g6, True.intro⟩) i1 i2 o1 o2 (if_pos pAx) (by rw [if_neg nAx, h0, q1, L']; exact f4) (by rw [if_neg nAx, L']; exact el)
    have M := v_legM (r := r) (d := d) (c := c) (nm := nm) (lim := lim) (t := t) (q := q) (D := D) (u := A * (1000 - fe) / 1000) (V := 0) (inn := inn) (out0 := out) (out := out) (fee := fee) (A' := A - inn - fee) (b := true) r21 hnm kN t3 t4 eDM (by rw [if_neg nAr, r22', r1]; exact u_feeL hA2 s5) (by rw [if_pos pAr]; rfl) (x21 := if lN (A * (1000 - fe) / 1000) < f_M_in d (lN p) (lN t) (lN D) then (0 : Int32) else 1) (by rw [if_neg nAr, r20]) (by rw [if_neg nAr, r20]; exact ⟨ki, True.intro⟩) g2 g7 (by rw [r20]; exact i3) (by rw [r20]; exact i4) (by rw [r20]; exact o3) (by rw [r20]; exact o4) (if_pos pAr) (by rw [if_neg nAr, r1, q2, r22']; exact f5) (by rw [r1]; exact q3) (by rw [if_neg nAr, r22']; exact el2)
    obtain ⟨F', c', z⟩ := v_legZ S' T' eD0 hn ht t6 t7 g3 g4 (by omega) f3 f2 hA X M
    exact ⟨A - inn - fee, q, F', c', z⟩
