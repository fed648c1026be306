/-! a leg, laid open -/
def u_lf (b : Bool) (A : Nat) : Int64 := if b = true then lN A else -(lN A)
theorem u_ite2 {c : Prop} [Decidable c] {P : Prop} (h : P) : if c then P else True := by
  split
  · exact h
  · exact True.intro
theorem v_legX {x : g_S} {d c nx : Int32} {t q D inn out0 out fee A' : Nat} {b : Bool} (h1 : x.1 9 1 = d) (h5 : x.1 9 5 = c) (hnx : nx = if d = 0 then f_B_markedAbove x c else f_B_markedAtOrBelow x c)
    (et : f_D_targetBefore x nx = nI t) (kt : k_D_targetBefore x nx) (eD : f_B_depthAt x c = lN D)
    (eq : (if (x.2 9 3) ≤ (0 : Int64) then f_D_priceAfterTaking x (lN D) (nI t) else f_D_priceAfterPaying x (lN D) (nI t)) = nI q)
    (kq : if (x.2 9 3) ≤ (0 : Int64) then (k_D_priceAfterTaking x (lN D) (nI t)) ∧ True else (k_D_priceAfterPaying x (lN D) (nI t)) ∧ True)
    (ein : f_D_amountIn x (lN D) (nI q) = lN inn) (kin : k_D_amountIn x (lN D) (nI q)) (eo0 : f_D_amountOut x (lN D) (nI q) = lN out0) (ko0 : k_D_amountOut x (lN D) (nI q))
    (eo : (if (0 : Int64) ≤ (x.2 9 3) then lN out0 else (if (-(x.2 9 3)) < lN out0 then (-(x.2 9 3)) else lN out0)) = lN out)
    (ef : (if (if (x.2 9 3) ≤ (0 : Int64) then (0 : Int32) else (if nI q = nI t then (0 : Int32) else (1 : Int32))) = 0 then f_P_quotient (lN inn * ((x.1 9 0).toInt64)) ((1000 : Int64) - ((x.1 9 0).toInt64)) (1 : Int32) else (x.2 9 3) - lN inn) = lN fee)
    (el : (x.2 9 3) + (if (x.2 9 3) ≤ (0 : Int64) then lN out else -(lN inn + lN fee)) = u_lf b A') :
    f_D_goOneLeg x = f_D_moveTo (f_B_growPending (g_L (g_L (g_L x 9 6 ((x.2 9 6) + (lN inn + lN fee))) 9 7 ((x.2 9 7) + lN out)) 9 3 (u_lf b A')) c (lN fee) (lN D)) (nI q) nx ∧
    (k_D_moveTo (f_B_growPending (g_L (g_L (g_L x 9 6 ((x.2 9 6) + (lN inn + lN fee))) 9 7 ((x.2 9 7) + lN out)) 9 3 (u_lf b A')) c (lN fee) (lN D)) (nI q) nx → k_D_goOneLeg x) := by
  have kg := (v_growC (g_L (g_L (g_L x 9 6 ((x.2 9 6) + (lN inn + lN fee))) 9 7 ((x.2 9 7) + lN out)) 9 3 (u_lf b A')) c (lN fee) (lN D)).2.2.2
  unfold f_D_goOneLeg k_D_goOneLeg
  rw [h1, h5, ← hnx]
  unfold f_D_goOneLeg_26_4 k_D_goOneLeg_26_4
  rw [et]
  unfold f_D_goOneLeg_29_8 k_D_goOneLeg_29_8
  rw [h5, eD]
  unfold f_D_goOneLeg_38_11 k_D_goOneLeg_38_11
  rw [eq]
  unfold f_D_goOneLeg_69_16 k_D_goOneLeg_69_16
  rw [ein]
  unfold f_D_goOneLeg_76_20 k_D_goOneLeg_76_20
  rw [eo0]
  unfold f_D_goOneLeg_86_24 k_D_goOneLeg_86_24
  rw [eo]
  unfold f_D_goOneLeg_112_28 k_D_goOneLeg_112_28
  unfold f_D_goOneLeg_132_32 k_D_goOneLeg_132_32
  rw [ef]
  unfold f_D_goOneLeg_170_37 k_D_goOneLeg_170_37
  unfold f_D_goOneLeg_222_41 k_D_goOneLeg_222_41
  rw [el, h5]
  unfold f_D_goOneLeg_235_46 k_D_goOneLeg_235_46 f_D_goOneLeg_242_51 k_D_goOneLeg_242_51
  refine ⟨rfl, fun km => ⟨kt, kq, kin, ko0, ?_, kg, km, True.intro⟩⟩
  have kk : ∀ (a b : Int64) (u : Int32), k_P_quotient a b u ∧ True := fun a b u => ⟨u_kquoP a b u, True.intro⟩
  apply u_ite2
  exact kk _ _ _
theorem v_legM {r : g_S} {d c nm : Int32} {lim t q D u V inn out0 out fee A' : Nat} {b : Bool} (r21 : r.1 0 21 = c) (hnm : f_M_nextStep r d = nm) (kN : k_M_nextStep r d)
    (et : (if nm = (99 : Int32) then lN lim else (if d = 0 then (if lN lim ≤ (f_M_price r nm) then lN lim else f_M_price r nm) else (if (f_M_price r nm) ≤ lN lim then lN lim else f_M_price r nm))) = lN t)
    (kt : (if nm = (99 : Int32) then True else (if d = 0 then (k_M_price r nm) ∧ (if lN lim ≤ (f_M_price r nm) then True else (k_M_price r nm) ∧ True) else (k_M_price r nm) ∧ (if (f_M_price r nm) ≤ lN lim then True else (k_M_price r nm) ∧ True))))
    (eD : f_M_depthAt r c = lN D)
    (eu : (if (r.2 0 22) ≤ (0 : Int64) then (0 : Int64) else ((r.2 0 22) * ((1000 : Int64) - ((r.1 0 1).toInt64))) / (1000 : Int64)) = lN u)
    (eV : (if (0 : Int64) ≤ (r.2 0 22) then (0 : Int64) else -(r.2 0 22)) = lN V) {x21 : Int32}
    (e21 : (if (r.2 0 22) ≤ (0 : Int64) then (if lN V < (f_M_goesOut d (r.2 0 20) (lN t) (lN D)) then (0 : Int32) else (1 : Int32)) else (if lN u < (f_M_in d (r.2 0 20) (lN t) (lN D)) then (0 : Int32) else (1 : Int32))) = x21)
    (k21 : (if (r.2 0 22) ≤ (0 : Int64) then (k_M_goesOut d (r.2 0 20) (lN t) (lN D)) ∧ True else (k_M_in d (r.2 0 20) (lN t) (lN D)) ∧ True))
    (eq : (if x21 = 0 then f_M_onTheWay r d (lN D) (lN u) (lN V) else lN t) = lN q) (kq : if x21 = 0 then (k_M_onTheWay r d (lN D) (lN u) (lN V)) ∧ True else True)
    (ein : f_M_in d (r.2 0 20) (lN q) (lN D) = lN inn) (kin : k_M_in d (r.2 0 20) (lN q) (lN D)) (eo0 : f_M_goesOut d (r.2 0 20) (lN q) (lN D) = lN out0) (ko0 : k_M_goesOut d (r.2 0 20) (lN q) (lN D))
    (eo : (if (0 : Int64) ≤ (r.2 0 22) then lN out0 else (if lN out0 ≤ lN V then lN out0 else lN V)) = lN out)
    (ef : (if (r.2 0 22) ≤ (0 : Int64) then f_M_quotient (lN inn * ((r.1 0 1).toInt64)) ((1000 : Int64) - ((r.1 0 1).toInt64)) (1 : Int32) else (if lN q = lN t then f_M_quotient (lN inn * ((r.1 0 1).toInt64)) ((1000 : Int64) - ((r.1 0 1).toInt64)) (1 : Int32) else (r.2 0 22) - lN inn)) = lN fee)
    (kf : k_M_quotient (lN inn * ((r.1 0 1).toInt64)) ((1000 : Int64) - ((r.1 0 1).toInt64)) (1 : Int32))
    (el : (if (r.2 0 22) ≤ (0 : Int64) then (r.2 0 22) + lN out else ((r.2 0 22) - lN inn) - lN fee) = u_lf b A') :
    f_M_leg r d (lN lim) = f_M_leg_461_57 r d (lN lim) nm (lN t) (lN D) (lN u) (lN V) x21 (lN q) (lN inn) (lN out0) (lN out) (lN fee) (u_lf b A') (f_M_leg_L380 r d (lN lim) nm (lN t) (lN D) (lN u) (lN V) x21 (lN q) (lN inn) (lN out0) (lN out) (lN fee) (u_lf b A') 10 0 (g_L (g_L (g_L r 0 23 ((r.2 0 23) + (lN inn + lN fee))) 0 24 ((r.2 0 24) + lN out)) 0 22 (u_lf b A'))) ∧
    (k_M_leg_L380 r d (lN lim) nm (lN t) (lN D) (lN u) (lN V) x21 (lN q) (lN inn) (lN out0) (lN out) (lN fee) (u_lf b A') 10 0 (g_L (g_L (g_L r 0 23 ((r.2 0 23) + (lN inn + lN fee))) 0 24 ((r.2 0 24) + lN out)) 0 22 (u_lf b A')) →
      k_M_leg_461_57 r d (lN lim) nm (lN t) (lN D) (lN u) (lN V) x21 (lN q) (lN inn) (lN out0) (lN out) (lN fee) (u_lf b A') (f_M_leg_L380 r d (lN lim) nm (lN t) (lN D) (lN u) (lN V) x21 (lN q) (lN inn) (lN out0) (lN out) (lN fee) (u_lf b A') 10 0 (g_L (g_L (g_L r 0 23 ((r.2 0 23) + (lN inn + lN fee))) 0 24 ((r.2 0 24) + lN out)) 0 22 (u_lf b A'))) → k_M_leg r d (lN lim)) := by
  unfold f_M_leg k_M_leg
  rw [hnm]
  unfold f_M_leg_2_4 k_M_leg_2_4
  rw [et]
  unfold f_M_leg_67_9 k_M_leg_67_9
  rw [r21, eD]
  unfold f_M_leg_74_12 k_M_leg_74_12
  rw [eu]
  unfold f_M_leg_110_16 k_M_leg_110_16
  rw [eV]
  unfold f_M_leg_130_20 k_M_leg_130_20
  rw [e21]
  unfold f_M_leg_190_25 k_M_leg_190_25
  rw [eq]
  unfold f_M_leg_213_30 k_M_leg_213_30
  rw [ein]
  unfold f_M_leg_224_34 k_M_leg_224_34
  rw [eo0]
  unfold f_M_leg_238_38 k_M_leg_238_38
  rw [eo]
  unfold f_M_leg_267_42 k_M_leg_267_42
  rw [ef]
  unfold f_M_leg_317_47 k_M_leg_317_47
  rw [el]
  unfold f_M_leg_374_51 k_M_leg_374_51
  refine ⟨rfl, fun kl km => ⟨kN, kt, k21, kq, kin, ko0, ?_, kl, km⟩⟩
  split
  · exact ⟨kf, True.intro⟩
  · exact u_ite2 ⟨kf, True.intro⟩
