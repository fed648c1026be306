theorem g_fstP {D : va_G} {cl : List vw_C} {w0 wc : va_W} {H : Heap} (h : va_P D cl (w0 ++ wc) H) : va_P D cl w0 H := fun k q hk => h k q (by
  rw [List.getElem?_append_left (List.getElem?_eq_some_iff.mp hk).1]
  exact hk)
theorem g_fstD {A : Nat → Prop} {w0 wc : va_W} (h : va_D A (w0 ++ wc)) : va_D A w0 := by
  have hc : ∀ (k : Nat) (q : Nat × va_E), w0[k]? = some q → (w0 ++ wc)[k]? = some q := fun k q hk => by
    rw [List.getElem?_append_left (List.getElem?_eq_some_iff.mp hk).1]
    exact hk
  exact ⟨fun i j p q hi hj e => h.1 _ _ p q (hc i p hi) (hc j q hj) e, fun k q hk => h.2 _ q (hc k q hk)⟩
theorem g_apart {A : Nat → Prop} {sh sh2 : g_Sh} {dA dA2 : Nat → ClassId} {ad ad2 : Nat → Nat} {σ σ2 : g_S} (h : va_D A (g_w sh dA ad σ ++ g_w sh2 dA2 ad2 σ2)) : ∀ i j, i < sh.length → j < sh2.length → ad i ≠ ad2 j := by
  intro i j hi hj e
  have h1 : (g_w sh dA ad σ)[i]? = some (ad i, g_e dA ad σ i sh[i]) := g_w_at (List.getElem?_eq_getElem hi)
  have h2 : (g_w sh2 dA2 ad2 σ2)[j]? = some (ad2 j, g_e dA2 ad2 σ2 j sh2[j]) := g_w_at (List.getElem?_eq_getElem hj)
  have hl : i < (g_w sh dA ad σ).length := (List.getElem?_eq_some_iff.mp h1).1
  have e1 : (g_w sh dA ad σ ++ g_w sh2 dA2 ad2 σ2)[i]? = some (ad i, g_e dA ad σ i sh[i]) := by
    rw [List.getElem?_append_left hl]
    exact h1
  have e2 : (g_w sh dA ad σ ++ g_w sh2 dA2 ad2 σ2)[(g_w sh dA ad σ).length + j]? = some (ad2 j, g_e dA2 ad2 σ2 j sh2[j]) := by
    rw [List.getElem?_append_right (by omega), Nat.add_sub_cancel_left]
    exact h2
  have h3 := h.1 _ _ _ _ e1 e2 e
  omega
theorem g_arrK {D : va_G} {cl : List vw_C} {args : Array Value} {s : State} (hK : va_K D cl [] s) (h : (Cond.arrayClass .long).before args s = true) : ∃ c : ClassId, va_K D cl [(c, .long)] s := by
  obtain ⟨c, k, comp, h1, h2, h3⟩ := Cond.arrayClass_spec h
  refine ⟨c, hK.1, fun j q hq => ?_⟩
  match j, hq with
  | 0, hq =>
    cases hq
    exact ⟨fun N z => ⟨(fun q hq => by cases hq), k, h2, comp, h3⟩, h1⟩
  | j + 1, hq => simp at hq
set_option maxHeartbeats 4000000 in
set_option maxRecDepth 100000 in
theorem c_L_cell (l : Launch) (b L : Nat) (xs : Nat → Int32) (k : Int32) (hk : ¬ k < 0) (hL : L ≤ 2562) : Met l y_L_cell w_L_cell ({ frames := 0, cells := 0, slots := 0, locals := 0 }) (va_Pc [.ref b, .int k] (fun U => va_X b L xs U U.heap)) (vp_Si (fun r => r = if Int32.ofNat L ≤ k then 0 else xs k.toNatClampNeg)) 0 0 (fun _ => False) := by
  refine Met.ofW (cc := b_L_cell) (maxL := 2) (ret := (some .int)) (by decide) rfl ?_
  intro p e s m args below meth c s₁ B hml hv
  obtain ⟨rfl, hX⟩ := hv
  have hx := B.exec
  have hb := B.bytes
  have hr := B.returns
  have hlocks := B.notSynchronized
  have hS : va_S (fun _ => False) s.heap s.heap [] := va_S.rf
  have hbl : b < s.heap.size := by
    obtain ⟨scr, h1, -⟩ := hX
    exact (Array.getElem?_eq_some_iff.mp h1).1
  have hbA : ¬ (fun _ : Nat => False) b := fun h => h
  have hl := lv_entry ([.ref b, .int k]) (n := 2) (Nat.le_of_ble_eq_true rfl)
  rw [lg_entry_eq]
  generalize (lg_sl ([.ref b, .int k]) ++ List.replicate (2 - (lg_sl ([.ref b, .int k])).length) Slot.unset).toArray = ls at hl ⊢
  have hl : lv_has ls 2 [(0, .ref b), (1, .int k)] := hl
  refine lv_iload_n hx hb d_L_cell_0 rfl (lv_at hl 1 rfl) ?_
  refine lv_aload_n hx hb d_L_cell_1 rfl (lv_at hl 0 rfl) ?_
  refine va_slen hx hb hX hbl hbA hS d_L_cell_2 ?_
  refine lv_icmp_ge (tgt := 12) hx hb d_L_cell_3 (by decide) (fun c1 => ?_) (fun c1 => ?_)
  · refine lv_iconst (v := (0 : Int32)) hx hb d_L_cell_12 (by decide) ?_
    exact W.iret (v := 0) hx hb hr (fun t hh hW => ⟨_, rfl, (if_pos c1).symm, hh⟩) (fun _ h => by cases h) d_L_cell_13
  · have hin : vp_in k L := by
      intro q
      rcases q with q | q
      · exact hk q
      · apply c1
        rw [Int32.le_iff_toInt_le, Int32.toInt_ofNat_of_lt (by omega)]
        have h1 := Int32.toNat_toInt k
        have h2 := hk
        rw [Int32.lt_iff_toInt_lt] at h2
        have e0 : (0 : Int32).toInt = 0 := rfl
        omega
    refine lv_aload_n hx hb d_L_cell_6 rfl (lv_at hl 0 rfl) ?_
    refine lv_iload_n hx hb d_L_cell_7 rfl (lv_at hl 1 rfl) ?_
    refine va_sld hx hb hX hbl hbA hS hin d_L_cell_8 ?_
    refine lv_goto (tgt := 13) hx hb d_L_cell_9 (by decide) ?_
    exact W.iret (v := xs k.toNatClampNeg) hx hb hr (fun t hh hW => ⟨_, rfl, (if_neg c1).symm, hh⟩) (fun _ h => by cases h) d_L_cell_13
def v_0 (V : g_S → g_S → Nat → Prop) : Prop := ∀ a b : Int32, V (x_0 (if f_P_isSpacing a = 0 then 1 else a) (if b < 0 then 3 else if 100 < b then 3 else b)) (f_M_init a b) 0
theorem h_tab : ∀ j : Fin 49, Cond.eq (.elem (.static "RangedPool" "STEP_PRICES" "[I") (.int (Int32.ofNat j.val))) (.int (x_tab j.val)) ∈ flatC (Jvm.Cond.and given_1 narrow_1) := by decide +kernel
set_option maxHeartbeats 8000000 in
set_option maxRecDepth 100000 in
/-- the law from its entry, for every V that its calls keep -/
theorem start_open {V : g_S → g_S → Nat → Prop} (hV : v_calls V) (hV0 : v_0 V) {p : Program} {e : Env} {s : State} {m : MethodId} {below : List Frame} {meth : Method} {c : Code} (l : Launch) {b L : Nat} {xs : Nat → Int32} (hL : L ≤ 2562) (C0 : lw_At p s m meth c b L xs) : W p l e room_1 s m #[Value.ref b] below meth c s.heap [] 0 0 (lw_Z below #[Value.ref b] s) (entryFrame m ([Value.ref b] : List Value).toArray 4) := by
  obtain ⟨hx, hb, hr, hml, hown, hts, hX, hbl, hlocks, hgv⟩ := id C0
  have hown : s.vm.findClass "RangedPoolLaw" = some m.cls := hown
  have ht := fun (w : Cond) (h : w ∈ gA) => hts w (gA_in w h)
  have hA : ∀ q : Nat, s.heap.size ≤ q → (fun q : Nat => s.heap.size ≤ q) q := fun _ h => h
  have hbA : ¬ (fun q : Nat => s.heap.size ≤ q) b := Nat.not_le.mpr hbl
  have hs := flat_of_before _ hgv
  have hlen : (Term.length (.static "RangedPool" "STEP_PRICES" "[I")).eval #[Value.ref b] s none [] s = some (.int (Int32.ofNat 49)) := va_eqt (hs _ (by decide +kernel))
  obtain ⟨tb, htb, hT⟩ := va_Tof (A := (fun q : Nat => s.heap.size ≤ q)) (f := fun j => .int (x_tab j)) (N := 49) (ty := .int) (by decide) (hs (Cond.arrayOf (.static "RangedPool" "STEP_PRICES" "[I") .int) (by decide +kernel)) hlen (fun j hj => va_eqt (hs _ (h_tab ⟨j, hj⟩))) (fun a h => Nat.not_le.mpr h)
  have hzn : ∀ w ∈ x_nest, va_Nw w s := fun w hw => va_Nw.of (g_isN_tab (x_nestN w hw)) (hts w (x_nest_in w hw))
  have hz : x_Z tb (fun q : Nat => s.heap.size ≤ q) s := ⟨hzn, va_Zref (hts (.laysStatic "RangedPool" "STEP_PRICES" "[I") (by decide +kernel)) (ht _ kw1) htb (fun a h => Nat.not_le.mpr h), hT⟩
  have hAO : va_AO "RangedPool$Lot" s := va_AO.of (hts (.arrayOver (.object "RangedPool$Lot")) (by decide +kernel))
  have hAOA : va_AOA .long s := va_AOA.use (hts (.arrayOver (.array .long)) (by decide +kernel))
  obtain ⟨c0, iS0, hKn0⟩ := u_known (C := "RangedPool$History") (T := F_H) (N := 6) (n := 6) ht in_H (ht _ kw65)
  obtain ⟨c1, iS1, hKn1⟩ := u_known (C := "RangedPool$Lot") (T := F_T) (N := 7) (n := 7) ht in_T (ht _ kw26)
  obtain ⟨c2, iS2, hKn2⟩ := u_known (C := "RangedPool$LotBook") (T := F_B) (N := 1) (n := 1) ht in_B (ht _ kw19)
  obtain ⟨c3, iS3, hKn3⟩ := u_known (C := "RangedPool$Trade") (T := F_D) (N := 8) (n := 8) ht in_D (ht _ kw95)
  obtain ⟨c4, iS4, hKn4⟩ := u_known (C := "RangedPool") (T := F_P) (N := 10) (n := 10) ht in_P (ht _ kw9)
  obtain ⟨c5, iS5, hKn5⟩ := u_known (C := "RangedPoolModel") (T := F_M) (N := 26) (n := 26) ht in_M (ht _ kw453)
  obtain ⟨dC, dI, hKc⟩ : ∃ (dC : Nat → ClassId) (dI : Nat → Nat → Nat), ∀ (k : Nat) (q : vw_C), cls[k]? = some q → u_Kn s q.1 q.2.1 q.2.2 (dC k) (dI k) := by
    refine ⟨fun k => if k = 0 then c0 else if k = 1 then c1 else if k = 2 then c2 else if k = 3 then c3 else if k = 4 then c4 else c5, fun k => if k = 0 then iS0 else if k = 1 then iS1 else if k = 2 then iS2 else if k = 3 then iS3 else if k = 4 then iS4 else iS5, ?_⟩
    intro k q hq
    match k, hq with
    | 0, hq => cases hq; exact hKn0
    | 1, hq => cases hq; exact hKn1
    | 2, hq => cases hq; exact hKn2
    | 3, hq => cases hq; exact hKn3
    | 4, hq => cases hq; exact hKn4
    | 5, hq => cases hq; exact hKn5
    | k + 6, hq => simp [cls] at hq
  have hS : va_S (fun q : Nat => s.heap.size ≤ q) s.heap s.heap [] := va_S.rf
  have hK0 : va_K (dC, dI) cls [] s := ⟨hKc, fun k q h => by simp at h⟩
  obtain ⟨cL, hK⟩ := g_arrK hK0 (ht _ kw59)
  have hP : va_P (dC, dI) cls [] s.heap := fun k q h => by simp at h
  have hD : va_D (fun q : Nat => s.heap.size ≤ q) [] := ⟨fun i j p q h => by simp at h, fun k q h => by simp at h⟩
  have hl := lv_entry ([.ref b]) (n := 4) (Nat.le_of_ble_eq_true rfl)
  rw [lg_entry_eq]
  generalize (lg_sl ([.ref b]) ++ List.replicate (4 - (lg_sl ([.ref b])).length) Slot.unset).toArray = ls at hl ⊢
  have hl : lv_has ls 4 [(0, .ref b)] := hl
  refine va_new (ci := 4) (fs := [.int 0, .int 0, .null, .null, .null, .null, .null, .int 0, .int 0, .int 0]) (C := "RangedPool") (T := F_P) (N := 10) hx hb ht in_P yt_P yt_P_ok hown (ht _ kw8) (ht _ kw9) (ht _ kw1) hK hP hD hS hA rfl (fun j hj => by rcases (show j = 0 ∨ j = 1 ∨ j = 2 ∨ j = 3 ∨ j = 4 ∨ j = 5 ∨ j = 6 ∨ j = 7 ∨ j = 8 ∨ j = 9 by omega) with rfl | rfl | rfl | rfl | rfl | rfl | rfl | rfl | rfl | rfl <;> rfl) (Nat.le_of_ble_eq_true rfl) (Nat.le_of_ble_eq_true rfl) d_law_0 (fun qx H hP hD hS => ?_)
  refine lv_dup hx hb d_law_3 rfl ?_
  refine lv_aload_n hx hb d_law_4 rfl (lv_at hl 0 rfl) ?_
  refine lv_iconst (v := (0 : Int32)) hx hb d_law_5 (by decide) ?_
  refine g_cSiE (va_runS (As := [.ref b, .int (0 : Int32)]) (rest := [.ref qx, .ref qx]) ⟨hx, hb, hml, hown, ht⟩ (c_L_cell l b L xs 0 (by decide) hL) (va_cwS 2 ht gc_L_9 rfl rfl rfl (by decide +kernel) ⟨Nat.le_of_ble_eq_true rfl, Nat.le_of_ble_eq_true rfl⟩) ⟨fun a U g mk q => ⟨q.1, va_X.moved (u := U) (U := U.calling g mk a) (Vm.Alike.refl U.vm) q.2⟩, fun U hU hW => ⟨rfl, by show va_X b L xs U U.heap; rw [hU]; exact (va_X.moved hW.alike hX).kept (hS.2.1 b hbl hbA)⟩⟩ rfl rfl hl.1 rfl (lv_room (Nat.le_of_ble_eq_true rfl)) d_law_6 ⟨Nat.le_of_ble_eq_true rfl, Nat.le_of_ble_eq_true rfl⟩) ?_
  refine lv_aload_n hx hb d_law_9 rfl (lv_at hl 0 rfl) ?_
  refine lv_iconst (v := (1 : Int32)) hx hb d_law_10 (by decide) ?_
  refine g_cSiE (va_runS (As := [.ref b, .int (1 : Int32)]) (rest := [.int (if Int32.ofNat L ≤ (0 : Int32) then (0 : Int32) else xs (0 : Int32).toNatClampNeg), .ref qx, .ref qx]) ⟨hx, hb, hml, hown, ht⟩ (c_L_cell l b L xs 1 (by decide) hL) (va_cwS 2 ht gc_L_9 rfl rfl rfl (by decide +kernel) ⟨Nat.le_of_ble_eq_true rfl, Nat.le_of_ble_eq_true rfl⟩) ⟨fun a U g mk q => ⟨q.1, va_X.moved (u := U) (U := U.calling g mk a) (Vm.Alike.refl U.vm) q.2⟩, fun U hU hW => ⟨rfl, by show va_X b L xs U U.heap; rw [hU]; exact (va_X.moved hW.alike hX).kept (hS.2.1 b hbl hbA)⟩⟩ rfl rfl hl.1 rfl (lv_room (Nat.le_of_ble_eq_true rfl)) d_law_11 ⟨Nat.le_of_ble_eq_true rfl, Nat.le_of_ble_eq_true rfl⟩) ?_
  have hPc := g_lastP hP
  have hDc := g_lastD hD
  have hFc := g_lastF hD hS hA
  refine va_callv (va_runI (As := [.int (if Int32.ofNat L ≤ (0 : Int32) then (0 : Int32) else xs (0 : Int32).toNatClampNeg), .int (if Int32.ofNat L ≤ (1 : Int32) then (0 : Int32) else xs (1 : Int32).toNatClampNeg)]) (rest := [.ref qx]) ⟨hx, hb, hml, hown, ht⟩ (c_P_init l dC dI qx H.size cL (if Int32.ofNat L ≤ (0 : Int32) then (0 : Int32) else xs (0 : Int32).toNatClampNeg) (if Int32.ofNat L ≤ (1 : Int32) then (0 : Int32) else xs (1 : Int32).toNatClampNeg)) (cwI 2 ht gn_P_init rfl rfl rfl (ht _ kw1) (ht _ kw10) (ht _ kw11) rfl (by decide +kernel) ⟨Nat.le_of_ble_eq_true rfl, Nat.le_of_ble_eq_true rfl⟩) ⟨fun a U g mk q => by obtain ⟨q0, q1, qP, qK, qD, qZ, qZ2, qN⟩ := q; exact ⟨q0, q1, qP, va_K.moved (u := U) (U := U.calling g mk a) (Vm.Alike.refl U.vm) qK, qD, va_AO.moved (u := U) (U := U.calling g mk a) (Vm.Alike.refl U.vm) qZ, va_AOA.moved (u := U) (U := U.calling g mk a) (Vm.Alike.refl U.vm) qZ2, fun w hw => va_Nw.same (u := U) (U := U.calling g mk a) (g_isN_tab (x_nestN w hw)) rfl (qN w hw)⟩, fun U hU hW => ⟨rfl, by rw [hU], by rw [hU]; exact hPc, va_K.moved hW.alike hK, hDc.weaken (fun _ _ _ _ => trivial), va_AO.moved hW.alike hAO, va_AOA.moved hW.alike hAOA, fun w hw => g_isN_warm (x_nestN w hw) hW (hzn w hw)⟩⟩ rfl rfl hl.1 rfl (lv_room (Nat.le_of_ble_eq_true rfl)) d_law_14 ⟨Nat.le_of_ble_eq_true rfl, Nat.le_of_ble_eq_true rfl⟩) hS (fun q _ h => hFc q h) hFc (fun u t H1 locs ht0 hvm hwx hB hz1 hk1 hS => ?_)
  obtain ⟨adx, dX⟩ := u
  obtain ⟨hP1, hK1, hD1⟩ := hB
  rw [ht0] at hP1
  have hKx := va_K.moved hvm.symm hK1
  obtain ⟨hP, hD⟩ := g_joinE (w0 := []) hP hD hk1 hFc hP1 hD1
  generalize H1 = H at hP hS ⊢
  refine lv_astore_n (lv' := [(1, .ref qx), (0, .ref b)]) hx hb d_law_17 rfl hl (by decide) rfl (fun ls hl => ?_)
  refine va_new (ci := 5) (fs := [.int 0, .int 0, .null, .int 0, .long 0, .int 0, .null, .null, .null, .null, .null, .null, .null, .null, .null, .long 0, .long 0, .int 0, .null, .null, .long 0, .int 0, .long 0, .long 0, .long 0, .null]) (C := "RangedPoolModel") (T := F_M) (N := 26) hx hb ht in_M yt_M yt_M_ok hown (ht _ kw452) (ht _ kw453) (ht _ kw6) hK hP hD hS hA rfl (fun j hj => by rcases (show j = 0 ∨ j = 1 ∨ j = 2 ∨ j = 3 ∨ j = 4 ∨ j = 5 ∨ j = 6 ∨ j = 7 ∨ j = 8 ∨ j = 9 ∨ j = 10 ∨ j = 11 ∨ j = 12 ∨ j = 13 ∨ j = 14 ∨ j = 15 ∨ j = 16 ∨ j = 17 ∨ j = 18 ∨ j = 19 ∨ j = 20 ∨ j = 21 ∨ j = 22 ∨ j = 23 ∨ j = 24 ∨ j = 25 by omega) with rfl | rfl | rfl | rfl | rfl | rfl | rfl | rfl | rfl | rfl | rfl | rfl | rfl | rfl | rfl | rfl | rfl | rfl | rfl | rfl | rfl | rfl | rfl | rfl | rfl | rfl <;> rfl) (Nat.le_of_ble_eq_true rfl) (Nat.le_of_ble_eq_true rfl) d_law_18 (fun qm H hP hD hS => ?_)
  refine lv_dup hx hb d_law_21 rfl ?_
  refine lv_aload_n hx hb d_law_22 rfl (lv_at hl 1 rfl) ?_
  refine lv_iconst (v := (0 : Int32)) hx hb d_law_23 (by decide) ?_
  refine g_cSiE (va_runS (As := [.ref b, .int (0 : Int32)]) (rest := [.ref qm, .ref qm]) ⟨hx, hb, hml, hown, ht⟩ (c_L_cell l b L xs 0 (by decide) hL) (va_cwS 2 ht gc_L_9 rfl rfl rfl (by decide +kernel) ⟨Nat.le_of_ble_eq_true rfl, Nat.le_of_ble_eq_true rfl⟩) ⟨fun a U g mk q => ⟨q.1, va_X.moved (u := U) (U := U.calling g mk a) (Vm.Alike.refl U.vm) q.2⟩, fun U hU hW => ⟨rfl, by show va_X b L xs U U.heap; rw [hU]; exact (va_X.moved hW.alike hX).kept (hS.2.1 b hbl hbA)⟩⟩ rfl rfl hl.1 rfl (lv_room (Nat.le_of_ble_eq_true rfl)) d_law_24 ⟨Nat.le_of_ble_eq_true rfl, Nat.le_of_ble_eq_true rfl⟩) ?_
  refine lv_aload_n hx hb d_law_27 rfl (lv_at hl 1 rfl) ?_
  refine lv_iconst (v := (1 : Int32)) hx hb d_law_28 (by decide) ?_
  refine g_cSiE (va_runS (As := [.ref b, .int (1 : Int32)]) (rest := [.int (if Int32.ofNat L ≤ (0 : Int32) then (0 : Int32) else xs (0 : Int32).toNatClampNeg), .ref qm, .ref qm]) ⟨hx, hb, hml, hown, ht⟩ (c_L_cell l b L xs 1 (by decide) hL) (va_cwS 2 ht gc_L_9 rfl rfl rfl (by decide +kernel) ⟨Nat.le_of_ble_eq_true rfl, Nat.le_of_ble_eq_true rfl⟩) ⟨fun a U g mk q => ⟨q.1, va_X.moved (u := U) (U := U.calling g mk a) (Vm.Alike.refl U.vm) q.2⟩, fun U hU hW => ⟨rfl, by show va_X b L xs U U.heap; rw [hU]; exact (va_X.moved hW.alike hX).kept (hS.2.1 b hbl hbA)⟩⟩ rfl rfl hl.1 rfl (lv_room (Nat.le_of_ble_eq_true rfl)) d_law_29 ⟨Nat.le_of_ble_eq_true rfl, Nat.le_of_ble_eq_true rfl⟩) ?_
  have hPc := g_lastP hP
  have hDc := g_lastD hD
  have hFc := g_lastF hD hS hA
  refine va_callv (va_runI (As := [.int (if Int32.ofNat L ≤ (0 : Int32) then (0 : Int32) else xs (0 : Int32).toNatClampNeg), .int (if Int32.ofNat L ≤ (1 : Int32) then (0 : Int32) else xs (1 : Int32).toNatClampNeg)]) (rest := [.ref qm]) ⟨hx, hb, hml, hown, ht⟩ (c_M_init l dC dI qm H.size (if Int32.ofNat L ≤ (0 : Int32) then (0 : Int32) else xs (0 : Int32).toNatClampNeg) (if Int32.ofNat L ≤ (1 : Int32) then (0 : Int32) else xs (1 : Int32).toNatClampNeg)) (cwI 2 ht gn_M_init rfl rfl rfl (ht _ kw6) (ht _ kw454) (ht _ kw455) rfl (by decide +kernel) ⟨Nat.le_of_ble_eq_true rfl, Nat.le_of_ble_eq_true rfl⟩) ⟨fun a U g mk q => by obtain ⟨q0, q1, qP, qK, qD⟩ := q; exact ⟨q0, q1, qP, va_K.moved (u := U) (U := U.calling g mk a) (Vm.Alike.refl U.vm) qK, qD⟩, fun U hU hW => ⟨rfl, by rw [hU], by rw [hU]; exact hPc, va_K.moved hW.alike hK0, hDc.weaken (fun _ _ _ _ => trivial)⟩⟩ rfl rfl hl.1 rfl (lv_room (Nat.le_of_ble_eq_true rfl)) d_law_32 ⟨Nat.le_of_ble_eq_true rfl, Nat.le_of_ble_eq_true rfl⟩) hS (fun q _ h => hFc q h) hFc (fun u t H1 locs ht0 hvm hwm hB hz1 hk1 hS => ?_)
  obtain ⟨adr, dR⟩ := u
  obtain ⟨hP1, hK1, hD1⟩ := hB
  rw [ht0] at hP1
  have hKr := va_K.moved hvm.symm hK1
  obtain ⟨hP, hD⟩ := g_joinE hP hD hk1 hFc hP1 hD1
  generalize H1 = H at hP hS ⊢
  refine lv_astore_n (lv' := [(2, .ref qm), (1, .ref qx), (0, .ref b)]) hx hb d_law_35 rfl hl (by decide) rfl (fun ls hl => ?_)
  refine lv_iconst (v := (2 : Int32)) hx hb d_law_36 (by decide) ?_
  refine lv_istore_n (lv' := [(3, .int (2 : Int32)), (2, .ref qm), (1, .ref qx), (0, .ref b)]) hx hb d_law_37 rfl hl (by decide) rfl (fun ls hl => ?_)
  have hwx : adx 0 = qx := hwx
  have hwm : adr 0 = qm := hwm
  rw [← hwx, ← hwm] at hl
  have hPx := g_fstP hP
  have hDx := g_fstD hD
  have hPr := g_lastP hP
  have hDr := g_lastD hD
  exact law_loop hV hL C0 hKx hKr hz (g_apart hD) (L + 1) 0 _ _ H locs ls (Nat.zero_le L) (by omega) (hV0 _ _) hPx hDx hPr hDr hS (lv_sub hl [0, 3, 2, 1] rfl)
