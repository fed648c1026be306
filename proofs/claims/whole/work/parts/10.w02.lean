def f_P_observe_56_9 (σ : g_S) (ago : Int32) (r5 : Int32) : Int64 := (-1000000000 : Int64)
def k_P_observe_56_9 (σ : g_S) (ago : Int32) (r5 : Int32) : Prop := True
def f_P_observe_50_14 (σ : g_S) (ago : Int32) (r5 : Int32) (r12 : Int64) : Int64 := r12
def k_P_observe_50_14 (σ : g_S) (ago : Int32) (r5 : Int32) (r12 : Int64) : Prop := True
def f_P_observe_41_10 (σ : g_S) (ago : Int32) (r5 : Int32) : Int64 := (f_P_observe_50_14 σ ago r5 (f_H_sumAt σ ((σ.2 5 0) - ago.toInt64) (σ.1 0 9)))
def k_P_observe_41_10 (σ : g_S) (ago : Int32) (r5 : Int32) : Prop := (k_H_sumAt σ ((σ.2 5 0) - ago.toInt64) (σ.1 0 9)) ∧ (k_P_observe_50_14 σ ago r5 (f_H_sumAt σ ((σ.2 5 0) - ago.toInt64) (σ.1 0 9)))
def f_P_observe_35_7 (σ : g_S) (ago : Int32) (r5 : Int32) : Int64 := (if r5 = 0 then f_P_observe_56_9 σ ago r5 else f_P_observe_41_10 σ ago r5)
def k_P_observe_35_7 (σ : g_S) (ago : Int32) (r5 : Int32) : Prop := (if r5 = 0 then k_P_observe_56_9 σ ago r5 else k_P_observe_41_10 σ ago r5)
def f_P_observe_19_4 (σ : g_S) (ago : Int32) : Int64 := (f_P_observe_35_7 σ ago (f_H_reaches σ ((σ.2 5 0) - ago.toInt64)))
def k_P_observe_19_4 (σ : g_S) (ago : Int32) : Prop := (k_P_observe_35_7 σ ago (f_H_reaches σ ((σ.2 5 0) - ago.toInt64)))
def f_P_observe_15_15 (σ : g_S) (ago : Int32) : Int64 := (-2 : Int64)
def k_P_observe_15_15 (σ : g_S) (ago : Int32) : Prop := True
def f_P_observe_11_2 (σ : g_S) (ago : Int32) : Int64 := (if 0 ≤ ago then f_P_observe_19_4 σ ago else f_P_observe_15_15 σ ago)
def k_P_observe_11_2 (σ : g_S) (ago : Int32) : Prop := (if 0 ≤ ago then k_P_observe_19_4 σ ago else k_P_observe_15_15 σ ago)
def f_P_observe_7_16 (σ : g_S) (ago : Int32) : Int64 := (-1 : Int64)
def k_P_observe_7_16 (σ : g_S) (ago : Int32) : Prop := True
def f_P_observe (σ : g_S) (ago : Int32) : Int64 := (if (σ.1 0 7) = 0 then f_P_observe_7_16 σ ago else f_P_observe_11_2 σ ago)
def k_P_observe (σ : g_S) (ago : Int32) : Prop := (if (σ.1 0 7) = 0 then k_P_observe_7_16 σ ago else k_P_observe_11_2 σ ago)
set_option maxHeartbeats 4000000 in
set_option maxRecDepth 100000 in
theorem c_P_observe (l : Launch) (dC : Nat → ClassId) (dI : Nat → Nat → Nat) (dA : Nat → ClassId) (ad : Nat → Nat) (tb : Nat) (σ : g_S) (ago : Int32) (hQ : k_P_observe σ ago) : Met l y_P_observe w_P_observe ({ frames := 1, cells := 0, slots := 0, locals := 29 }) (va_Pc [.ref (ad 0), .int ago] (g_R (dC, dI) cls (x_tys dA) (g_w x_sh dA ad σ) (x_Z tb))) (vp_Sl (fun r => r = f_P_observe σ ago)) 0 0 (fun _ => False) := by
  refine Met.ofW (cc := b_P_observe) (maxL := 4) (ret := (some .long)) (by decide) rfl ?_
  intro p e s m args below meth c s₁ B hml hv
  obtain ⟨rfl, hP, hK, hz⟩ := hv
  have hx := B.exec
  have hb := B.bytes
  have hr := B.returns
  have hts := atoms_spec (ws := w_P_observe) B.pre
  have ht := fun (w : Cond) (h : w ∈ gA) => hts w (List.mem_cons_of_mem _ h)
  have hown : s.vm.findClass "RangedPool" = some m.cls := findClass_of_methodNamed B.named
  have hlocks := B.notSynchronized
  have hS : va_S (fun _ => False) s.heap s.heap [] := va_S.rf
  have hl := lv_entry ([.ref (ad 0), .int ago]) (n := 4) (Nat.le_of_ble_eq_true rfl)
  rw [lg_entry_eq]
  generalize (lg_sl ([.ref (ad 0), .int ago]) ++ List.replicate (4 - (lg_sl ([.ref (ad 0), .int ago])).length) Slot.unset).toArray = ls at hl ⊢
  have hl : lv_has ls 4 [(0, .ref (ad 0)), (1, .int ago)] := hl
  have hF : f_P_observe σ ago = f_P_observe σ ago := rfl
  refine lv_aload_n hx hb d_P_observe_0 rfl (lv_at hl 0 rfl) ?_
  refine g_get hx hb ht in_P hown hK hP (0) x_at0 rfl 7 (by decide) rfl (ht _ kw136) (fun _ h9 => h9) (v := .int (σ.1 0 7)) rfl d_P_observe_1 ?_
  refine lv_if_ne (tgt := 11) hx hb d_P_observe_4 (by decide) (fun c1 => ?_) (fun c1 => ?_)
  ·
    have c1 : ¬ ((σ.1 0 7) = 0) := c1
    have hF : f_P_observe σ ago = f_P_observe_11_2 σ ago := hF.trans (if_neg c1)
    have hQ : k_P_observe_11_2 σ ago := Eq.mp (if_neg c1) hQ
    refine lv_iload_n hx hb d_P_observe_11 rfl (lv_at hl 1 rfl) ?_
    refine lv_if_ge (tgt := 19) hx hb d_P_observe_12 (by decide) (fun c3 => ?_) (fun c3 => ?_)
    ·
      have c3 : 0 ≤ ago := c3
      have hF : f_P_observe σ ago = f_P_observe_19_4 σ ago := hF.trans (if_pos c3)
      have hQ : k_P_observe_19_4 σ ago := Eq.mp (if_pos c3) hQ
      refine lv_aload_n hx hb d_P_observe_19 rfl (lv_at hl 0 rfl) ?_
      refine g_get hx hb ht in_P hown hK hP (0) x_at0 rfl 5 (by decide) rfl (ht _ kw134) (fun _ h9 => h9) (v := .ref (ad 5)) rfl d_P_observe_20 ?_
      refine g_getN hx hb ht in_H hown hK hP (5) x_at5 rfl 0 (by decide) rfl (va_Nw.use rfl (hz.1 _ nk71)) (fun _ h9 => h9) (v := .long (σ.2 5 0)) rfl d_P_observe_23 ?_
      refine lv_iload_n hx hb d_P_observe_26 rfl (lv_at hl 1 rfl) ?_
      refine lv_i2l (v := ago.toInt64) hx hb d_P_observe_27 rfl ?_
      refine lv_lsub hx hb d_P_observe_28 ?_
      refine lv_lstore_n (lv' := [(2, .long ((σ.2 5 0) - ago.toInt64)), (0, .ref (ad 0)), (1, .int ago)]) hx hb d_P_observe_29 rfl hl (by decide) rfl (fun ls hl => ?_)
      refine lv_aload_n hx hb d_P_observe_30 rfl (lv_at hl 1 rfl) ?_
      refine g_get hx hb ht in_P hown hK hP (0) x_at0 rfl 5 (by decide) rfl (ht _ kw134) (fun _ h9 => h9) (v := .ref (ad 5)) rfl d_P_observe_31 ?_
      refine lv_lload_n hx hb d_P_observe_34 rfl (lv_at hl 0 rfl) ?_
      refine g_cSi (va_runVN (host := "RangedPool") (As := [.long ((σ.2 5 0) - ago.toInt64)]) (rest := []) ⟨hx, hb, hml, hown, ht⟩ (c_H_reaches l dC dI dA ad tb σ ((σ.2 5 0) - ago.toInt64)) ⟨va_cnB 1 ht gn_H_reaches rfl rfl rfl (hz.1 _ nk408) (ht _ kw4) (by decide +kernel) ⟨Nat.le_of_ble_eq_true rfl, Nat.le_of_ble_eq_true rfl⟩, ht _ kw410, ht _ ks36⟩ (g_pV (g_prR x_Zok hK hP hS hz _) (g_rc hK hP (5) x_at5 rfl)) rfl rfl hl.1 rfl (lv_room (Nat.le_of_ble_eq_true rfl)) d_P_observe_35 ⟨Nat.le_of_ble_eq_true rfl, Nat.le_of_ble_eq_true rfl⟩) (fun r5 e6 => ?_)
      have hF : f_P_observe σ ago = f_P_observe_35_7 σ ago r5 := hF.trans (by rw [e6]; try rfl)
      have hQ : k_P_observe_35_7 σ ago r5 := by rw [e6]; exact hQ
      refine lv_if_eq (tgt := 56) hx hb d_P_observe_38 (by decide) (fun c8 => ?_) (fun c8 => ?_)
      ·
        have c8 : r5 = 0 := c8
        have hF : f_P_observe σ ago = f_P_observe_56_9 σ ago r5 := hF.trans (if_pos c8)
        have hQ : k_P_observe_56_9 σ ago r5 := Eq.mp (if_pos c8) hQ
        refine lv_ldc2 (v := (-1000000000 : Int64)) hx hb hown (ht _ kw416) d_P_observe_56 ?_
        exact W.lret (v := (-1000000000 : Int64)) hx hb hr (fun t hh hW => ⟨_, rfl, hF.symm, hh⟩) (fun _ h => by cases h) d_P_observe_59
      ·
        have c8 : ¬ (r5 = 0) := c8
        have hF : f_P_observe σ ago = f_P_observe_41_10 σ ago r5 := hF.trans (if_neg c8)
        have hQ : k_P_observe_41_10 σ ago r5 := Eq.mp (if_neg c8) hQ
        refine lv_aload_n hx hb d_P_observe_41 rfl (lv_at hl 1 rfl) ?_
        refine g_get hx hb ht in_P hown hK hP (0) x_at0 rfl 5 (by decide) rfl (ht _ kw134) (fun _ h9 => h9) (v := .ref (ad 5)) rfl d_P_observe_42 ?_
        refine lv_lload_n hx hb d_P_observe_45 rfl (lv_at hl 0 rfl) ?_
        refine lv_aload_n hx hb d_P_observe_46 rfl (lv_at hl 1 rfl) ?_
        refine g_get hx hb ht in_P hown hK hP (0) x_at0 rfl 9 (by decide) rfl (ht _ kw138) (fun _ h9 => h9) (v := .int (σ.1 0 9)) rfl d_P_observe_47 ?_
        obtain ⟨hs11, hQ⟩ := hQ
        refine g_cSl (va_runVN (host := "RangedPool") (As := [.long ((σ.2 5 0) - ago.toInt64), .int (σ.1 0 9)]) (rest := []) ⟨hx, hb, hml, hown, ht⟩ (c_H_sumAt l dC dI dA ad tb σ ((σ.2 5 0) - ago.toInt64) (σ.1 0 9) hs11) ⟨va_cnB 2 ht gn_H_sumAt rfl rfl rfl (hz.1 _ nk412) (ht _ kw4) (by decide +kernel) ⟨Nat.le_of_ble_eq_true rfl, Nat.le_of_ble_eq_true rfl⟩, ht _ kw414, ht _ ks37⟩ (g_pV (g_prR x_Zok hK hP hS hz _) (g_rc hK hP (5) x_at5 rfl)) rfl rfl hl.1 rfl (lv_room (Nat.le_of_ble_eq_true rfl)) d_P_observe_50 ⟨Nat.le_of_ble_eq_true rfl, Nat.le_of_ble_eq_true rfl⟩) (fun r12 e13 => ?_)
        have hF : f_P_observe σ ago = f_P_observe_50_14 σ ago r5 r12 := hF.trans (by rw [e13]; try rfl)
        have hQ : k_P_observe_50_14 σ ago r5 r12 := by rw [e13]; exact hQ
        refine lv_goto (tgt := 59) hx hb d_P_observe_53 (by decide) ?_
        exact W.lret (v := r12) hx hb hr (fun t hh hW => ⟨_, rfl, hF.symm, hh⟩) (fun _ h => by cases h) d_P_observe_59
    ·
      have c3 : ¬ (0 ≤ ago) := c3
      have hF : f_P_observe σ ago = f_P_observe_15_15 σ ago := hF.trans (if_neg c3)
      have hQ : k_P_observe_15_15 σ ago := Eq.mp (if_neg c3) hQ
      refine lv_ldc2 (v := (-2 : Int64)) hx hb hown (ht _ kw201) d_P_observe_15 ?_
      exact W.lret (v := (-2 : Int64)) hx hb hr (fun t hh hW => ⟨_, rfl, hF.symm, hh⟩) (fun _ h => by cases h) d_P_observe_18
  ·
    have c1 : (σ.1 0 7) = 0 := c1
    have hF : f_P_observe σ ago = f_P_observe_7_16 σ ago := hF.trans (if_pos c1)
    have hQ : k_P_observe_7_16 σ ago := Eq.mp (if_pos c1) hQ
    refine lv_ldc2 (v := (-1 : Int64)) hx hb hown (ht _ kw195) d_P_observe_7 ?_
    exact W.lret (v := (-1 : Int64)) hx hb hr (fun t hh hW => ⟨_, rfl, hF.symm, hh⟩) (fun _ h => by cases h) d_P_observe_10
def f_P_price (σ : g_S) : Int32 := σ.1 0 8
set_option maxHeartbeats 4000000 in
set_option maxRecDepth 100000 in
theorem c_P_price (l : Launch) (dC : Nat → ClassId) (dI : Nat → Nat → Nat) (dA : Nat → ClassId) (ad : Nat → Nat) (tb : Nat) (σ : g_S) : Met l y_P_price w_P_price ({ frames := 0, cells := 0, slots := 0, locals := 0 }) (va_Pc [.ref (ad 0)] (g_R (dC, dI) cls (x_tys dA) (g_w x_sh dA ad σ) (x_Z tb))) (vp_Si (fun r => r = f_P_price σ)) 0 0 (fun _ => False) := by
  refine Met.ofW (cc := b_P_price) (maxL := 1) (ret := (some .int)) (by decide) rfl ?_
  intro p e s m args below meth c s₁ B hml hv
  obtain ⟨rfl, hP, hK, hz⟩ := hv
  have hx := B.exec
  have hb := B.bytes
  have hr := B.returns
  have hts := atoms_spec (ws := w_P_price) B.pre
  have ht := fun (w : Cond) (h : w ∈ gA) => hts w (List.mem_cons_of_mem _ h)
  have hown : s.vm.findClass "RangedPool" = some m.cls := findClass_of_methodNamed B.named
  have hlocks := B.notSynchronized
  have hS : va_S (fun _ => False) s.heap s.heap [] := va_S.rf
  have hl := lv_entry ([.ref (ad 0)]) (n := 1) (Nat.le_of_ble_eq_true rfl)
  rw [lg_entry_eq]
  generalize (lg_sl ([.ref (ad 0)]) ++ List.replicate (1 - (lg_sl ([.ref (ad 0)])).length) Slot.unset).toArray = ls at hl ⊢
  have hl : lv_has ls 1 [(0, .ref (ad 0))] := hl
  have hF : f_P_price σ = f_P_price σ := rfl
  refine lv_aload_n hx hb d_P_price_0 rfl (lv_at hl 0 rfl) ?_
  refine g_get hx hb ht in_P hown hK hP (0) x_at0 rfl 8 (by decide) rfl (ht _ kw137) (fun _ h9 => h9) (v := .int (σ.1 0 8)) rfl d_P_price_1 ?_
  exact W.iret (v := σ.1 0 8) hx hb hr (fun t hh hW => ⟨_, rfl, hF.symm, hh⟩) (fun _ h => by cases h) d_P_price_4
def f_P_step (σ : g_S) : Int32 := σ.1 0 9
set_option maxHeartbeats 4000000 in
set_option maxRecDepth 100000 in
theorem c_P_step (l : Launch) (dC : Nat → ClassId) (dI : Nat → Nat → Nat) (dA : Nat → ClassId) (ad : Nat → Nat) (tb : Nat) (σ : g_S) : Met l y_P_step w_P_step ({ frames := 0, cells := 0, slots := 0, locals := 0 }) (va_Pc [.ref (ad 0)] (g_R (dC, dI) cls (x_tys dA) (g_w x_sh dA ad σ) (x_Z tb))) (vp_Si (fun r => r = f_P_step σ)) 0 0 (fun _ => False) := by
  refine Met.ofW (cc := b_P_step) (maxL := 1) (ret := (some .int)) (by decide) rfl ?_
  intro p e s m args below meth c s₁ B hml hv
  obtain ⟨rfl, hP, hK, hz⟩ := hv
  have hx := B.exec
  have hb := B.bytes
  have hr := B.returns
  have hts := atoms_spec (ws := w_P_step) B.pre
  have ht := fun (w : Cond) (h : w ∈ gA) => hts w (List.mem_cons_of_mem _ h)
  have hown : s.vm.findClass "RangedPool" = some m.cls := findClass_of_methodNamed B.named
  have hlocks := B.notSynchronized
  have hS : va_S (fun _ => False) s.heap s.heap [] := va_S.rf
  have hl := lv_entry ([.ref (ad 0)]) (n := 1) (Nat.le_of_ble_eq_true rfl)
  rw [lg_entry_eq]
  generalize (lg_sl ([.ref (ad 0)]) ++ List.replicate (1 - (lg_sl ([.ref (ad 0)])).length) Slot.unset).toArray = ls at hl ⊢
  have hl : lv_has ls 1 [(0, .ref (ad 0))] := hl
  have hF : f_P_step σ = f_P_step σ := rfl
  refine lv_aload_n hx hb d_P_step_0 rfl (lv_at hl 0 rfl) ?_
  refine g_get hx hb ht in_P hown hK hP (0) x_at0 rfl 9 (by decide) rfl (ht _ kw138) (fun _ h9 => h9) (v := .int (σ.1 0 9)) rfl d_P_step_1 ?_
  exact W.iret (v := σ.1 0 9) hx hb hr (fun t hh hW => ⟨_, rfl, hF.symm, hh⟩) (fun _ h => by cases h) d_P_step_4
def f_T_isInRange_20_2 (σ : g_S) (k : Nat) (n : Int32) : Int32 := (0 : Int32)
def f_T_isInRange_20_5 (σ : g_S) (k : Nat) (n : Int32) : Int32 := (0 : Int32)
def f_T_isInRange_16_6 (σ : g_S) (k : Nat) (n : Int32) : Int32 := (1 : Int32)
def f_T_isInRange_8_3 (σ : g_S) (k : Nat) (n : Int32) : Int32 := (if (σ.1 (k + 14) 2) ≤ n then f_T_isInRange_20_5 σ k n else f_T_isInRange_16_6 σ k n)
def f_T_isInRange (σ : g_S) (k : Nat) (n : Int32) : Int32 := (if n < (σ.1 (k + 14) 1) then f_T_isInRange_20_2 σ k n else f_T_isInRange_8_3 σ k n)
set_option maxHeartbeats 4000000 in
set_option maxRecDepth 100000 in
theorem c_T_isInRange (l : Launch) (dC : Nat → ClassId) (dI : Nat → Nat → Nat) (dA : Nat → ClassId) (ad : Nat → Nat) (tb : Nat) (σ : g_S) (k : Nat) (n : Int32) (hk : k < 10) : Met l y_T_isInRange w_T_isInRange ({ frames := 0, cells := 0, slots := 0, locals := 0 }) (va_Pc [.ref (ad (k + 14)), .int n] (g_R (dC, dI) cls (x_tys dA) (g_w x_sh dA ad σ) (x_Z tb))) (vp_Si (fun r => r = f_T_isInRange σ k n)) 0 0 (fun _ => False) := by
  refine Met.ofW (cc := b_T_isInRange) (maxL := 2) (ret := (some .boolean)) (by decide) rfl ?_
  intro p e s m args below meth c s₁ B hml hv
  obtain ⟨rfl, hP, hK, hz⟩ := hv
  have hx := B.exec
  have hb := B.bytes
  have hr := B.returns
  have hts := atoms_spec (ws := w_T_isInRange) B.pre
  have ht := fun (w : Cond) (h : w ∈ gA) => hts w (List.mem_cons_of_mem _ h)
  have hown : s.vm.findClass "RangedPool$Lot" = some m.cls := findClass_of_methodNamed B.named
  have hlocks := B.notSynchronized
  have hS : va_S (fun _ => False) s.heap s.heap [] := va_S.rf
  have hl := lv_entry ([.ref (ad (k + 14)), .int n]) (n := 2) (Nat.le_of_ble_eq_true rfl)
  rw [lg_entry_eq]
  generalize (lg_sl ([.ref (ad (k + 14)), .int n]) ++ List.replicate (2 - (lg_sl ([.ref (ad (k + 14)), .int n])).length) Slot.unset).toArray = ls at hl ⊢
  have hl : lv_has ls 2 [(0, .ref (ad (k + 14))), (1, .int n)] := hl
  have hF : f_T_isInRange σ k n = f_T_isInRange σ k n := rfl
  refine lv_aload_n hx hb d_T_isInRange_0 rfl (lv_at hl 0 rfl) ?_
  refine g_get hx hb ht in_T hown hK hP (k + 14) (x_at14 hk) rfl 1 (by decide) rfl (ht _ kw32) (fun _ h9 => h9) (v := .int (σ.1 (k + 14) 1)) rfl d_T_isInRange_1 ?_
  refine lv_iload_n hx hb d_T_isInRange_4 rfl (lv_at hl 1 rfl) ?_
  refine lv_icmp_gt (tgt := 20) hx hb d_T_isInRange_5 (by decide) (fun c1 => ?_) (fun c1 => ?_)
  ·
    have c1 : n < (σ.1 (k + 14) 1) := c1
    have hF : f_T_isInRange σ k n = f_T_isInRange_20_2 σ k n := hF.trans (if_pos c1)
    refine lv_iconst (v := (0 : Int32)) hx hb d_T_isInRange_20 (by decide) ?_
    exact W.zret (ty := .boolean) (v := (0 : Int32)) hx hb hr (g_zr (by decide)) (fun t hh hW => ⟨_, rfl, hF.symm, hh⟩) (fun _ h => by cases h) d_T_isInRange_21
  ·
    have c1 : ¬ (n < (σ.1 (k + 14) 1)) := c1
    have hF : f_T_isInRange σ k n = f_T_isInRange_8_3 σ k n := hF.trans (if_neg c1)
    refine lv_iload_n hx hb d_T_isInRange_8 rfl (lv_at hl 1 rfl) ?_
    refine lv_aload_n hx hb d_T_isInRange_9 rfl (lv_at hl 0 rfl) ?_
    refine g_get hx hb ht in_T hown hK hP (k + 14) (x_at14 hk) rfl 2 (by decide) rfl (ht _ kw34) (fun _ h9 => h9) (v := .int (σ.1 (k + 14) 2)) rfl d_T_isInRange_10 ?_
    refine lv_icmp_ge (tgt := 20) hx hb d_T_isInRange_13 (by decide) (fun c4 => ?_) (fun c4 => ?_)
    ·
      have c4 : (σ.1 (k + 14) 2) ≤ n := c4
      have hF : f_T_isInRange σ k n = f_T_isInRange_20_5 σ k n := hF.trans (if_pos c4)
      refine lv_iconst (v := (0 : Int32)) hx hb d_T_isInRange_20 (by decide) ?_
      exact W.zret (ty := .boolean) (v := (0 : Int32)) hx hb hr (g_zr (by decide)) (fun t hh hW => ⟨_, rfl, hF.symm, hh⟩) (fun _ h => by cases h) d_T_isInRange_21
    ·
      have c4 : ¬ ((σ.1 (k + 14) 2) ≤ n) := c4
      have hF : f_T_isInRange σ k n = f_T_isInRange_16_6 σ k n := hF.trans (if_neg c4)
      refine lv_iconst (v := (1 : Int32)) hx hb d_T_isInRange_16 (by decide) ?_
      refine lv_goto (tgt := 21) hx hb d_T_isInRange_17 (by decide) ?_
      exact W.zret (ty := .boolean) (v := (1 : Int32)) hx hb hr (g_zr (by decide)) (fun t hh hW => ⟨_, rfl, hF.symm, hh⟩) (fun _ h => by cases h) d_T_isInRange_21
def f_B_depthAt_53_5 (σ : g_S) (n : Int32) (b2 : Int64) : Int64 := b2
def f_B_depthAt_L16 (σ : g_S) (n : Int32) : Nat → Nat → Int64 → Int64
  | 0, jk, a1 => (a1)
  | jn + 1, jk, a1 => f_B_depthAt_L16 σ n jn (jk + 1) (if (f_T_isInRange σ jk n) = 0 then a1 else a1 + (σ.2 (jk + 14) 3))
def f_B_depthAt (σ : g_S) (n : Int32) : Int64 := (f_B_depthAt_53_5 σ n (f_B_depthAt_L16 σ n 10 0 (0 : Int64)))
set_option maxHeartbeats 4000000 in
set_option maxRecDepth 100000 in
theorem c_B_depthAt (l : Launch) (dC : Nat → ClassId) (dI : Nat → Nat → Nat) (dA : Nat → ClassId) (ad : Nat → Nat) (tb : Nat) (σ : g_S) (n : Int32) : Met l y_B_depthAt w_B_depthAt ({ frames := 1, cells := 0, slots := 0, locals := 21 }) (va_Pc [.ref (ad 3), .int n] (g_R (dC, dI) cls (x_tys dA) (g_w x_sh dA ad σ) (x_Z tb))) (vp_Sl (fun r => r = f_B_depthAt σ n)) 0 0 (fun _ => False) := by
  refine Met.ofW (cc := b_B_depthAt) (maxL := 8) (ret := (some .long)) (by decide) rfl ?_
  intro p e s m args below meth c s₁ B hml hv
  obtain ⟨rfl, hP, hK, hz⟩ := hv
  have hx := B.exec
  have hb := B.bytes
  have hr := B.returns
  have hts := atoms_spec (ws := w_B_depthAt) B.pre
  have ht := fun (w : Cond) (h : w ∈ gA) => hts w (List.mem_cons_of_mem _ h)
  have hown : s.vm.findClass "RangedPool$LotBook" = some m.cls := findClass_of_methodNamed B.named
  have hlocks := B.notSynchronized
  have hS : va_S (fun _ => False) s.heap s.heap [] := va_S.rf
  have hl := lv_entry ([.ref (ad 3), .int n]) (n := 8) (Nat.le_of_ble_eq_true rfl)
  rw [lg_entry_eq]
  generalize (lg_sl ([.ref (ad 3), .int n]) ++ List.replicate (8 - (lg_sl ([.ref (ad 3), .int n])).length) Slot.unset).toArray = ls at hl ⊢
  have hl : lv_has ls 8 [(0, .ref (ad 3)), (1, .int n)] := hl
  have hF : f_B_depthAt σ n = f_B_depthAt σ n := rfl
  refine lv_lconst (v := (0 : Int64)) hx hb d_B_depthAt_0 (by decide) ?_
  refine lv_lstore_n (lv' := [(2, .long (0 : Int64)), (0, .ref (ad 3)), (1, .int n)]) hx hb d_B_depthAt_1 rfl hl (by decide) rfl (fun ls hl => ?_)
  refine lv_aload_n hx hb d_B_depthAt_2 rfl (lv_at hl 1 rfl) ?_
  refine g_get hx hb ht in_B hown hK hP (3) x_at3 rfl 0 (by decide) rfl (ht _ kw60) (fun _ h9 => h9) (v := .ref (ad 4)) rfl d_B_depthAt_3 ?_
  refine lv_astore (lv' := [(4, .ref (ad 4)), (2, .long (0 : Int64)), (0, .ref (ad 3)), (1, .int n)]) hx hb d_B_depthAt_6 hl (by decide) rfl (fun ls hl => ?_)
  refine lv_aload hx hb d_B_depthAt_8 (lv_at hl 0 rfl) ?_
  refine g_alen (v := (10 : Int32)) hx hb hK hP 4 x_at4 rfl rfl d_B_depthAt_10 ?_
  refine lv_istore (lv' := [(5, .int (10 : Int32)), (4, .ref (ad 4)), (2, .long (0 : Int64)), (0, .ref (ad 3)), (1, .int n)]) hx hb d_B_depthAt_11 hl (by decide) rfl (fun ls hl => ?_)
  refine lv_iconst (v := (0 : Int32)) hx hb d_B_depthAt_13 (by decide) ?_
  refine lv_istore (lv' := [(6, .int (0 : Int32)), (5, .int (10 : Int32)), (4, .ref (ad 4)), (2, .long (0 : Int64)), (0, .ref (ad 3)), (1, .int n)]) hx hb d_B_depthAt_14 hl (by decide) rfl (fun ls hl => ?_)
  have J53_3 : ∀ (b2 : Int64) (ls : Array Slot), b2 = (f_B_depthAt_L16 σ n 10 0 (0 : Int64)) → lv_has ls 8 [(2, .long b2)] → W p l e (headSpec w_B_depthAt ({ frames := 1, cells := 0, slots := 0, locals := 21 })).room s m ([.ref (ad 3), .int n] : List Value).toArray below meth c s.heap [] 0 0 (MQ below (vp_Sl (fun r => r = f_B_depthAt σ n)) ([.ref (ad 3), .int n] : List Value).toArray s 0 0 (fun _ => False)) (F0 m 53 ls []) := by
    intro b2 ls e4 hl
    have hF : f_B_depthAt σ n = f_B_depthAt_53_5 σ n b2 := hF.trans (by rw [e4]; try rfl)
    refine lv_lload_n hx hb d_B_depthAt_53 rfl (lv_at hl 0 rfl) ?_
    exact W.lret (v := b2) hx hb hr (fun t hh hW => ⟨_, rfl, hF.symm, hh⟩) (fun _ h => by cases h) d_B_depthAt_54
  have LL16_6 : ∀ (jn : Nat) (jk : Nat) (a1 : Int64) (ls : Array Slot), jk + jn = 10 → f_B_depthAt_L16 σ n 10 0 (0 : Int64) = f_B_depthAt_L16 σ n jn jk a1 → lv_has ls 8 [(6, .int (Int32.ofNat jk)), (5, .int (10 : Int32)), (4, .ref (ad 4)), (2, .long a1), (1, .int n)] → W p l e (headSpec w_B_depthAt ({ frames := 1, cells := 0, slots := 0, locals := 21 })).room s m ([.ref (ad 3), .int n] : List Value).toArray below meth c s.heap [] 0 0 (MQ below (vp_Sl (fun r => r = f_B_depthAt σ n)) ([.ref (ad 3), .int n] : List Value).toArray s 0 0 (fun _ => False)) (F0 m 16 ls []) := by
    intro jn
    induction jn with
    | zero =>
      intro jk a1 ls hkn hF hl
      have hF : f_B_depthAt_L16 σ n 10 0 (0 : Int64) = (a1) := hF
      skip
      refine lv_iload hx hb d_B_depthAt_16 (lv_at hl 0 rfl) ?_
      refine lv_iload hx hb d_B_depthAt_18 (lv_at hl 1 rfl) ?_
      refine lv_icmp_ge (tgt := 53) hx hb d_B_depthAt_20 (by decide) (fun _ => ?_) (fun c7 => absurd (g_geN (N := 10) (by omega)) c7)
      exact J53_3 a1 ls hF.symm (lv_sub hl [3] rfl)
    | succ jn ih =>
      intro jk a1 ls hkn hF hl
      have hF : f_B_depthAt_L16 σ n 10 0 (0 : Int64) = f_B_depthAt_L16 σ n jn (jk + 1) (if (f_T_isInRange σ jk n) = 0 then a1 else a1 + (σ.2 (jk + 14) 3)) := hF
      skip
      refine lv_iload hx hb d_B_depthAt_16 (lv_at hl 0 rfl) ?_
      refine lv_iload hx hb d_B_depthAt_18 (lv_at hl 1 rfl) ?_
      refine lv_icmp_ge (tgt := 53) hx hb d_B_depthAt_20 (by decide) (fun c8 => absurd c8 (g_lt (N := 10) (by omega) (by decide))) (fun _ => ?_)
      refine lv_aload hx hb d_B_depthAt_23 (lv_at hl 2 rfl) ?_
      refine lv_iload hx hb d_B_depthAt_25 (lv_at hl 0 rfl) ?_
      refine g_aald hx hb hK hP 4 x_at4 rfl rfl (g_eix rfl (by omega) (by omega)) (z := jk + 14) (x_el4 (g_ena rfl (by omega)) (by omega)) d_B_depthAt_27 ?_
      refine lv_astore (lv' := [(7, .ref (ad (jk + 14))), (6, .int (Int32.ofNat jk)), (5, .int (10 : Int32)), (4, .ref (ad 4)), (2, .long a1), (1, .int n)]) hx hb d_B_depthAt_28 hl (by decide) rfl (fun ls hl => ?_)
      refine lv_aload hx hb d_B_depthAt_30 (lv_at hl 0 rfl) ?_
      refine lv_iload_n hx hb d_B_depthAt_32 rfl (lv_at hl 5 rfl) ?_
      refine g_cSiE (va_runVN (host := "RangedPool") (As := [.int n]) (rest := []) ⟨hx, hb, hml, hown, ht⟩ (c_T_isInRange l dC dI dA ad tb σ jk n (by omega)) ⟨va_cnB 1 ht gn_T_isInRange rfl rfl rfl (hz.1 _ nk327) (ht _ kw3) (by decide +kernel) ⟨Nat.le_of_ble_eq_true rfl, Nat.le_of_ble_eq_true rfl⟩, ht _ kw329, ht _ ks24⟩ (g_pV (g_prR x_Zok hK hP hS hz _) (g_rc hK hP (jk + 14) (x_at14 (by omega)) rfl)) rfl rfl hl.1 rfl (lv_room (Nat.le_of_ble_eq_true rfl)) d_B_depthAt_33 ⟨Nat.le_of_ble_eq_true rfl, Nat.le_of_ble_eq_true rfl⟩) ?_
      have J47_12 : ∀ (x11 : Int64) (ls : Array Slot), x11 = (if (f_T_isInRange σ jk n) = 0 then a1 else a1 + (σ.2 (jk + 14) 3)) → lv_has ls 8 [(6, .int (Int32.ofNat jk)), (5, .int (10 : Int32)), (4, .ref (ad 4)), (2, .long x11), (1, .int n)] → W p l e (headSpec w_B_depthAt ({ frames := 1, cells := 0, slots := 0, locals := 21 })).room s m ([.ref (ad 3), .int n] : List Value).toArray below meth c s.heap [] 0 0 (MQ below (vp_Sl (fun r => r = f_B_depthAt σ n)) ([.ref (ad 3), .int n] : List Value).toArray s 0 0 (fun _ => False)) (F0 m 47 ls []) := by
        intro x11 ls e13 hl
        rw [e13] at hl
        refine lv_iinc (v := Int32.ofNat (jk + 1)) (lv' := [(6, .int (Int32.ofNat (jk + 1))), (5, .int (10 : Int32)), (4, .ref (ad 4)), (2, .long (if (f_T_isInRange σ jk n) = 0 then a1 else a1 + (σ.2 (jk + 14) 3))), (1, .int n)]) hx hb d_B_depthAt_47 hl (k := 0) rfl (g_inc jk) (by decide) rfl (fun ls hl => ?_)
        refine lv_goto (tgt := 16) hx hb d_B_depthAt_50 (by decide) ?_
        exact ih (jk + 1) (if (f_T_isInRange σ jk n) = 0 then a1 else a1 + (σ.2 (jk + 14) 3)) ls (by omega) hF (lv_sub hl [0, 1, 2, 3, 4] rfl)
      refine lv_if_eq (tgt := 47) hx hb d_B_depthAt_36 (by decide) (fun c14 => ?_) (fun c14 => ?_)
      ·
        have c14 : (f_T_isInRange σ jk n) = 0 := c14
        exact J47_12 a1 ls (if_pos c14).symm (lv_sub hl [1, 2, 3, 4, 5] rfl)
      ·
        have c14 : ¬ ((f_T_isInRange σ jk n) = 0) := c14
        refine lv_lload_n hx hb d_B_depthAt_39 rfl (lv_at hl 4 rfl) ?_
        refine lv_aload hx hb d_B_depthAt_40 (lv_at hl 0 rfl) ?_
        refine g_getN hx hb ht in_T hown hK hP (jk + 14) (x_at14 (by omega)) rfl 3 (by decide) rfl (va_Nw.use rfl (hz.1 _ nk37)) (fun _ h9 => h9) (v := .long (σ.2 (jk + 14) 3)) rfl d_B_depthAt_42 ?_
        refine lv_ladd hx hb d_B_depthAt_45 ?_
        refine lv_lstore_n (lv' := [(2, .long (a1 + (σ.2 (jk + 14) 3))), (7, .ref (ad (jk + 14))), (6, .int (Int32.ofNat jk)), (5, .int (10 : Int32)), (4, .ref (ad 4)), (1, .int n)]) hx hb d_B_depthAt_46 rfl hl (by decide) rfl (fun ls hl => ?_)
        exact J47_12 (a1 + (σ.2 (jk + 14) 3)) ls (if_neg c14).symm (lv_sub hl [2, 3, 4, 0, 5] rfl)
  exact LL16_6 10 0 (0 : Int64) ls (by omega) rfl  (lv_sub hl [0, 1, 2, 3, 5] rfl)
def f_P_depth_8_3 (σ : g_S) (r1 : Int64) : Int32 := r1.toInt32
def f_P_depth (σ : g_S) : Int32 := (f_P_depth_8_3 σ (f_B_depthAt σ (σ.1 0 9)))
set_option maxHeartbeats 4000000 in
set_option maxRecDepth 100000 in
theorem c_P_depth (l : Launch) (dC : Nat → ClassId) (dI : Nat → Nat → Nat) (dA : Nat → ClassId) (ad : Nat → Nat) (tb : Nat) (σ : g_S) : Met l y_P_depth w_P_depth ({ frames := 2, cells := 0, slots := 0, locals := 48 }) (va_Pc [.ref (ad 0)] (g_R (dC, dI) cls (x_tys dA) (g_w x_sh dA ad σ) (x_Z tb))) (vp_Si (fun r => r = f_P_depth σ)) 0 0 (fun _ => False) := by
  refine Met.ofW (cc := b_P_depth) (maxL := 1) (ret := (some .int)) (by decide) rfl ?_
  intro p e s m args below meth c s₁ B hml hv
  obtain ⟨rfl, hP, hK, hz⟩ := hv
  have hx := B.exec
  have hb := B.bytes
  have hr := B.returns
  have hts := atoms_spec (ws := w_P_depth) B.pre
  have ht := fun (w : Cond) (h : w ∈ gA) => hts w (List.mem_cons_of_mem _ h)
  have hown : s.vm.findClass "RangedPool" = some m.cls := findClass_of_methodNamed B.named
  have hlocks := B.notSynchronized
  have hS : va_S (fun _ => False) s.heap s.heap [] := va_S.rf
  have hl := lv_entry ([.ref (ad 0)]) (n := 1) (Nat.le_of_ble_eq_true rfl)
  rw [lg_entry_eq]
  generalize (lg_sl ([.ref (ad 0)]) ++ List.replicate (1 - (lg_sl ([.ref (ad 0)])).length) Slot.unset).toArray = ls at hl ⊢
  have hl : lv_has ls 1 [(0, .ref (ad 0))] := hl
  have hF : f_P_depth σ = f_P_depth σ := rfl
  refine lv_aload_n hx hb d_P_depth_0 rfl (lv_at hl 0 rfl) ?_
  refine g_get hx hb ht in_P hown hK hP (0) x_at0 rfl 4 (by decide) rfl (ht _ kw133) (fun _ h9 => h9) (v := .ref (ad 3)) rfl d_P_depth_1 ?_
  refine lv_aload_n hx hb d_P_depth_4 rfl (lv_at hl 0 rfl) ?_
  refine g_get hx hb ht in_P hown hK hP (0) x_at0 rfl 9 (by decide) rfl (ht _ kw138) (fun _ h9 => h9) (v := .int (σ.1 0 9)) rfl d_P_depth_5 ?_
  refine g_cSl (va_runVN (host := "RangedPool") (As := [.int (σ.1 0 9)]) (rest := []) ⟨hx, hb, hml, hown, ht⟩ (c_B_depthAt l dC dI dA ad tb σ (σ.1 0 9)) ⟨va_cnB 1 ht gn_B_depthAt rfl rfl rfl (hz.1 _ nk384) (ht _ kw2) (by decide +kernel) ⟨Nat.le_of_ble_eq_true rfl, Nat.le_of_ble_eq_true rfl⟩, ht _ kw325, ht _ ks23⟩ (g_pV (g_prR x_Zok hK hP hS hz _) (g_rc hK hP (3) x_at3 rfl)) rfl rfl hl.1 rfl (lv_room (Nat.le_of_ble_eq_true rfl)) d_P_depth_8 ⟨Nat.le_of_ble_eq_true rfl, Nat.le_of_ble_eq_true rfl⟩) (fun r1 e2 => ?_)
  have hF : f_P_depth σ = f_P_depth_8_3 σ r1 := hF.trans (by rw [e2]; try rfl)
  refine lv_l2i (v := r1.toInt32) hx hb d_P_depth_11 rfl ?_
  exact W.iret (v := r1.toInt32) hx hb hr (fun t hh hW => ⟨_, rfl, hF.symm, hh⟩) (fun _ h => by cases h) d_P_depth_12
def f_P_wallet_25_5 (σ : g_S) (o : Int32) (n : Int32) (r1 : Int32) : Int64 := (-2 : Int64)
def k_P_wallet_25_5 (σ : g_S) (o : Int32) (n : Int32) (r1 : Int32) : Prop := True
def f_P_wallet_25_11 (σ : g_S) (o : Int32) (n : Int32) (r1 : Int32) (r7 : Int32) : Int64 := (-2 : Int64)
def k_P_wallet_25_11 (σ : g_S) (o : Int32) (n : Int32) (r1 : Int32) (r7 : Int32) : Prop := True
def f_P_wallet_14_12 (σ : g_S) (o : Int32) (n : Int32) (r1 : Int32) (r7 : Int32) : Int64 := σ.2 (o.toNatClampNeg + 10) n.toNatClampNeg
def k_P_wallet_14_12 (σ : g_S) (o : Int32) (n : Int32) (r1 : Int32) (r7 : Int32) : Prop := (vp_in o 4) ∧ (vp_in n 2) ∧ True
def f_P_wallet_8_9 (σ : g_S) (o : Int32) (n : Int32) (r1 : Int32) (r7 : Int32) : Int64 := (if r7 = 0 then f_P_wallet_25_11 σ o n r1 r7 else f_P_wallet_14_12 σ o n r1 r7)
def k_P_wallet_8_9 (σ : g_S) (o : Int32) (n : Int32) (r1 : Int32) (r7 : Int32) : Prop := (if r7 = 0 then k_P_wallet_25_11 σ o n r1 r7 else k_P_wallet_14_12 σ o n r1 r7)
def f_P_wallet_7_6 (σ : g_S) (o : Int32) (n : Int32) (r1 : Int32) : Int64 := (f_P_wallet_8_9 σ o n r1 (f_P_isToken n))
def k_P_wallet_7_6 (σ : g_S) (o : Int32) (n : Int32) (r1 : Int32) : Prop := (k_P_wallet_8_9 σ o n r1 (f_P_isToken n))
def f_P_wallet_1_3 (σ : g_S) (o : Int32) (n : Int32) (r1 : Int32) : Int64 := (if r1 = 0 then f_P_wallet_25_5 σ o n r1 else f_P_wallet_7_6 σ o n r1)
def k_P_wallet_1_3 (σ : g_S) (o : Int32) (n : Int32) (r1 : Int32) : Prop := (if r1 = 0 then k_P_wallet_25_5 σ o n r1 else k_P_wallet_7_6 σ o n r1)
def f_P_wallet (σ : g_S) (o : Int32) (n : Int32) : Int64 := (f_P_wallet_1_3 σ o n (f_P_isOwner o))
def k_P_wallet (σ : g_S) (o : Int32) (n : Int32) : Prop := (k_P_wallet_1_3 σ o n (f_P_isOwner o))
set_option maxHeartbeats 4000000 in
set_option maxRecDepth 100000 in
theorem c_P_wallet (l : Launch) (dC : Nat → ClassId) (dI : Nat → Nat → Nat) (dA : Nat → ClassId) (ad : Nat → Nat) (tb : Nat) (σ : g_S) (o : Int32) (n : Int32) (hQ : k_P_wallet σ o n) : Met l y_P_wallet w_P_wallet ({ frames := 1, cells := 0, slots := 0, locals := 20 }) (va_Pc [.ref (ad 0), .int o, .int n] (g_R (dC, dI) cls (x_tys dA) (g_w x_sh dA ad σ) (x_Z tb))) (vp_Sl (fun r => r = f_P_wallet σ o n)) 0 0 (fun _ => False) := by
  refine Met.ofW (cc := b_P_wallet) (maxL := 3) (ret := (some .long)) (by decide) rfl ?_
  intro p e s m args below meth c s₁ B hml hv
  obtain ⟨rfl, hP, hK, hz⟩ := hv
  have hx := B.exec
  have hb := B.bytes
  have hr := B.returns
  have hts := atoms_spec (ws := w_P_wallet) B.pre
  have ht := fun (w : Cond) (h : w ∈ gA) => hts w (List.mem_cons_of_mem _ h)
  have hown : s.vm.findClass "RangedPool" = some m.cls := findClass_of_methodNamed B.named
  have hlocks := B.notSynchronized
  have hS : va_S (fun _ => False) s.heap s.heap [] := va_S.rf
  have hl := lv_entry ([.ref (ad 0), .int o, .int n]) (n := 3) (Nat.le_of_ble_eq_true rfl)
  rw [lg_entry_eq]
  generalize (lg_sl ([.ref (ad 0), .int o, .int n]) ++ List.replicate (3 - (lg_sl ([.ref (ad 0), .int o, .int n])).length) Slot.unset).toArray = ls at hl ⊢
  have hl : lv_has ls 3 [(0, .ref (ad 0)), (1, .int o), (2, .int n)] := hl
  have hF : f_P_wallet σ o n = f_P_wallet σ o n := rfl
  refine lv_iload_n hx hb d_P_wallet_0 rfl (lv_at hl 1 rfl) ?_
  refine g_cSi (va_runS (As := [.int o]) (rest := []) ⟨hx, hb, hml, hown, ht⟩ (c_P_isOwner l o) (va_cwS 1 ht gc_P_72 rfl rfl rfl (by decide +kernel) ⟨Nat.le_of_ble_eq_true rfl, Nat.le_of_ble_eq_true rfl⟩) (g_pr0 _) rfl rfl hl.1 rfl (lv_room (Nat.le_of_ble_eq_true rfl)) d_P_wallet_1 ⟨Nat.le_of_ble_eq_true rfl, Nat.le_of_ble_eq_true rfl⟩) (fun r1 e2 => ?_)
  have hF : f_P_wallet σ o n = f_P_wallet_1_3 σ o n r1 := hF.trans (by rw [e2]; try rfl)
  have hQ : k_P_wallet_1_3 σ o n r1 := by rw [e2]; exact hQ
  refine lv_if_eq (tgt := 25) hx hb d_P_wallet_4 (by decide) (fun c4 => ?_) (fun c4 => ?_)
  ·
    have c4 : r1 = 0 := c4
    have hF : f_P_wallet σ o n = f_P_wallet_25_5 σ o n r1 := hF.trans (if_pos c4)
    have hQ : k_P_wallet_25_5 σ o n r1 := Eq.mp (if_pos c4) hQ
    refine lv_ldc2 (v := (-2 : Int64)) hx hb hown (ht _ kw201) d_P_wallet_25 ?_
    exact W.lret (v := (-2 : Int64)) hx hb hr (fun t hh hW => ⟨_, rfl, hF.symm, hh⟩) (fun _ h => by cases h) d_P_wallet_28
  ·
    have c4 : ¬ (r1 = 0) := c4
    have hF : f_P_wallet σ o n = f_P_wallet_7_6 σ o n r1 := hF.trans (if_neg c4)
    have hQ : k_P_wallet_7_6 σ o n r1 := Eq.mp (if_neg c4) hQ
    refine lv_iload_n hx hb d_P_wallet_7 rfl (lv_at hl 2 rfl) ?_
    refine g_cSi (va_runS (As := [.int n]) (rest := []) ⟨hx, hb, hml, hown, ht⟩ (c_P_isToken l n) (va_cwS 1 ht gc_P_75 rfl rfl rfl (by decide +kernel) ⟨Nat.le_of_ble_eq_true rfl, Nat.le_of_ble_eq_true rfl⟩) (g_pr0 _) rfl rfl hl.1 rfl (lv_room (Nat.le_of_ble_eq_true rfl)) d_P_wallet_8 ⟨Nat.le_of_ble_eq_true rfl, Nat.le_of_ble_eq_true rfl⟩) (fun r7 e8 => ?_)
    have hF : f_P_wallet σ o n = f_P_wallet_8_9 σ o n r1 r7 := hF.trans (by rw [e8]; try rfl)
    have hQ : k_P_wallet_8_9 σ o n r1 r7 := by rw [e8]; exact hQ
    refine lv_if_eq (tgt := 25) hx hb d_P_wallet_11 (by decide) (fun c10 => ?_) (fun c10 => ?_)
    ·
      have c10 : r7 = 0 := c10
      have hF : f_P_wallet σ o n = f_P_wallet_25_11 σ o n r1 r7 := hF.trans (if_pos c10)
      have hQ : k_P_wallet_25_11 σ o n r1 r7 := Eq.mp (if_pos c10) hQ
      refine lv_ldc2 (v := (-2 : Int64)) hx hb hown (ht _ kw201) d_P_wallet_25 ?_
      exact W.lret (v := (-2 : Int64)) hx hb hr (fun t hh hW => ⟨_, rfl, hF.symm, hh⟩) (fun _ h => by cases h) d_P_wallet_28
    ·
      have c10 : ¬ (r7 = 0) := c10
      have hF : f_P_wallet σ o n = f_P_wallet_14_12 σ o n r1 r7 := hF.trans (if_neg c10)
      have hQ : k_P_wallet_14_12 σ o n r1 r7 := Eq.mp (if_neg c10) hQ
      refine lv_aload_n hx hb d_P_wallet_14 rfl (lv_at hl 0 rfl) ?_
      refine g_get hx hb ht in_P hown hK hP (0) x_at0 rfl 2 (by decide) rfl (ht _ kw131) (fun _ h9 => h9) (v := .ref (ad 1)) rfl d_P_wallet_15 ?_
      refine lv_iload_n hx hb d_P_wallet_18 rfl (lv_at hl 1 rfl) ?_
      obtain ⟨hs13, hQ⟩ := hQ
      refine g_aald hx hb hK hP 1 x_at1 rfl rfl (hs13) (z := o.toNatClampNeg + 10) (x_el1 (rfl) (g_nlt hs13)) d_P_wallet_19 ?_
      refine lv_iload_n hx hb d_P_wallet_20 rfl (lv_at hl 2 rfl) ?_
      obtain ⟨hs14, hQ⟩ := hQ
      refine g_lald hx hb hK hP (o.toNatClampNeg + 10) (x_at10 (g_nlt hs13)) rfl (hs14) (j := n.toNatClampNeg) (rfl) d_P_wallet_21 ?_
      refine lv_goto (tgt := 28) hx hb d_P_wallet_22 (by decide) ?_
      exact W.lret (v := σ.2 (o.toNatClampNeg + 10) n.toNatClampNeg) hx hb hr (fun t hh hW => ⟨_, rfl, hF.symm, hh⟩) (fun _ h => by cases h) d_P_wallet_28
def f_P_reserve_16_5 (σ : g_S) (n : Int32) (r1 : Int32) : Int64 := (-2 : Int64)
def k_P_reserve_16_5 (σ : g_S) (n : Int32) (r1 : Int32) : Prop := True
def f_P_reserve_7_6 (σ : g_S) (n : Int32) (r1 : Int32) : Int64 := σ.2 2 n.toNatClampNeg
def k_P_reserve_7_6 (σ : g_S) (n : Int32) (r1 : Int32) : Prop := (vp_in n 2) ∧ True
def f_P_reserve_1_3 (σ : g_S) (n : Int32) (r1 : Int32) : Int64 := (if r1 = 0 then f_P_reserve_16_5 σ n r1 else f_P_reserve_7_6 σ n r1)
def k_P_reserve_1_3 (σ : g_S) (n : Int32) (r1 : Int32) : Prop := (if r1 = 0 then k_P_reserve_16_5 σ n r1 else k_P_reserve_7_6 σ n r1)
def f_P_reserve (σ : g_S) (n : Int32) : Int64 := (f_P_reserve_1_3 σ n (f_P_isToken n))
def k_P_reserve (σ : g_S) (n : Int32) : Prop := (k_P_reserve_1_3 σ n (f_P_isToken n))
set_option maxHeartbeats 4000000 in
set_option maxRecDepth 100000 in
theorem c_P_reserve (l : Launch) (dC : Nat → ClassId) (dI : Nat → Nat → Nat) (dA : Nat → ClassId) (ad : Nat → Nat) (tb : Nat) (σ : g_S) (n : Int32) (hQ : k_P_reserve σ n) : Met l y_P_reserve w_P_reserve ({ frames := 1, cells := 0, slots := 0, locals := 20 }) (va_Pc [.ref (ad 0), .int n] (g_R (dC, dI) cls (x_tys dA) (g_w x_sh dA ad σ) (x_Z tb))) (vp_Sl (fun r => r = f_P_reserve σ n)) 0 0 (fun _ => False) := by
  refine Met.ofW (cc := b_P_reserve) (maxL := 2) (ret := (some .long)) (by decide) rfl ?_
  intro p e s m args below meth c s₁ B hml hv
  obtain ⟨rfl, hP, hK, hz⟩ := hv
  have hx := B.exec
  have hb := B.bytes
  have hr := B.returns
  have hts := atoms_spec (ws := w_P_reserve) B.pre
  have ht := fun (w : Cond) (h : w ∈ gA) => hts w (List.mem_cons_of_mem _ h)
  have hown : s.vm.findClass "RangedPool" = some m.cls := findClass_of_methodNamed B.named
  have hlocks := B.notSynchronized
  have hS : va_S (fun _ => False) s.heap s.heap [] := va_S.rf
  have hl := lv_entry ([.ref (ad 0), .int n]) (n := 2) (Nat.le_of_ble_eq_true rfl)
  rw [lg_entry_eq]
  generalize (lg_sl ([.ref (ad 0), .int n]) ++ List.replicate (2 - (lg_sl ([.ref (ad 0), .int n])).length) Slot.unset).toArray = ls at hl ⊢
  have hl : lv_has ls 2 [(0, .ref (ad 0)), (1, .int n)] := hl
  have hF : f_P_reserve σ n = f_P_reserve σ n := rfl
  refine lv_iload_n hx hb d_P_reserve_0 rfl (lv_at hl 1 rfl) ?_
  refine g_cSi (va_runS (As := [.int n]) (rest := []) ⟨hx, hb, hml, hown, ht⟩ (c_P_isToken l n) (va_cwS 1 ht gc_P_75 rfl rfl rfl (by decide +kernel) ⟨Nat.le_of_ble_eq_true rfl, Nat.le_of_ble_eq_true rfl⟩) (g_pr0 _) rfl rfl hl.1 rfl (lv_room (Nat.le_of_ble_eq_true rfl)) d_P_reserve_1 ⟨Nat.le_of_ble_eq_true rfl, Nat.le_of_ble_eq_true rfl⟩) (fun r1 e2 => ?_)
  have hF : f_P_reserve σ n = f_P_reserve_1_3 σ n r1 := hF.trans (by rw [e2]; try rfl)
  have hQ : k_P_reserve_1_3 σ n r1 := by rw [e2]; exact hQ
  refine lv_if_eq (tgt := 16) hx hb d_P_reserve_4 (by decide) (fun c4 => ?_) (fun c4 => ?_)
  ·
    have c4 : r1 = 0 := c4
    have hF : f_P_reserve σ n = f_P_reserve_16_5 σ n r1 := hF.trans (if_pos c4)
    have hQ : k_P_reserve_16_5 σ n r1 := Eq.mp (if_pos c4) hQ
    refine lv_ldc2 (v := (-2 : Int64)) hx hb hown (ht _ kw201) d_P_reserve_16 ?_
    exact W.lret (v := (-2 : Int64)) hx hb hr (fun t hh hW => ⟨_, rfl, hF.symm, hh⟩) (fun _ h => by cases h) d_P_reserve_19
  ·
    have c4 : ¬ (r1 = 0) := c4
    have hF : f_P_reserve σ n = f_P_reserve_7_6 σ n r1 := hF.trans (if_neg c4)
    have hQ : k_P_reserve_7_6 σ n r1 := Eq.mp (if_neg c4) hQ
    refine lv_aload_n hx hb d_P_reserve_7 rfl (lv_at hl 0 rfl) ?_
    refine g_get hx hb ht in_P hown hK hP (0) x_at0 rfl 3 (by decide) rfl (ht _ kw132) (fun _ h9 => h9) (v := .ref (ad 2)) rfl d_P_reserve_8 ?_
    refine lv_iload_n hx hb d_P_reserve_11 rfl (lv_at hl 1 rfl) ?_
    obtain ⟨hs7, hQ⟩ := hQ
    refine g_lald hx hb hK hP (2) x_at2 rfl (hs7) (j := n.toNatClampNeg) (rfl) d_P_reserve_12 ?_
    refine lv_goto (tgt := 19) hx hb d_P_reserve_13 (by decide) ?_
    exact W.lret (v := σ.2 2 n.toNatClampNeg) hx hb hr (fun t hh hW => ⟨_, rfl, hF.symm, hh⟩) (fun _ h => by cases h) d_P_reserve_19
def f_T_isThere_31_2 (σ : g_S) (k : Nat) : Int32 := (1 : Int32)
def f_T_isThere_31_5 (σ : g_S) (k : Nat) : Int32 := (1 : Int32)
def f_T_isThere_35_8 (σ : g_S) (k : Nat) : Int32 := (0 : Int32)
def f_T_isThere_31_9 (σ : g_S) (k : Nat) : Int32 := (1 : Int32)
def f_T_isThere_20_6 (σ : g_S) (k : Nat) : Int32 := (if (σ.2 (k + 24) 1) = (0 : Int64) then f_T_isThere_35_8 σ k else f_T_isThere_31_9 σ k)
def f_T_isThere_9_3 (σ : g_S) (k : Nat) : Int32 := (if (σ.2 (k + 24) 0) = (0 : Int64) then f_T_isThere_20_6 σ k else f_T_isThere_31_5 σ k)
def f_T_isThere (σ : g_S) (k : Nat) : Int32 := (if (σ.2 (k + 14) 3) = (0 : Int64) then f_T_isThere_9_3 σ k else f_T_isThere_31_2 σ k)
set_option maxHeartbeats 4000000 in
set_option maxRecDepth 100000 in
theorem c_T_isThere (l : Launch) (dC : Nat → ClassId) (dI : Nat → Nat → Nat) (dA : Nat → ClassId) (ad : Nat → Nat) (tb : Nat) (σ : g_S) (k : Nat) (hk : k < 10) : Met l y_T_isThere w_T_isThere ({ frames := 0, cells := 0, slots := 0, locals := 0 }) (va_Pc [.ref (ad (k + 14))] (g_R (dC, dI) cls (x_tys dA) (g_w x_sh dA ad σ) (x_Z tb))) (vp_Si (fun r => r = f_T_isThere σ k)) 0 0 (fun _ => False) := by
  refine Met.ofW (cc := b_T_isThere) (maxL := 1) (ret := (some .boolean)) (by decide) rfl ?_
  intro p e s m args below meth c s₁ B hml hv
  obtain ⟨rfl, hP, hK, hz⟩ := hv
  have hx := B.exec
  have hb := B.bytes
  have hr := B.returns
  have hts := atoms_spec (ws := w_T_isThere) B.pre
  have ht := fun (w : Cond) (h : w ∈ gA) => hts w (List.mem_cons_of_mem _ h)
  have hown : s.vm.findClass "RangedPool$Lot" = some m.cls := findClass_of_methodNamed B.named
  have hlocks := B.notSynchronized
  have hS : va_S (fun _ => False) s.heap s.heap [] := va_S.rf
  have hl := lv_entry ([.ref (ad (k + 14))]) (n := 1) (Nat.le_of_ble_eq_true rfl)
  rw [lg_entry_eq]
  generalize (lg_sl ([.ref (ad (k + 14))]) ++ List.replicate (1 - (lg_sl ([.ref (ad (k + 14))])).length) Slot.unset).toArray = ls at hl ⊢
  have hl : lv_has ls 1 [(0, .ref (ad (k + 14)))] := hl
  have hF : f_T_isThere σ k = f_T_isThere σ k := rfl
  refine lv_aload_n hx hb d_T_isThere_0 rfl (lv_at hl 0 rfl) ?_
  refine g_get hx hb ht in_T hown hK hP (k + 14) (x_at14 hk) rfl 3 (by decide) rfl (ht _ kw36) (fun _ h9 => h9) (v := .long (σ.2 (k + 14) 3)) rfl d_T_isThere_1 ?_
  refine lv_lconst (v := (0 : Int64)) hx hb d_T_isThere_4 (by decide) ?_
  refine W.lcmp hx hb d_T_isThere_5 ?_
  refine lv_if_ne (tgt := 31) hx hb d_T_isThere_6 (by decide) (fun c1 => ?_) (fun c1 => ?_)
  ·
    have c1 : ¬ ((σ.2 (k + 14) 3) = (0 : Int64)) := mt (lg_cmp_eq _ _).mpr c1
    have hF : f_T_isThere σ k = f_T_isThere_31_2 σ k := hF.trans (if_neg c1)
    refine lv_iconst (v := (1 : Int32)) hx hb d_T_isThere_31 (by decide) ?_
    refine lv_goto (tgt := 36) hx hb d_T_isThere_32 (by decide) ?_
    exact W.zret (ty := .boolean) (v := (1 : Int32)) hx hb hr (g_zr (by decide)) (fun t hh hW => ⟨_, rfl, hF.symm, hh⟩) (fun _ h => by cases h) d_T_isThere_36
  ·
    have c1 : (σ.2 (k + 14) 3) = (0 : Int64) := (lg_cmp_eq _ _).mp c1
    have hF : f_T_isThere σ k = f_T_isThere_9_3 σ k := hF.trans (if_pos c1)
    refine lv_aload_n hx hb d_T_isThere_9 rfl (lv_at hl 0 rfl) ?_
    refine g_get hx hb ht in_T hown hK hP (k + 14) (x_at14 hk) rfl 4 (by decide) rfl (ht _ kw39) (fun _ h9 => h9) (v := .ref (ad (k + 24))) rfl d_T_isThere_10 ?_
    refine lv_iconst (v := (0 : Int32)) hx hb d_T_isThere_13 (by decide) ?_
    refine g_lald hx hb hK hP (k + 24) (x_at24 hk) rfl (by unfold vp_in; decide) (j := 0) (by decide) d_T_isThere_14 ?_
    refine lv_lconst (v := (0 : Int64)) hx hb d_T_isThere_15 (by decide) ?_
    refine W.lcmp hx hb d_T_isThere_16 ?_
    refine lv_if_ne (tgt := 31) hx hb d_T_isThere_17 (by decide) (fun c4 => ?_) (fun c4 => ?_)
    ·
      have c4 : ¬ ((σ.2 (k + 24) 0) = (0 : Int64)) := mt (lg_cmp_eq _ _).mpr c4
      have hF : f_T_isThere σ k = f_T_isThere_31_5 σ k := hF.trans (if_neg c4)
      refine lv_iconst (v := (1 : Int32)) hx hb d_T_isThere_31 (by decide) ?_
      refine lv_goto (tgt := 36) hx hb d_T_isThere_32 (by decide) ?_
      exact W.zret (ty := .boolean) (v := (1 : Int32)) hx hb hr (g_zr (by decide)) (fun t hh hW => ⟨_, rfl, hF.symm, hh⟩) (fun _ h => by cases h) d_T_isThere_36
    ·
      have c4 : (σ.2 (k + 24) 0) = (0 : Int64) := (lg_cmp_eq _ _).mp c4
      have hF : f_T_isThere σ k = f_T_isThere_20_6 σ k := hF.trans (if_pos c4)
      refine lv_aload_n hx hb d_T_isThere_20 rfl (lv_at hl 0 rfl) ?_
      refine g_get hx hb ht in_T hown hK hP (k + 14) (x_at14 hk) rfl 4 (by decide) rfl (ht _ kw39) (fun _ h9 => h9) (v := .ref (ad (k + 24))) rfl d_T_isThere_21 ?_
      refine lv_iconst (v := (1 : Int32)) hx hb d_T_isThere_24 (by decide) ?_
      refine g_lald hx hb hK hP (k + 24) (x_at24 hk) rfl (by unfold vp_in; decide) (j := 1) (by decide) d_T_isThere_25 ?_
      refine lv_lconst (v := (0 : Int64)) hx hb d_T_isThere_26 (by decide) ?_
      refine W.lcmp hx hb d_T_isThere_27 ?_
      refine lv_if_eq (tgt := 35) hx hb d_T_isThere_28 (by decide) (fun c7 => ?_) (fun c7 => ?_)
      ·
        have c7 : (σ.2 (k + 24) 1) = (0 : Int64) := (lg_cmp_eq _ _).mp c7
        have hF : f_T_isThere σ k = f_T_isThere_35_8 σ k := hF.trans (if_pos c7)
        refine lv_iconst (v := (0 : Int32)) hx hb d_T_isThere_35 (by decide) ?_
        exact W.zret (ty := .boolean) (v := (0 : Int32)) hx hb hr (g_zr (by decide)) (fun t hh hW => ⟨_, rfl, hF.symm, hh⟩) (fun _ h => by cases h) d_T_isThere_36
      ·
        have c7 : ¬ ((σ.2 (k + 24) 1) = (0 : Int64)) := mt (lg_cmp_eq _ _).mpr c7
        have hF : f_T_isThere σ k = f_T_isThere_31_9 σ k := hF.trans (if_neg c7)
        refine lv_iconst (v := (1 : Int32)) hx hb d_T_isThere_31 (by decide) ?_
        refine lv_goto (tgt := 36) hx hb d_T_isThere_32 (by decide) ?_
        exact W.zret (ty := .boolean) (v := (1 : Int32)) hx hb hr (g_zr (by decide)) (fun t hh hW => ⟨_, rfl, hF.symm, hh⟩) (fun _ h => by cases h) d_T_isThere_36
def f_T_isFor_28_2 (σ : g_S) (k : Nat) (o : Int32) (lo : Int32) (hi : Int32) : Int32 := (0 : Int32)
def f_T_isFor_28_5 (σ : g_S) (k : Nat) (o : Int32) (lo : Int32) (hi : Int32) : Int32 := (0 : Int32)
def f_T_isFor_28_8 (σ : g_S) (k : Nat) (o : Int32) (lo : Int32) (hi : Int32) : Int32 := (0 : Int32)
def f_T_isFor_24_9 (σ : g_S) (k : Nat) (o : Int32) (lo : Int32) (hi : Int32) : Int32 := (1 : Int32)
def f_T_isFor_16_6 (σ : g_S) (k : Nat) (o : Int32) (lo : Int32) (hi : Int32) : Int32 := (if (σ.1 (k + 14) 2) = hi then f_T_isFor_24_9 σ k o lo hi else f_T_isFor_28_8 σ k o lo hi)
def f_T_isFor_8_3 (σ : g_S) (k : Nat) (o : Int32) (lo : Int32) (hi : Int32) : Int32 := (if (σ.1 (k + 14) 1) = lo then f_T_isFor_16_6 σ k o lo hi else f_T_isFor_28_5 σ k o lo hi)
def f_T_isFor (σ : g_S) (k : Nat) (o : Int32) (lo : Int32) (hi : Int32) : Int32 := (if (σ.1 (k + 14) 0) = o then f_T_isFor_8_3 σ k o lo hi else f_T_isFor_28_2 σ k o lo hi)
set_option maxHeartbeats 4000000 in
set_option maxRecDepth 100000 in
theorem c_T_isFor (l : Launch) (dC : Nat → ClassId) (dI : Nat → Nat → Nat) (dA : Nat → ClassId) (ad : Nat → Nat) (tb : Nat) (σ : g_S) (k : Nat) (o : Int32) (lo : Int32) (hi : Int32) (hk : k < 10) : Met l y_T_isFor w_T_isFor ({ frames := 0, cells := 0, slots := 0, locals := 0 }) (va_Pc [.ref (ad (k + 14)), .int o, .int lo, .int hi] (g_R (dC, dI) cls (x_tys dA) (g_w x_sh dA ad σ) (x_Z tb))) (vp_Si (fun r => r = f_T_isFor σ k o lo hi)) 0 0 (fun _ => False) := by
  refine Met.ofW (cc := b_T_isFor) (maxL := 4) (ret := (some .boolean)) (by decide) rfl ?_
  intro p e s m args below meth c s₁ B hml hv
  obtain ⟨rfl, hP, hK, hz⟩ := hv
  have hx := B.exec
  have hb := B.bytes
  have hr := B.returns
  have hts := atoms_spec (ws := w_T_isFor) B.pre
  have ht := fun (w : Cond) (h : w ∈ gA) => hts w (List.mem_cons_of_mem _ h)
  have hown : s.vm.findClass "RangedPool$Lot" = some m.cls := findClass_of_methodNamed B.named
  have hlocks := B.notSynchronized
  have hS : va_S (fun _ => False) s.heap s.heap [] := va_S.rf
  have hl := lv_entry ([.ref (ad (k + 14)), .int o, .int lo, .int hi]) (n := 4) (Nat.le_of_ble_eq_true rfl)
  rw [lg_entry_eq]
  generalize (lg_sl ([.ref (ad (k + 14)), .int o, .int lo, .int hi]) ++ List.replicate (4 - (lg_sl ([.ref (ad (k + 14)), .int o, .int lo, .int hi])).length) Slot.unset).toArray = ls at hl ⊢
  have hl : lv_has ls 4 [(0, .ref (ad (k + 14))), (1, .int o), (2, .int lo), (3, .int hi)] := hl
  have hF : f_T_isFor σ k o lo hi = f_T_isFor σ k o lo hi := rfl
  refine lv_aload_n hx hb d_T_isFor_0 rfl (lv_at hl 0 rfl) ?_
  refine g_get hx hb ht in_T hown hK hP (k + 14) (x_at14 hk) rfl 0 (by decide) rfl (ht _ kw31) (fun _ h9 => h9) (v := .int (σ.1 (k + 14) 0)) rfl d_T_isFor_1 ?_
  refine lv_iload_n hx hb d_T_isFor_4 rfl (lv_at hl 1 rfl) ?_
  refine lv_icmp_ne (tgt := 28) hx hb d_T_isFor_5 (by decide) (fun c1 => ?_) (fun c1 => ?_)
  ·
    have c1 : ¬ ((σ.1 (k + 14) 0) = o) := c1
    have hF : f_T_isFor σ k o lo hi = f_T_isFor_28_2 σ k o lo hi := hF.trans (if_neg c1)
    refine lv_iconst (v := (0 : Int32)) hx hb d_T_isFor_28 (by decide) ?_
    exact W.zret (ty := .boolean) (v := (0 : Int32)) hx hb hr (g_zr (by decide)) (fun t hh hW => ⟨_, rfl, hF.symm, hh⟩) (fun _ h => by cases h) d_T_isFor_29
  ·
    have c1 : (σ.1 (k + 14) 0) = o := c1
    have hF : f_T_isFor σ k o lo hi = f_T_isFor_8_3 σ k o lo hi := hF.trans (if_pos c1)
    refine lv_aload_n hx hb d_T_isFor_8 rfl (lv_at hl 0 rfl) ?_
    refine g_get hx hb ht in_T hown hK hP (k + 14) (x_at14 hk) rfl 1 (by decide) rfl (ht _ kw32) (fun _ h9 => h9) (v := .int (σ.1 (k + 14) 1)) rfl d_T_isFor_9 ?_
    refine lv_iload_n hx hb d_T_isFor_12 rfl (lv_at hl 2 rfl) ?_
    refine lv_icmp_ne (tgt := 28) hx hb d_T_isFor_13 (by decide) (fun c4 => ?_) (fun c4 => ?_)
    ·
      have c4 : ¬ ((σ.1 (k + 14) 1) = lo) := c4
      have hF : f_T_isFor σ k o lo hi = f_T_isFor_28_5 σ k o lo hi := hF.trans (if_neg c4)
      refine lv_iconst (v := (0 : Int32)) hx hb d_T_isFor_28 (by decide) ?_
      exact W.zret (ty := .boolean) (v := (0 : Int32)) hx hb hr (g_zr (by decide)) (fun t hh hW => ⟨_, rfl, hF.symm, hh⟩) (fun _ h => by cases h) d_T_isFor_29
    ·
      have c4 : (σ.1 (k + 14) 1) = lo := c4
      have hF : f_T_isFor σ k o lo hi = f_T_isFor_16_6 σ k o lo hi := hF.trans (if_pos c4)
      refine lv_aload_n hx hb d_T_isFor_16 rfl (lv_at hl 0 rfl) ?_
      refine g_get hx hb ht in_T hown hK hP (k + 14) (x_at14 hk) rfl 2 (by decide) rfl (ht _ kw34) (fun _ h9 => h9) (v := .int (σ.1 (k + 14) 2)) rfl d_T_isFor_17 ?_
      refine lv_iload_n hx hb d_T_isFor_20 rfl (lv_at hl 3 rfl) ?_
      refine lv_icmp_ne (tgt := 28) hx hb d_T_isFor_21 (by decide) (fun c7 => ?_) (fun c7 => ?_)
      ·
        have c7 : ¬ ((σ.1 (k + 14) 2) = hi) := c7
        have hF : f_T_isFor σ k o lo hi = f_T_isFor_28_8 σ k o lo hi := hF.trans (if_neg c7)
        refine lv_iconst (v := (0 : Int32)) hx hb d_T_isFor_28 (by decide) ?_
        exact W.zret (ty := .boolean) (v := (0 : Int32)) hx hb hr (g_zr (by decide)) (fun t hh hW => ⟨_, rfl, hF.symm, hh⟩) (fun _ h => by cases h) d_T_isFor_29
      ·
        have c7 : (σ.1 (k + 14) 2) = hi := c7
        have hF : f_T_isFor σ k o lo hi = f_T_isFor_24_9 σ k o lo hi := hF.trans (if_pos c7)
        refine lv_iconst (v := (1 : Int32)) hx hb d_T_isFor_24 (by decide) ?_
        refine lv_goto (tgt := 29) hx hb d_T_isFor_25 (by decide) ?_
        exact W.zret (ty := .boolean) (v := (1 : Int32)) hx hb hr (g_zr (by decide)) (fun t hh hW => ⟨_, rfl, hF.symm, hh⟩) (fun _ h => by cases h) d_T_isFor_29
def f_B_find_L14 (σ : g_S) (o : Int32) (lo : Int32) (hi : Int32) : Nat → Nat → Option Nat
  | 0, jk => (none)
  | jn + 1, jk => (if (f_T_isThere σ jk) = 0 then f_B_find_L14 σ o lo hi jn (jk + 1) else (if (f_T_isFor σ jk o lo hi) = 0 then f_B_find_L14 σ o lo hi jn (jk + 1) else (some jk)))
def f_B_find (σ : g_S) (o : Int32) (lo : Int32) (hi : Int32) : Option Nat := f_B_find_L14 σ o lo hi 10 0
set_option maxHeartbeats 4000000 in
set_option maxRecDepth 100000 in
theorem c_B_find (l : Launch) (dC : Nat → ClassId) (dI : Nat → Nat → Nat) (dA : Nat → ClassId) (ad : Nat → Nat) (tb : Nat) (σ : g_S) (o : Int32) (lo : Int32) (hi : Int32) : Met l y_B_find w_B_find ({ frames := 1, cells := 0, slots := 0, locals := 23 }) (va_Pc [.ref (ad 3), .int o, .int lo, .int hi] (g_R (dC, dI) cls (x_tys dA) (g_w x_sh dA ad σ) (x_Z tb))) (va_Sq (fun r => r = (f_B_find σ o lo hi).map (fun k => ad (k + 14)))) 0 0 (fun _ => False) := by
  refine Met.ofW (cc := b_B_find) (maxL := 8) (ret := (some (.object "RangedPool$Lot"))) (by decide) rfl ?_
  intro p e s m args below meth c s₁ B hml hv
  obtain ⟨rfl, hP, hK, hz⟩ := hv
  have hx := B.exec
  have hb := B.bytes
  have hr := B.returns
  have hts := atoms_spec (ws := w_B_find) B.pre
  have ht := fun (w : Cond) (h : w ∈ gA) => hts w (List.mem_cons_of_mem _ h)
  have hown : s.vm.findClass "RangedPool$LotBook" = some m.cls := findClass_of_methodNamed B.named
  have hlocks := B.notSynchronized
  have hS : va_S (fun _ => False) s.heap s.heap [] := va_S.rf
  have hl := lv_entry ([.ref (ad 3), .int o, .int lo, .int hi]) (n := 8) (Nat.le_of_ble_eq_true rfl)
  rw [lg_entry_eq]
  generalize (lg_sl ([.ref (ad 3), .int o, .int lo, .int hi]) ++ List.replicate (8 - (lg_sl ([.ref (ad 3), .int o, .int lo, .int hi])).length) Slot.unset).toArray = ls at hl ⊢
  have hl : lv_has ls 8 [(0, .ref (ad 3)), (1, .int o), (2, .int lo), (3, .int hi)] := hl
  have hF : f_B_find σ o lo hi = f_B_find σ o lo hi := rfl
  refine lv_aload_n hx hb d_B_find_0 rfl (lv_at hl 0 rfl) ?_
  refine g_get hx hb ht in_B hown hK hP (3) x_at3 rfl 0 (by decide) rfl (ht _ kw60) (fun _ h9 => h9) (v := .ref (ad 4)) rfl d_B_find_1 ?_
  refine lv_astore (lv' := [(4, .ref (ad 4)), (0, .ref (ad 3)), (1, .int o), (2, .int lo), (3, .int hi)]) hx hb d_B_find_4 hl (by decide) rfl (fun ls hl => ?_)
  refine lv_aload hx hb d_B_find_6 (lv_at hl 0 rfl) ?_
  refine g_alen (v := (10 : Int32)) hx hb hK hP 4 x_at4 rfl rfl d_B_find_8 ?_
  refine lv_istore (lv' := [(5, .int (10 : Int32)), (4, .ref (ad 4)), (0, .ref (ad 3)), (1, .int o), (2, .int lo), (3, .int hi)]) hx hb d_B_find_9 hl (by decide) rfl (fun ls hl => ?_)
  refine lv_iconst (v := (0 : Int32)) hx hb d_B_find_11 (by decide) ?_
  refine lv_istore (lv' := [(6, .int (0 : Int32)), (5, .int (10 : Int32)), (4, .ref (ad 4)), (0, .ref (ad 3)), (1, .int o), (2, .int lo), (3, .int hi)]) hx hb d_B_find_12 hl (by decide) rfl (fun ls hl => ?_)
  have LL14_1 : ∀ (jn : Nat) (jk : Nat) (ls : Array Slot), jk + jn = 10 → f_B_find σ o lo hi = f_B_find_L14 σ o lo hi jn jk → lv_has ls 8 [(6, .int (Int32.ofNat jk)), (5, .int (10 : Int32)), (4, .ref (ad 4)), (1, .int o), (2, .int lo), (3, .int hi)] → W p l e (headSpec w_B_find ({ frames := 1, cells := 0, slots := 0, locals := 23 })).room s m ([.ref (ad 3), .int o, .int lo, .int hi] : List Value).toArray below meth c s.heap [] 0 0 (MQ below (va_Sq (fun r => r = (f_B_find σ o lo hi).map (fun k => ad (k + 14)))) ([.ref (ad 3), .int o, .int lo, .int hi] : List Value).toArray s 0 0 (fun _ => False)) (F0 m 14 ls []) := by
    clear hF
    intro jn
    induction jn with
    | zero =>
      intro jk ls hkn hF hl
      have hF : f_B_find σ o lo hi = (none) := hF
      skip
      refine lv_iload hx hb d_B_find_14 (lv_at hl 0 rfl) ?_
      refine lv_iload hx hb d_B_find_16 (lv_at hl 1 rfl) ?_
      refine lv_icmp_ge (tgt := 56) hx hb d_B_find_18 (by decide) (fun _ => ?_) (fun c2 => absurd (g_geN (N := 10) (by omega)) c2)
      refine lv_null hx hb d_B_find_56 ?_
      exact W.aret (rt := .object "RangedPool$Lot") hx hb hr (Or.inl ⟨_, rfl⟩) (Or.inl rfl) (fun t hh hW => ⟨none, rfl, (congrArg (Option.map (fun k => ad (k + 14))) hF).symm, hh⟩) (fun _ h => by cases h) d_B_find_57
    | succ jn ih =>
      intro jk ls hkn hF hl
      have hF : f_B_find σ o lo hi = (if (f_T_isThere σ jk) = 0 then f_B_find_L14 σ o lo hi jn (jk + 1) else (if (f_T_isFor σ jk o lo hi) = 0 then f_B_find_L14 σ o lo hi jn (jk + 1) else (some jk))) := hF
      skip
      refine lv_iload hx hb d_B_find_14 (lv_at hl 0 rfl) ?_
      refine lv_iload hx hb d_B_find_16 (lv_at hl 1 rfl) ?_
      refine lv_icmp_ge (tgt := 56) hx hb d_B_find_18 (by decide) (fun c3 => absurd c3 (g_lt (N := 10) (by omega) (by decide))) (fun _ => ?_)
      refine lv_aload hx hb d_B_find_21 (lv_at hl 2 rfl) ?_
      refine lv_iload hx hb d_B_find_23 (lv_at hl 0 rfl) ?_
      refine g_aald hx hb hK hP 4 x_at4 rfl rfl (g_eix rfl (by omega) (by omega)) (z := jk + 14) (x_el4 (g_ena rfl (by omega)) (by omega)) d_B_find_25 ?_
      refine lv_astore (lv' := [(7, .ref (ad (jk + 14))), (6, .int (Int32.ofNat jk)), (5, .int (10 : Int32)), (4, .ref (ad 4)), (1, .int o), (2, .int lo), (3, .int hi)]) hx hb d_B_find_26 hl (by decide) rfl (fun ls hl => ?_)
      refine lv_aload hx hb d_B_find_28 (lv_at hl 0 rfl) ?_
      refine g_cSiE (va_runVN (host := "RangedPool") (As := []) (rest := []) ⟨hx, hb, hml, hown, ht⟩ (c_T_isThere l dC dI dA ad tb σ jk (by omega)) ⟨va_cnB 0 ht gn_T_isThere rfl rfl rfl (hz.1 _ nk210) (ht _ kw3) (by decide +kernel) ⟨Nat.le_of_ble_eq_true rfl, Nat.le_of_ble_eq_true rfl⟩, ht _ kw212, ht _ ks5⟩ (g_pV (g_prR x_Zok hK hP hS hz _) (g_rc hK hP (jk + 14) (x_at14 (by omega)) rfl)) rfl rfl hl.1 rfl (lv_room (Nat.le_of_ble_eq_true rfl)) d_B_find_30 ⟨Nat.le_of_ble_eq_true rfl, Nat.le_of_ble_eq_true rfl⟩) ?_
      refine lv_if_eq (tgt := 50) hx hb d_B_find_33 (by decide) (fun c6 => ?_) (fun c6 => ?_)
      ·
        have c6 : (f_T_isThere σ jk) = 0 := c6
        have hF := hF.trans (if_pos c6)
        refine lv_iinc (v := Int32.ofNat (jk + 1)) (lv' := [(6, .int (Int32.ofNat (jk + 1))), (7, .ref (ad (jk + 14))), (5, .int (10 : Int32)), (4, .ref (ad 4)), (1, .int o), (2, .int lo), (3, .int hi)]) hx hb d_B_find_50 hl (k := 1) rfl (g_inc jk) (by decide) rfl (fun ls hl => ?_)
        refine lv_goto (tgt := 14) hx hb d_B_find_53 (by decide) ?_
        exact ih (jk + 1) ls (by omega) hF (lv_sub hl [0, 2, 3, 4, 5, 6] rfl)
      ·
        have c6 : ¬ ((f_T_isThere σ jk) = 0) := c6
        have hF := hF.trans (if_neg c6)
        refine lv_aload hx hb d_B_find_36 (lv_at hl 0 rfl) ?_
        refine lv_iload_n hx hb d_B_find_38 rfl (lv_at hl 4 rfl) ?_
        refine lv_iload_n hx hb d_B_find_39 rfl (lv_at hl 5 rfl) ?_
        refine lv_iload_n hx hb d_B_find_40 rfl (lv_at hl 6 rfl) ?_
        refine g_cSiE (va_runVN (host := "RangedPool") (As := [.int o, .int lo, .int hi]) (rest := []) ⟨hx, hb, hml, hown, ht⟩ (c_T_isFor l dC dI dA ad tb σ jk o lo hi (by omega)) ⟨va_cnB 3 ht gn_T_isFor rfl rfl rfl (hz.1 _ nk214) (ht _ kw3) (by decide +kernel) ⟨Nat.le_of_ble_eq_true rfl, Nat.le_of_ble_eq_true rfl⟩, ht _ kw216, ht _ ks6⟩ (g_pV (g_prR x_Zok hK hP hS hz _) (g_rc hK hP (jk + 14) (x_at14 (by omega)) rfl)) rfl rfl hl.1 rfl (lv_room (Nat.le_of_ble_eq_true rfl)) d_B_find_41 ⟨Nat.le_of_ble_eq_true rfl, Nat.le_of_ble_eq_true rfl⟩) ?_
        refine lv_if_eq (tgt := 50) hx hb d_B_find_44 (by decide) (fun c9 => ?_) (fun c9 => ?_)
        ·
          have c9 : (f_T_isFor σ jk o lo hi) = 0 := c9
          have hF := hF.trans (if_pos c9)
          refine lv_iinc (v := Int32.ofNat (jk + 1)) (lv' := [(6, .int (Int32.ofNat (jk + 1))), (7, .ref (ad (jk + 14))), (5, .int (10 : Int32)), (4, .ref (ad 4)), (1, .int o), (2, .int lo), (3, .int hi)]) hx hb d_B_find_50 hl (k := 1) rfl (g_inc jk) (by decide) rfl (fun ls hl => ?_)
          refine lv_goto (tgt := 14) hx hb d_B_find_53 (by decide) ?_
          exact ih (jk + 1) ls (by omega) hF (lv_sub hl [0, 2, 3, 4, 5, 6] rfl)
        ·
          have c9 : ¬ ((f_T_isFor σ jk o lo hi) = 0) := c9
          have hF := hF.trans (if_neg c9)
          refine lv_aload hx hb d_B_find_47 (lv_at hl 0 rfl) ?_
          exact W.aret (rt := .object "RangedPool$Lot") hx hb hr (Or.inl ⟨_, rfl⟩) (Or.inr ⟨_, rfl⟩) (fun t hh hW => ⟨(some (ad (jk + 14))), rfl, (congrArg (Option.map (fun k => ad (k + 14))) hF).symm, hh⟩) (fun _ h => by cases h) d_B_find_49
  exact LL14_1 10 0 ls (by omega) hF  (lv_sub hl [0, 1, 2, 4, 5, 6] rfl)
theorem lt_B_find_L (σ : g_S) (o lo hi : Int32) : ∀ (jn jk k : Nat), jk + jn = 10 → f_B_find_L14 σ o lo hi jn jk = some k → k < 10 := by
  intro jn
  induction jn with
  | zero => intro jk k h1 h2; exact absurd h2 (by intro h; cases h)
  | succ jn ih =>
    intro jk k h1 h2
    have h2 : (if (f_T_isThere σ jk) = 0 then f_B_find_L14 σ o lo hi jn (jk + 1) else (if (f_T_isFor σ jk o lo hi) = 0 then f_B_find_L14 σ o lo hi jn (jk + 1) else (some jk))) = some k := h2
    by_cases c1 : (f_T_isThere σ jk) = 0
    · rw [if_pos c1] at h2
      exact ih (jk + 1) k (by omega) h2
    · rw [if_neg c1] at h2
      by_cases c2 : (f_T_isFor σ jk o lo hi) = 0
      · rw [if_pos c2] at h2
        exact ih (jk + 1) k (by omega) h2
      · rw [if_neg c2] at h2
        have h3 := Option.some.inj h2
        omega
theorem lt_B_find {σ : g_S} {o lo hi : Int32} {k : Nat} (h : f_B_find σ o lo hi = some k) : k < 10 := lt_B_find_L σ o lo hi 10 0 k rfl h
