def f_D_moveTo_67_8 (σ : g_S) (np : Int32) (nx : Int32) (x1 : Int32) : g_S := g_I σ 9 4 np
def k_D_moveTo_67_8 (σ : g_S) (np : Int32) (nx : Int32) (x1 : Int32) : Prop := True
def f_D_moveTo_61_13 (σ : g_S) (np : Int32) (nx : Int32) (x1 : Int32) (r11 : Int32) : g_S := g_I (g_I σ 9 4 np) 9 5 r11
def k_D_moveTo_61_13 (σ : g_S) (np : Int32) (nx : Int32) (x1 : Int32) (r11 : Int32) : Prop := True
def f_D_moveTo_59_9 (σ : g_S) (np : Int32) (nx : Int32) (x1 : Int32) : g_S := (f_D_moveTo_61_13 σ np nx x1 (f_P_greatestStepAt np))
def k_D_moveTo_59_9 (σ : g_S) (np : Int32) (nx : Int32) (x1 : Int32) : Prop := (k_P_greatestStepAt np) ∧ (k_D_moveTo_61_13 σ np nx x1 (f_P_greatestStepAt np))
def f_D_moveTo_55_6 (σ : g_S) (np : Int32) (nx : Int32) (x1 : Int32) : g_S := (if x1 = 0 then f_D_moveTo_67_8 σ np nx x1 else f_D_moveTo_59_9 σ np nx x1)
def k_D_moveTo_55_6 (σ : g_S) (np : Int32) (nx : Int32) (x1 : Int32) : Prop := (if x1 = 0 then k_D_moveTo_67_8 σ np nx x1 else k_D_moveTo_59_9 σ np nx x1)
def f_D_moveTo_67_22 (σ : g_S) (np : Int32) (nx : Int32) (x1 : Int32) (r16 : Int32) : g_S := g_I σ 9 4 np
def k_D_moveTo_67_22 (σ : g_S) (np : Int32) (nx : Int32) (x1 : Int32) (r16 : Int32) : Prop := True
def f_D_moveTo_61_27 (σ : g_S) (np : Int32) (nx : Int32) (x1 : Int32) (r16 : Int32) (r25 : Int32) : g_S := g_I (g_I σ 9 4 np) 9 5 r25
def k_D_moveTo_61_27 (σ : g_S) (np : Int32) (nx : Int32) (x1 : Int32) (r16 : Int32) (r25 : Int32) : Prop := True
def f_D_moveTo_59_23 (σ : g_S) (np : Int32) (nx : Int32) (x1 : Int32) (r16 : Int32) : g_S := (f_D_moveTo_61_27 σ np nx x1 r16 (f_P_greatestStepAt np))
def k_D_moveTo_59_23 (σ : g_S) (np : Int32) (nx : Int32) (x1 : Int32) (r16 : Int32) : Prop := (k_P_greatestStepAt np) ∧ (k_D_moveTo_61_27 σ np nx x1 r16 (f_P_greatestStepAt np))
def f_D_moveTo_55_20 (σ : g_S) (np : Int32) (nx : Int32) (x1 : Int32) (r16 : Int32) : g_S := (if x1 = 0 then f_D_moveTo_67_22 σ np nx x1 r16 else f_D_moveTo_59_23 σ np nx x1 r16)
def k_D_moveTo_55_20 (σ : g_S) (np : Int32) (nx : Int32) (x1 : Int32) (r16 : Int32) : Prop := (if x1 = 0 then k_D_moveTo_67_22 σ np nx x1 r16 else k_D_moveTo_59_23 σ np nx x1 r16)
def f_D_moveTo_49_32 (σ : g_S) (np : Int32) (nx : Int32) (x1 : Int32) (r16 : Int32) (x29 : Int32) : g_S := g_I (g_I σ 9 4 np) 9 5 x29
def k_D_moveTo_49_32 (σ : g_S) (np : Int32) (nx : Int32) (x1 : Int32) (r16 : Int32) (x29 : Int32) : Prop := True
def f_D_moveTo_34_28 (σ : g_S) (np : Int32) (nx : Int32) (x1 : Int32) (r16 : Int32) : g_S := (f_D_moveTo_49_32 σ np nx x1 r16 (if (σ.1 9 1) = 0 then nx else nx - (1 : Int32)))
def k_D_moveTo_34_28 (σ : g_S) (np : Int32) (nx : Int32) (x1 : Int32) (r16 : Int32) : Prop := (k_D_moveTo_49_32 σ np nx x1 r16 (if (σ.1 9 1) = 0 then nx else nx - (1 : Int32)))
def f_D_moveTo_28_18 (σ : g_S) (np : Int32) (nx : Int32) (x1 : Int32) (r16 : Int32) : g_S := (if np = r16 then f_D_moveTo_34_28 σ np nx x1 r16 else f_D_moveTo_55_20 σ np nx x1 r16)
def k_D_moveTo_28_18 (σ : g_S) (np : Int32) (nx : Int32) (x1 : Int32) (r16 : Int32) : Prop := (if np = r16 then k_D_moveTo_34_28 σ np nx x1 r16 else k_D_moveTo_55_20 σ np nx x1 r16)
def f_D_moveTo_26_14 (σ : g_S) (np : Int32) (nx : Int32) (x1 : Int32) : g_S := (f_D_moveTo_28_18 σ np nx x1 (f_P_priceOf nx))
def k_D_moveTo_26_14 (σ : g_S) (np : Int32) (nx : Int32) (x1 : Int32) : Prop := (k_P_priceOf nx) ∧ (k_D_moveTo_28_18 σ np nx x1 (f_P_priceOf nx))
def f_D_moveTo_13_4 (σ : g_S) (np : Int32) (nx : Int32) (x1 : Int32) : g_S := (if nx = (1000 : Int32) then f_D_moveTo_55_6 σ np nx x1 else f_D_moveTo_26_14 σ np nx x1)
def k_D_moveTo_13_4 (σ : g_S) (np : Int32) (nx : Int32) (x1 : Int32) : Prop := (if nx = (1000 : Int32) then k_D_moveTo_55_6 σ np nx x1 else k_D_moveTo_26_14 σ np nx x1)
def f_D_moveTo (σ : g_S) (np : Int32) (nx : Int32) : g_S := (f_D_moveTo_13_4 σ np nx (if np = (σ.1 9 4) then (0 : Int32) else (1 : Int32)))
def k_D_moveTo (σ : g_S) (np : Int32) (nx : Int32) : Prop := (k_D_moveTo_13_4 σ np nx (if np = (σ.1 9 4) then (0 : Int32) else (1 : Int32)))
set_option maxHeartbeats 4000000 in
set_option maxRecDepth 100000 in
theorem c_D_moveTo (l : Launch) (dC : Nat → ClassId) (dI : Nat → Nat → Nat) (dA : Nat → ClassId) (ad : Nat → Nat) (tb : Nat) (sz : Nat) (σ : g_S) (np : Int32) (nx : Int32) (hQ : k_D_moveTo σ np nx) : Met l y_D_moveTo w_D_moveTo ({ frames := 2, cells := 0, slots := 0, locals := 41 }) (va_Pc [.ref (ad 9), .int np, .int nx] (g_W (dC, dI) cls (x_tys dA) (g_w x_sh dA ad σ) sz (x_Z tb))) (va_Qv (fun τ => τ = f_D_moveTo σ np nx) (fun τ t => va_P (dC, dI) cls (g_w x_sh dA ad τ) t.heap) (va_A (g_w x_sh dA ad σ) sz)) 0 0 (va_A (g_w x_sh dA ad σ) sz) := by
  refine Met.ofW (cc := b_D_moveTo) (maxL := 4) (ret := none) (by decide) rfl ?_
  intro p e s m args below meth c s₁ B hml hv
  obtain ⟨rfl, hsz, hP, hK, hD0, hz⟩ := hv
  have hx := B.exec
  have hb := B.bytes
  have hr := B.returns
  have hts := atoms_spec (ws := w_D_moveTo) B.pre
  have ht := fun (w : Cond) (h : w ∈ gA) => hts w (List.mem_cons_of_mem _ h)
  have hown : s.vm.findClass "RangedPool$Trade" = some m.cls := findClass_of_methodNamed B.named
  have hlocks := B.notSynchronized
  subst hsz
  have hD := hD0.self (sz := s.heap.size)
  have hA : ∀ q : Nat, s.heap.size ≤ q → va_A (g_w x_sh dA ad σ) s.heap.size q := fun q h => Or.inr h
  generalize hAe : va_A (g_w x_sh dA ad σ) s.heap.size = A at hD hA hz ⊢
  have hS : va_S A s.heap s.heap [] := va_S.rf
  have hl := lv_entry ([.ref (ad 9), .int np, .int nx]) (n := 4) (Nat.le_of_ble_eq_true rfl)
  rw [lg_entry_eq]
  generalize (lg_sl ([.ref (ad 9), .int np, .int nx]) ++ List.replicate (4 - (lg_sl ([.ref (ad 9), .int np, .int nx])).length) Slot.unset).toArray = ls at hl ⊢
  have hl : lv_has ls 4 [(0, .ref (ad 9)), (1, .int np), (2, .int nx)] := hl
  have hF : f_D_moveTo σ np nx = f_D_moveTo σ np nx := rfl
  refine lv_iload_n hx hb d_D_moveTo_0 rfl (lv_at hl 1 rfl) ?_
  refine lv_aload_n hx hb d_D_moveTo_1 rfl (lv_at hl 0 rfl) ?_
  refine g_get hx hb ht in_D hown hK hP (9) x_at9 rfl 4 (by decide) rfl (ht _ kw104) (fun _ h9 => h9) (v := .int (σ.1 9 4)) rfl d_D_moveTo_2 ?_
  have J13_2 : ∀ (x1 : Int32) (ls : Array Slot), x1 = (if np = (σ.1 9 4) then (0 : Int32) else (1 : Int32)) → lv_has ls 4 [(0, .ref (ad 9)), (1, .int np), (2, .int nx)] → W p l e (headSpec w_D_moveTo ({ frames := 2, cells := 0, slots := 0, locals := 41 })).room s m ([.ref (ad 9), .int np, .int nx] : List Value).toArray below meth c s.heap [] 0 0 (MQ below (va_Qv (fun τ => τ = f_D_moveTo σ np nx) (fun τ t => va_P (dC, dI) cls (g_w x_sh dA ad τ) t.heap) A) ([.ref (ad 9), .int np, .int nx] : List Value).toArray s 0 0 A) (F0 m 13 ls [.int x1]) := by
    intro x1 ls e3 hl
    have hF : f_D_moveTo σ np nx = f_D_moveTo_13_4 σ np nx x1 := hF.trans (by rw [e3]; try rfl)
    have hQ : k_D_moveTo_13_4 σ np nx x1 := by rw [e3]; exact hQ
    refine lv_istore_n (lv' := [(3, .int x1), (0, .ref (ad 9)), (1, .int np), (2, .int nx)]) hx hb d_D_moveTo_13 rfl hl (by decide) rfl (fun ls hl => ?_)
    refine lv_aload_n hx hb d_D_moveTo_14 rfl (lv_at hl 1 rfl) ?_
    refine lv_iload_n hx hb d_D_moveTo_15 rfl (lv_at hl 2 rfl) ?_
    refine g_putI (v := np) (ty := .int) hx hb ht in_D yt_D yt_D_ok n_D hown hK hP hD hS (9) x_at9 rfl 4 (by decide) rfl (ht _ kw104) (fun _ h9 => h9) rfl (by decide +kernel) (rfl) (rfl) d_D_moveTo_16 (fun H locs hP hD hS => ?_)
    refine lv_iload_n hx hb d_D_moveTo_19 rfl (lv_at hl 3 rfl) ?_
    refine lv_sipush (v := (1000 : Int32)) hx hb d_D_moveTo_20 (by decide) ?_
    refine lv_icmp_eq (tgt := 55) hx hb d_D_moveTo_23 (by decide) (fun c5 => ?_) (fun c5 => ?_)
    ·
      have c5 : nx = (1000 : Int32) := c5
      have hF : f_D_moveTo σ np nx = f_D_moveTo_55_6 σ np nx x1 := hF.trans (if_pos c5)
      have hQ : k_D_moveTo_55_6 σ np nx x1 := Eq.mp (if_pos c5) hQ
      refine lv_iload_n hx hb d_D_moveTo_55 rfl (lv_at hl 0 rfl) ?_
      refine lv_if_eq (tgt := 67) hx hb d_D_moveTo_56 (by decide) (fun c7 => ?_) (fun c7 => ?_)
      ·
        have c7 : x1 = 0 := c7
        have hF : f_D_moveTo σ np nx = f_D_moveTo_67_8 σ np nx x1 := hF.trans (if_pos c7)
        have hQ : k_D_moveTo_67_8 σ np nx x1 := Eq.mp (if_pos c7) hQ
        exact W.vret hx hb hr (fun t hh hW => ⟨⟨g_I σ 9 4 np, rfl, hF.symm, by show va_P (dC, dI) cls (g_w x_sh dA ad (g_I σ 9 4 np)) t.heap; rw [hh]; exact hP⟩, hS.F hh⟩) hS.2.2 d_D_moveTo_67
      ·
        have c7 : ¬ (x1 = 0) := c7
        have hF : f_D_moveTo σ np nx = f_D_moveTo_59_9 σ np nx x1 := hF.trans (if_neg c7)
        have hQ : k_D_moveTo_59_9 σ np nx x1 := Eq.mp (if_neg c7) hQ
        refine lv_aload_n hx hb d_D_moveTo_59 rfl (lv_at hl 1 rfl) ?_
        refine lv_iload_n hx hb d_D_moveTo_60 rfl (lv_at hl 2 rfl) ?_
        obtain ⟨hs10, hQ⟩ := hQ
        refine g_cSi (va_runSN (host := "RangedPool") (As := [.int np]) (rest := [.ref (ad 9)]) ⟨hx, hb, hml, hown, ht⟩ (c_P_greatestStepAt l tb np hs10) ⟨va_cnB 1 ht gn_P_greatestStepAt rfl rfl rfl (hz.1 _ nk365) (ht _ kw1) (by decide +kernel) ⟨Nat.le_of_ble_eq_true rfl, Nat.le_of_ble_eq_true rfl⟩, ht _ kw366, trivial⟩ (g_prZ x_Zok hS hz _) rfl rfl hl.1 rfl (lv_room (Nat.le_of_ble_eq_true rfl)) d_D_moveTo_61 ⟨Nat.le_of_ble_eq_true rfl, Nat.le_of_ble_eq_true rfl⟩) (fun r11 e12 => ?_)
        have hF : f_D_moveTo σ np nx = f_D_moveTo_61_13 σ np nx x1 r11 := hF.trans (by rw [e12]; try rfl)
        have hQ : k_D_moveTo_61_13 σ np nx x1 r11 := by rw [e12]; exact hQ
        refine g_putI (v := r11) (ty := .int) hx hb ht in_D yt_D yt_D_ok n_D hown hK hP hD hS (9) x_at9 rfl 5 (by decide) rfl (ht _ kw106) (fun _ h9 => h9) rfl (by decide +kernel) (rfl) (rfl) d_D_moveTo_64 (fun H locs hP hD hS => ?_)
        exact W.vret hx hb hr (fun t hh hW => ⟨⟨g_I (g_I σ 9 4 np) 9 5 r11, rfl, hF.symm, by show va_P (dC, dI) cls (g_w x_sh dA ad (g_I (g_I σ 9 4 np) 9 5 r11)) t.heap; rw [hh]; exact hP⟩, hS.F hh⟩) hS.2.2 d_D_moveTo_67
    ·
      have c5 : ¬ (nx = (1000 : Int32)) := c5
      have hF : f_D_moveTo σ np nx = f_D_moveTo_26_14 σ np nx x1 := hF.trans (if_neg c5)
      have hQ : k_D_moveTo_26_14 σ np nx x1 := Eq.mp (if_neg c5) hQ
      refine lv_iload_n hx hb d_D_moveTo_26 rfl (lv_at hl 2 rfl) ?_
      refine lv_iload_n hx hb d_D_moveTo_27 rfl (lv_at hl 3 rfl) ?_
      obtain ⟨hs15, hQ⟩ := hQ
      refine g_cSi (va_runSN (host := "RangedPool") (As := [.int nx]) (rest := [.int np]) ⟨hx, hb, hml, hown, ht⟩ (c_P_priceOf l tb nx hs15) ⟨va_cnB 1 ht gn_P_priceOf rfl rfl rfl (hz.1 _ nk316) (ht _ kw1) (by decide +kernel) ⟨Nat.le_of_ble_eq_true rfl, Nat.le_of_ble_eq_true rfl⟩, ht _ kw168, trivial⟩ (g_prZ x_Zok hS hz _) rfl rfl hl.1 rfl (lv_room (Nat.le_of_ble_eq_true rfl)) d_D_moveTo_28 ⟨Nat.le_of_ble_eq_true rfl, Nat.le_of_ble_eq_true rfl⟩) (fun r16 e17 => ?_)
      have hF : f_D_moveTo σ np nx = f_D_moveTo_28_18 σ np nx x1 r16 := hF.trans (by rw [e17]; try rfl)
      have hQ : k_D_moveTo_28_18 σ np nx x1 r16 := by rw [e17]; exact hQ
      refine lv_icmp_ne (tgt := 55) hx hb d_D_moveTo_31 (by decide) (fun c19 => ?_) (fun c19 => ?_)
      ·
        have c19 : ¬ (np = r16) := c19
        have hF : f_D_moveTo σ np nx = f_D_moveTo_55_20 σ np nx x1 r16 := hF.trans (if_neg c19)
        have hQ : k_D_moveTo_55_20 σ np nx x1 r16 := Eq.mp (if_neg c19) hQ
        refine lv_iload_n hx hb d_D_moveTo_55 rfl (lv_at hl 0 rfl) ?_
        refine lv_if_eq (tgt := 67) hx hb d_D_moveTo_56 (by decide) (fun c21 => ?_) (fun c21 => ?_)
        ·
          have c21 : x1 = 0 := c21
          have hF : f_D_moveTo σ np nx = f_D_moveTo_67_22 σ np nx x1 r16 := hF.trans (if_pos c21)
          have hQ : k_D_moveTo_67_22 σ np nx x1 r16 := Eq.mp (if_pos c21) hQ
          exact W.vret hx hb hr (fun t hh hW => ⟨⟨g_I σ 9 4 np, rfl, hF.symm, by show va_P (dC, dI) cls (g_w x_sh dA ad (g_I σ 9 4 np)) t.heap; rw [hh]; exact hP⟩, hS.F hh⟩) hS.2.2 d_D_moveTo_67
        ·
          have c21 : ¬ (x1 = 0) := c21
          have hF : f_D_moveTo σ np nx = f_D_moveTo_59_23 σ np nx x1 r16 := hF.trans (if_neg c21)
          have hQ : k_D_moveTo_59_23 σ np nx x1 r16 := Eq.mp (if_neg c21) hQ
          refine lv_aload_n hx hb d_D_moveTo_59 rfl (lv_at hl 1 rfl) ?_
          refine lv_iload_n hx hb d_D_moveTo_60 rfl (lv_at hl 2 rfl) ?_
          obtain ⟨hs24, hQ⟩ := hQ
          refine g_cSi (va_runSN (host := "RangedPool") (As := [.int np]) (rest := [.ref (ad 9)]) ⟨hx, hb, hml, hown, ht⟩ (c_P_greatestStepAt l tb np hs24) ⟨va_cnB 1 ht gn_P_greatestStepAt rfl rfl rfl (hz.1 _ nk365) (ht _ kw1) (by decide +kernel) ⟨Nat.le_of_ble_eq_true rfl, Nat.le_of_ble_eq_true rfl⟩, ht _ kw366, trivial⟩ (g_prZ x_Zok hS hz _) rfl rfl hl.1 rfl (lv_room (Nat.le_of_ble_eq_true rfl)) d_D_moveTo_61 ⟨Nat.le_of_ble_eq_true rfl, Nat.le_of_ble_eq_true rfl⟩) (fun r25 e26 => ?_)
          have hF : f_D_moveTo σ np nx = f_D_moveTo_61_27 σ np nx x1 r16 r25 := hF.trans (by rw [e26]; try rfl)
          have hQ : k_D_moveTo_61_27 σ np nx x1 r16 r25 := by rw [e26]; exact hQ
          refine g_putI (v := r25) (ty := .int) hx hb ht in_D yt_D yt_D_ok n_D hown hK hP hD hS (9) x_at9 rfl 5 (by decide) rfl (ht _ kw106) (fun _ h9 => h9) rfl (by decide +kernel) (rfl) (rfl) d_D_moveTo_64 (fun H locs hP hD hS => ?_)
          exact W.vret hx hb hr (fun t hh hW => ⟨⟨g_I (g_I σ 9 4 np) 9 5 r25, rfl, hF.symm, by show va_P (dC, dI) cls (g_w x_sh dA ad (g_I (g_I σ 9 4 np) 9 5 r25)) t.heap; rw [hh]; exact hP⟩, hS.F hh⟩) hS.2.2 d_D_moveTo_67
      ·
        have c19 : np = r16 := c19
        have hF : f_D_moveTo σ np nx = f_D_moveTo_34_28 σ np nx x1 r16 := hF.trans (if_pos c19)
        have hQ : k_D_moveTo_34_28 σ np nx x1 r16 := Eq.mp (if_pos c19) hQ
        refine lv_aload_n hx hb d_D_moveTo_34 rfl (lv_at hl 1 rfl) ?_
        refine lv_aload_n hx hb d_D_moveTo_35 rfl (lv_at hl 1 rfl) ?_
        refine g_get hx hb ht in_D hown hK hP (9) x_at9 rfl 1 (by decide) rfl (ht _ kw101) (fun _ h9 => h9) (v := .int (σ.1 9 1)) rfl d_D_moveTo_36 ?_
        have J49_30 : ∀ (x29 : Int32) (ls : Array Slot), x29 = (if (σ.1 9 1) = 0 then nx else nx - (1 : Int32)) → lv_has ls 4 [] → W p l e (headSpec w_D_moveTo ({ frames := 2, cells := 0, slots := 0, locals := 41 })).room s m ([.ref (ad 9), .int np, .int nx] : List Value).toArray below meth c H locs 0 0 (MQ below (va_Qv (fun τ => τ = f_D_moveTo σ np nx) (fun τ t => va_P (dC, dI) cls (g_w x_sh dA ad τ) t.heap) A) ([.ref (ad 9), .int np, .int nx] : List Value).toArray s 0 0 A) (F0 m 49 ls [.int x29, .ref (ad 9)]) := by
          intro x29 ls e31 hl
          have hF : f_D_moveTo σ np nx = f_D_moveTo_49_32 σ np nx x1 r16 x29 := hF.trans (by rw [e31]; try rfl)
          have hQ : k_D_moveTo_49_32 σ np nx x1 r16 x29 := by rw [e31]; exact hQ
          refine g_putI (v := x29) (ty := .int) hx hb ht in_D yt_D yt_D_ok n_D hown hK hP hD hS (9) x_at9 rfl 5 (by decide) rfl (ht _ kw106) (fun _ h9 => h9) rfl (by decide +kernel) (rfl) (rfl) d_D_moveTo_49 (fun H locs hP hD hS => ?_)
          refine lv_goto (tgt := 67) hx hb d_D_moveTo_52 (by decide) ?_
          exact W.vret hx hb hr (fun t hh hW => ⟨⟨g_I (g_I σ 9 4 np) 9 5 x29, rfl, hF.symm, by show va_P (dC, dI) cls (g_w x_sh dA ad (g_I (g_I σ 9 4 np) 9 5 x29)) t.heap; rw [hh]; exact hP⟩, hS.F hh⟩) hS.2.2 d_D_moveTo_67
        refine lv_if_eq (tgt := 48) hx hb d_D_moveTo_39 (by decide) (fun c33 => ?_) (fun c33 => ?_)
        ·
          have c33 : (σ.1 9 1) = 0 := c33
          refine lv_iload_n hx hb d_D_moveTo_48 rfl (lv_at hl 3 rfl) ?_
          exact J49_30 nx ls (if_pos c33).symm (lv_sub hl [] rfl)
        ·
          have c33 : ¬ ((σ.1 9 1) = 0) := c33
          refine lv_iload_n hx hb d_D_moveTo_42 rfl (lv_at hl 3 rfl) ?_
          refine lv_iconst (v := (1 : Int32)) hx hb d_D_moveTo_43 (by decide) ?_
          refine lv_isub hx hb d_D_moveTo_44 ?_
          refine lv_goto (tgt := 49) hx hb d_D_moveTo_45 (by decide) ?_
          exact J49_30 (nx - (1 : Int32)) ls (if_neg c33).symm (lv_sub hl [] rfl)
  refine lv_icmp_eq (tgt := 12) hx hb d_D_moveTo_5 (by decide) (fun c34 => ?_) (fun c34 => ?_)
  ·
    have c34 : np = (σ.1 9 4) := c34
    refine lv_iconst (v := (0 : Int32)) hx hb d_D_moveTo_12 (by decide) ?_
    exact J13_2 (0 : Int32) ls (if_pos c34).symm (lv_sub hl [0, 1, 2] rfl)
  ·
    have c34 : ¬ (np = (σ.1 9 4)) := c34
    refine lv_iconst (v := (1 : Int32)) hx hb d_D_moveTo_8 (by decide) ?_
    refine lv_goto (tgt := 13) hx hb d_D_moveTo_9 (by decide) ?_
    exact J13_2 (1 : Int32) ls (if_neg c34).symm (lv_sub hl [0, 1, 2] rfl)
def f_D_goOneLeg_242_51 (σ : g_S) (x1 : Int32) (r6 : Int32) (r9 : Int64) (x12 : Int32) (r18 : Int64) (r22 : Int64) (x25 : Int64) (x29 : Int32) (x33 : Int64) (x38 : Int64) (τ45 : g_S) (τ50 : g_S) : g_S := τ50
def k_D_goOneLeg_242_51 (σ : g_S) (x1 : Int32) (r6 : Int32) (r9 : Int64) (x12 : Int32) (r18 : Int64) (r22 : Int64) (x25 : Int64) (x29 : Int32) (x33 : Int64) (x38 : Int64) (τ45 : g_S) (τ50 : g_S) : Prop := True
def f_D_goOneLeg_235_46 (σ : g_S) (x1 : Int32) (r6 : Int32) (r9 : Int64) (x12 : Int32) (r18 : Int64) (r22 : Int64) (x25 : Int64) (x29 : Int32) (x33 : Int64) (x38 : Int64) (τ45 : g_S) : g_S := (f_D_goOneLeg_242_51 σ x1 r6 r9 x12 r18 r22 x25 x29 x33 x38 τ45 (f_D_moveTo τ45 x12 x1))
def k_D_goOneLeg_235_46 (σ : g_S) (x1 : Int32) (r6 : Int32) (r9 : Int64) (x12 : Int32) (r18 : Int64) (r22 : Int64) (x25 : Int64) (x29 : Int32) (x33 : Int64) (x38 : Int64) (τ45 : g_S) : Prop := (k_D_moveTo τ45 x12 x1) ∧ (k_D_goOneLeg_242_51 σ x1 r6 r9 x12 r18 r22 x25 x29 x33 x38 τ45 (f_D_moveTo τ45 x12 x1))
def f_D_goOneLeg_222_41 (σ : g_S) (x1 : Int32) (r6 : Int32) (r9 : Int64) (x12 : Int32) (r18 : Int64) (r22 : Int64) (x25 : Int64) (x29 : Int32) (x33 : Int64) (x38 : Int64) : g_S := (f_D_goOneLeg_235_46 σ x1 r6 r9 x12 r18 r22 x25 x29 x33 x38 (f_B_growPending (g_L (g_L (g_L σ 9 6 ((σ.2 9 6) + (r18 + x33))) 9 7 ((σ.2 9 7) + x25)) 9 3 ((σ.2 9 3) + x38)) (σ.1 9 5) x33 r9))
def k_D_goOneLeg_222_41 (σ : g_S) (x1 : Int32) (r6 : Int32) (r9 : Int64) (x12 : Int32) (r18 : Int64) (r22 : Int64) (x25 : Int64) (x29 : Int32) (x33 : Int64) (x38 : Int64) : Prop := (k_B_growPending (g_L (g_L (g_L σ 9 6 ((σ.2 9 6) + (r18 + x33))) 9 7 ((σ.2 9 7) + x25)) 9 3 ((σ.2 9 3) + x38)) (σ.1 9 5) x33 r9) ∧ (k_D_goOneLeg_235_46 σ x1 r6 r9 x12 r18 r22 x25 x29 x33 x38 (f_B_growPending (g_L (g_L (g_L σ 9 6 ((σ.2 9 6) + (r18 + x33))) 9 7 ((σ.2 9 7) + x25)) 9 3 ((σ.2 9 3) + x38)) (σ.1 9 5) x33 r9))
def f_D_goOneLeg_170_37 (σ : g_S) (x1 : Int32) (r6 : Int32) (r9 : Int64) (x12 : Int32) (r18 : Int64) (r22 : Int64) (x25 : Int64) (x29 : Int32) (x33 : Int64) : g_S := (f_D_goOneLeg_222_41 σ x1 r6 r9 x12 r18 r22 x25 x29 x33 (if (σ.2 9 3) ≤ (0 : Int64) then x25 else -(r18 + x33)))
def k_D_goOneLeg_170_37 (σ : g_S) (x1 : Int32) (r6 : Int32) (r9 : Int64) (x12 : Int32) (r18 : Int64) (r22 : Int64) (x25 : Int64) (x29 : Int32) (x33 : Int64) : Prop := (k_D_goOneLeg_222_41 σ x1 r6 r9 x12 r18 r22 x25 x29 x33 (if (σ.2 9 3) ≤ (0 : Int64) then x25 else -(r18 + x33)))
def f_D_goOneLeg_132_32 (σ : g_S) (x1 : Int32) (r6 : Int32) (r9 : Int64) (x12 : Int32) (r18 : Int64) (r22 : Int64) (x25 : Int64) (x29 : Int32) : g_S := (f_D_goOneLeg_170_37 σ x1 r6 r9 x12 r18 r22 x25 x29 (if x29 = 0 then f_P_quotient (r18 * ((σ.1 9 0).toInt64)) ((1000 : Int64) - ((σ.1 9 0).toInt64)) (1 : Int32) else (σ.2 9 3) - r18))
def k_D_goOneLeg_132_32 (σ : g_S) (x1 : Int32) (r6 : Int32) (r9 : Int64) (x12 : Int32) (r18 : Int64) (r22 : Int64) (x25 : Int64) (x29 : Int32) : Prop := (if x29 = 0 then (k_P_quotient (r18 * ((σ.1 9 0).toInt64)) ((1000 : Int64) - ((σ.1 9 0).toInt64)) (1 : Int32)) ∧ True else True) ∧ (k_D_goOneLeg_170_37 σ x1 r6 r9 x12 r18 r22 x25 x29 (if x29 = 0 then f_P_quotient (r18 * ((σ.1 9 0).toInt64)) ((1000 : Int64) - ((σ.1 9 0).toInt64)) (1 : Int32) else (σ.2 9 3) - r18))
def f_D_goOneLeg_112_28 (σ : g_S) (x1 : Int32) (r6 : Int32) (r9 : Int64) (x12 : Int32) (r18 : Int64) (r22 : Int64) (x25 : Int64) : g_S := (f_D_goOneLeg_132_32 σ x1 r6 r9 x12 r18 r22 x25 (if (σ.2 9 3) ≤ (0 : Int64) then (0 : Int32) else (if x12 = r6 then (0 : Int32) else (1 : Int32))))
def k_D_goOneLeg_112_28 (σ : g_S) (x1 : Int32) (r6 : Int32) (r9 : Int64) (x12 : Int32) (r18 : Int64) (r22 : Int64) (x25 : Int64) : Prop := (k_D_goOneLeg_132_32 σ x1 r6 r9 x12 r18 r22 x25 (if (σ.2 9 3) ≤ (0 : Int64) then (0 : Int32) else (if x12 = r6 then (0 : Int32) else (1 : Int32))))
def f_D_goOneLeg_86_24 (σ : g_S) (x1 : Int32) (r6 : Int32) (r9 : Int64) (x12 : Int32) (r18 : Int64) (r22 : Int64) : g_S := (f_D_goOneLeg_112_28 σ x1 r6 r9 x12 r18 r22 (if (0 : Int64) ≤ (σ.2 9 3) then r22 else (if (-(σ.2 9 3)) < r22 then (-(σ.2 9 3)) else r22)))
def k_D_goOneLeg_86_24 (σ : g_S) (x1 : Int32) (r6 : Int32) (r9 : Int64) (x12 : Int32) (r18 : Int64) (r22 : Int64) : Prop := (k_D_goOneLeg_112_28 σ x1 r6 r9 x12 r18 r22 (if (0 : Int64) ≤ (σ.2 9 3) then r22 else (if (-(σ.2 9 3)) < r22 then (-(σ.2 9 3)) else r22)))
def f_D_goOneLeg_76_20 (σ : g_S) (x1 : Int32) (r6 : Int32) (r9 : Int64) (x12 : Int32) (r18 : Int64) : g_S := (f_D_goOneLeg_86_24 σ x1 r6 r9 x12 r18 (f_D_amountOut σ r9 x12))
def k_D_goOneLeg_76_20 (σ : g_S) (x1 : Int32) (r6 : Int32) (r9 : Int64) (x12 : Int32) (r18 : Int64) : Prop := (k_D_amountOut σ r9 x12) ∧ (k_D_goOneLeg_86_24 σ x1 r6 r9 x12 r18 (f_D_amountOut σ r9 x12))
def f_D_goOneLeg_69_16 (σ : g_S) (x1 : Int32) (r6 : Int32) (r9 : Int64) (x12 : Int32) : g_S := (f_D_goOneLeg_76_20 σ x1 r6 r9 x12 (f_D_amountIn σ r9 x12))
def k_D_goOneLeg_69_16 (σ : g_S) (x1 : Int32) (r6 : Int32) (r9 : Int64) (x12 : Int32) : Prop := (k_D_amountIn σ r9 x12) ∧ (k_D_goOneLeg_76_20 σ x1 r6 r9 x12 (f_D_amountIn σ r9 x12))
def f_D_goOneLeg_38_11 (σ : g_S) (x1 : Int32) (r6 : Int32) (r9 : Int64) : g_S := (f_D_goOneLeg_69_16 σ x1 r6 r9 (if (σ.2 9 3) ≤ (0 : Int64) then f_D_priceAfterTaking σ r9 r6 else f_D_priceAfterPaying σ r9 r6))
def k_D_goOneLeg_38_11 (σ : g_S) (x1 : Int32) (r6 : Int32) (r9 : Int64) : Prop := (if (σ.2 9 3) ≤ (0 : Int64) then (k_D_priceAfterTaking σ r9 r6) ∧ True else (k_D_priceAfterPaying σ r9 r6) ∧ True) ∧ (k_D_goOneLeg_69_16 σ x1 r6 r9 (if (σ.2 9 3) ≤ (0 : Int64) then f_D_priceAfterTaking σ r9 r6 else f_D_priceAfterPaying σ r9 r6))
def f_D_goOneLeg_29_8 (σ : g_S) (x1 : Int32) (r6 : Int32) : g_S := (f_D_goOneLeg_38_11 σ x1 r6 (f_B_depthAt σ (σ.1 9 5)))
def k_D_goOneLeg_29_8 (σ : g_S) (x1 : Int32) (r6 : Int32) : Prop := (k_D_goOneLeg_38_11 σ x1 r6 (f_B_depthAt σ (σ.1 9 5)))
def f_D_goOneLeg_26_4 (σ : g_S) (x1 : Int32) : g_S := (f_D_goOneLeg_29_8 σ x1 (f_D_targetBefore σ x1))
def k_D_goOneLeg_26_4 (σ : g_S) (x1 : Int32) : Prop := (k_D_targetBefore σ x1) ∧ (k_D_goOneLeg_29_8 σ x1 (f_D_targetBefore σ x1))
def f_D_goOneLeg (σ : g_S) : g_S := (f_D_goOneLeg_26_4 σ (if (σ.1 9 1) = 0 then f_B_markedAbove σ (σ.1 9 5) else f_B_markedAtOrBelow σ (σ.1 9 5)))
def k_D_goOneLeg (σ : g_S) : Prop := (k_D_goOneLeg_26_4 σ (if (σ.1 9 1) = 0 then f_B_markedAbove σ (σ.1 9 5) else f_B_markedAtOrBelow σ (σ.1 9 5)))
set_option maxHeartbeats 4000000 in
set_option maxRecDepth 100000 in
theorem c_D_goOneLeg (l : Launch) (dC : Nat → ClassId) (dI : Nat → Nat → Nat) (dA : Nat → ClassId) (ad : Nat → Nat) (tb : Nat) (sz : Nat) (σ : g_S) (hQ : k_D_goOneLeg σ) : Met l y_D_goOneLeg w_D_goOneLeg ({ frames := 4, cells := 0, slots := 0, locals := 100 }) (va_Pc [.ref (ad 9), .ref (ad 3)] (g_W (dC, dI) cls (x_tys dA) (g_w x_sh dA ad σ) sz (x_Z tb))) (va_Qv (fun τ => τ = f_D_goOneLeg σ) (fun τ t => va_P (dC, dI) cls (g_w x_sh dA ad τ) t.heap) (va_A (g_w x_sh dA ad σ) sz)) 0 0 (va_A (g_w x_sh dA ad σ) sz) := by
  refine Met.ofW (cc := b_D_goOneLeg) (maxL := 14) (ret := none) (by decide) rfl ?_
  intro p e s m args below meth c s₁ B hml hv
  obtain ⟨rfl, hsz, hP, hK, hD0, hz⟩ := hv
  have hx := B.exec
  have hb := B.bytes
  have hr := B.returns
  have hts := atoms_spec (ws := w_D_goOneLeg) B.pre
  have ht := fun (w : Cond) (h : w ∈ gA) => hts w (List.mem_cons_of_mem _ h)
  have hown : s.vm.findClass "RangedPool$Trade" = some m.cls := findClass_of_methodNamed B.named
  have hlocks := B.notSynchronized
  subst hsz
  have hD := hD0.self (sz := s.heap.size)
  have hA : ∀ q : Nat, s.heap.size ≤ q → va_A (g_w x_sh dA ad σ) s.heap.size q := fun q h => Or.inr h
  generalize hAe : va_A (g_w x_sh dA ad σ) s.heap.size = A at hD hA hz ⊢
  have hS : va_S A s.heap s.heap [] := va_S.rf
  have hl := lv_entry ([.ref (ad 9), .ref (ad 3)]) (n := 14) (Nat.le_of_ble_eq_true rfl)
  rw [lg_entry_eq]
  generalize (lg_sl ([.ref (ad 9), .ref (ad 3)]) ++ List.replicate (14 - (lg_sl ([.ref (ad 9), .ref (ad 3)])).length) Slot.unset).toArray = ls at hl ⊢
  have hl : lv_has ls 14 [(0, .ref (ad 9)), (1, .ref (ad 3))] := hl
  have hF : f_D_goOneLeg σ = f_D_goOneLeg σ := rfl
  refine lv_aload_n hx hb d_D_goOneLeg_0 rfl (lv_at hl 0 rfl) ?_
  refine g_get hx hb ht in_D hown hK hP (9) x_at9 rfl 1 (by decide) rfl (ht _ kw101) (fun _ h9 => h9) (v := .int (σ.1 9 1)) rfl d_D_goOneLeg_1 ?_
  have J26_2 : ∀ (x1 : Int32) (ls : Array Slot), x1 = (if (σ.1 9 1) = 0 then f_B_markedAbove σ (σ.1 9 5) else f_B_markedAtOrBelow σ (σ.1 9 5)) → lv_has ls 14 [(0, .ref (ad 9)), (1, .ref (ad 3))] → W p l e (headSpec w_D_goOneLeg ({ frames := 4, cells := 0, slots := 0, locals := 100 })).room s m ([.ref (ad 9), .ref (ad 3)] : List Value).toArray below meth c s.heap [] 0 0 (MQ below (va_Qv (fun τ => τ = f_D_goOneLeg σ) (fun τ t => va_P (dC, dI) cls (g_w x_sh dA ad τ) t.heap) A) ([.ref (ad 9), .ref (ad 3)] : List Value).toArray s 0 0 A) (F0 m 26 ls [.int x1]) := by
    intro x1 ls e3 hl
    have hF : f_D_goOneLeg σ = f_D_goOneLeg_26_4 σ x1 := hF.trans (by rw [e3]; try rfl)
    have hQ : k_D_goOneLeg_26_4 σ x1 := by rw [e3]; exact hQ
    refine lv_istore_n (lv' := [(2, .int x1), (0, .ref (ad 9)), (1, .ref (ad 3))]) hx hb d_D_goOneLeg_26 rfl hl (by decide) rfl (fun ls hl => ?_)
    refine lv_aload_n hx hb d_D_goOneLeg_27 rfl (lv_at hl 1 rfl) ?_
    refine lv_iload_n hx hb d_D_goOneLeg_28 rfl (lv_at hl 0 rfl) ?_
    obtain ⟨hs5, hQ⟩ := hQ
    refine g_cSi (va_runV (As := [.int x1]) (rest := []) ⟨hx, hb, hml, hown, ht⟩ (c_D_targetBefore l dC dI dA ad tb σ x1 hs5) (cwV 1 ht gc_D_54 rfl rfl rfl (by decide +kernel) ⟨Nat.le_of_ble_eq_true rfl, Nat.le_of_ble_eq_true rfl⟩) (g_pV (g_prR x_Zok hK hP hS hz _) (g_rc hK hP (9) x_at9 rfl)) rfl rfl hl.1 rfl (lv_room (Nat.le_of_ble_eq_true rfl)) d_D_goOneLeg_29 ⟨Nat.le_of_ble_eq_true rfl, Nat.le_of_ble_eq_true rfl⟩) (fun r6 e7 => ?_)
    have hF : f_D_goOneLeg σ = f_D_goOneLeg_29_8 σ x1 r6 := hF.trans (by rw [e7]; try rfl)
    have hQ : k_D_goOneLeg_29_8 σ x1 r6 := by rw [e7]; exact hQ
    refine lv_istore_n (lv' := [(3, .int r6), (2, .int x1), (0, .ref (ad 9)), (1, .ref (ad 3))]) hx hb d_D_goOneLeg_32 rfl hl (by decide) rfl (fun ls hl => ?_)
    refine lv_aload_n hx hb d_D_goOneLeg_33 rfl (lv_at hl 3 rfl) ?_
    refine lv_aload_n hx hb d_D_goOneLeg_34 rfl (lv_at hl 2 rfl) ?_
    refine g_get hx hb ht in_D hown hK hP (9) x_at9 rfl 5 (by decide) rfl (ht _ kw106) (fun _ h9 => h9) (v := .int (σ.1 9 5)) rfl d_D_goOneLeg_35 ?_
    refine g_cSl (va_runVN (host := "RangedPool") (As := [.int (σ.1 9 5)]) (rest := []) ⟨hx, hb, hml, hown, ht⟩ (c_B_depthAt l dC dI dA ad tb σ (σ.1 9 5)) ⟨va_cnB 1 ht gn_B_depthAt rfl rfl rfl (hz.1 _ nk323) (ht _ kw2) (by decide +kernel) ⟨Nat.le_of_ble_eq_true rfl, Nat.le_of_ble_eq_true rfl⟩, ht _ kw325, ht _ ks23⟩ (g_pV (g_prR x_Zok hK hP hS hz _) (g_rc hK hP (3) x_at3 rfl)) rfl rfl hl.1 rfl (lv_room (Nat.le_of_ble_eq_true rfl)) d_D_goOneLeg_38 ⟨Nat.le_of_ble_eq_true rfl, Nat.le_of_ble_eq_true rfl⟩) (fun r9 e10 => ?_)
    have hF : f_D_goOneLeg σ = f_D_goOneLeg_38_11 σ x1 r6 r9 := hF.trans (by rw [e10]; try rfl)
    have hQ : k_D_goOneLeg_38_11 σ x1 r6 r9 := by rw [e10]; exact hQ
    refine lv_lstore (lv' := [(4, .long r9), (3, .int r6), (2, .int x1), (0, .ref (ad 9)), (1, .ref (ad 3))]) hx hb d_D_goOneLeg_41 hl (by decide) rfl (fun ls hl => ?_)
    refine lv_aload_n hx hb d_D_goOneLeg_43 rfl (lv_at hl 3 rfl) ?_
    refine g_get hx hb ht in_D hown hK hP (9) x_at9 rfl 3 (by decide) rfl (ht _ kw103) (fun _ h9 => h9) (v := .long (σ.2 9 3)) rfl d_D_goOneLeg_44 ?_
    refine lv_lconst (v := (0 : Int64)) hx hb d_D_goOneLeg_47 (by decide) ?_
    refine W.lcmp hx hb d_D_goOneLeg_48 ?_
    obtain ⟨hT15, hQ⟩ := hQ
    have J69_13 : ∀ (x12 : Int32) (ls : Array Slot), x12 = (if (σ.2 9 3) ≤ (0 : Int64) then f_D_priceAfterTaking σ r9 r6 else f_D_priceAfterPaying σ r9 r6) → lv_has ls 14 [(4, .long r9), (3, .int r6), (2, .int x1), (0, .ref (ad 9)), (1, .ref (ad 3))] → W p l e (headSpec w_D_goOneLeg ({ frames := 4, cells := 0, slots := 0, locals := 100 })).room s m ([.ref (ad 9), .ref (ad 3)] : List Value).toArray below meth c s.heap [] 0 0 (MQ below (va_Qv (fun τ => τ = f_D_goOneLeg σ) (fun τ t => va_P (dC, dI) cls (g_w x_sh dA ad τ) t.heap) A) ([.ref (ad 9), .ref (ad 3)] : List Value).toArray s 0 0 A) (F0 m 69 ls [.int x12]) := by
      intro x12 ls e14 hl
      have hF : f_D_goOneLeg σ = f_D_goOneLeg_69_16 σ x1 r6 r9 x12 := hF.trans (by rw [e14]; try rfl)
      have hQ : k_D_goOneLeg_69_16 σ x1 r6 r9 x12 := by rw [e14]; exact hQ
      refine lv_istore (lv' := [(6, .int x12), (4, .long r9), (3, .int r6), (2, .int x1), (0, .ref (ad 9)), (1, .ref (ad 3))]) hx hb d_D_goOneLeg_69 hl (by decide) rfl (fun ls hl => ?_)
      refine lv_aload_n hx hb d_D_goOneLeg_71 rfl (lv_at hl 4 rfl) ?_
      refine lv_lload hx hb d_D_goOneLeg_72 (lv_at hl 1 rfl) ?_
      refine lv_iload hx hb d_D_goOneLeg_74 (lv_at hl 0 rfl) ?_
      obtain ⟨hs17, hQ⟩ := hQ
      refine g_cSl (va_runV (As := [.long r9, .int x12]) (rest := []) ⟨hx, hb, hml, hown, ht⟩ (c_D_amountIn l dC dI dA ad tb σ r9 x12 hs17) (cwV 2 ht gc_D_68 rfl rfl rfl (by decide +kernel) ⟨Nat.le_of_ble_eq_true rfl, Nat.le_of_ble_eq_true rfl⟩) (g_pV (g_prR x_Zok hK hP hS hz _) (g_rc hK hP (9) x_at9 rfl)) rfl rfl hl.1 rfl (lv_room (Nat.le_of_ble_eq_true rfl)) d_D_goOneLeg_76 ⟨Nat.le_of_ble_eq_true rfl, Nat.le_of_ble_eq_true rfl⟩) (fun r18 e19 => ?_)
      have hF : f_D_goOneLeg σ = f_D_goOneLeg_76_20 σ x1 r6 r9 x12 r18 := hF.trans (by rw [e19]; try rfl)
      have hQ : k_D_goOneLeg_76_20 σ x1 r6 r9 x12 r18 := by rw [e19]; exact hQ
      refine lv_lstore (lv' := [(7, .long r18), (6, .int x12), (4, .long r9), (3, .int r6), (2, .int x1), (0, .ref (ad 9)), (1, .ref (ad 3))]) hx hb d_D_goOneLeg_79 hl (by decide) rfl (fun ls hl => ?_)
      refine lv_aload_n hx hb d_D_goOneLeg_81 rfl (lv_at hl 5 rfl) ?_
      refine lv_lload hx hb d_D_goOneLeg_82 (lv_at hl 2 rfl) ?_
      refine lv_iload hx hb d_D_goOneLeg_84 (lv_at hl 1 rfl) ?_
      obtain ⟨hs21, hQ⟩ := hQ
      refine g_cSl (va_runV (As := [.long r9, .int x12]) (rest := []) ⟨hx, hb, hml, hown, ht⟩ (c_D_amountOut l dC dI dA ad tb σ r9 x12 hs21) (cwV 2 ht gc_D_72 rfl rfl rfl (by decide +kernel) ⟨Nat.le_of_ble_eq_true rfl, Nat.le_of_ble_eq_true rfl⟩) (g_pV (g_prR x_Zok hK hP hS hz _) (g_rc hK hP (9) x_at9 rfl)) rfl rfl hl.1 rfl (lv_room (Nat.le_of_ble_eq_true rfl)) d_D_goOneLeg_86 ⟨Nat.le_of_ble_eq_true rfl, Nat.le_of_ble_eq_true rfl⟩) (fun r22 e23 => ?_)
      have hF : f_D_goOneLeg σ = f_D_goOneLeg_86_24 σ x1 r6 r9 x12 r18 r22 := hF.trans (by rw [e23]; try rfl)
      have hQ : k_D_goOneLeg_86_24 σ x1 r6 r9 x12 r18 r22 := by rw [e23]; exact hQ
      refine lv_lstore (lv' := [(9, .long r22), (7, .long r18), (6, .int x12), (4, .long r9), (3, .int r6), (2, .int x1), (0, .ref (ad 9)), (1, .ref (ad 3))]) hx hb d_D_goOneLeg_89 hl (by decide) rfl (fun ls hl => ?_)
      refine lv_aload_n hx hb d_D_goOneLeg_91 rfl (lv_at hl 6 rfl) ?_
      refine g_get hx hb ht in_D hown hK hP (9) x_at9 rfl 3 (by decide) rfl (ht _ kw103) (fun _ h9 => h9) (v := .long (σ.2 9 3)) rfl d_D_goOneLeg_92 ?_
      refine lv_lconst (v := (0 : Int64)) hx hb d_D_goOneLeg_95 (by decide) ?_
      refine W.lcmp hx hb d_D_goOneLeg_96 ?_
      have J112_26 : ∀ (x25 : Int64) (ls : Array Slot), x25 = (if (0 : Int64) ≤ (σ.2 9 3) then r22 else (if (-(σ.2 9 3)) < r22 then (-(σ.2 9 3)) else r22)) → lv_has ls 14 [(9, .long x25), (7, .long r18), (6, .int x12), (4, .long r9), (3, .int r6), (2, .int x1), (0, .ref (ad 9)), (1, .ref (ad 3))] → W p l e (headSpec w_D_goOneLeg ({ frames := 4, cells := 0, slots := 0, locals := 100 })).room s m ([.ref (ad 9), .ref (ad 3)] : List Value).toArray below meth c s.heap [] 0 0 (MQ below (va_Qv (fun τ => τ = f_D_goOneLeg σ) (fun τ t => va_P (dC, dI) cls (g_w x_sh dA ad τ) t.heap) A) ([.ref (ad 9), .ref (ad 3)] : List Value).toArray s 0 0 A) (F0 m 112 ls []) := by
        intro x25 ls e27 hl
        have hF : f_D_goOneLeg σ = f_D_goOneLeg_112_28 σ x1 r6 r9 x12 r18 r22 x25 := hF.trans (by rw [e27]; try rfl)
        have hQ : k_D_goOneLeg_112_28 σ x1 r6 r9 x12 r18 r22 x25 := by rw [e27]; exact hQ
        refine lv_aload_n hx hb d_D_goOneLeg_112 rfl (lv_at hl 6 rfl) ?_
        refine g_get hx hb ht in_D hown hK hP (9) x_at9 rfl 3 (by decide) rfl (ht _ kw103) (fun _ h9 => h9) (v := .long (σ.2 9 3)) rfl d_D_goOneLeg_113 ?_
        refine lv_lconst (v := (0 : Int64)) hx hb d_D_goOneLeg_116 (by decide) ?_
        refine W.lcmp hx hb d_D_goOneLeg_117 ?_
        have J132_30 : ∀ (x29 : Int32) (ls : Array Slot), x29 = (if (σ.2 9 3) ≤ (0 : Int64) then (0 : Int32) else (if x12 = r6 then (0 : Int32) else (1 : Int32))) → lv_has ls 14 [(9, .long x25), (7, .long r18), (6, .int x12), (4, .long r9), (2, .int x1), (0, .ref (ad 9)), (1, .ref (ad 3))] → W p l e (headSpec w_D_goOneLeg ({ frames := 4, cells := 0, slots := 0, locals := 100 })).room s m ([.ref (ad 9), .ref (ad 3)] : List Value).toArray below meth c s.heap [] 0 0 (MQ below (va_Qv (fun τ => τ = f_D_goOneLeg σ) (fun τ t => va_P (dC, dI) cls (g_w x_sh dA ad τ) t.heap) A) ([.ref (ad 9), .ref (ad 3)] : List Value).toArray s 0 0 A) (F0 m 132 ls [.int x29]) := by
          intro x29 ls e31 hl
          have hF : f_D_goOneLeg σ = f_D_goOneLeg_132_32 σ x1 r6 r9 x12 r18 r22 x25 x29 := hF.trans (by rw [e31]; try rfl)
          have hQ : k_D_goOneLeg_132_32 σ x1 r6 r9 x12 r18 r22 x25 x29 := by rw [e31]; exact hQ
          refine lv_istore (lv' := [(11, .int x29), (9, .long x25), (7, .long r18), (6, .int x12), (4, .long r9), (2, .int x1), (0, .ref (ad 9)), (1, .ref (ad 3))]) hx hb d_D_goOneLeg_132 hl (by decide) rfl (fun ls hl => ?_)
          refine lv_iload hx hb d_D_goOneLeg_134 (lv_at hl 0 rfl) ?_
          obtain ⟨hT36, hQ⟩ := hQ
          have J170_34 : ∀ (x33 : Int64) (ls : Array Slot), x33 = (if x29 = 0 then f_P_quotient (r18 * ((σ.1 9 0).toInt64)) ((1000 : Int64) - ((σ.1 9 0).toInt64)) (1 : Int32) else (σ.2 9 3) - r18) → lv_has ls 14 [(9, .long x25), (7, .long r18), (6, .int x12), (4, .long r9), (2, .int x1), (0, .ref (ad 9)), (1, .ref (ad 3))] → W p l e (headSpec w_D_goOneLeg ({ frames := 4, cells := 0, slots := 0, locals := 100 })).room s m ([.ref (ad 9), .ref (ad 3)] : List Value).toArray below meth c s.heap [] 0 0 (MQ below (va_Qv (fun τ => τ = f_D_goOneLeg σ) (fun τ t => va_P (dC, dI) cls (g_w x_sh dA ad τ) t.heap) A) ([.ref (ad 9), .ref (ad 3)] : List Value).toArray s 0 0 A) (F0 m 170 ls [.long x33]) := by
            intro x33 ls e35 hl
            have hF : f_D_goOneLeg σ = f_D_goOneLeg_170_37 σ x1 r6 r9 x12 r18 r22 x25 x29 x33 := hF.trans (by rw [e35]; try rfl)
            have hQ : k_D_goOneLeg_170_37 σ x1 r6 r9 x12 r18 r22 x25 x29 x33 := by rw [e35]; exact hQ
            refine lv_lstore (lv' := [(12, .long x33), (9, .long x25), (7, .long r18), (6, .int x12), (4, .long r9), (2, .int x1), (0, .ref (ad 9)), (1, .ref (ad 3))]) hx hb d_D_goOneLeg_170 hl (by decide) rfl (fun ls hl => ?_)
            refine lv_aload_n hx hb d_D_goOneLeg_172 rfl (lv_at hl 6 rfl) ?_
            refine lv_dup hx hb d_D_goOneLeg_173 rfl ?_
            refine g_get hx hb ht in_D hown hK hP (9) x_at9 rfl 6 (by decide) rfl (ht _ kw108) (fun _ h9 => h9) (v := .long (σ.2 9 6)) rfl d_D_goOneLeg_174 ?_
            refine lv_lload hx hb d_D_goOneLeg_177 (lv_at hl 2 rfl) ?_
            refine lv_lload hx hb d_D_goOneLeg_179 (lv_at hl 0 rfl) ?_
            refine lv_ladd hx hb d_D_goOneLeg_181 ?_
            refine lv_ladd hx hb d_D_goOneLeg_182 ?_
            refine g_putL (v := (σ.2 9 6) + (r18 + x33)) (ty := .long) hx hb ht in_D yt_D yt_D_ok n_D hown hK hP hD hS (9) x_at9 rfl 6 (by decide) rfl (ht _ kw108) (fun _ h9 => h9) rfl (by decide +kernel) (rfl) (rfl) d_D_goOneLeg_183 (fun H locs hP hD hS => ?_)
            refine lv_aload_n hx hb d_D_goOneLeg_186 rfl (lv_at hl 6 rfl) ?_
            refine lv_dup hx hb d_D_goOneLeg_187 rfl ?_
            refine g_get hx hb ht in_D hown hK hP (9) x_at9 rfl 7 (by decide) rfl (ht _ kw110) (fun _ h9 => h9) (v := .long (σ.2 9 7)) rfl d_D_goOneLeg_188 ?_
            refine lv_lload hx hb d_D_goOneLeg_191 (lv_at hl 1 rfl) ?_
            refine lv_ladd hx hb d_D_goOneLeg_193 ?_
            refine g_putL (v := (σ.2 9 7) + x25) (ty := .long) hx hb ht in_D yt_D yt_D_ok n_D hown hK hP hD hS (9) x_at9 rfl 7 (by decide) rfl (ht _ kw110) (fun _ h9 => h9) rfl (by decide +kernel) (rfl) (rfl) d_D_goOneLeg_194 (fun H locs hP hD hS => ?_)
            refine lv_aload_n hx hb d_D_goOneLeg_197 rfl (lv_at hl 6 rfl) ?_
            refine lv_dup hx hb d_D_goOneLeg_198 rfl ?_
            refine g_get hx hb ht in_D hown hK hP (9) x_at9 rfl 3 (by decide) rfl (ht _ kw103) (fun _ h9 => h9) (v := .long (σ.2 9 3)) rfl d_D_goOneLeg_199 ?_
            refine lv_aload_n hx hb d_D_goOneLeg_202 rfl (lv_at hl 6 rfl) ?_
            refine g_get hx hb ht in_D hown hK hP (9) x_at9 rfl 3 (by decide) rfl (ht _ kw103) (fun _ h9 => h9) (v := .long (σ.2 9 3)) rfl d_D_goOneLeg_203 ?_
            refine lv_lconst (v := (0 : Int64)) hx hb d_D_goOneLeg_206 (by decide) ?_
            refine W.lcmp hx hb d_D_goOneLeg_207 ?_
            have J222_39 : ∀ (x38 : Int64) (ls : Array Slot), x38 = (if (σ.2 9 3) ≤ (0 : Int64) then x25 else -(r18 + x33)) → lv_has ls 14 [(12, .long x33), (6, .int x12), (4, .long r9), (2, .int x1), (0, .ref (ad 9)), (1, .ref (ad 3))] → W p l e (headSpec w_D_goOneLeg ({ frames := 4, cells := 0, slots := 0, locals := 100 })).room s m ([.ref (ad 9), .ref (ad 3)] : List Value).toArray below meth c H locs 0 0 (MQ below (va_Qv (fun τ => τ = f_D_goOneLeg σ) (fun τ t => va_P (dC, dI) cls (g_w x_sh dA ad τ) t.heap) A) ([.ref (ad 9), .ref (ad 3)] : List Value).toArray s 0 0 A) (F0 m 222 ls [.long x38, .long (σ.2 9 3), .ref (ad 9)]) := by
              intro x38 ls e40 hl
              have hF : f_D_goOneLeg σ = f_D_goOneLeg_222_41 σ x1 r6 r9 x12 r18 r22 x25 x29 x33 x38 := hF.trans (by rw [e40]; try rfl)
              have hQ : k_D_goOneLeg_222_41 σ x1 r6 r9 x12 r18 r22 x25 x29 x33 x38 := by rw [e40]; exact hQ
              refine lv_ladd hx hb d_D_goOneLeg_222 ?_
              refine g_putL (v := (σ.2 9 3) + x38) (ty := .long) hx hb ht in_D yt_D yt_D_ok n_D hown hK hP hD hS (9) x_at9 rfl 3 (by decide) rfl (ht _ kw103) (fun _ h9 => h9) rfl (by decide +kernel) (rfl) (rfl) d_D_goOneLeg_223 (fun H locs hP hD hS => ?_)
              refine lv_aload_n hx hb d_D_goOneLeg_226 rfl (lv_at hl 5 rfl) ?_
              refine lv_aload_n hx hb d_D_goOneLeg_227 rfl (lv_at hl 4 rfl) ?_
              refine g_get hx hb ht in_D hown hK hP (9) x_at9 rfl 5 (by decide) rfl (ht _ kw106) (fun _ h9 => h9) (v := .int (σ.1 9 5)) rfl d_D_goOneLeg_228 ?_
              refine lv_lload hx hb d_D_goOneLeg_231 (lv_at hl 0 rfl) ?_
              refine lv_lload hx hb d_D_goOneLeg_233 (lv_at hl 2 rfl) ?_
              obtain ⟨hs42, hQ⟩ := hQ
              refine g_cWv (va_runVN (host := "RangedPool") (As := [.int (σ.1 9 5), .long x33, .long r9]) (rest := []) ⟨hx, hb, hml, hown, ht⟩ (c_B_growPending l dC dI dA ad tb H.size (g_L (g_L (g_L σ 9 6 ((σ.2 9 6) + (r18 + x33))) 9 7 ((σ.2 9 7) + x25)) 9 3 ((σ.2 9 3) + x38)) (σ.1 9 5) x33 r9 hs42) ⟨va_cnB 3 ht gn_B_growPending rfl rfl rfl (hz.1 _ nk355) (ht _ kw2) (by decide +kernel) ⟨Nat.le_of_ble_eq_true rfl, Nat.le_of_ble_eq_true rfl⟩, ht _ kw357, ht _ ks29⟩ (g_pV (g_prW x_Zok hK hP hD hS hA hz _) (g_rc hK hP (3) x_at3 rfl)) rfl rfl hl.1 rfl (lv_room (Nat.le_of_ble_eq_true rfl)) d_D_goOneLeg_235 ⟨Nat.le_of_ble_eq_true rfl, Nat.le_of_ble_eq_true rfl⟩) hD hS hA (fun τ45 H locs e44 hP hD hS => ?_)
              have hF : f_D_goOneLeg σ = f_D_goOneLeg_235_46 σ x1 r6 r9 x12 r18 r22 x25 x29 x33 x38 τ45 := hF.trans (by rw [e44]; try rfl)
              have hQ : k_D_goOneLeg_235_46 σ x1 r6 r9 x12 r18 r22 x25 x29 x33 x38 τ45 := by rw [e44]; exact hQ
              refine lv_aload_n hx hb d_D_goOneLeg_238 rfl (lv_at hl 4 rfl) ?_
              refine lv_iload hx hb d_D_goOneLeg_239 (lv_at hl 1 rfl) ?_
              refine lv_iload_n hx hb d_D_goOneLeg_241 rfl (lv_at hl 3 rfl) ?_
              obtain ⟨hs47, hQ⟩ := hQ
              refine g_cWv (va_runV (As := [.int x12, .int x1]) (rest := []) ⟨hx, hb, hml, hown, ht⟩ (c_D_moveTo l dC dI dA ad tb H.size τ45 x12 x1 hs47) (cwV 2 ht gc_D_91 rfl rfl rfl (by decide +kernel) ⟨Nat.le_of_ble_eq_true rfl, Nat.le_of_ble_eq_true rfl⟩) (g_pV (g_prW x_Zok hK hP hD hS hA hz _) (g_rc hK hP (9) x_at9 rfl)) rfl rfl hl.1 rfl (lv_room (Nat.le_of_ble_eq_true rfl)) d_D_goOneLeg_242 ⟨Nat.le_of_ble_eq_true rfl, Nat.le_of_ble_eq_true rfl⟩) hD hS hA (fun τ50 H locs e49 hP hD hS => ?_)
              have hF : f_D_goOneLeg σ = f_D_goOneLeg_242_51 σ x1 r6 r9 x12 r18 r22 x25 x29 x33 x38 τ45 τ50 := hF.trans (by rw [e49]; try rfl)
              have hQ : k_D_goOneLeg_242_51 σ x1 r6 r9 x12 r18 r22 x25 x29 x33 x38 τ45 τ50 := by rw [e49]; exact hQ
              exact W.vret hx hb hr (fun t hh hW => ⟨⟨τ50, rfl, hF.symm, by show va_P (dC, dI) cls (g_w x_sh dA ad τ50) t.heap; rw [hh]; exact hP⟩, hS.F hh⟩) hS.2.2 d_D_goOneLeg_245
            refine lv_if_le (tgt := 220) hx hb d_D_goOneLeg_208 (by decide) (fun c52 => ?_) (fun c52 => ?_)
            ·
              have c52 : (σ.2 9 3) ≤ (0 : Int64) := (lg_cmp_le _ _).mp c52
              refine lv_lload hx hb d_D_goOneLeg_220 (lv_at hl 1 rfl) ?_
              exact J222_39 x25 ls (if_pos c52).symm (lv_sub hl [0, 3, 4, 5, 6, 7] rfl)
            ·
              have c52 : ¬ ((σ.2 9 3) ≤ (0 : Int64)) := mt (lg_cmp_le _ _).mpr c52
              refine lv_lload hx hb d_D_goOneLeg_211 (lv_at hl 2 rfl) ?_
              refine lv_lload hx hb d_D_goOneLeg_213 (lv_at hl 0 rfl) ?_
              refine lv_ladd hx hb d_D_goOneLeg_215 ?_
              refine lv_lneg hx hb d_D_goOneLeg_216 ?_
              refine lv_goto (tgt := 222) hx hb d_D_goOneLeg_217 (by decide) ?_
              exact J222_39 (-(r18 + x33)) ls (if_neg c52).symm (lv_sub hl [0, 3, 4, 5, 6, 7] rfl)
          refine lv_if_eq (tgt := 149) hx hb d_D_goOneLeg_136 (by decide) (fun c53 => ?_) (fun c53 => ?_)
          ·
            have c53 : x29 = 0 := c53
            have hT36 := Eq.mp (if_pos c53) hT36
            refine lv_lload hx hb d_D_goOneLeg_149 (lv_at hl 2 rfl) ?_
            refine lv_aload_n hx hb d_D_goOneLeg_151 rfl (lv_at hl 6 rfl) ?_
            refine g_get hx hb ht in_D hown hK hP (9) x_at9 rfl 0 (by decide) rfl (ht _ kw100) (fun _ h9 => h9) (v := .int (σ.1 9 0)) rfl d_D_goOneLeg_152 ?_
            refine lv_i2l (v := (σ.1 9 0).toInt64) hx hb d_D_goOneLeg_155 rfl ?_
            refine lv_lmul hx hb d_D_goOneLeg_156 ?_
            refine lv_ldc2 (v := (1000 : Int64)) hx hb hown (ht _ kw335) d_D_goOneLeg_157 ?_
            refine lv_aload_n hx hb d_D_goOneLeg_160 rfl (lv_at hl 6 rfl) ?_
            refine g_get hx hb ht in_D hown hK hP (9) x_at9 rfl 0 (by decide) rfl (ht _ kw100) (fun _ h9 => h9) (v := .int (σ.1 9 0)) rfl d_D_goOneLeg_161 ?_
            refine lv_i2l (v := (σ.1 9 0).toInt64) hx hb d_D_goOneLeg_164 rfl ?_
            refine lv_lsub hx hb d_D_goOneLeg_165 ?_
            refine lv_iconst (v := (1 : Int32)) hx hb d_D_goOneLeg_166 (by decide) ?_
            obtain ⟨hs54, hT36⟩ := hT36
            refine g_cSlE (va_runSN (host := "RangedPool") (As := [.long (r18 * ((σ.1 9 0).toInt64)), .long ((1000 : Int64) - ((σ.1 9 0).toInt64)), .int (1 : Int32)]) (rest := []) ⟨hx, hb, hml, hown, ht⟩ (c_P_quotient l (r18 * ((σ.1 9 0).toInt64)) ((1000 : Int64) - ((σ.1 9 0).toInt64)) (1 : Int32) hs54) ⟨va_cnB 3 ht gn_P_quotient rfl rfl rfl (hz.1 _ nk343) (ht _ kw1) (by decide +kernel) ⟨Nat.le_of_ble_eq_true rfl, Nat.le_of_ble_eq_true rfl⟩, ht _ kw233, trivial⟩ (g_pr0 _) rfl rfl hl.1 rfl (lv_room (Nat.le_of_ble_eq_true rfl)) d_D_goOneLeg_167 ⟨Nat.le_of_ble_eq_true rfl, Nat.le_of_ble_eq_true rfl⟩) ?_
            exact J170_34 (f_P_quotient (r18 * ((σ.1 9 0).toInt64)) ((1000 : Int64) - ((σ.1 9 0).toInt64)) (1 : Int32)) ls (if_pos c53).symm (lv_sub hl [1, 2, 3, 4, 5, 6, 7] rfl)
          ·
            have c53 : ¬ (x29 = 0) := c53
            have hT36 := Eq.mp (if_neg c53) hT36
            refine lv_aload_n hx hb d_D_goOneLeg_139 rfl (lv_at hl 6 rfl) ?_
            refine g_get hx hb ht in_D hown hK hP (9) x_at9 rfl 3 (by decide) rfl (ht _ kw103) (fun _ h9 => h9) (v := .long (σ.2 9 3)) rfl d_D_goOneLeg_140 ?_
            refine lv_lload hx hb d_D_goOneLeg_143 (lv_at hl 2 rfl) ?_
            refine lv_lsub hx hb d_D_goOneLeg_145 ?_
            refine lv_goto (tgt := 170) hx hb d_D_goOneLeg_146 (by decide) ?_
            exact J170_34 ((σ.2 9 3) - r18) ls (if_neg c53).symm (lv_sub hl [1, 2, 3, 4, 5, 6, 7] rfl)
        refine lv_if_le (tgt := 131) hx hb d_D_goOneLeg_118 (by decide) (fun c57 => ?_) (fun c57 => ?_)
        ·
          have c57 : (σ.2 9 3) ≤ (0 : Int64) := (lg_cmp_le _ _).mp c57
          refine lv_iconst (v := (0 : Int32)) hx hb d_D_goOneLeg_131 (by decide) ?_
          exact J132_30 (0 : Int32) ls (if_pos c57).symm (lv_sub hl [0, 1, 2, 3, 5, 6, 7] rfl)
        ·
          have c57 : ¬ ((σ.2 9 3) ≤ (0 : Int64)) := mt (lg_cmp_le _ _).mpr c57
          refine lv_iload hx hb d_D_goOneLeg_121 (lv_at hl 2 rfl) ?_
          refine lv_iload_n hx hb d_D_goOneLeg_123 rfl (lv_at hl 4 rfl) ?_
          refine lv_icmp_eq (tgt := 131) hx hb d_D_goOneLeg_124 (by decide) (fun c58 => ?_) (fun c58 => ?_)
          ·
            have c58 : x12 = r6 := c58
            refine lv_iconst (v := (0 : Int32)) hx hb d_D_goOneLeg_131 (by decide) ?_
            exact J132_30 (0 : Int32) ls ((if_neg c57).trans (if_pos c58)).symm (lv_sub hl [0, 1, 2, 3, 5, 6, 7] rfl)
          ·
            have c58 : ¬ (x12 = r6) := c58
            refine lv_iconst (v := (1 : Int32)) hx hb d_D_goOneLeg_127 (by decide) ?_
            refine lv_goto (tgt := 132) hx hb d_D_goOneLeg_128 (by decide) ?_
            exact J132_30 (1 : Int32) ls ((if_neg c57).trans (if_neg c58)).symm (lv_sub hl [0, 1, 2, 3, 5, 6, 7] rfl)
      refine lv_if_ge (tgt := 112) hx hb d_D_goOneLeg_97 (by decide) (fun c59 => ?_) (fun c59 => ?_)
      ·
        have c59 : (0 : Int64) ≤ (σ.2 9 3) := (lg_cmp_ge _ _).mp c59
        exact J112_26 r22 ls (if_pos c59).symm (lv_sub hl [0, 1, 2, 3, 4, 5, 6, 7] rfl)
      ·
        have c59 : ¬ ((0 : Int64) ≤ (σ.2 9 3)) := mt (lg_cmp_ge _ _).mpr c59
        refine lv_lload hx hb d_D_goOneLeg_100 (lv_at hl 0 rfl) ?_
        refine lv_aload_n hx hb d_D_goOneLeg_102 rfl (lv_at hl 6 rfl) ?_
        refine g_get hx hb ht in_D hown hK hP (9) x_at9 rfl 3 (by decide) rfl (ht _ kw103) (fun _ h9 => h9) (v := .long (σ.2 9 3)) rfl d_D_goOneLeg_103 ?_
        refine lv_lneg hx hb d_D_goOneLeg_106 ?_
        refine va_mmin_long hx hb (hml.trans hl.1.symm) hown (ht _ kw352) (ht _ kw353) (ht _ kw7) (ht _ kw354) (Nat.le_of_ble_eq_true rfl) (Nat.le_of_ble_eq_true rfl) (Nat.le_of_ble_eq_true rfl) (Nat.le_of_ble_eq_true rfl) d_D_goOneLeg_107 ?_
        refine lv_lstore (lv' := [(9, .long (if (-(σ.2 9 3)) < r22 then (-(σ.2 9 3)) else r22)), (7, .long r18), (6, .int x12), (4, .long r9), (3, .int r6), (2, .int x1), (0, .ref (ad 9)), (1, .ref (ad 3))]) hx hb d_D_goOneLeg_110 hl (by decide) rfl (fun ls hl => ?_)
        exact J112_26 (if (-(σ.2 9 3)) < r22 then (-(σ.2 9 3)) else r22) ls (if_neg c59).symm (lv_sub hl [0, 1, 2, 3, 4, 5, 6, 7] rfl)
    refine lv_if_le (tgt := 62) hx hb d_D_goOneLeg_49 (by decide) (fun c60 => ?_) (fun c60 => ?_)
    ·
      have c60 : (σ.2 9 3) ≤ (0 : Int64) := (lg_cmp_le _ _).mp c60
      have hT15 := Eq.mp (if_pos c60) hT15
      refine lv_aload_n hx hb d_D_goOneLeg_62 rfl (lv_at hl 3 rfl) ?_
      refine lv_lload hx hb d_D_goOneLeg_63 (lv_at hl 0 rfl) ?_
      refine lv_iload_n hx hb d_D_goOneLeg_65 rfl (lv_at hl 1 rfl) ?_
      obtain ⟨hs61, hT15⟩ := hT15
      refine g_cSiE (va_runV (As := [.long r9, .int r6]) (rest := []) ⟨hx, hb, hml, hown, ht⟩ (c_D_priceAfterTaking l dC dI dA ad tb σ r9 r6 hs61) (cwV 2 ht gc_D_65 rfl rfl rfl (by decide +kernel) ⟨Nat.le_of_ble_eq_true rfl, Nat.le_of_ble_eq_true rfl⟩) (g_pV (g_prR x_Zok hK hP hS hz _) (g_rc hK hP (9) x_at9 rfl)) rfl rfl hl.1 rfl (lv_room (Nat.le_of_ble_eq_true rfl)) d_D_goOneLeg_66 ⟨Nat.le_of_ble_eq_true rfl, Nat.le_of_ble_eq_true rfl⟩) ?_
      exact J69_13 (f_D_priceAfterTaking σ r9 r6) ls (if_pos c60).symm (lv_sub hl [0, 1, 2, 3, 4] rfl)
    ·
      have c60 : ¬ ((σ.2 9 3) ≤ (0 : Int64)) := mt (lg_cmp_le _ _).mpr c60
      have hT15 := Eq.mp (if_neg c60) hT15
      refine lv_aload_n hx hb d_D_goOneLeg_52 rfl (lv_at hl 3 rfl) ?_
      refine lv_lload hx hb d_D_goOneLeg_53 (lv_at hl 0 rfl) ?_
      refine lv_iload_n hx hb d_D_goOneLeg_55 rfl (lv_at hl 1 rfl) ?_
      obtain ⟨hs64, hT15⟩ := hT15
      refine g_cSiE (va_runV (As := [.long r9, .int r6]) (rest := []) ⟨hx, hb, hml, hown, ht⟩ (c_D_priceAfterPaying l dC dI dA ad tb σ r9 r6 hs64) (cwV 2 ht gc_D_61 rfl rfl rfl (by decide +kernel) ⟨Nat.le_of_ble_eq_true rfl, Nat.le_of_ble_eq_true rfl⟩) (g_pV (g_prR x_Zok hK hP hS hz _) (g_rc hK hP (9) x_at9 rfl)) rfl rfl hl.1 rfl (lv_room (Nat.le_of_ble_eq_true rfl)) d_D_goOneLeg_56 ⟨Nat.le_of_ble_eq_true rfl, Nat.le_of_ble_eq_true rfl⟩) ?_
      refine lv_goto (tgt := 69) hx hb d_D_goOneLeg_59 (by decide) ?_
      exact J69_13 (f_D_priceAfterPaying σ r9 r6) ls (if_neg c60).symm (lv_sub hl [0, 1, 2, 3, 4] rfl)
  refine lv_if_eq (tgt := 18) hx hb d_D_goOneLeg_4 (by decide) (fun c67 => ?_) (fun c67 => ?_)
  ·
    have c67 : (σ.1 9 1) = 0 := c67
    refine lv_aload_n hx hb d_D_goOneLeg_18 rfl (lv_at hl 1 rfl) ?_
    refine lv_aload_n hx hb d_D_goOneLeg_19 rfl (lv_at hl 0 rfl) ?_
    refine g_get hx hb ht in_D hown hK hP (9) x_at9 rfl 5 (by decide) rfl (ht _ kw106) (fun _ h9 => h9) (v := .int (σ.1 9 5)) rfl d_D_goOneLeg_20 ?_
    refine g_cSiE (va_runVN (host := "RangedPool") (As := [.int (σ.1 9 5)]) (rest := []) ⟨hx, hb, hml, hown, ht⟩ (c_B_markedAbove l dC dI dA ad tb σ (σ.1 9 5)) ⟨va_cnB 1 ht gn_B_markedAbove rfl rfl rfl (hz.1 _ nk308) (ht _ kw2) (by decide +kernel) ⟨Nat.le_of_ble_eq_true rfl, Nat.le_of_ble_eq_true rfl⟩, ht _ kw310, ht _ ks21⟩ (g_pV (g_prR x_Zok hK hP hS hz _) (g_rc hK hP (3) x_at3 rfl)) rfl rfl hl.1 rfl (lv_room (Nat.le_of_ble_eq_true rfl)) d_D_goOneLeg_23 ⟨Nat.le_of_ble_eq_true rfl, Nat.le_of_ble_eq_true rfl⟩) ?_
    exact J26_2 (f_B_markedAbove σ (σ.1 9 5)) ls (if_pos c67).symm (lv_sub hl [0, 1] rfl)
  ·
    have c67 : ¬ ((σ.1 9 1) = 0) := c67
    refine lv_aload_n hx hb d_D_goOneLeg_7 rfl (lv_at hl 1 rfl) ?_
    refine lv_aload_n hx hb d_D_goOneLeg_8 rfl (lv_at hl 0 rfl) ?_
    refine g_get hx hb ht in_D hown hK hP (9) x_at9 rfl 5 (by decide) rfl (ht _ kw106) (fun _ h9 => h9) (v := .int (σ.1 9 5)) rfl d_D_goOneLeg_9 ?_
    refine g_cSiE (va_runVN (host := "RangedPool") (As := [.int (σ.1 9 5)]) (rest := []) ⟨hx, hb, hml, hown, ht⟩ (c_B_markedAtOrBelow l dC dI dA ad tb σ (σ.1 9 5)) ⟨va_cnB 1 ht gn_B_markedAtOrBelow rfl rfl rfl (hz.1 _ nk304) (ht _ kw2) (by decide +kernel) ⟨Nat.le_of_ble_eq_true rfl, Nat.le_of_ble_eq_true rfl⟩, ht _ kw306, ht _ ks20⟩ (g_pV (g_prR x_Zok hK hP hS hz _) (g_rc hK hP (3) x_at3 rfl)) rfl rfl hl.1 rfl (lv_room (Nat.le_of_ble_eq_true rfl)) d_D_goOneLeg_12 ⟨Nat.le_of_ble_eq_true rfl, Nat.le_of_ble_eq_true rfl⟩) ?_
    refine lv_goto (tgt := 26) hx hb d_D_goOneLeg_15 (by decide) ?_
    exact J26_2 (f_B_markedAtOrBelow σ (σ.1 9 5)) ls (if_neg c67).symm (lv_sub hl [0, 1] rfl)
