def f_P_burn_49_10 (σ : g_S) (o : Int32) (lo : Int32) (hi : Int32) (q : Int32) (k5 : Nat) : Int64 × g_S := ((-2 : Int64), σ)
def k_P_burn_49_10 (σ : g_S) (o : Int32) (lo : Int32) (hi : Int32) (q : Int32) (k5 : Nat) : Prop := True
def f_P_burn_90_30 (σ : g_S) (o : Int32) (lo : Int32) (hi : Int32) (q : Int32) (k5 : Nat) (τ17 : g_S) (r20 : Int64) (r24 : Int64) (τ29 : g_S) : Int64 × g_S := (f_P_pair r20 r24, g_L (g_L (g_L τ29 (k5 + 14) 3 ((τ29.2 (k5 + 14) 3) - q.toInt64)) (k5 + 24) 0 (((g_L τ29 (k5 + 14) 3 ((τ29.2 (k5 + 14) 3) - q.toInt64)).2 (k5 + 24) 0) + r20)) (k5 + 24) 1 (((g_L (g_L τ29 (k5 + 14) 3 ((τ29.2 (k5 + 14) 3) - q.toInt64)) (k5 + 24) 0 (((g_L τ29 (k5 + 14) 3 ((τ29.2 (k5 + 14) 3) - q.toInt64)).2 (k5 + 24) 0) + r20)).2 (k5 + 24) 1) + r24))
def k_P_burn_90_30 (σ : g_S) (o : Int32) (lo : Int32) (hi : Int32) (q : Int32) (k5 : Nat) (τ17 : g_S) (r20 : Int64) (r24 : Int64) (τ29 : g_S) : Prop := True
def f_P_burn_83_26 (σ : g_S) (o : Int32) (lo : Int32) (hi : Int32) (q : Int32) (k5 : Nat) (τ17 : g_S) (r20 : Int64) (r24 : Int64) : Int64 × g_S := (f_P_burn_90_30 σ o lo hi q k5 τ17 r20 r24 (f_T_settle τ17 k5))
def k_P_burn_83_26 (σ : g_S) (o : Int32) (lo : Int32) (hi : Int32) (q : Int32) (k5 : Nat) (τ17 : g_S) (r20 : Int64) (r24 : Int64) : Prop := (k_P_burn_90_30 σ o lo hi q k5 τ17 r20 r24 (f_T_settle τ17 k5))
def f_P_burn_71_22 (σ : g_S) (o : Int32) (lo : Int32) (hi : Int32) (q : Int32) (k5 : Nat) (τ17 : g_S) (r20 : Int64) : Int64 × g_S := (f_P_burn_83_26 σ o lo hi q k5 τ17 r20 (f_P_oneOfRange τ17 lo hi q.toInt64 (0 : Int32)))
def k_P_burn_71_22 (σ : g_S) (o : Int32) (lo : Int32) (hi : Int32) (q : Int32) (k5 : Nat) (τ17 : g_S) (r20 : Int64) : Prop := (k_P_oneOfRange τ17 lo hi q.toInt64 (0 : Int32)) ∧ (k_P_burn_83_26 σ o lo hi q k5 τ17 r20 (f_P_oneOfRange τ17 lo hi q.toInt64 (0 : Int32)))
def f_P_burn_61_18 (σ : g_S) (o : Int32) (lo : Int32) (hi : Int32) (q : Int32) (k5 : Nat) (τ17 : g_S) : Int64 × g_S := (f_P_burn_71_22 σ o lo hi q k5 τ17 (f_P_zeroOfRange τ17 lo hi q.toInt64 (0 : Int32)))
def k_P_burn_61_18 (σ : g_S) (o : Int32) (lo : Int32) (hi : Int32) (q : Int32) (k5 : Nat) (τ17 : g_S) : Prop := (k_P_zeroOfRange τ17 lo hi q.toInt64 (0 : Int32)) ∧ (k_P_burn_71_22 σ o lo hi q k5 τ17 (f_P_zeroOfRange τ17 lo hi q.toInt64 (0 : Int32)))
def f_P_burn_53_13 (σ : g_S) (o : Int32) (lo : Int32) (hi : Int32) (q : Int32) (k5 : Nat) : Int64 × g_S := (f_P_burn_61_18 σ o lo hi q k5 (f_H_mark σ (σ.1 0 9)))
def k_P_burn_53_13 (σ : g_S) (o : Int32) (lo : Int32) (hi : Int32) (q : Int32) (k5 : Nat) : Prop := (k_H_mark σ (σ.1 0 9)) ∧ (k_P_burn_61_18 σ o lo hi q k5 (f_H_mark σ (σ.1 0 9)))
def f_P_burn_49_33 (σ : g_S) (o : Int32) (lo : Int32) (hi : Int32) (q : Int32) (k5 : Nat) : Int64 × g_S := ((-2 : Int64), σ)
def k_P_burn_49_33 (σ : g_S) (o : Int32) (lo : Int32) (hi : Int32) (q : Int32) (k5 : Nat) : Prop := True
def f_P_burn_37_11 (σ : g_S) (o : Int32) (lo : Int32) (hi : Int32) (q : Int32) (k5 : Nat) : Int64 × g_S := (if q.toInt64 ≤ (σ.2 (k5 + 14) 3) then f_P_burn_53_13 σ o lo hi q k5 else f_P_burn_49_33 σ o lo hi q k5)
def k_P_burn_37_11 (σ : g_S) (o : Int32) (lo : Int32) (hi : Int32) (q : Int32) (k5 : Nat) : Prop := (if q.toInt64 ≤ (σ.2 (k5 + 14) 3) then k_P_burn_53_13 σ o lo hi q k5 else k_P_burn_49_33 σ o lo hi q k5)
def f_P_burn_18_7 (σ : g_S) (o : Int32) (lo : Int32) (hi : Int32) (q : Int32) : Int64 × g_S := ((-3 : Int64), σ)
def k_P_burn_18_7 (σ : g_S) (o : Int32) (lo : Int32) (hi : Int32) (q : Int32) : Prop := True
def f_P_burn_18_8 (σ : g_S) (o : Int32) (lo : Int32) (hi : Int32) (q : Int32) (k5 : Nat) : Int64 × g_S := (if q < 0 then f_P_burn_49_10 σ o lo hi q k5 else f_P_burn_37_11 σ o lo hi q k5)
def k_P_burn_18_8 (σ : g_S) (o : Int32) (lo : Int32) (hi : Int32) (q : Int32) (k5 : Nat) : Prop := (if q < 0 then k_P_burn_49_10 σ o lo hi q k5 else k_P_burn_37_11 σ o lo hi q k5)
def f_P_burn_11_2 (σ : g_S) (o : Int32) (lo : Int32) (hi : Int32) (q : Int32) : Int64 × g_S := (Option.elim (f_B_find σ o lo hi) (f_P_burn_18_7 σ o lo hi q) (fun k5 => f_P_burn_18_8 σ o lo hi q k5))
def k_P_burn_11_2 (σ : g_S) (o : Int32) (lo : Int32) (hi : Int32) (q : Int32) : Prop := (Option.elim (f_B_find σ o lo hi) (k_P_burn_18_7 σ o lo hi q) (fun k5 => k_P_burn_18_8 σ o lo hi q k5))
def f_P_burn_7_34 (σ : g_S) (o : Int32) (lo : Int32) (hi : Int32) (q : Int32) : Int64 × g_S := ((-1 : Int64), σ)
def k_P_burn_7_34 (σ : g_S) (o : Int32) (lo : Int32) (hi : Int32) (q : Int32) : Prop := True
def f_P_burn (σ : g_S) (o : Int32) (lo : Int32) (hi : Int32) (q : Int32) : Int64 × g_S := (if (σ.1 0 7) = 0 then f_P_burn_7_34 σ o lo hi q else f_P_burn_11_2 σ o lo hi q)
def k_P_burn (σ : g_S) (o : Int32) (lo : Int32) (hi : Int32) (q : Int32) : Prop := (if (σ.1 0 7) = 0 then k_P_burn_7_34 σ o lo hi q else k_P_burn_11_2 σ o lo hi q)
set_option maxHeartbeats 4000000 in
set_option maxRecDepth 100000 in
theorem c_P_burn (l : Launch) (dC : Nat → ClassId) (dI : Nat → Nat → Nat) (dA : Nat → ClassId) (ad : Nat → Nat) (tb : Nat) (sz : Nat) (σ : g_S) (o : Int32) (lo : Int32) (hi : Int32) (q : Int32) (hQ : k_P_burn σ o lo hi q) : Met l y_P_burn w_P_burn ({ frames := 3, cells := 0, slots := 0, locals := 78 }) (va_Pc [.ref (ad 0), .int o, .int lo, .int hi, .int q] (g_W (dC, dI) cls (x_tys dA) (g_w x_sh dA ad σ) sz (x_Z tb))) (va_Ql (fun r τ => (r, τ) = f_P_burn σ o lo hi q) (fun τ t => va_P (dC, dI) cls (g_w x_sh dA ad τ) t.heap) (va_A (g_w x_sh dA ad σ) sz)) 0 0 (va_A (g_w x_sh dA ad σ) sz) := by
  refine Met.ofW (cc := b_P_burn) (maxL := 10) (ret := (some .long)) (by decide) rfl ?_
  intro p e s m args below meth c s₁ B hml hv
  obtain ⟨rfl, hsz, hP, hK, hD0, hz⟩ := hv
  have hx := B.exec
  have hb := B.bytes
  have hr := B.returns
  have hts := atoms_spec (ws := w_P_burn) B.pre
  have ht := fun (w : Cond) (h : w ∈ gA) => hts w (List.mem_cons_of_mem _ h)
  have hown : s.vm.findClass "RangedPool" = some m.cls := findClass_of_methodNamed B.named
  have hlocks := B.notSynchronized
  subst hsz
  have hD := hD0.self (sz := s.heap.size)
  have hA : ∀ q : Nat, s.heap.size ≤ q → va_A (g_w x_sh dA ad σ) s.heap.size q := fun q h => Or.inr h
  generalize hAe : va_A (g_w x_sh dA ad σ) s.heap.size = A at hD hA hz ⊢
  have hS : va_S A s.heap s.heap [] := va_S.rf
  have hl := lv_entry ([.ref (ad 0), .int o, .int lo, .int hi, .int q]) (n := 10) (Nat.le_of_ble_eq_true rfl)
  rw [lg_entry_eq]
  generalize (lg_sl ([.ref (ad 0), .int o, .int lo, .int hi, .int q]) ++ List.replicate (10 - (lg_sl ([.ref (ad 0), .int o, .int lo, .int hi, .int q])).length) Slot.unset).toArray = ls at hl ⊢
  have hl : lv_has ls 10 [(0, .ref (ad 0)), (1, .int o), (2, .int lo), (3, .int hi), (4, .int q)] := hl
  have hF : f_P_burn σ o lo hi q = f_P_burn σ o lo hi q := rfl
  refine lv_aload_n hx hb d_P_burn_0 rfl (lv_at hl 0 rfl) ?_
  refine g_get hx hb ht in_P hown hK hP (0) x_at0 rfl 7 (by decide) rfl (ht _ kw136) (fun _ h9 => h9) (v := .int (σ.1 0 7)) rfl d_P_burn_1 ?_
  refine lv_if_ne (tgt := 11) hx hb d_P_burn_4 (by decide) (fun c1 => ?_) (fun c1 => ?_)
  ·
    have c1 : ¬ ((σ.1 0 7) = 0) := c1
    have hF : f_P_burn σ o lo hi q = f_P_burn_11_2 σ o lo hi q := hF.trans (if_neg c1)
    have hQ : k_P_burn_11_2 σ o lo hi q := Eq.mp (if_neg c1) hQ
    refine lv_aload_n hx hb d_P_burn_11 rfl (lv_at hl 0 rfl) ?_
    refine g_get hx hb ht in_P hown hK hP (0) x_at0 rfl 4 (by decide) rfl (ht _ kw133) (fun _ h9 => h9) (v := .ref (ad 3)) rfl d_P_burn_12 ?_
    refine lv_iload_n hx hb d_P_burn_15 rfl (lv_at hl 1 rfl) ?_
    refine lv_iload_n hx hb d_P_burn_16 rfl (lv_at hl 2 rfl) ?_
    refine lv_iload_n hx hb d_P_burn_17 rfl (lv_at hl 3 rfl) ?_
    refine g_cSq (b0 := 14) (va_runVN (host := "RangedPool") (As := [.int o, .int lo, .int hi]) (rest := []) ⟨hx, hb, hml, hown, ht⟩ (c_B_find l dC dI dA ad tb σ o lo hi) ⟨va_cnB 3 ht gn_B_find rfl rfl rfl (hz.1 _ nk273) (ht _ kw2) (by decide +kernel) ⟨Nat.le_of_ble_eq_true rfl, Nat.le_of_ble_eq_true rfl⟩, ht _ kw208, ht _ ks4⟩ (g_pV (g_prR x_Zok hK hP hS hz _) (g_rc hK hP (3) x_at3 rfl)) rfl rfl hl.1 rfl (lv_room (Nat.le_of_ble_eq_true rfl)) d_P_burn_18 ⟨Nat.le_of_ble_eq_true rfl, Nat.le_of_ble_eq_true rfl⟩) (fun q6 => ?_) (fun k5 q6 => ?_)
    ·
      have hF : f_P_burn σ o lo hi q = f_P_burn_18_7 σ o lo hi q := hF.trans (congrArg (fun z => Option.elim z (f_P_burn_18_7 σ o lo hi q) (fun k5 => f_P_burn_18_8 σ o lo hi q k5)) q6)
      have hQ : k_P_burn_18_7 σ o lo hi q := Eq.mp (congrArg (fun z => Option.elim z (k_P_burn_18_7 σ o lo hi q) (fun k5 => k_P_burn_18_8 σ o lo hi q k5)) q6) hQ
      refine lv_astoreN (lv' := [(5, .null), (0, .ref (ad 0)), (1, .int o), (2, .int lo), (3, .int hi), (4, .int q)]) hx hb d_P_burn_21 hl (by decide) rfl (fun ls hl => ?_)
      refine lv_aloadN hx hb d_P_burn_23 (lv_at hl 0 rfl) ?_
      refine lv_ifnonnullN hx hb d_P_burn_25 ?_
      refine lv_ldc2 (v := (-3 : Int64)) hx hb hown (ht _ kw274) d_P_burn_28 ?_
      exact W.lret (v := (-3 : Int64)) hx hb hr (fun t hh hW => ⟨⟨(-3 : Int64), σ, rfl, hF.symm, by show va_P (dC, dI) cls (g_w x_sh dA ad σ) t.heap; rw [hh]; exact hP⟩, hS.F hh⟩) hS.2.2 d_P_burn_31
    ·
      have hF : f_P_burn σ o lo hi q = f_P_burn_18_8 σ o lo hi q k5 := hF.trans (congrArg (fun z => Option.elim z (f_P_burn_18_7 σ o lo hi q) (fun k5 => f_P_burn_18_8 σ o lo hi q k5)) q6)
      have hQ : k_P_burn_18_8 σ o lo hi q k5 := Eq.mp (congrArg (fun z => Option.elim z (k_P_burn_18_7 σ o lo hi q) (fun k5 => k_P_burn_18_8 σ o lo hi q k5)) q6) hQ
      refine lv_astore (lv' := [(5, .ref (ad (k5 + 14))), (0, .ref (ad 0)), (1, .int o), (2, .int lo), (3, .int hi), (4, .int q)]) hx hb d_P_burn_21 hl (by decide) rfl (fun ls hl => ?_)
      refine lv_aload hx hb d_P_burn_23 (lv_at hl 0 rfl) ?_
      refine lv_ifnonnull (tgt := 32) hx hb d_P_burn_25 (by decide) ?_
      refine lv_iload hx hb d_P_burn_32 (lv_at hl 5 rfl) ?_
      refine lv_if_lt (tgt := 49) hx hb d_P_burn_34 (by decide) (fun c9 => ?_) (fun c9 => ?_)
      ·
        have c9 : q < 0 := c9
        have hF : f_P_burn σ o lo hi q = f_P_burn_49_10 σ o lo hi q k5 := hF.trans (if_pos c9)
        have hQ : k_P_burn_49_10 σ o lo hi q k5 := Eq.mp (if_pos c9) hQ
        refine lv_ldc2 (v := (-2 : Int64)) hx hb hown (ht _ kw201) d_P_burn_49 ?_
        exact W.lret (v := (-2 : Int64)) hx hb hr (fun t hh hW => ⟨⟨(-2 : Int64), σ, rfl, hF.symm, by show va_P (dC, dI) cls (g_w x_sh dA ad σ) t.heap; rw [hh]; exact hP⟩, hS.F hh⟩) hS.2.2 d_P_burn_52
      ·
        have c9 : ¬ (q < 0) := c9
        have hF : f_P_burn σ o lo hi q = f_P_burn_37_11 σ o lo hi q k5 := hF.trans (if_neg c9)
        have hQ : k_P_burn_37_11 σ o lo hi q k5 := Eq.mp (if_neg c9) hQ
        refine lv_iload hx hb d_P_burn_37 (lv_at hl 5 rfl) ?_
        refine lv_i2l (v := q.toInt64) hx hb d_P_burn_39 rfl ?_
        refine lv_aload hx hb d_P_burn_40 (lv_at hl 0 rfl) ?_
        refine g_getN hx hb ht in_T hown hK hP (k5 + 14) (x_at14 (lt_B_find q6)) rfl 3 (by decide) rfl (va_Nw.use rfl (hz.1 _ nk38)) (fun _ h9 => h9) (v := .long (σ.2 (k5 + 14) 3)) rfl d_P_burn_42 ?_
        refine W.lcmp hx hb d_P_burn_45 ?_
        refine lv_if_le (tgt := 53) hx hb d_P_burn_46 (by decide) (fun c12 => ?_) (fun c12 => ?_)
        ·
          have c12 : q.toInt64 ≤ (σ.2 (k5 + 14) 3) := (lg_cmp_le _ _).mp c12
          have hF : f_P_burn σ o lo hi q = f_P_burn_53_13 σ o lo hi q k5 := hF.trans (if_pos c12)
          have hQ : k_P_burn_53_13 σ o lo hi q k5 := Eq.mp (if_pos c12) hQ
          refine lv_aload_n hx hb d_P_burn_53 rfl (lv_at hl 1 rfl) ?_
          refine g_get hx hb ht in_P hown hK hP (0) x_at0 rfl 5 (by decide) rfl (ht _ kw134) (fun _ h9 => h9) (v := .ref (ad 5)) rfl d_P_burn_54 ?_
          refine lv_aload_n hx hb d_P_burn_57 rfl (lv_at hl 1 rfl) ?_
          refine g_get hx hb ht in_P hown hK hP (0) x_at0 rfl 9 (by decide) rfl (ht _ kw138) (fun _ h9 => h9) (v := .int (σ.1 0 9)) rfl d_P_burn_58 ?_
          obtain ⟨hs14, hQ⟩ := hQ
          refine g_cWv (va_runVN (host := "RangedPool") (As := [.int (σ.1 0 9)]) (rest := []) ⟨hx, hb, hml, hown, ht⟩ (c_H_mark l dC dI dA ad tb s.heap.size σ (σ.1 0 9) hs14) ⟨va_cnB 1 ht gn_H_mark rfl rfl rfl (hz.1 _ nk172) (ht _ kw4) (by decide +kernel) ⟨Nat.le_of_ble_eq_true rfl, Nat.le_of_ble_eq_true rfl⟩, ht _ kw174, ht _ ks0⟩ (g_pV (g_prW x_Zok hK hP hD hS hA hz _) (g_rc hK hP (5) x_at5 rfl)) rfl rfl hl.1 rfl (lv_room (Nat.le_of_ble_eq_true rfl)) d_P_burn_61 ⟨Nat.le_of_ble_eq_true rfl, Nat.le_of_ble_eq_true rfl⟩) hD hS hA (fun τ17 H locs e16 hP hD hS => ?_)
          have hF : f_P_burn σ o lo hi q = f_P_burn_61_18 σ o lo hi q k5 τ17 := hF.trans (by rw [e16]; try rfl)
          have hQ : k_P_burn_61_18 σ o lo hi q k5 τ17 := by rw [e16]; exact hQ
          refine lv_aload_n hx hb d_P_burn_64 rfl (lv_at hl 1 rfl) ?_
          refine lv_iload_n hx hb d_P_burn_65 rfl (lv_at hl 3 rfl) ?_
          refine lv_iload_n hx hb d_P_burn_66 rfl (lv_at hl 4 rfl) ?_
          refine lv_iload hx hb d_P_burn_67 (lv_at hl 5 rfl) ?_
          refine lv_i2l (v := q.toInt64) hx hb d_P_burn_69 rfl ?_
          refine lv_iconst (v := (0 : Int32)) hx hb d_P_burn_70 (by decide) ?_
          obtain ⟨hs19, hQ⟩ := hQ
          refine g_cSl (va_runV (As := [.int lo, .int hi, .long q.toInt64, .int (0 : Int32)]) (rest := []) ⟨hx, hb, hml, hown, ht⟩ (c_P_zeroOfRange l dC dI dA ad tb τ17 lo hi q.toInt64 (0 : Int32) hs19) (cwV 4 ht gc_P_100 rfl rfl rfl (by decide +kernel) ⟨Nat.le_of_ble_eq_true rfl, Nat.le_of_ble_eq_true rfl⟩) (g_pV (g_prR x_Zok hK hP hS hz _) (g_rc hK hP (0) x_at0 rfl)) rfl rfl hl.1 rfl (lv_room (Nat.le_of_ble_eq_true rfl)) d_P_burn_71 ⟨Nat.le_of_ble_eq_true rfl, Nat.le_of_ble_eq_true rfl⟩) (fun r20 e21 => ?_)
          have hF : f_P_burn σ o lo hi q = f_P_burn_71_22 σ o lo hi q k5 τ17 r20 := hF.trans (by rw [e21]; try rfl)
          have hQ : k_P_burn_71_22 σ o lo hi q k5 τ17 r20 := by rw [e21]; exact hQ
          refine lv_lstore (lv' := [(6, .long r20), (5, .ref (ad (k5 + 14))), (0, .ref (ad 0)), (1, .int o), (2, .int lo), (3, .int hi), (4, .int q)]) hx hb d_P_burn_74 hl (by decide) rfl (fun ls hl => ?_)
          refine lv_aload_n hx hb d_P_burn_76 rfl (lv_at hl 2 rfl) ?_
          refine lv_iload_n hx hb d_P_burn_77 rfl (lv_at hl 4 rfl) ?_
          refine lv_iload_n hx hb d_P_burn_78 rfl (lv_at hl 5 rfl) ?_
          refine lv_iload hx hb d_P_burn_79 (lv_at hl 6 rfl) ?_
          refine lv_i2l (v := q.toInt64) hx hb d_P_burn_81 rfl ?_
          refine lv_iconst (v := (0 : Int32)) hx hb d_P_burn_82 (by decide) ?_
          obtain ⟨hs23, hQ⟩ := hQ
          refine g_cSl (va_runV (As := [.int lo, .int hi, .long q.toInt64, .int (0 : Int32)]) (rest := []) ⟨hx, hb, hml, hown, ht⟩ (c_P_oneOfRange l dC dI dA ad tb τ17 lo hi q.toInt64 (0 : Int32) hs23) (cwV 4 ht gc_P_104 rfl rfl rfl (by decide +kernel) ⟨Nat.le_of_ble_eq_true rfl, Nat.le_of_ble_eq_true rfl⟩) (g_pV (g_prR x_Zok hK hP hS hz _) (g_rc hK hP (0) x_at0 rfl)) rfl rfl hl.1 rfl (lv_room (Nat.le_of_ble_eq_true rfl)) d_P_burn_83 ⟨Nat.le_of_ble_eq_true rfl, Nat.le_of_ble_eq_true rfl⟩) (fun r24 e25 => ?_)
          have hF : f_P_burn σ o lo hi q = f_P_burn_83_26 σ o lo hi q k5 τ17 r20 r24 := hF.trans (by rw [e25]; try rfl)
          have hQ : k_P_burn_83_26 σ o lo hi q k5 τ17 r20 r24 := by rw [e25]; exact hQ
          refine lv_lstore (lv' := [(8, .long r24), (6, .long r20), (5, .ref (ad (k5 + 14))), (0, .ref (ad 0)), (1, .int o), (2, .int lo), (3, .int hi), (4, .int q)]) hx hb d_P_burn_86 hl (by decide) rfl (fun ls hl => ?_)
          refine lv_aload hx hb d_P_burn_88 (lv_at hl 2 rfl) ?_
          refine g_cWv (va_runVN (host := "RangedPool") (As := []) (rest := []) ⟨hx, hb, hml, hown, ht⟩ (c_T_settle l dC dI dA ad tb H.size τ17 k5 (lt_B_find q6)) ⟨va_cnB 0 ht gn_T_settle rfl rfl rfl (hz.1 _ nk260) (ht _ kw3) (by decide +kernel) ⟨Nat.le_of_ble_eq_true rfl, Nat.le_of_ble_eq_true rfl⟩, ht _ kw262, ht _ ks14⟩ (g_pV (g_prW x_Zok hK hP hD hS hA hz _) (g_rc hK hP (k5 + 14) (x_at14 (lt_B_find q6)) rfl)) rfl rfl hl.1 rfl (lv_room (Nat.le_of_ble_eq_true rfl)) d_P_burn_90 ⟨Nat.le_of_ble_eq_true rfl, Nat.le_of_ble_eq_true rfl⟩) hD hS hA (fun τ29 H locs e28 hP hD hS => ?_)
          have hF : f_P_burn σ o lo hi q = f_P_burn_90_30 σ o lo hi q k5 τ17 r20 r24 τ29 := hF.trans (by rw [e28]; try rfl)
          have hQ : k_P_burn_90_30 σ o lo hi q k5 τ17 r20 r24 τ29 := by rw [e28]; exact hQ
          refine lv_aload hx hb d_P_burn_93 (lv_at hl 2 rfl) ?_
          refine lv_dup hx hb d_P_burn_95 rfl ?_
          refine g_getN hx hb ht in_T hown hK hP (k5 + 14) (x_at14 (lt_B_find q6)) rfl 3 (by decide) rfl (va_Nw.use rfl (hz.1 _ nk38)) (fun _ h9 => h9) (v := .long (τ29.2 (k5 + 14) 3)) rfl d_P_burn_96 ?_
          refine lv_iload hx hb d_P_burn_99 (lv_at hl 7 rfl) ?_
          refine lv_i2l (v := q.toInt64) hx hb d_P_burn_101 rfl ?_
          refine lv_lsub hx hb d_P_burn_102 ?_
          refine g_putLN (v := (τ29.2 (k5 + 14) 3) - q.toInt64) (ty := .long) hx hb ht in_T yt_T yt_T_ok n_T hown hK hP hD hS (k5 + 14) (x_at14 (lt_B_find q6)) rfl 3 (by decide) rfl (va_Nw.use rfl (hz.1 _ nk38)) (fun _ h9 => h9) rfl (by decide +kernel) (rfl) (rfl) d_P_burn_103 (fun H locs hP hD hS => ?_)
          refine lv_aload hx hb d_P_burn_106 (lv_at hl 2 rfl) ?_
          refine g_getN hx hb ht in_T hown hK hP (k5 + 14) (x_at14 (lt_B_find q6)) rfl 4 (by decide) rfl (va_Nw.use rfl (hz.1 _ nk40)) (fun _ h9 => h9) (v := .ref (ad (k5 + 24))) rfl d_P_burn_108 ?_
          refine lv_iconst (v := (0 : Int32)) hx hb d_P_burn_111 (by decide) ?_
          refine lv_dup2_11 hx hb d_P_burn_112 rfl rfl ?_
          refine g_lald hx hb hK hP (k5 + 24) (x_at24 (lt_B_find q6)) rfl (by unfold vp_in; decide) (j := 0) (by decide) d_P_burn_113 ?_
          refine lv_lload hx hb d_P_burn_114 (lv_at hl 1 rfl) ?_
          refine lv_ladd hx hb d_P_burn_116 ?_
          refine g_last (x := ((g_L τ29 (k5 + 14) 3 ((τ29.2 (k5 + 14) 3) - q.toInt64)).2 (k5 + 24) 0) + r20) hx hb hK hP hD hS (k5 + 24) (x_at24 (lt_B_find q6)) rfl (by unfold vp_in; decide) (j := 0) (by decide) d_P_burn_117 (fun H locs hP hD hS => ?_)
          refine lv_aload hx hb d_P_burn_118 (lv_at hl 2 rfl) ?_
          refine g_getN hx hb ht in_T hown hK hP (k5 + 14) (x_at14 (lt_B_find q6)) rfl 4 (by decide) rfl (va_Nw.use rfl (hz.1 _ nk40)) (fun _ h9 => h9) (v := .ref (ad (k5 + 24))) rfl d_P_burn_120 ?_
          refine lv_iconst (v := (1 : Int32)) hx hb d_P_burn_123 (by decide) ?_
          refine lv_dup2_11 hx hb d_P_burn_124 rfl rfl ?_
          refine g_lald hx hb hK hP (k5 + 24) (x_at24 (lt_B_find q6)) rfl (by unfold vp_in; decide) (j := 1) (by decide) d_P_burn_125 ?_
          refine lv_lload hx hb d_P_burn_126 (lv_at hl 0 rfl) ?_
          refine lv_ladd hx hb d_P_burn_128 ?_
          refine g_last (x := ((g_L (g_L τ29 (k5 + 14) 3 ((τ29.2 (k5 + 14) 3) - q.toInt64)) (k5 + 24) 0 (((g_L τ29 (k5 + 14) 3 ((τ29.2 (k5 + 14) 3) - q.toInt64)).2 (k5 + 24) 0) + r20)).2 (k5 + 24) 1) + r24) hx hb hK hP hD hS (k5 + 24) (x_at24 (lt_B_find q6)) rfl (by unfold vp_in; decide) (j := 1) (by decide) d_P_burn_129 (fun H locs hP hD hS => ?_)
          refine lv_lload hx hb d_P_burn_130 (lv_at hl 1 rfl) ?_
          refine lv_lload hx hb d_P_burn_132 (lv_at hl 0 rfl) ?_
          refine g_cSlE (va_runS (As := [.long r20, .long r24]) (rest := []) ⟨hx, hb, hml, hown, ht⟩ (c_P_pair l r20 r24) (va_cwS 2 ht gc_P_134 rfl rfl rfl (by decide +kernel) ⟨Nat.le_of_ble_eq_true rfl, Nat.le_of_ble_eq_true rfl⟩) (g_pr0 _) rfl rfl hl.1 rfl (lv_room (Nat.le_of_ble_eq_true rfl)) d_P_burn_134 ⟨Nat.le_of_ble_eq_true rfl, Nat.le_of_ble_eq_true rfl⟩) ?_
          exact W.lret (v := f_P_pair r20 r24) hx hb hr (fun t hh hW => ⟨⟨f_P_pair r20 r24, g_L (g_L (g_L τ29 (k5 + 14) 3 ((τ29.2 (k5 + 14) 3) - q.toInt64)) (k5 + 24) 0 (((g_L τ29 (k5 + 14) 3 ((τ29.2 (k5 + 14) 3) - q.toInt64)).2 (k5 + 24) 0) + r20)) (k5 + 24) 1 (((g_L (g_L τ29 (k5 + 14) 3 ((τ29.2 (k5 + 14) 3) - q.toInt64)) (k5 + 24) 0 (((g_L τ29 (k5 + 14) 3 ((τ29.2 (k5 + 14) 3) - q.toInt64)).2 (k5 + 24) 0) + r20)).2 (k5 + 24) 1) + r24), rfl, hF.symm, by show va_P (dC, dI) cls (g_w x_sh dA ad (g_L (g_L (g_L τ29 (k5 + 14) 3 ((τ29.2 (k5 + 14) 3) - q.toInt64)) (k5 + 24) 0 (((g_L τ29 (k5 + 14) 3 ((τ29.2 (k5 + 14) 3) - q.toInt64)).2 (k5 + 24) 0) + r20)) (k5 + 24) 1 (((g_L (g_L τ29 (k5 + 14) 3 ((τ29.2 (k5 + 14) 3) - q.toInt64)) (k5 + 24) 0 (((g_L τ29 (k5 + 14) 3 ((τ29.2 (k5 + 14) 3) - q.toInt64)).2 (k5 + 24) 0) + r20)).2 (k5 + 24) 1) + r24))) t.heap; rw [hh]; exact hP⟩, hS.F hh⟩) hS.2.2 d_P_burn_137
        ·
          have c12 : ¬ (q.toInt64 ≤ (σ.2 (k5 + 14) 3)) := mt (lg_cmp_le _ _).mpr c12
          have hF : f_P_burn σ o lo hi q = f_P_burn_49_33 σ o lo hi q k5 := hF.trans (if_neg c12)
          have hQ : k_P_burn_49_33 σ o lo hi q k5 := Eq.mp (if_neg c12) hQ
          refine lv_ldc2 (v := (-2 : Int64)) hx hb hown (ht _ kw201) d_P_burn_49 ?_
          exact W.lret (v := (-2 : Int64)) hx hb hr (fun t hh hW => ⟨⟨(-2 : Int64), σ, rfl, hF.symm, by show va_P (dC, dI) cls (g_w x_sh dA ad σ) t.heap; rw [hh]; exact hP⟩, hS.F hh⟩) hS.2.2 d_P_burn_52
  ·
    have c1 : (σ.1 0 7) = 0 := c1
    have hF : f_P_burn σ o lo hi q = f_P_burn_7_34 σ o lo hi q := hF.trans (if_pos c1)
    have hQ : k_P_burn_7_34 σ o lo hi q := Eq.mp (if_pos c1) hQ
    refine lv_ldc2 (v := (-1 : Int64)) hx hb hown (ht _ kw195) d_P_burn_7 ?_
    exact W.lret (v := (-1 : Int64)) hx hb hr (fun t hh hW => ⟨⟨(-1 : Int64), σ, rfl, hF.symm, by show va_P (dC, dI) cls (g_w x_sh dA ad σ) t.heap; rw [hh]; exact hP⟩, hS.F hh⟩) hS.2.2 d_P_burn_10
def f_P_collect_74_13 (σ : g_S) (o : Int32) (lo : Int32) (hi : Int32) (k5 : Nat) (τ12 : g_S) : Int64 × g_S := (f_P_pair (σ.2 (k5 + 24) 0) (σ.2 (k5 + 24) 1), τ12)
def k_P_collect_74_13 (σ : g_S) (o : Int32) (lo : Int32) (hi : Int32) (k5 : Nat) (τ12 : g_S) : Prop := True
def f_P_collect_18_7 (σ : g_S) (o : Int32) (lo : Int32) (hi : Int32) : Int64 × g_S := ((-3 : Int64), σ)
def k_P_collect_18_7 (σ : g_S) (o : Int32) (lo : Int32) (hi : Int32) : Prop := True
def f_P_collect_18_8 (σ : g_S) (o : Int32) (lo : Int32) (hi : Int32) (k5 : Nat) : Int64 × g_S := (f_P_collect_74_13 σ o lo hi k5 (f_P_pay (g_L (g_L σ (k5 + 24) 0 (0 : Int64)) (k5 + 24) 1 (0 : Int64)) o (-(σ.2 (k5 + 24) 0)) (-(σ.2 (k5 + 24) 1))))
def k_P_collect_18_8 (σ : g_S) (o : Int32) (lo : Int32) (hi : Int32) (k5 : Nat) : Prop := (k_P_pay (g_L (g_L σ (k5 + 24) 0 (0 : Int64)) (k5 + 24) 1 (0 : Int64)) o (-(σ.2 (k5 + 24) 0)) (-(σ.2 (k5 + 24) 1))) ∧ (k_P_collect_74_13 σ o lo hi k5 (f_P_pay (g_L (g_L σ (k5 + 24) 0 (0 : Int64)) (k5 + 24) 1 (0 : Int64)) o (-(σ.2 (k5 + 24) 0)) (-(σ.2 (k5 + 24) 1))))
def f_P_collect_11_2 (σ : g_S) (o : Int32) (lo : Int32) (hi : Int32) : Int64 × g_S := (Option.elim (f_B_find σ o lo hi) (f_P_collect_18_7 σ o lo hi) (fun k5 => f_P_collect_18_8 σ o lo hi k5))
def k_P_collect_11_2 (σ : g_S) (o : Int32) (lo : Int32) (hi : Int32) : Prop := (Option.elim (f_B_find σ o lo hi) (k_P_collect_18_7 σ o lo hi) (fun k5 => k_P_collect_18_8 σ o lo hi k5))
def f_P_collect_7_16 (σ : g_S) (o : Int32) (lo : Int32) (hi : Int32) : Int64 × g_S := ((-1 : Int64), σ)
def k_P_collect_7_16 (σ : g_S) (o : Int32) (lo : Int32) (hi : Int32) : Prop := True
def f_P_collect (σ : g_S) (o : Int32) (lo : Int32) (hi : Int32) : Int64 × g_S := (if (σ.1 0 7) = 0 then f_P_collect_7_16 σ o lo hi else f_P_collect_11_2 σ o lo hi)
def k_P_collect (σ : g_S) (o : Int32) (lo : Int32) (hi : Int32) : Prop := (if (σ.1 0 7) = 0 then k_P_collect_7_16 σ o lo hi else k_P_collect_11_2 σ o lo hi)
set_option maxHeartbeats 4000000 in
set_option maxRecDepth 100000 in
theorem c_P_collect (l : Launch) (dC : Nat → ClassId) (dI : Nat → Nat → Nat) (dA : Nat → ClassId) (ad : Nat → Nat) (tb : Nat) (sz : Nat) (σ : g_S) (o : Int32) (lo : Int32) (hi : Int32) (hQ : k_P_collect σ o lo hi) : Met l y_P_collect w_P_collect ({ frames := 2, cells := 0, slots := 0, locals := 50 }) (va_Pc [.ref (ad 0), .int o, .int lo, .int hi] (g_W (dC, dI) cls (x_tys dA) (g_w x_sh dA ad σ) sz (x_Z tb))) (va_Ql (fun r τ => (r, τ) = f_P_collect σ o lo hi) (fun τ t => va_P (dC, dI) cls (g_w x_sh dA ad τ) t.heap) (va_A (g_w x_sh dA ad σ) sz)) 0 0 (va_A (g_w x_sh dA ad σ) sz) := by
  refine Met.ofW (cc := b_P_collect) (maxL := 9) (ret := (some .long)) (by decide) rfl ?_
  intro p e s m args below meth c s₁ B hml hv
  obtain ⟨rfl, hsz, hP, hK, hD0, hz⟩ := hv
  have hx := B.exec
  have hb := B.bytes
  have hr := B.returns
  have hts := atoms_spec (ws := w_P_collect) B.pre
  have ht := fun (w : Cond) (h : w ∈ gA) => hts w (List.mem_cons_of_mem _ h)
  have hown : s.vm.findClass "RangedPool" = some m.cls := findClass_of_methodNamed B.named
  have hlocks := B.notSynchronized
  subst hsz
  have hD := hD0.self (sz := s.heap.size)
  have hA : ∀ q : Nat, s.heap.size ≤ q → va_A (g_w x_sh dA ad σ) s.heap.size q := fun q h => Or.inr h
  generalize hAe : va_A (g_w x_sh dA ad σ) s.heap.size = A at hD hA hz ⊢
  have hS : va_S A s.heap s.heap [] := va_S.rf
  have hl := lv_entry ([.ref (ad 0), .int o, .int lo, .int hi]) (n := 9) (Nat.le_of_ble_eq_true rfl)
  rw [lg_entry_eq]
  generalize (lg_sl ([.ref (ad 0), .int o, .int lo, .int hi]) ++ List.replicate (9 - (lg_sl ([.ref (ad 0), .int o, .int lo, .int hi])).length) Slot.unset).toArray = ls at hl ⊢
  have hl : lv_has ls 9 [(0, .ref (ad 0)), (1, .int o), (2, .int lo), (3, .int hi)] := hl
  have hF : f_P_collect σ o lo hi = f_P_collect σ o lo hi := rfl
  refine lv_aload_n hx hb d_P_collect_0 rfl (lv_at hl 0 rfl) ?_
  refine g_get hx hb ht in_P hown hK hP (0) x_at0 rfl 7 (by decide) rfl (ht _ kw136) (fun _ h9 => h9) (v := .int (σ.1 0 7)) rfl d_P_collect_1 ?_
  refine lv_if_ne (tgt := 11) hx hb d_P_collect_4 (by decide) (fun c1 => ?_) (fun c1 => ?_)
  ·
    have c1 : ¬ ((σ.1 0 7) = 0) := c1
    have hF : f_P_collect σ o lo hi = f_P_collect_11_2 σ o lo hi := hF.trans (if_neg c1)
    have hQ : k_P_collect_11_2 σ o lo hi := Eq.mp (if_neg c1) hQ
    refine lv_aload_n hx hb d_P_collect_11 rfl (lv_at hl 0 rfl) ?_
    refine g_get hx hb ht in_P hown hK hP (0) x_at0 rfl 4 (by decide) rfl (ht _ kw133) (fun _ h9 => h9) (v := .ref (ad 3)) rfl d_P_collect_12 ?_
    refine lv_iload_n hx hb d_P_collect_15 rfl (lv_at hl 1 rfl) ?_
    refine lv_iload_n hx hb d_P_collect_16 rfl (lv_at hl 2 rfl) ?_
    refine lv_iload_n hx hb d_P_collect_17 rfl (lv_at hl 3 rfl) ?_
    refine g_cSq (b0 := 14) (va_runVN (host := "RangedPool") (As := [.int o, .int lo, .int hi]) (rest := []) ⟨hx, hb, hml, hown, ht⟩ (c_B_find l dC dI dA ad tb σ o lo hi) ⟨va_cnB 3 ht gn_B_find rfl rfl rfl (hz.1 _ nk273) (ht _ kw2) (by decide +kernel) ⟨Nat.le_of_ble_eq_true rfl, Nat.le_of_ble_eq_true rfl⟩, ht _ kw208, ht _ ks4⟩ (g_pV (g_prR x_Zok hK hP hS hz _) (g_rc hK hP (3) x_at3 rfl)) rfl rfl hl.1 rfl (lv_room (Nat.le_of_ble_eq_true rfl)) d_P_collect_18 ⟨Nat.le_of_ble_eq_true rfl, Nat.le_of_ble_eq_true rfl⟩) (fun q6 => ?_) (fun k5 q6 => ?_)
    ·
      have hF : f_P_collect σ o lo hi = f_P_collect_18_7 σ o lo hi := hF.trans (congrArg (fun z => Option.elim z (f_P_collect_18_7 σ o lo hi) (fun k5 => f_P_collect_18_8 σ o lo hi k5)) q6)
      have hQ : k_P_collect_18_7 σ o lo hi := Eq.mp (congrArg (fun z => Option.elim z (k_P_collect_18_7 σ o lo hi) (fun k5 => k_P_collect_18_8 σ o lo hi k5)) q6) hQ
      refine lv_astoreN (lv' := [(4, .null), (0, .ref (ad 0)), (1, .int o), (2, .int lo), (3, .int hi)]) hx hb d_P_collect_21 hl (by decide) rfl (fun ls hl => ?_)
      refine lv_aloadN hx hb d_P_collect_23 (lv_at hl 0 rfl) ?_
      refine lv_ifnonnullN hx hb d_P_collect_25 ?_
      refine lv_ldc2 (v := (-3 : Int64)) hx hb hown (ht _ kw274) d_P_collect_28 ?_
      exact W.lret (v := (-3 : Int64)) hx hb hr (fun t hh hW => ⟨⟨(-3 : Int64), σ, rfl, hF.symm, by show va_P (dC, dI) cls (g_w x_sh dA ad σ) t.heap; rw [hh]; exact hP⟩, hS.F hh⟩) hS.2.2 d_P_collect_31
    ·
      have hF : f_P_collect σ o lo hi = f_P_collect_18_8 σ o lo hi k5 := hF.trans (congrArg (fun z => Option.elim z (f_P_collect_18_7 σ o lo hi) (fun k5 => f_P_collect_18_8 σ o lo hi k5)) q6)
      have hQ : k_P_collect_18_8 σ o lo hi k5 := Eq.mp (congrArg (fun z => Option.elim z (k_P_collect_18_7 σ o lo hi) (fun k5 => k_P_collect_18_8 σ o lo hi k5)) q6) hQ
      refine lv_astore (lv' := [(4, .ref (ad (k5 + 14))), (0, .ref (ad 0)), (1, .int o), (2, .int lo), (3, .int hi)]) hx hb d_P_collect_21 hl (by decide) rfl (fun ls hl => ?_)
      refine lv_aload hx hb d_P_collect_23 (lv_at hl 0 rfl) ?_
      refine lv_ifnonnull (tgt := 32) hx hb d_P_collect_25 (by decide) ?_
      refine lv_aload hx hb d_P_collect_32 (lv_at hl 0 rfl) ?_
      refine g_getN hx hb ht in_T hown hK hP (k5 + 14) (x_at14 (lt_B_find q6)) rfl 4 (by decide) rfl (va_Nw.use rfl (hz.1 _ nk40)) (fun _ h9 => h9) (v := .ref (ad (k5 + 24))) rfl d_P_collect_34 ?_
      refine lv_iconst (v := (0 : Int32)) hx hb d_P_collect_37 (by decide) ?_
      refine g_lald hx hb hK hP (k5 + 24) (x_at24 (lt_B_find q6)) rfl (by unfold vp_in; decide) (j := 0) (by decide) d_P_collect_38 ?_
      refine lv_lstore (lv' := [(5, .long (σ.2 (k5 + 24) 0)), (4, .ref (ad (k5 + 14))), (0, .ref (ad 0)), (1, .int o), (2, .int lo), (3, .int hi)]) hx hb d_P_collect_39 hl (by decide) rfl (fun ls hl => ?_)
      refine lv_aload hx hb d_P_collect_41 (lv_at hl 1 rfl) ?_
      refine g_getN hx hb ht in_T hown hK hP (k5 + 14) (x_at14 (lt_B_find q6)) rfl 4 (by decide) rfl (va_Nw.use rfl (hz.1 _ nk40)) (fun _ h9 => h9) (v := .ref (ad (k5 + 24))) rfl d_P_collect_43 ?_
      refine lv_iconst (v := (1 : Int32)) hx hb d_P_collect_46 (by decide) ?_
      refine g_lald hx hb hK hP (k5 + 24) (x_at24 (lt_B_find q6)) rfl (by unfold vp_in; decide) (j := 1) (by decide) d_P_collect_47 ?_
      refine lv_lstore (lv' := [(7, .long (σ.2 (k5 + 24) 1)), (5, .long (σ.2 (k5 + 24) 0)), (4, .ref (ad (k5 + 14))), (0, .ref (ad 0)), (1, .int o), (2, .int lo), (3, .int hi)]) hx hb d_P_collect_48 hl (by decide) rfl (fun ls hl => ?_)
      refine lv_aload hx hb d_P_collect_50 (lv_at hl 2 rfl) ?_
      refine g_getN hx hb ht in_T hown hK hP (k5 + 14) (x_at14 (lt_B_find q6)) rfl 4 (by decide) rfl (va_Nw.use rfl (hz.1 _ nk40)) (fun _ h9 => h9) (v := .ref (ad (k5 + 24))) rfl d_P_collect_52 ?_
      refine lv_iconst (v := (0 : Int32)) hx hb d_P_collect_55 (by decide) ?_
      refine lv_lconst (v := (0 : Int64)) hx hb d_P_collect_56 (by decide) ?_
      refine g_last (x := (0 : Int64)) hx hb hK hP hD hS (k5 + 24) (x_at24 (lt_B_find q6)) rfl (by unfold vp_in; decide) (j := 0) (by decide) d_P_collect_57 (fun H locs hP hD hS => ?_)
      refine lv_aload hx hb d_P_collect_58 (lv_at hl 2 rfl) ?_
      refine g_getN hx hb ht in_T hown hK hP (k5 + 14) (x_at14 (lt_B_find q6)) rfl 4 (by decide) rfl (va_Nw.use rfl (hz.1 _ nk40)) (fun _ h9 => h9) (v := .ref (ad (k5 + 24))) rfl d_P_collect_60 ?_
      refine lv_iconst (v := (1 : Int32)) hx hb d_P_collect_63 (by decide) ?_
      refine lv_lconst (v := (0 : Int64)) hx hb d_P_collect_64 (by decide) ?_
      refine g_last (x := (0 : Int64)) hx hb hK hP hD hS (k5 + 24) (x_at24 (lt_B_find q6)) rfl (by unfold vp_in; decide) (j := 1) (by decide) d_P_collect_65 (fun H locs hP hD hS => ?_)
      refine lv_aload_n hx hb d_P_collect_66 rfl (lv_at hl 3 rfl) ?_
      refine lv_iload_n hx hb d_P_collect_67 rfl (lv_at hl 4 rfl) ?_
      refine lv_lload hx hb d_P_collect_68 (lv_at hl 1 rfl) ?_
      refine lv_lneg hx hb d_P_collect_70 ?_
      refine lv_lload hx hb d_P_collect_71 (lv_at hl 0 rfl) ?_
      refine lv_lneg hx hb d_P_collect_73 ?_
      obtain ⟨hs9, hQ⟩ := hQ
      refine g_cWv (va_runV (As := [.int o, .long (-(σ.2 (k5 + 24) 0)), .long (-(σ.2 (k5 + 24) 1))]) (rest := []) ⟨hx, hb, hml, hown, ht⟩ (c_P_pay l dC dI dA ad tb H.size (g_L (g_L σ (k5 + 24) 0 (0 : Int64)) (k5 + 24) 1 (0 : Int64)) o (-(σ.2 (k5 + 24) 0)) (-(σ.2 (k5 + 24) 1)) hs9) (cwV 3 ht gc_P_113 rfl rfl rfl (by decide +kernel) ⟨Nat.le_of_ble_eq_true rfl, Nat.le_of_ble_eq_true rfl⟩) (g_pV (g_prW x_Zok hK hP hD hS hA hz _) (g_rc hK hP (0) x_at0 rfl)) rfl rfl hl.1 rfl (lv_room (Nat.le_of_ble_eq_true rfl)) d_P_collect_74 ⟨Nat.le_of_ble_eq_true rfl, Nat.le_of_ble_eq_true rfl⟩) hD hS hA (fun τ12 H locs e11 hP hD hS => ?_)
      have hF : f_P_collect σ o lo hi = f_P_collect_74_13 σ o lo hi k5 τ12 := hF.trans (by rw [e11]; try rfl)
      have hQ : k_P_collect_74_13 σ o lo hi k5 τ12 := by rw [e11]; exact hQ
      refine lv_lload hx hb d_P_collect_77 (lv_at hl 1 rfl) ?_
      refine lv_lload hx hb d_P_collect_79 (lv_at hl 0 rfl) ?_
      refine g_cSlE (va_runS (As := [.long (σ.2 (k5 + 24) 0), .long (σ.2 (k5 + 24) 1)]) (rest := []) ⟨hx, hb, hml, hown, ht⟩ (c_P_pair l (σ.2 (k5 + 24) 0) (σ.2 (k5 + 24) 1)) (va_cwS 2 ht gc_P_134 rfl rfl rfl (by decide +kernel) ⟨Nat.le_of_ble_eq_true rfl, Nat.le_of_ble_eq_true rfl⟩) (g_pr0 _) rfl rfl hl.1 rfl (lv_room (Nat.le_of_ble_eq_true rfl)) d_P_collect_81 ⟨Nat.le_of_ble_eq_true rfl, Nat.le_of_ble_eq_true rfl⟩) ?_
      exact W.lret (v := f_P_pair (σ.2 (k5 + 24) 0) (σ.2 (k5 + 24) 1)) hx hb hr (fun t hh hW => ⟨⟨f_P_pair (σ.2 (k5 + 24) 0) (σ.2 (k5 + 24) 1), τ12, rfl, hF.symm, by show va_P (dC, dI) cls (g_w x_sh dA ad τ12) t.heap; rw [hh]; exact hP⟩, hS.F hh⟩) hS.2.2 d_P_collect_84
  ·
    have c1 : (σ.1 0 7) = 0 := c1
    have hF : f_P_collect σ o lo hi = f_P_collect_7_16 σ o lo hi := hF.trans (if_pos c1)
    have hQ : k_P_collect_7_16 σ o lo hi := Eq.mp (if_pos c1) hQ
    refine lv_ldc2 (v := (-1 : Int64)) hx hb hown (ht _ kw195) d_P_collect_7 ?_
    exact W.lret (v := (-1 : Int64)) hx hb hr (fun t hh hW => ⟨⟨(-1 : Int64), σ, rfl, hF.symm, by show va_P (dC, dI) cls (g_w x_sh dA ad σ) t.heap; rw [hh]; exact hP⟩, hS.F hh⟩) hS.2.2 d_P_collect_10
