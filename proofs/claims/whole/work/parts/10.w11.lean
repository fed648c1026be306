def f_P_flash_56_10 (σ : g_S) (o : Int32) (z : Int32) (y : Int32) (r3 : Int64) (r6 : Int32) : Int64 × g_S := ((-2 : Int64), σ)
def k_P_flash_56_10 (σ : g_S) (o : Int32) (z : Int32) (y : Int32) (r3 : Int64) (r6 : Int32) : Prop := True
def f_P_flash_56_17 (σ : g_S) (o : Int32) (z : Int32) (y : Int32) (r3 : Int64) (r6 : Int32) (r13 : Int32) : Int64 × g_S := ((-2 : Int64), σ)
def k_P_flash_56_17 (σ : g_S) (o : Int32) (z : Int32) (y : Int32) (r3 : Int64) (r6 : Int32) (r13 : Int32) : Prop := True
def f_P_flash_56_24 (σ : g_S) (o : Int32) (z : Int32) (y : Int32) (r3 : Int64) (r6 : Int32) (r13 : Int32) (r20 : Int32) : Int64 × g_S := ((-2 : Int64), σ)
def k_P_flash_56_24 (σ : g_S) (o : Int32) (z : Int32) (y : Int32) (r3 : Int64) (r6 : Int32) (r13 : Int32) (r20 : Int32) : Prop := True
def f_P_flash_134_56 (σ : g_S) (o : Int32) (z : Int32) (y : Int32) (r3 : Int64) (r6 : Int32) (r13 : Int32) (r20 : Int32) (r29 : Int64) (r33 : Int64) (r37 : Int32) (τ45 : g_S) (τ50 : g_S) (τ55 : g_S) : Int64 × g_S := (f_P_pair r29 r33, τ55)
def k_P_flash_134_56 (σ : g_S) (o : Int32) (z : Int32) (y : Int32) (r3 : Int64) (r6 : Int32) (r13 : Int32) (r20 : Int32) (r29 : Int64) (r33 : Int64) (r37 : Int32) (τ45 : g_S) (τ50 : g_S) (τ55 : g_S) : Prop := True
def f_P_flash_125_51 (σ : g_S) (o : Int32) (z : Int32) (y : Int32) (r3 : Int64) (r6 : Int32) (r13 : Int32) (r20 : Int32) (r29 : Int64) (r33 : Int64) (r37 : Int32) (τ45 : g_S) (τ50 : g_S) : Int64 × g_S := (f_P_flash_134_56 σ o z y r3 r6 r13 r20 r29 r33 r37 τ45 τ50 (f_P_takeFee τ50 (1 : Int32) r33 r3))
def k_P_flash_125_51 (σ : g_S) (o : Int32) (z : Int32) (y : Int32) (r3 : Int64) (r6 : Int32) (r13 : Int32) (r20 : Int32) (r29 : Int64) (r33 : Int64) (r37 : Int32) (τ45 : g_S) (τ50 : g_S) : Prop := (k_P_takeFee τ50 (1 : Int32) r33 r3) ∧ (k_P_flash_134_56 σ o z y r3 r6 r13 r20 r29 r33 r37 τ45 τ50 (f_P_takeFee τ50 (1 : Int32) r33 r3))
def f_P_flash_116_46 (σ : g_S) (o : Int32) (z : Int32) (y : Int32) (r3 : Int64) (r6 : Int32) (r13 : Int32) (r20 : Int32) (r29 : Int64) (r33 : Int64) (r37 : Int32) (τ45 : g_S) : Int64 × g_S := (f_P_flash_125_51 σ o z y r3 r6 r13 r20 r29 r33 r37 τ45 (f_P_takeFee τ45 (0 : Int32) r29 r3))
def k_P_flash_116_46 (σ : g_S) (o : Int32) (z : Int32) (y : Int32) (r3 : Int64) (r6 : Int32) (r13 : Int32) (r20 : Int32) (r29 : Int64) (r33 : Int64) (r37 : Int32) (τ45 : g_S) : Prop := (k_P_takeFee τ45 (0 : Int32) r29 r3) ∧ (k_P_flash_125_51 σ o z y r3 r6 r13 r20 r29 r33 r37 τ45 (f_P_takeFee τ45 (0 : Int32) r29 r3))
def f_P_flash_110_41 (σ : g_S) (o : Int32) (z : Int32) (y : Int32) (r3 : Int64) (r6 : Int32) (r13 : Int32) (r20 : Int32) (r29 : Int64) (r33 : Int64) (r37 : Int32) : Int64 × g_S := (f_P_flash_116_46 σ o z y r3 r6 r13 r20 r29 r33 r37 (f_P_pay σ o r29 r33))
def k_P_flash_110_41 (σ : g_S) (o : Int32) (z : Int32) (y : Int32) (r3 : Int64) (r6 : Int32) (r13 : Int32) (r20 : Int32) (r29 : Int64) (r33 : Int64) (r37 : Int32) : Prop := (k_P_pay σ o r29 r33) ∧ (k_P_flash_116_46 σ o z y r3 r6 r13 r20 r29 r33 r37 (f_P_pay σ o r29 r33))
def f_P_flash_106_59 (σ : g_S) (o : Int32) (z : Int32) (y : Int32) (r3 : Int64) (r6 : Int32) (r13 : Int32) (r20 : Int32) (r29 : Int64) (r33 : Int64) (r37 : Int32) : Int64 × g_S := ((-5 : Int64), σ)
def k_P_flash_106_59 (σ : g_S) (o : Int32) (z : Int32) (y : Int32) (r3 : Int64) (r6 : Int32) (r13 : Int32) (r20 : Int32) (r29 : Int64) (r33 : Int64) (r37 : Int32) : Prop := True
def f_P_flash_100_39 (σ : g_S) (o : Int32) (z : Int32) (y : Int32) (r3 : Int64) (r6 : Int32) (r13 : Int32) (r20 : Int32) (r29 : Int64) (r33 : Int64) (r37 : Int32) : Int64 × g_S := (if r37 = 0 then f_P_flash_106_59 σ o z y r3 r6 r13 r20 r29 r33 r37 else f_P_flash_110_41 σ o z y r3 r6 r13 r20 r29 r33 r37)
def k_P_flash_100_39 (σ : g_S) (o : Int32) (z : Int32) (y : Int32) (r3 : Int64) (r6 : Int32) (r13 : Int32) (r20 : Int32) (r29 : Int64) (r33 : Int64) (r37 : Int32) : Prop := (if r37 = 0 then k_P_flash_106_59 σ o z y r3 r6 r13 r20 r29 r33 r37 else k_P_flash_110_41 σ o z y r3 r6 r13 r20 r29 r33 r37)
def f_P_flash_89_35 (σ : g_S) (o : Int32) (z : Int32) (y : Int32) (r3 : Int64) (r6 : Int32) (r13 : Int32) (r20 : Int32) (r29 : Int64) (r33 : Int64) : Int64 × g_S := (f_P_flash_100_39 σ o z y r3 r6 r13 r20 r29 r33 (f_P_canPay σ o r29 r33))
def k_P_flash_89_35 (σ : g_S) (o : Int32) (z : Int32) (y : Int32) (r3 : Int64) (r6 : Int32) (r13 : Int32) (r20 : Int32) (r29 : Int64) (r33 : Int64) : Prop := (k_P_canPay σ o r29 r33) ∧ (k_P_flash_100_39 σ o z y r3 r6 r13 r20 r29 r33 (f_P_canPay σ o r29 r33))
def f_P_flash_72_31 (σ : g_S) (o : Int32) (z : Int32) (y : Int32) (r3 : Int64) (r6 : Int32) (r13 : Int32) (r20 : Int32) (r29 : Int64) : Int64 × g_S := (f_P_flash_89_35 σ o z y r3 r6 r13 r20 r29 (f_P_quotient (y.toInt64 * ((σ.1 0 1).toInt64)) (1000 : Int64) (1 : Int32)))
def k_P_flash_72_31 (σ : g_S) (o : Int32) (z : Int32) (y : Int32) (r3 : Int64) (r6 : Int32) (r13 : Int32) (r20 : Int32) (r29 : Int64) : Prop := (k_P_quotient (y.toInt64 * ((σ.1 0 1).toInt64)) (1000 : Int64) (1 : Int32)) ∧ (k_P_flash_89_35 σ o z y r3 r6 r13 r20 r29 (f_P_quotient (y.toInt64 * ((σ.1 0 1).toInt64)) (1000 : Int64) (1 : Int32)))
def f_P_flash_60_27 (σ : g_S) (o : Int32) (z : Int32) (y : Int32) (r3 : Int64) (r6 : Int32) (r13 : Int32) (r20 : Int32) : Int64 × g_S := (f_P_flash_72_31 σ o z y r3 r6 r13 r20 (f_P_quotient (z.toInt64 * ((σ.1 0 1).toInt64)) (1000 : Int64) (1 : Int32)))
def k_P_flash_60_27 (σ : g_S) (o : Int32) (z : Int32) (y : Int32) (r3 : Int64) (r6 : Int32) (r13 : Int32) (r20 : Int32) : Prop := (k_P_quotient (z.toInt64 * ((σ.1 0 1).toInt64)) (1000 : Int64) (1 : Int32)) ∧ (k_P_flash_72_31 σ o z y r3 r6 r13 r20 (f_P_quotient (z.toInt64 * ((σ.1 0 1).toInt64)) (1000 : Int64) (1 : Int32)))
def f_P_flash_56_60 (σ : g_S) (o : Int32) (z : Int32) (y : Int32) (r3 : Int64) (r6 : Int32) (r13 : Int32) (r20 : Int32) : Int64 × g_S := ((-2 : Int64), σ)
def k_P_flash_56_60 (σ : g_S) (o : Int32) (z : Int32) (y : Int32) (r3 : Int64) (r6 : Int32) (r13 : Int32) (r20 : Int32) : Prop := True
def f_P_flash_49_25 (σ : g_S) (o : Int32) (z : Int32) (y : Int32) (r3 : Int64) (r6 : Int32) (r13 : Int32) (r20 : Int32) : Int64 × g_S := (if r3 = (0 : Int64) then f_P_flash_56_60 σ o z y r3 r6 r13 r20 else f_P_flash_60_27 σ o z y r3 r6 r13 r20)
def k_P_flash_49_25 (σ : g_S) (o : Int32) (z : Int32) (y : Int32) (r3 : Int64) (r6 : Int32) (r13 : Int32) (r20 : Int32) : Prop := (if r3 = (0 : Int64) then k_P_flash_56_60 σ o z y r3 r6 r13 r20 else k_P_flash_60_27 σ o z y r3 r6 r13 r20)
def f_P_flash_43_22 (σ : g_S) (o : Int32) (z : Int32) (y : Int32) (r3 : Int64) (r6 : Int32) (r13 : Int32) (r20 : Int32) : Int64 × g_S := (if r20 = 0 then f_P_flash_56_24 σ o z y r3 r6 r13 r20 else f_P_flash_49_25 σ o z y r3 r6 r13 r20)
def k_P_flash_43_22 (σ : g_S) (o : Int32) (z : Int32) (y : Int32) (r3 : Int64) (r6 : Int32) (r13 : Int32) (r20 : Int32) : Prop := (if r20 = 0 then k_P_flash_56_24 σ o z y r3 r6 r13 r20 else k_P_flash_49_25 σ o z y r3 r6 r13 r20)
def f_P_flash_40_18 (σ : g_S) (o : Int32) (z : Int32) (y : Int32) (r3 : Int64) (r6 : Int32) (r13 : Int32) : Int64 × g_S := (f_P_flash_43_22 σ o z y r3 r6 r13 (f_P_canLend σ (1 : Int32) y))
def k_P_flash_40_18 (σ : g_S) (o : Int32) (z : Int32) (y : Int32) (r3 : Int64) (r6 : Int32) (r13 : Int32) : Prop := (k_P_canLend σ (1 : Int32) y) ∧ (k_P_flash_43_22 σ o z y r3 r6 r13 (f_P_canLend σ (1 : Int32) y))
def f_P_flash_34_15 (σ : g_S) (o : Int32) (z : Int32) (y : Int32) (r3 : Int64) (r6 : Int32) (r13 : Int32) : Int64 × g_S := (if r13 = 0 then f_P_flash_56_17 σ o z y r3 r6 r13 else f_P_flash_40_18 σ o z y r3 r6 r13)
def k_P_flash_34_15 (σ : g_S) (o : Int32) (z : Int32) (y : Int32) (r3 : Int64) (r6 : Int32) (r13 : Int32) : Prop := (if r13 = 0 then k_P_flash_56_17 σ o z y r3 r6 r13 else k_P_flash_40_18 σ o z y r3 r6 r13)
def f_P_flash_31_11 (σ : g_S) (o : Int32) (z : Int32) (y : Int32) (r3 : Int64) (r6 : Int32) : Int64 × g_S := (f_P_flash_34_15 σ o z y r3 r6 (f_P_canLend σ (0 : Int32) z))
def k_P_flash_31_11 (σ : g_S) (o : Int32) (z : Int32) (y : Int32) (r3 : Int64) (r6 : Int32) : Prop := (k_P_canLend σ (0 : Int32) z) ∧ (k_P_flash_34_15 σ o z y r3 r6 (f_P_canLend σ (0 : Int32) z))
def f_P_flash_25_8 (σ : g_S) (o : Int32) (z : Int32) (y : Int32) (r3 : Int64) (r6 : Int32) : Int64 × g_S := (if r6 = 0 then f_P_flash_56_10 σ o z y r3 r6 else f_P_flash_31_11 σ o z y r3 r6)
def k_P_flash_25_8 (σ : g_S) (o : Int32) (z : Int32) (y : Int32) (r3 : Int64) (r6 : Int32) : Prop := (if r6 = 0 then k_P_flash_56_10 σ o z y r3 r6 else k_P_flash_31_11 σ o z y r3 r6)
def f_P_flash_19_5 (σ : g_S) (o : Int32) (z : Int32) (y : Int32) (r3 : Int64) : Int64 × g_S := (f_P_flash_25_8 σ o z y r3 (f_P_isOwner o))
def k_P_flash_19_5 (σ : g_S) (o : Int32) (z : Int32) (y : Int32) (r3 : Int64) : Prop := (k_P_flash_25_8 σ o z y r3 (f_P_isOwner o))
def f_P_flash_11_2 (σ : g_S) (o : Int32) (z : Int32) (y : Int32) : Int64 × g_S := (f_P_flash_19_5 σ o z y (f_B_depthAt σ (σ.1 0 9)))
def k_P_flash_11_2 (σ : g_S) (o : Int32) (z : Int32) (y : Int32) : Prop := (k_P_flash_19_5 σ o z y (f_B_depthAt σ (σ.1 0 9)))
def f_P_flash_7_61 (σ : g_S) (o : Int32) (z : Int32) (y : Int32) : Int64 × g_S := ((-1 : Int64), σ)
def k_P_flash_7_61 (σ : g_S) (o : Int32) (z : Int32) (y : Int32) : Prop := True
def f_P_flash (σ : g_S) (o : Int32) (z : Int32) (y : Int32) : Int64 × g_S := (if (σ.1 0 7) = 0 then f_P_flash_7_61 σ o z y else f_P_flash_11_2 σ o z y)
def k_P_flash (σ : g_S) (o : Int32) (z : Int32) (y : Int32) : Prop := (if (σ.1 0 7) = 0 then k_P_flash_7_61 σ o z y else k_P_flash_11_2 σ o z y)
set_option maxHeartbeats 4000000 in
set_option maxRecDepth 100000 in
theorem c_P_flash (l : Launch) (dC : Nat → ClassId) (dI : Nat → Nat → Nat) (dA : Nat → ClassId) (ad : Nat → Nat) (tb : Nat) (sz : Nat) (σ : g_S) (o : Int32) (z : Int32) (y : Int32) (hQ : k_P_flash σ o z y) : Met l y_P_flash w_P_flash ({ frames := 3, cells := 0, slots := 0, locals := 82 }) (va_Pc [.ref (ad 0), .int o, .int z, .int y] (g_W (dC, dI) cls (x_tys dA) (g_w x_sh dA ad σ) sz (x_Z tb))) (va_Ql (fun r τ => (r, τ) = f_P_flash σ o z y) (fun τ t => va_P (dC, dI) cls (g_w x_sh dA ad τ) t.heap) (va_A (g_w x_sh dA ad σ) sz)) 0 0 (va_A (g_w x_sh dA ad σ) sz) := by
  refine Met.ofW (cc := b_P_flash) (maxL := 10) (ret := (some .long)) (by decide) rfl ?_
  intro p e s m args below meth c s₁ B hml hv
  obtain ⟨rfl, hsz, hP, hK, hD0, hz⟩ := hv
  have hx := B.exec
  have hb := B.bytes
  have hr := B.returns
  have hts := atoms_spec (ws := w_P_flash) B.pre
  have ht := fun (w : Cond) (h : w ∈ gA) => hts w (List.mem_cons_of_mem _ h)
  have hown : s.vm.findClass "RangedPool" = some m.cls := findClass_of_methodNamed B.named
  have hlocks := B.notSynchronized
  subst hsz
  have hD := hD0.self (sz := s.heap.size)
  have hA : ∀ q : Nat, s.heap.size ≤ q → va_A (g_w x_sh dA ad σ) s.heap.size q := fun q h => Or.inr h
  generalize hAe : va_A (g_w x_sh dA ad σ) s.heap.size = A at hD hA hz ⊢
  have hS : va_S A s.heap s.heap [] := va_S.rf
  have hl := lv_entry ([.ref (ad 0), .int o, .int z, .int y]) (n := 10) (Nat.le_of_ble_eq_true rfl)
  rw [lg_entry_eq]
  generalize (lg_sl ([.ref (ad 0), .int o, .int z, .int y]) ++ List.replicate (10 - (lg_sl ([.ref (ad 0), .int o, .int z, .int y])).length) Slot.unset).toArray = ls at hl ⊢
  have hl : lv_has ls 10 [(0, .ref (ad 0)), (1, .int o), (2, .int z), (3, .int y)] := hl
  have hF : f_P_flash σ o z y = f_P_flash σ o z y := rfl
  refine lv_aload_n hx hb d_P_flash_0 rfl (lv_at hl 0 rfl) ?_
  refine g_get hx hb ht in_P hown hK hP (0) x_at0 rfl 7 (by decide) rfl (ht _ kw136) (fun _ h9 => h9) (v := .int (σ.1 0 7)) rfl d_P_flash_1 ?_
  refine lv_if_ne (tgt := 11) hx hb d_P_flash_4 (by decide) (fun c1 => ?_) (fun c1 => ?_)
  ·
    have c1 : ¬ ((σ.1 0 7) = 0) := c1
    have hF : f_P_flash σ o z y = f_P_flash_11_2 σ o z y := hF.trans (if_neg c1)
    have hQ : k_P_flash_11_2 σ o z y := Eq.mp (if_neg c1) hQ
    refine lv_aload_n hx hb d_P_flash_11 rfl (lv_at hl 0 rfl) ?_
    refine g_get hx hb ht in_P hown hK hP (0) x_at0 rfl 4 (by decide) rfl (ht _ kw133) (fun _ h9 => h9) (v := .ref (ad 3)) rfl d_P_flash_12 ?_
    refine lv_aload_n hx hb d_P_flash_15 rfl (lv_at hl 0 rfl) ?_
    refine g_get hx hb ht in_P hown hK hP (0) x_at0 rfl 9 (by decide) rfl (ht _ kw138) (fun _ h9 => h9) (v := .int (σ.1 0 9)) rfl d_P_flash_16 ?_
    refine g_cSl (va_runVN (host := "RangedPool") (As := [.int (σ.1 0 9)]) (rest := []) ⟨hx, hb, hml, hown, ht⟩ (c_B_depthAt l dC dI dA ad tb σ (σ.1 0 9)) ⟨va_cnB 1 ht gn_B_depthAt rfl rfl rfl (hz.1 _ nk384) (ht _ kw2) (by decide +kernel) ⟨Nat.le_of_ble_eq_true rfl, Nat.le_of_ble_eq_true rfl⟩, ht _ kw325, ht _ ks23⟩ (g_pV (g_prR x_Zok hK hP hS hz _) (g_rc hK hP (3) x_at3 rfl)) rfl rfl hl.1 rfl (lv_room (Nat.le_of_ble_eq_true rfl)) d_P_flash_19 ⟨Nat.le_of_ble_eq_true rfl, Nat.le_of_ble_eq_true rfl⟩) (fun r3 e4 => ?_)
    have hF : f_P_flash σ o z y = f_P_flash_19_5 σ o z y r3 := hF.trans (by rw [e4]; try rfl)
    have hQ : k_P_flash_19_5 σ o z y r3 := by rw [e4]; exact hQ
    refine lv_lstore (lv' := [(4, .long r3), (0, .ref (ad 0)), (1, .int o), (2, .int z), (3, .int y)]) hx hb d_P_flash_22 hl (by decide) rfl (fun ls hl => ?_)
    refine lv_iload_n hx hb d_P_flash_24 rfl (lv_at hl 2 rfl) ?_
    refine g_cSi (va_runS (As := [.int o]) (rest := []) ⟨hx, hb, hml, hown, ht⟩ (c_P_isOwner l o) (va_cwS 1 ht gc_P_72 rfl rfl rfl (by decide +kernel) ⟨Nat.le_of_ble_eq_true rfl, Nat.le_of_ble_eq_true rfl⟩) (g_pr0 _) rfl rfl hl.1 rfl (lv_room (Nat.le_of_ble_eq_true rfl)) d_P_flash_25 ⟨Nat.le_of_ble_eq_true rfl, Nat.le_of_ble_eq_true rfl⟩) (fun r6 e7 => ?_)
    have hF : f_P_flash σ o z y = f_P_flash_25_8 σ o z y r3 r6 := hF.trans (by rw [e7]; try rfl)
    have hQ : k_P_flash_25_8 σ o z y r3 r6 := by rw [e7]; exact hQ
    refine lv_if_eq (tgt := 56) hx hb d_P_flash_28 (by decide) (fun c9 => ?_) (fun c9 => ?_)
    ·
      have c9 : r6 = 0 := c9
      have hF : f_P_flash σ o z y = f_P_flash_56_10 σ o z y r3 r6 := hF.trans (if_pos c9)
      have hQ : k_P_flash_56_10 σ o z y r3 r6 := Eq.mp (if_pos c9) hQ
      refine lv_ldc2 (v := (-2 : Int64)) hx hb hown (ht _ kw201) d_P_flash_56 ?_
      exact W.lret (v := (-2 : Int64)) hx hb hr (fun t hh hW => ⟨⟨(-2 : Int64), σ, rfl, hF.symm, by show va_P (dC, dI) cls (g_w x_sh dA ad σ) t.heap; rw [hh]; exact hP⟩, hS.F hh⟩) hS.2.2 d_P_flash_59
    ·
      have c9 : ¬ (r6 = 0) := c9
      have hF : f_P_flash σ o z y = f_P_flash_31_11 σ o z y r3 r6 := hF.trans (if_neg c9)
      have hQ : k_P_flash_31_11 σ o z y r3 r6 := Eq.mp (if_neg c9) hQ
      refine lv_aload_n hx hb d_P_flash_31 rfl (lv_at hl 1 rfl) ?_
      refine lv_iconst (v := (0 : Int32)) hx hb d_P_flash_32 (by decide) ?_
      refine lv_iload_n hx hb d_P_flash_33 rfl (lv_at hl 3 rfl) ?_
      obtain ⟨hs12, hQ⟩ := hQ
      refine g_cSi (va_runV (As := [.int (0 : Int32), .int z]) (rest := []) ⟨hx, hb, hml, hown, ht⟩ (c_P_canLend l dC dI dA ad tb σ (0 : Int32) z hs12) (cwV 2 ht gc_P_185 rfl rfl rfl (by decide +kernel) ⟨Nat.le_of_ble_eq_true rfl, Nat.le_of_ble_eq_true rfl⟩) (g_pV (g_prR x_Zok hK hP hS hz _) (g_rc hK hP (0) x_at0 rfl)) rfl rfl hl.1 rfl (lv_room (Nat.le_of_ble_eq_true rfl)) d_P_flash_34 ⟨Nat.le_of_ble_eq_true rfl, Nat.le_of_ble_eq_true rfl⟩) (fun r13 e14 => ?_)
      have hF : f_P_flash σ o z y = f_P_flash_34_15 σ o z y r3 r6 r13 := hF.trans (by rw [e14]; try rfl)
      have hQ : k_P_flash_34_15 σ o z y r3 r6 r13 := by rw [e14]; exact hQ
      refine lv_if_eq (tgt := 56) hx hb d_P_flash_37 (by decide) (fun c16 => ?_) (fun c16 => ?_)
      ·
        have c16 : r13 = 0 := c16
        have hF : f_P_flash σ o z y = f_P_flash_56_17 σ o z y r3 r6 r13 := hF.trans (if_pos c16)
        have hQ : k_P_flash_56_17 σ o z y r3 r6 r13 := Eq.mp (if_pos c16) hQ
        refine lv_ldc2 (v := (-2 : Int64)) hx hb hown (ht _ kw201) d_P_flash_56 ?_
        exact W.lret (v := (-2 : Int64)) hx hb hr (fun t hh hW => ⟨⟨(-2 : Int64), σ, rfl, hF.symm, by show va_P (dC, dI) cls (g_w x_sh dA ad σ) t.heap; rw [hh]; exact hP⟩, hS.F hh⟩) hS.2.2 d_P_flash_59
      ·
        have c16 : ¬ (r13 = 0) := c16
        have hF : f_P_flash σ o z y = f_P_flash_40_18 σ o z y r3 r6 r13 := hF.trans (if_neg c16)
        have hQ : k_P_flash_40_18 σ o z y r3 r6 r13 := Eq.mp (if_neg c16) hQ
        refine lv_aload_n hx hb d_P_flash_40 rfl (lv_at hl 1 rfl) ?_
        refine lv_iconst (v := (1 : Int32)) hx hb d_P_flash_41 (by decide) ?_
        refine lv_iload_n hx hb d_P_flash_42 rfl (lv_at hl 4 rfl) ?_
        obtain ⟨hs19, hQ⟩ := hQ
        refine g_cSi (va_runV (As := [.int (1 : Int32), .int y]) (rest := []) ⟨hx, hb, hml, hown, ht⟩ (c_P_canLend l dC dI dA ad tb σ (1 : Int32) y hs19) (cwV 2 ht gc_P_185 rfl rfl rfl (by decide +kernel) ⟨Nat.le_of_ble_eq_true rfl, Nat.le_of_ble_eq_true rfl⟩) (g_pV (g_prR x_Zok hK hP hS hz _) (g_rc hK hP (0) x_at0 rfl)) rfl rfl hl.1 rfl (lv_room (Nat.le_of_ble_eq_true rfl)) d_P_flash_43 ⟨Nat.le_of_ble_eq_true rfl, Nat.le_of_ble_eq_true rfl⟩) (fun r20 e21 => ?_)
        have hF : f_P_flash σ o z y = f_P_flash_43_22 σ o z y r3 r6 r13 r20 := hF.trans (by rw [e21]; try rfl)
        have hQ : k_P_flash_43_22 σ o z y r3 r6 r13 r20 := by rw [e21]; exact hQ
        refine lv_if_eq (tgt := 56) hx hb d_P_flash_46 (by decide) (fun c23 => ?_) (fun c23 => ?_)
        ·
          have c23 : r20 = 0 := c23
          have hF : f_P_flash σ o z y = f_P_flash_56_24 σ o z y r3 r6 r13 r20 := hF.trans (if_pos c23)
          have hQ : k_P_flash_56_24 σ o z y r3 r6 r13 r20 := Eq.mp (if_pos c23) hQ
          refine lv_ldc2 (v := (-2 : Int64)) hx hb hown (ht _ kw201) d_P_flash_56 ?_
          exact W.lret (v := (-2 : Int64)) hx hb hr (fun t hh hW => ⟨⟨(-2 : Int64), σ, rfl, hF.symm, by show va_P (dC, dI) cls (g_w x_sh dA ad σ) t.heap; rw [hh]; exact hP⟩, hS.F hh⟩) hS.2.2 d_P_flash_59
        ·
          have c23 : ¬ (r20 = 0) := c23
          have hF : f_P_flash σ o z y = f_P_flash_49_25 σ o z y r3 r6 r13 r20 := hF.trans (if_neg c23)
          have hQ : k_P_flash_49_25 σ o z y r3 r6 r13 r20 := Eq.mp (if_neg c23) hQ
          refine lv_lload hx hb d_P_flash_49 (lv_at hl 0 rfl) ?_
          refine lv_lconst (v := (0 : Int64)) hx hb d_P_flash_51 (by decide) ?_
          refine W.lcmp hx hb d_P_flash_52 ?_
          refine lv_if_ne (tgt := 60) hx hb d_P_flash_53 (by decide) (fun c26 => ?_) (fun c26 => ?_)
          ·
            have c26 : ¬ (r3 = (0 : Int64)) := mt (lg_cmp_eq _ _).mpr c26
            have hF : f_P_flash σ o z y = f_P_flash_60_27 σ o z y r3 r6 r13 r20 := hF.trans (if_neg c26)
            have hQ : k_P_flash_60_27 σ o z y r3 r6 r13 r20 := Eq.mp (if_neg c26) hQ
            refine lv_iload_n hx hb d_P_flash_60 rfl (lv_at hl 3 rfl) ?_
            refine lv_i2l (v := z.toInt64) hx hb d_P_flash_61 rfl ?_
            refine lv_aload_n hx hb d_P_flash_62 rfl (lv_at hl 1 rfl) ?_
            refine g_get hx hb ht in_P hown hK hP (0) x_at0 rfl 1 (by decide) rfl (ht _ kw130) (fun _ h9 => h9) (v := .int (σ.1 0 1)) rfl d_P_flash_63 ?_
            refine lv_i2l (v := (σ.1 0 1).toInt64) hx hb d_P_flash_66 rfl ?_
            refine lv_lmul hx hb d_P_flash_67 ?_
            refine lv_ldc2 (v := (1000 : Int64)) hx hb hown (ht _ kw389) d_P_flash_68 ?_
            refine lv_iconst (v := (1 : Int32)) hx hb d_P_flash_71 (by decide) ?_
            obtain ⟨hs28, hQ⟩ := hQ
            refine g_cSl (va_runS (As := [.long (z.toInt64 * ((σ.1 0 1).toInt64)), .long (1000 : Int64), .int (1 : Int32)]) (rest := []) ⟨hx, hb, hml, hown, ht⟩ (c_P_quotient l (z.toInt64 * ((σ.1 0 1).toInt64)) (1000 : Int64) (1 : Int32) hs28) (va_cwS 3 ht gc_P_190 rfl rfl rfl (by decide +kernel) ⟨Nat.le_of_ble_eq_true rfl, Nat.le_of_ble_eq_true rfl⟩) (g_pr0 _) rfl rfl hl.1 rfl (lv_room (Nat.le_of_ble_eq_true rfl)) d_P_flash_72 ⟨Nat.le_of_ble_eq_true rfl, Nat.le_of_ble_eq_true rfl⟩) (fun r29 e30 => ?_)
            have hF : f_P_flash σ o z y = f_P_flash_72_31 σ o z y r3 r6 r13 r20 r29 := hF.trans (by rw [e30]; try rfl)
            have hQ : k_P_flash_72_31 σ o z y r3 r6 r13 r20 r29 := by rw [e30]; exact hQ
            refine lv_lstore (lv' := [(6, .long r29), (4, .long r3), (0, .ref (ad 0)), (1, .int o), (2, .int z), (3, .int y)]) hx hb d_P_flash_75 hl (by decide) rfl (fun ls hl => ?_)
            refine lv_iload_n hx hb d_P_flash_77 rfl (lv_at hl 5 rfl) ?_
            refine lv_i2l (v := y.toInt64) hx hb d_P_flash_78 rfl ?_
            refine lv_aload_n hx hb d_P_flash_79 rfl (lv_at hl 2 rfl) ?_
            refine g_get hx hb ht in_P hown hK hP (0) x_at0 rfl 1 (by decide) rfl (ht _ kw130) (fun _ h9 => h9) (v := .int (σ.1 0 1)) rfl d_P_flash_80 ?_
            refine lv_i2l (v := (σ.1 0 1).toInt64) hx hb d_P_flash_83 rfl ?_
            refine lv_lmul hx hb d_P_flash_84 ?_
            refine lv_ldc2 (v := (1000 : Int64)) hx hb hown (ht _ kw389) d_P_flash_85 ?_
            refine lv_iconst (v := (1 : Int32)) hx hb d_P_flash_88 (by decide) ?_
            obtain ⟨hs32, hQ⟩ := hQ
            refine g_cSl (va_runS (As := [.long (y.toInt64 * ((σ.1 0 1).toInt64)), .long (1000 : Int64), .int (1 : Int32)]) (rest := []) ⟨hx, hb, hml, hown, ht⟩ (c_P_quotient l (y.toInt64 * ((σ.1 0 1).toInt64)) (1000 : Int64) (1 : Int32) hs32) (va_cwS 3 ht gc_P_190 rfl rfl rfl (by decide +kernel) ⟨Nat.le_of_ble_eq_true rfl, Nat.le_of_ble_eq_true rfl⟩) (g_pr0 _) rfl rfl hl.1 rfl (lv_room (Nat.le_of_ble_eq_true rfl)) d_P_flash_89 ⟨Nat.le_of_ble_eq_true rfl, Nat.le_of_ble_eq_true rfl⟩) (fun r33 e34 => ?_)
            have hF : f_P_flash σ o z y = f_P_flash_89_35 σ o z y r3 r6 r13 r20 r29 r33 := hF.trans (by rw [e34]; try rfl)
            have hQ : k_P_flash_89_35 σ o z y r3 r6 r13 r20 r29 r33 := by rw [e34]; exact hQ
            refine lv_lstore (lv' := [(8, .long r33), (6, .long r29), (4, .long r3), (0, .ref (ad 0)), (1, .int o), (2, .int z), (3, .int y)]) hx hb d_P_flash_92 hl (by decide) rfl (fun ls hl => ?_)
            refine lv_aload_n hx hb d_P_flash_94 rfl (lv_at hl 3 rfl) ?_
            refine lv_iload_n hx hb d_P_flash_95 rfl (lv_at hl 4 rfl) ?_
            refine lv_lload hx hb d_P_flash_96 (lv_at hl 1 rfl) ?_
            refine lv_lload hx hb d_P_flash_98 (lv_at hl 0 rfl) ?_
            obtain ⟨hs36, hQ⟩ := hQ
            refine g_cSi (va_runV (As := [.int o, .long r29, .long r33]) (rest := []) ⟨hx, hb, hml, hown, ht⟩ (c_P_canPay l dC dI dA ad tb σ o r29 r33 hs36) (cwV 3 ht gc_P_107 rfl rfl rfl (by decide +kernel) ⟨Nat.le_of_ble_eq_true rfl, Nat.le_of_ble_eq_true rfl⟩) (g_pV (g_prR x_Zok hK hP hS hz _) (g_rc hK hP (0) x_at0 rfl)) rfl rfl hl.1 rfl (lv_room (Nat.le_of_ble_eq_true rfl)) d_P_flash_100 ⟨Nat.le_of_ble_eq_true rfl, Nat.le_of_ble_eq_true rfl⟩) (fun r37 e38 => ?_)
            have hF : f_P_flash σ o z y = f_P_flash_100_39 σ o z y r3 r6 r13 r20 r29 r33 r37 := hF.trans (by rw [e38]; try rfl)
            have hQ : k_P_flash_100_39 σ o z y r3 r6 r13 r20 r29 r33 r37 := by rw [e38]; exact hQ
            refine lv_if_ne (tgt := 110) hx hb d_P_flash_103 (by decide) (fun c40 => ?_) (fun c40 => ?_)
            ·
              have c40 : ¬ (r37 = 0) := c40
              have hF : f_P_flash σ o z y = f_P_flash_110_41 σ o z y r3 r6 r13 r20 r29 r33 r37 := hF.trans (if_neg c40)
              have hQ : k_P_flash_110_41 σ o z y r3 r6 r13 r20 r29 r33 r37 := Eq.mp (if_neg c40) hQ
              refine lv_aload_n hx hb d_P_flash_110 rfl (lv_at hl 3 rfl) ?_
              refine lv_iload_n hx hb d_P_flash_111 rfl (lv_at hl 4 rfl) ?_
              refine lv_lload hx hb d_P_flash_112 (lv_at hl 1 rfl) ?_
              refine lv_lload hx hb d_P_flash_114 (lv_at hl 0 rfl) ?_
              obtain ⟨hs42, hQ⟩ := hQ
              refine g_cWv (va_runV (As := [.int o, .long r29, .long r33]) (rest := []) ⟨hx, hb, hml, hown, ht⟩ (c_P_pay l dC dI dA ad tb s.heap.size σ o r29 r33 hs42) (cwV 3 ht gc_P_113 rfl rfl rfl (by decide +kernel) ⟨Nat.le_of_ble_eq_true rfl, Nat.le_of_ble_eq_true rfl⟩) (g_pV (g_prW x_Zok hK hP hD hS hA hz _) (g_rc hK hP (0) x_at0 rfl)) rfl rfl hl.1 rfl (lv_room (Nat.le_of_ble_eq_true rfl)) d_P_flash_116 ⟨Nat.le_of_ble_eq_true rfl, Nat.le_of_ble_eq_true rfl⟩) hD hS hA (fun τ45 H locs e44 hP hD hS => ?_)
              have hF : f_P_flash σ o z y = f_P_flash_116_46 σ o z y r3 r6 r13 r20 r29 r33 r37 τ45 := hF.trans (by rw [e44]; try rfl)
              have hQ : k_P_flash_116_46 σ o z y r3 r6 r13 r20 r29 r33 r37 τ45 := by rw [e44]; exact hQ
              refine lv_aload_n hx hb d_P_flash_119 rfl (lv_at hl 3 rfl) ?_
              refine lv_iconst (v := (0 : Int32)) hx hb d_P_flash_120 (by decide) ?_
              refine lv_lload hx hb d_P_flash_121 (lv_at hl 1 rfl) ?_
              refine lv_lload hx hb d_P_flash_123 (lv_at hl 2 rfl) ?_
              obtain ⟨hs47, hQ⟩ := hQ
              refine g_cWv (va_runV (As := [.int (0 : Int32), .long r29, .long r3]) (rest := []) ⟨hx, hb, hml, hown, ht⟩ (c_P_takeFee l dC dI dA ad tb H.size τ45 (0 : Int32) r29 r3 hs47) (cwV 3 ht gc_P_194 rfl rfl rfl (by decide +kernel) ⟨Nat.le_of_ble_eq_true rfl, Nat.le_of_ble_eq_true rfl⟩) (g_pV (g_prW x_Zok hK hP hD hS hA hz _) (g_rc hK hP (0) x_at0 rfl)) rfl rfl hl.1 rfl (lv_room (Nat.le_of_ble_eq_true rfl)) d_P_flash_125 ⟨Nat.le_of_ble_eq_true rfl, Nat.le_of_ble_eq_true rfl⟩) hD hS hA (fun τ50 H locs e49 hP hD hS => ?_)
              have hF : f_P_flash σ o z y = f_P_flash_125_51 σ o z y r3 r6 r13 r20 r29 r33 r37 τ45 τ50 := hF.trans (by rw [e49]; try rfl)
              have hQ : k_P_flash_125_51 σ o z y r3 r6 r13 r20 r29 r33 r37 τ45 τ50 := by rw [e49]; exact hQ
              refine lv_aload_n hx hb d_P_flash_128 rfl (lv_at hl 3 rfl) ?_
              refine lv_iconst (v := (1 : Int32)) hx hb d_P_flash_129 (by decide) ?_
              refine lv_lload hx hb d_P_flash_130 (lv_at hl 0 rfl) ?_
              refine lv_lload hx hb d_P_flash_132 (lv_at hl 2 rfl) ?_
              obtain ⟨hs52, hQ⟩ := hQ
              refine g_cWv (va_runV (As := [.int (1 : Int32), .long r33, .long r3]) (rest := []) ⟨hx, hb, hml, hown, ht⟩ (c_P_takeFee l dC dI dA ad tb H.size τ50 (1 : Int32) r33 r3 hs52) (cwV 3 ht gc_P_194 rfl rfl rfl (by decide +kernel) ⟨Nat.le_of_ble_eq_true rfl, Nat.le_of_ble_eq_true rfl⟩) (g_pV (g_prW x_Zok hK hP hD hS hA hz _) (g_rc hK hP (0) x_at0 rfl)) rfl rfl hl.1 rfl (lv_room (Nat.le_of_ble_eq_true rfl)) d_P_flash_134 ⟨Nat.le_of_ble_eq_true rfl, Nat.le_of_ble_eq_true rfl⟩) hD hS hA (fun τ55 H locs e54 hP hD hS => ?_)
              have hF : f_P_flash σ o z y = f_P_flash_134_56 σ o z y r3 r6 r13 r20 r29 r33 r37 τ45 τ50 τ55 := hF.trans (by rw [e54]; try rfl)
              have hQ : k_P_flash_134_56 σ o z y r3 r6 r13 r20 r29 r33 r37 τ45 τ50 τ55 := by rw [e54]; exact hQ
              refine lv_lload hx hb d_P_flash_137 (lv_at hl 1 rfl) ?_
              refine lv_lload hx hb d_P_flash_139 (lv_at hl 0 rfl) ?_
              refine g_cSlE (va_runS (As := [.long r29, .long r33]) (rest := []) ⟨hx, hb, hml, hown, ht⟩ (c_P_pair l r29 r33) (va_cwS 2 ht gc_P_134 rfl rfl rfl (by decide +kernel) ⟨Nat.le_of_ble_eq_true rfl, Nat.le_of_ble_eq_true rfl⟩) (g_pr0 _) rfl rfl hl.1 rfl (lv_room (Nat.le_of_ble_eq_true rfl)) d_P_flash_141 ⟨Nat.le_of_ble_eq_true rfl, Nat.le_of_ble_eq_true rfl⟩) ?_
              exact W.lret (v := f_P_pair r29 r33) hx hb hr (fun t hh hW => ⟨⟨f_P_pair r29 r33, τ55, rfl, hF.symm, by show va_P (dC, dI) cls (g_w x_sh dA ad τ55) t.heap; rw [hh]; exact hP⟩, hS.F hh⟩) hS.2.2 d_P_flash_144
            ·
              have c40 : r37 = 0 := c40
              have hF : f_P_flash σ o z y = f_P_flash_106_59 σ o z y r3 r6 r13 r20 r29 r33 r37 := hF.trans (if_pos c40)
              have hQ : k_P_flash_106_59 σ o z y r3 r6 r13 r20 r29 r33 r37 := Eq.mp (if_pos c40) hQ
              refine lv_ldc2 (v := (-5 : Int64)) hx hb hown (ht _ kw246) d_P_flash_106 ?_
              exact W.lret (v := (-5 : Int64)) hx hb hr (fun t hh hW => ⟨⟨(-5 : Int64), σ, rfl, hF.symm, by show va_P (dC, dI) cls (g_w x_sh dA ad σ) t.heap; rw [hh]; exact hP⟩, hS.F hh⟩) hS.2.2 d_P_flash_109
          ·
            have c26 : r3 = (0 : Int64) := (lg_cmp_eq _ _).mp c26
            have hF : f_P_flash σ o z y = f_P_flash_56_60 σ o z y r3 r6 r13 r20 := hF.trans (if_pos c26)
            have hQ : k_P_flash_56_60 σ o z y r3 r6 r13 r20 := Eq.mp (if_pos c26) hQ
            refine lv_ldc2 (v := (-2 : Int64)) hx hb hown (ht _ kw201) d_P_flash_56 ?_
            exact W.lret (v := (-2 : Int64)) hx hb hr (fun t hh hW => ⟨⟨(-2 : Int64), σ, rfl, hF.symm, by show va_P (dC, dI) cls (g_w x_sh dA ad σ) t.heap; rw [hh]; exact hP⟩, hS.F hh⟩) hS.2.2 d_P_flash_59
  ·
    have c1 : (σ.1 0 7) = 0 := c1
    have hF : f_P_flash σ o z y = f_P_flash_7_61 σ o z y := hF.trans (if_pos c1)
    have hQ : k_P_flash_7_61 σ o z y := Eq.mp (if_pos c1) hQ
    refine lv_ldc2 (v := (-1 : Int64)) hx hb hown (ht _ kw195) d_P_flash_7 ?_
    exact W.lret (v := (-1 : Int64)) hx hb hr (fun t hh hW => ⟨⟨(-1 : Int64), σ, rfl, hF.symm, by show va_P (dC, dI) cls (g_w x_sh dA ad σ) t.heap; rw [hh]; exact hP⟩, hS.F hh⟩) hS.2.2 d_P_flash_10
def f_P_advance_11_2 (σ : g_S) (n : Int32) : Int32 × g_S := ((0 : Int32), σ)
def f_P_advance_22_9 (σ : g_S) (n : Int32) (τ8 : g_S) : Int32 × g_S := ((1 : Int32), τ8)
def f_P_advance_13_5 (σ : g_S) (n : Int32) : Int32 × g_S := (f_P_advance_22_9 σ n (f_H_tick σ n (σ.1 0 9)))
def f_P_advance_11_10 (σ : g_S) (n : Int32) : Int32 × g_S := ((0 : Int32), σ)
def f_P_advance_4_3 (σ : g_S) (n : Int32) : Int32 × g_S := (if n ≤ (10000 : Int32) then f_P_advance_13_5 σ n else f_P_advance_11_10 σ n)
def f_P_advance (σ : g_S) (n : Int32) : Int32 × g_S := (if n < 0 then f_P_advance_11_2 σ n else f_P_advance_4_3 σ n)
set_option maxHeartbeats 4000000 in
set_option maxRecDepth 100000 in
theorem c_P_advance (l : Launch) (dC : Nat → ClassId) (dI : Nat → Nat → Nat) (dA : Nat → ClassId) (ad : Nat → Nat) (tb : Nat) (sz : Nat) (σ : g_S) (n : Int32) : Met l y_P_advance w_P_advance ({ frames := 1, cells := 0, slots := 0, locals := 22 }) (va_Pc [.ref (ad 0), .int n] (g_W (dC, dI) cls (x_tys dA) (g_w x_sh dA ad σ) sz (x_Z tb))) (va_Qi (fun r τ => (r, τ) = f_P_advance σ n) (fun τ t => va_P (dC, dI) cls (g_w x_sh dA ad τ) t.heap) (va_A (g_w x_sh dA ad σ) sz)) 0 0 (va_A (g_w x_sh dA ad σ) sz) := by
  refine Met.ofW (cc := b_P_advance) (maxL := 2) (ret := (some .boolean)) (by decide) rfl ?_
  intro p e s m args below meth c s₁ B hml hv
  obtain ⟨rfl, hsz, hP, hK, hD0, hz⟩ := hv
  have hx := B.exec
  have hb := B.bytes
  have hr := B.returns
  have hts := atoms_spec (ws := w_P_advance) B.pre
  have ht := fun (w : Cond) (h : w ∈ gA) => hts w (List.mem_cons_of_mem _ h)
  have hown : s.vm.findClass "RangedPool" = some m.cls := findClass_of_methodNamed B.named
  have hlocks := B.notSynchronized
  subst hsz
  have hD := hD0.self (sz := s.heap.size)
  have hA : ∀ q : Nat, s.heap.size ≤ q → va_A (g_w x_sh dA ad σ) s.heap.size q := fun q h => Or.inr h
  generalize hAe : va_A (g_w x_sh dA ad σ) s.heap.size = A at hD hA hz ⊢
  have hS : va_S A s.heap s.heap [] := va_S.rf
  have hl := lv_entry ([.ref (ad 0), .int n]) (n := 2) (Nat.le_of_ble_eq_true rfl)
  rw [lg_entry_eq]
  generalize (lg_sl ([.ref (ad 0), .int n]) ++ List.replicate (2 - (lg_sl ([.ref (ad 0), .int n])).length) Slot.unset).toArray = ls at hl ⊢
  have hl : lv_has ls 2 [(0, .ref (ad 0)), (1, .int n)] := hl
  have hF : f_P_advance σ n = f_P_advance σ n := rfl
  refine lv_iload_n hx hb d_P_advance_0 rfl (lv_at hl 1 rfl) ?_
  refine lv_if_lt (tgt := 11) hx hb d_P_advance_1 (by decide) (fun c1 => ?_) (fun c1 => ?_)
  ·
    have c1 : n < 0 := c1
    have hF : f_P_advance σ n = f_P_advance_11_2 σ n := hF.trans (if_pos c1)
    refine lv_iconst (v := (0 : Int32)) hx hb d_P_advance_11 (by decide) ?_
    exact W.zret (ty := .boolean) (v := (0 : Int32)) hx hb hr (g_zr (by decide)) (fun t hh hW => ⟨⟨(0 : Int32), σ, rfl, hF.symm, by show va_P (dC, dI) cls (g_w x_sh dA ad σ) t.heap; rw [hh]; exact hP⟩, hS.F hh⟩) hS.2.2 d_P_advance_12
  ·
    have c1 : ¬ (n < 0) := c1
    have hF : f_P_advance σ n = f_P_advance_4_3 σ n := hF.trans (if_neg c1)
    refine lv_iload_n hx hb d_P_advance_4 rfl (lv_at hl 1 rfl) ?_
    refine lv_sipush (v := (10000 : Int32)) hx hb d_P_advance_5 (by decide) ?_
    refine lv_icmp_le (tgt := 13) hx hb d_P_advance_8 (by decide) (fun c4 => ?_) (fun c4 => ?_)
    ·
      have c4 : n ≤ (10000 : Int32) := c4
      have hF : f_P_advance σ n = f_P_advance_13_5 σ n := hF.trans (if_pos c4)
      refine lv_aload_n hx hb d_P_advance_13 rfl (lv_at hl 0 rfl) ?_
      refine g_get hx hb ht in_P hown hK hP (0) x_at0 rfl 5 (by decide) rfl (ht _ kw134) (fun _ h9 => h9) (v := .ref (ad 5)) rfl d_P_advance_14 ?_
      refine lv_iload_n hx hb d_P_advance_17 rfl (lv_at hl 1 rfl) ?_
      refine lv_aload_n hx hb d_P_advance_18 rfl (lv_at hl 0 rfl) ?_
      refine g_get hx hb ht in_P hown hK hP (0) x_at0 rfl 9 (by decide) rfl (ht _ kw138) (fun _ h9 => h9) (v := .int (σ.1 0 9)) rfl d_P_advance_19 ?_
      refine g_cWv (va_runVN (host := "RangedPool") (As := [.int n, .int (σ.1 0 9)]) (rest := []) ⟨hx, hb, hml, hown, ht⟩ (c_H_tick l dC dI dA ad tb s.heap.size σ n (σ.1 0 9)) ⟨va_cnB 2 ht gn_H_tick rfl rfl rfl (hz.1 _ nk400) (ht _ kw4) (by decide +kernel) ⟨Nat.le_of_ble_eq_true rfl, Nat.le_of_ble_eq_true rfl⟩, ht _ kw402, ht _ ks35⟩ (g_pV (g_prW x_Zok hK hP hD hS hA hz _) (g_rc hK hP (5) x_at5 rfl)) rfl rfl hl.1 rfl (lv_room (Nat.le_of_ble_eq_true rfl)) d_P_advance_22 ⟨Nat.le_of_ble_eq_true rfl, Nat.le_of_ble_eq_true rfl⟩) hD hS hA (fun τ8 H locs e7 hP hD hS => ?_)
      have hF : f_P_advance σ n = f_P_advance_22_9 σ n τ8 := hF.trans (by rw [e7]; try rfl)
      refine lv_iconst (v := (1 : Int32)) hx hb d_P_advance_25 (by decide) ?_
      exact W.zret (ty := .boolean) (v := (1 : Int32)) hx hb hr (g_zr (by decide)) (fun t hh hW => ⟨⟨(1 : Int32), τ8, rfl, hF.symm, by show va_P (dC, dI) cls (g_w x_sh dA ad τ8) t.heap; rw [hh]; exact hP⟩, hS.F hh⟩) hS.2.2 d_P_advance_26
    ·
      have c4 : ¬ (n ≤ (10000 : Int32)) := c4
      have hF : f_P_advance σ n = f_P_advance_11_10 σ n := hF.trans (if_neg c4)
      refine lv_iconst (v := (0 : Int32)) hx hb d_P_advance_11 (by decide) ?_
      exact W.zret (ty := .boolean) (v := (0 : Int32)) hx hb hr (g_zr (by decide)) (fun t hh hW => ⟨⟨(0 : Int32), σ, rfl, hF.symm, by show va_P (dC, dI) cls (g_w x_sh dA ad σ) t.heap; rw [hh]; exact hP⟩, hS.F hh⟩) hS.2.2 d_P_advance_12
def f_M_isStep_16_2 (n : Int32) : Int32 := (0 : Int32)
def f_M_isStep_16_5 (n : Int32) : Int32 := (0 : Int32)
def f_M_isStep_12_6 (n : Int32) : Int32 := (1 : Int32)
def f_M_isStep_6_3 (n : Int32) : Int32 := (if (24 : Int32) < n then f_M_isStep_16_5 n else f_M_isStep_12_6 n)
def f_M_isStep (n : Int32) : Int32 := (if n < (-24 : Int32) then f_M_isStep_16_2 n else f_M_isStep_6_3 n)
set_option maxHeartbeats 4000000 in
set_option maxRecDepth 100000 in
theorem c_M_isStep (l : Launch) (n : Int32) : Met l y_M_isStep w_M_isStep ({ frames := 0, cells := 0, slots := 0, locals := 0 }) (va_Pc [.int n] (fun _ => True)) (vp_Si (fun r => r = f_M_isStep n)) 0 0 (fun _ => False) := by
  refine Met.ofW (cc := b_M_isStep) (maxL := 1) (ret := (some .boolean)) (by decide) rfl ?_
  intro p e s m args below meth c s₁ B hml hv
  obtain ⟨rfl, -⟩ := hv
  have hx := B.exec
  have hb := B.bytes
  have hr := B.returns
  have hts := atoms_spec (ws := w_M_isStep) B.pre
  have ht := fun (w : Cond) (h : w ∈ gA) => hts w (List.mem_cons_of_mem _ h)
  have hown : s.vm.findClass "RangedPoolModel" = some m.cls := findClass_of_methodNamed B.named
  have hlocks := B.notSynchronized
  have hl := lv_entry ([.int n]) (n := 1) (Nat.le_of_ble_eq_true rfl)
  rw [lg_entry_eq]
  generalize (lg_sl ([.int n]) ++ List.replicate (1 - (lg_sl ([.int n])).length) Slot.unset).toArray = ls at hl ⊢
  have hl : lv_has ls 1 [(0, .int n)] := hl
  have hF : f_M_isStep n = f_M_isStep n := rfl
  refine lv_iload_n hx hb d_M_isStep_0 rfl (lv_at hl 0 rfl) ?_
  refine lv_bipush (v := (-24 : Int32)) hx hb d_M_isStep_1 (by decide) ?_
  refine lv_icmp_lt (tgt := 16) hx hb d_M_isStep_3 (by decide) (fun c1 => ?_) (fun c1 => ?_)
  ·
    have c1 : n < (-24 : Int32) := c1
    have hF : f_M_isStep n = f_M_isStep_16_2 n := hF.trans (if_pos c1)
    refine lv_iconst (v := (0 : Int32)) hx hb d_M_isStep_16 (by decide) ?_
    exact W.zret (ty := .boolean) (v := (0 : Int32)) hx hb hr (g_zr (by decide)) (fun t hh hW => ⟨_, rfl, hF.symm, hh⟩) (fun _ h => by cases h) d_M_isStep_17
  ·
    have c1 : ¬ (n < (-24 : Int32)) := c1
    have hF : f_M_isStep n = f_M_isStep_6_3 n := hF.trans (if_neg c1)
    refine lv_iload_n hx hb d_M_isStep_6 rfl (lv_at hl 0 rfl) ?_
    refine lv_bipush (v := (24 : Int32)) hx hb d_M_isStep_7 (by decide) ?_
    refine lv_icmp_gt (tgt := 16) hx hb d_M_isStep_9 (by decide) (fun c4 => ?_) (fun c4 => ?_)
    ·
      have c4 : (24 : Int32) < n := c4
      have hF : f_M_isStep n = f_M_isStep_16_5 n := hF.trans (if_pos c4)
      refine lv_iconst (v := (0 : Int32)) hx hb d_M_isStep_16 (by decide) ?_
      exact W.zret (ty := .boolean) (v := (0 : Int32)) hx hb hr (g_zr (by decide)) (fun t hh hW => ⟨_, rfl, hF.symm, hh⟩) (fun _ h => by cases h) d_M_isStep_17
    ·
      have c4 : ¬ ((24 : Int32) < n) := c4
      have hF : f_M_isStep n = f_M_isStep_12_6 n := hF.trans (if_neg c4)
      refine lv_iconst (v := (1 : Int32)) hx hb d_M_isStep_12 (by decide) ?_
      refine lv_goto (tgt := 17) hx hb d_M_isStep_13 (by decide) ?_
      exact W.zret (ty := .boolean) (v := (1 : Int32)) hx hb hr (g_zr (by decide)) (fun t hh hW => ⟨_, rfl, hF.symm, hh⟩) (fun _ h => by cases h) d_M_isStep_17
def f_M_isOwner_13_2 (o : Int32) : Int32 := (0 : Int32)
def f_M_isOwner_13_5 (o : Int32) : Int32 := (0 : Int32)
def f_M_isOwner_9_6 (o : Int32) : Int32 := (1 : Int32)
def f_M_isOwner_4_3 (o : Int32) : Int32 := (if (3 : Int32) < o then f_M_isOwner_13_5 o else f_M_isOwner_9_6 o)
def f_M_isOwner (o : Int32) : Int32 := (if o < 0 then f_M_isOwner_13_2 o else f_M_isOwner_4_3 o)
set_option maxHeartbeats 4000000 in
set_option maxRecDepth 100000 in
theorem c_M_isOwner (l : Launch) (o : Int32) : Met l y_M_isOwner w_M_isOwner ({ frames := 0, cells := 0, slots := 0, locals := 0 }) (va_Pc [.int o] (fun _ => True)) (vp_Si (fun r => r = f_M_isOwner o)) 0 0 (fun _ => False) := by
  refine Met.ofW (cc := b_M_isOwner) (maxL := 1) (ret := (some .boolean)) (by decide) rfl ?_
  intro p e s m args below meth c s₁ B hml hv
  obtain ⟨rfl, -⟩ := hv
  have hx := B.exec
  have hb := B.bytes
  have hr := B.returns
  have hts := atoms_spec (ws := w_M_isOwner) B.pre
  have ht := fun (w : Cond) (h : w ∈ gA) => hts w (List.mem_cons_of_mem _ h)
  have hown : s.vm.findClass "RangedPoolModel" = some m.cls := findClass_of_methodNamed B.named
  have hlocks := B.notSynchronized
  have hl := lv_entry ([.int o]) (n := 1) (Nat.le_of_ble_eq_true rfl)
  rw [lg_entry_eq]
  generalize (lg_sl ([.int o]) ++ List.replicate (1 - (lg_sl ([.int o])).length) Slot.unset).toArray = ls at hl ⊢
  have hl : lv_has ls 1 [(0, .int o)] := hl
  have hF : f_M_isOwner o = f_M_isOwner o := rfl
  refine lv_iload_n hx hb d_M_isOwner_0 rfl (lv_at hl 0 rfl) ?_
  refine lv_if_lt (tgt := 13) hx hb d_M_isOwner_1 (by decide) (fun c1 => ?_) (fun c1 => ?_)
  ·
    have c1 : o < 0 := c1
    have hF : f_M_isOwner o = f_M_isOwner_13_2 o := hF.trans (if_pos c1)
    refine lv_iconst (v := (0 : Int32)) hx hb d_M_isOwner_13 (by decide) ?_
    exact W.zret (ty := .boolean) (v := (0 : Int32)) hx hb hr (g_zr (by decide)) (fun t hh hW => ⟨_, rfl, hF.symm, hh⟩) (fun _ h => by cases h) d_M_isOwner_14
  ·
    have c1 : ¬ (o < 0) := c1
    have hF : f_M_isOwner o = f_M_isOwner_4_3 o := hF.trans (if_neg c1)
    refine lv_iload_n hx hb d_M_isOwner_4 rfl (lv_at hl 0 rfl) ?_
    refine lv_iconst (v := (3 : Int32)) hx hb d_M_isOwner_5 (by decide) ?_
    refine lv_icmp_gt (tgt := 13) hx hb d_M_isOwner_6 (by decide) (fun c4 => ?_) (fun c4 => ?_)
    ·
      have c4 : (3 : Int32) < o := c4
      have hF : f_M_isOwner o = f_M_isOwner_13_5 o := hF.trans (if_pos c4)
      refine lv_iconst (v := (0 : Int32)) hx hb d_M_isOwner_13 (by decide) ?_
      exact W.zret (ty := .boolean) (v := (0 : Int32)) hx hb hr (g_zr (by decide)) (fun t hh hW => ⟨_, rfl, hF.symm, hh⟩) (fun _ h => by cases h) d_M_isOwner_14
    ·
      have c4 : ¬ ((3 : Int32) < o) := c4
      have hF : f_M_isOwner o = f_M_isOwner_9_6 o := hF.trans (if_neg c4)
      refine lv_iconst (v := (1 : Int32)) hx hb d_M_isOwner_9 (by decide) ?_
      refine lv_goto (tgt := 14) hx hb d_M_isOwner_10 (by decide) ?_
      exact W.zret (ty := .boolean) (v := (1 : Int32)) hx hb hr (g_zr (by decide)) (fun t hh hW => ⟨_, rfl, hF.symm, hh⟩) (fun _ h => by cases h) d_M_isOwner_14
def f_M_quotient_15_2 (a : Int64) (b : Int64) (up : Int32) : Int64 := a / b
def k_M_quotient_15_2 (a : Int64) (b : Int64) (up : Int32) : Prop := (¬ b = 0) ∧ True
def f_M_quotient_5_4 (a : Int64) (b : Int64) (up : Int32) : Int64 := ((a + b) - (1 : Int64)) / b
def k_M_quotient_5_4 (a : Int64) (b : Int64) (up : Int32) : Prop := (¬ b = 0) ∧ True
def f_M_quotient (a : Int64) (b : Int64) (up : Int32) : Int64 := (if up = 0 then f_M_quotient_15_2 a b up else f_M_quotient_5_4 a b up)
def k_M_quotient (a : Int64) (b : Int64) (up : Int32) : Prop := (if up = 0 then k_M_quotient_15_2 a b up else k_M_quotient_5_4 a b up)
set_option maxHeartbeats 4000000 in
set_option maxRecDepth 100000 in
theorem c_M_quotient (l : Launch) (a : Int64) (b : Int64) (up : Int32) (hQ : k_M_quotient a b up) : Met l y_M_quotient w_M_quotient ({ frames := 0, cells := 0, slots := 0, locals := 0 }) (va_Pc [.long a, .long b, .int up] (fun _ => True)) (vp_Sl (fun r => r = f_M_quotient a b up)) 0 0 (fun _ => False) := by
  refine Met.ofW (cc := b_M_quotient) (maxL := 5) (ret := (some .long)) (by decide) rfl ?_
  intro p e s m args below meth c s₁ B hml hv
  obtain ⟨rfl, -⟩ := hv
  have hx := B.exec
  have hb := B.bytes
  have hr := B.returns
  have hts := atoms_spec (ws := w_M_quotient) B.pre
  have ht := fun (w : Cond) (h : w ∈ gA) => hts w (List.mem_cons_of_mem _ h)
  have hown : s.vm.findClass "RangedPoolModel" = some m.cls := findClass_of_methodNamed B.named
  have hlocks := B.notSynchronized
  have hl := lv_entry ([.long a, .long b, .int up]) (n := 5) (Nat.le_of_ble_eq_true rfl)
  rw [lg_entry_eq]
  generalize (lg_sl ([.long a, .long b, .int up]) ++ List.replicate (5 - (lg_sl ([.long a, .long b, .int up])).length) Slot.unset).toArray = ls at hl ⊢
  have hl : lv_has ls 5 [(0, .long a), (2, .long b), (4, .int up)] := hl
  have hF : f_M_quotient a b up = f_M_quotient a b up := rfl
  refine lv_iload hx hb d_M_quotient_0 (lv_at hl 2 rfl) ?_
  refine lv_if_eq (tgt := 15) hx hb d_M_quotient_2 (by decide) (fun c1 => ?_) (fun c1 => ?_)
  ·
    have c1 : up = 0 := c1
    have hF : f_M_quotient a b up = f_M_quotient_15_2 a b up := hF.trans (if_pos c1)
    have hQ : k_M_quotient_15_2 a b up := Eq.mp (if_pos c1) hQ
    refine lv_lload_n hx hb d_M_quotient_15 rfl (lv_at hl 0 rfl) ?_
    refine lv_lload_n hx hb d_M_quotient_16 rfl (lv_at hl 1 rfl) ?_
    obtain ⟨hs3, hQ⟩ := hQ
    refine lv_ldiv hx hb d_M_quotient_17 (hs3) ?_
    exact W.lret (v := a / b) hx hb hr (fun t hh hW => ⟨_, rfl, hF.symm, hh⟩) (fun _ h => by cases h) d_M_quotient_18
  ·
    have c1 : ¬ (up = 0) := c1
    have hF : f_M_quotient a b up = f_M_quotient_5_4 a b up := hF.trans (if_neg c1)
    have hQ : k_M_quotient_5_4 a b up := Eq.mp (if_neg c1) hQ
    refine lv_lload_n hx hb d_M_quotient_5 rfl (lv_at hl 0 rfl) ?_
    refine lv_lload_n hx hb d_M_quotient_6 rfl (lv_at hl 1 rfl) ?_
    refine lv_ladd hx hb d_M_quotient_7 ?_
    refine lv_lconst (v := (1 : Int64)) hx hb d_M_quotient_8 (by decide) ?_
    refine lv_lsub hx hb d_M_quotient_9 ?_
    refine lv_lload_n hx hb d_M_quotient_10 rfl (lv_at hl 1 rfl) ?_
    obtain ⟨hs5, hQ⟩ := hQ
    refine lv_ldiv hx hb d_M_quotient_11 (hs5) ?_
    refine lv_goto (tgt := 18) hx hb d_M_quotient_12 (by decide) ?_
    exact W.lret (v := ((a + b) - (1 : Int64)) / b) hx hb hr (fun t hh hW => ⟨_, rfl, hF.symm, hh⟩) (fun _ h => by cases h) d_M_quotient_18
def f_M_zero (a : Int64) (b : Int64) (w : Int64) (up : Int32) : Int64 := f_M_quotient ((w * (65536 : Int64)) * (b - a)) (a * b) up
def k_M_zero (a : Int64) (b : Int64) (w : Int64) (up : Int32) : Prop := (k_M_quotient ((w * (65536 : Int64)) * (b - a)) (a * b) up) ∧ True
set_option maxHeartbeats 4000000 in
set_option maxRecDepth 100000 in
theorem c_M_zero (l : Launch) (a : Int64) (b : Int64) (w : Int64) (up : Int32) (hQ : k_M_zero a b w up) : Met l y_M_zero w_M_zero ({ frames := 1, cells := 0, slots := 0, locals := 24 }) (va_Pc [.long a, .long b, .long w, .int up] (fun _ => True)) (vp_Sl (fun r => r = f_M_zero a b w up)) 0 0 (fun _ => False) := by
  refine Met.ofW (cc := b_M_zero) (maxL := 7) (ret := (some .long)) (by decide) rfl ?_
  intro p e s m args below meth c s₁ B hml hv
  obtain ⟨rfl, -⟩ := hv
  have hx := B.exec
  have hb := B.bytes
  have hr := B.returns
  have hts := atoms_spec (ws := w_M_zero) B.pre
  have ht := fun (w : Cond) (h : w ∈ gA) => hts w (List.mem_cons_of_mem _ h)
  have hown : s.vm.findClass "RangedPoolModel" = some m.cls := findClass_of_methodNamed B.named
  have hlocks := B.notSynchronized
  have hl := lv_entry ([.long a, .long b, .long w, .int up]) (n := 7) (Nat.le_of_ble_eq_true rfl)
  rw [lg_entry_eq]
  generalize (lg_sl ([.long a, .long b, .long w, .int up]) ++ List.replicate (7 - (lg_sl ([.long a, .long b, .long w, .int up])).length) Slot.unset).toArray = ls at hl ⊢
  have hl : lv_has ls 7 [(0, .long a), (2, .long b), (4, .long w), (6, .int up)] := hl
  have hF : f_M_zero a b w up = f_M_zero a b w up := rfl
  refine lv_lload hx hb d_M_zero_0 (lv_at hl 2 rfl) ?_
  refine lv_ldc2 (v := (65536 : Int64)) hx hb hown (ht _ kw458) d_M_zero_2 ?_
  refine lv_lmul hx hb d_M_zero_5 ?_
  refine lv_lload_n hx hb d_M_zero_6 rfl (lv_at hl 1 rfl) ?_
  refine lv_lload_n hx hb d_M_zero_7 rfl (lv_at hl 0 rfl) ?_
  refine lv_lsub hx hb d_M_zero_8 ?_
  refine lv_lmul hx hb d_M_zero_9 ?_
  refine lv_lload_n hx hb d_M_zero_10 rfl (lv_at hl 0 rfl) ?_
  refine lv_lload_n hx hb d_M_zero_11 rfl (lv_at hl 1 rfl) ?_
  refine lv_lmul hx hb d_M_zero_12 ?_
  refine lv_iload hx hb d_M_zero_13 (lv_at hl 3 rfl) ?_
  obtain ⟨hs1, hQ⟩ := hQ
  refine g_cSlE (va_runS (As := [.long ((w * (65536 : Int64)) * (b - a)), .long (a * b), .int up]) (rest := []) ⟨hx, hb, hml, hown, ht⟩ (c_M_quotient l ((w * (65536 : Int64)) * (b - a)) (a * b) up hs1) (va_cwS 3 ht gc_M_64 rfl rfl rfl (by decide +kernel) ⟨Nat.le_of_ble_eq_true rfl, Nat.le_of_ble_eq_true rfl⟩) (g_pr0 _) rfl rfl hl.1 rfl (lv_room (Nat.le_of_ble_eq_true rfl)) d_M_zero_15 ⟨Nat.le_of_ble_eq_true rfl, Nat.le_of_ble_eq_true rfl⟩) ?_
  exact W.lret (v := f_M_quotient ((w * (65536 : Int64)) * (b - a)) (a * b) up) hx hb hr (fun t hh hW => ⟨_, rfl, hF.symm, hh⟩) (fun _ h => by cases h) d_M_zero_18
def f_M_one (a : Int64) (b : Int64) (w : Int64) (up : Int32) : Int64 := f_M_quotient (w * (b - a)) (65536 : Int64) up
def k_M_one (a : Int64) (b : Int64) (w : Int64) (up : Int32) : Prop := (k_M_quotient (w * (b - a)) (65536 : Int64) up) ∧ True
set_option maxHeartbeats 4000000 in
set_option maxRecDepth 100000 in
theorem c_M_one (l : Launch) (a : Int64) (b : Int64) (w : Int64) (up : Int32) (hQ : k_M_one a b w up) : Met l y_M_one w_M_one ({ frames := 1, cells := 0, slots := 0, locals := 24 }) (va_Pc [.long a, .long b, .long w, .int up] (fun _ => True)) (vp_Sl (fun r => r = f_M_one a b w up)) 0 0 (fun _ => False) := by
  refine Met.ofW (cc := b_M_one) (maxL := 7) (ret := (some .long)) (by decide) rfl ?_
  intro p e s m args below meth c s₁ B hml hv
  obtain ⟨rfl, -⟩ := hv
  have hx := B.exec
  have hb := B.bytes
  have hr := B.returns
  have hts := atoms_spec (ws := w_M_one) B.pre
  have ht := fun (w : Cond) (h : w ∈ gA) => hts w (List.mem_cons_of_mem _ h)
  have hown : s.vm.findClass "RangedPoolModel" = some m.cls := findClass_of_methodNamed B.named
  have hlocks := B.notSynchronized
  have hl := lv_entry ([.long a, .long b, .long w, .int up]) (n := 7) (Nat.le_of_ble_eq_true rfl)
  rw [lg_entry_eq]
  generalize (lg_sl ([.long a, .long b, .long w, .int up]) ++ List.replicate (7 - (lg_sl ([.long a, .long b, .long w, .int up])).length) Slot.unset).toArray = ls at hl ⊢
  have hl : lv_has ls 7 [(0, .long a), (2, .long b), (4, .long w), (6, .int up)] := hl
  have hF : f_M_one a b w up = f_M_one a b w up := rfl
  refine lv_lload hx hb d_M_one_0 (lv_at hl 2 rfl) ?_
  refine lv_lload_n hx hb d_M_one_2 rfl (lv_at hl 1 rfl) ?_
  refine lv_lload_n hx hb d_M_one_3 rfl (lv_at hl 0 rfl) ?_
  refine lv_lsub hx hb d_M_one_4 ?_
  refine lv_lmul hx hb d_M_one_5 ?_
  refine lv_ldc2 (v := (65536 : Int64)) hx hb hown (ht _ kw458) d_M_one_6 ?_
  refine lv_iload hx hb d_M_one_9 (lv_at hl 3 rfl) ?_
  obtain ⟨hs1, hQ⟩ := hQ
  refine g_cSlE (va_runS (As := [.long (w * (b - a)), .long (65536 : Int64), .int up]) (rest := []) ⟨hx, hb, hml, hown, ht⟩ (c_M_quotient l (w * (b - a)) (65536 : Int64) up hs1) (va_cwS 3 ht gc_M_64 rfl rfl rfl (by decide +kernel) ⟨Nat.le_of_ble_eq_true rfl, Nat.le_of_ble_eq_true rfl⟩) (g_pr0 _) rfl rfl hl.1 rfl (lv_room (Nat.le_of_ble_eq_true rfl)) d_M_one_11 ⟨Nat.le_of_ble_eq_true rfl, Nat.le_of_ble_eq_true rfl⟩) ?_
  exact W.lret (v := f_M_quotient (w * (b - a)) (65536 : Int64) up) hx hb hr (fun t hh hW => ⟨_, rfl, hF.symm, hh⟩) (fun _ h => by cases h) d_M_one_14
def f_M_in_15_2 (dn : Int32) (fr : Int64) (to : Int64) (w : Int64) : Int64 := f_M_one fr to w (1 : Int32)
def k_M_in_15_2 (dn : Int32) (fr : Int64) (to : Int64) (w : Int64) : Prop := (k_M_one fr to w (1 : Int32)) ∧ True
def f_M_in_9_10 (dn : Int32) (fr : Int64) (to : Int64) (w : Int64) (r8 : Int64) : Int64 := r8
def k_M_in_9_10 (dn : Int32) (fr : Int64) (to : Int64) (w : Int64) (r8 : Int64) : Prop := True
def f_M_in_4_6 (dn : Int32) (fr : Int64) (to : Int64) (w : Int64) : Int64 := (f_M_in_9_10 dn fr to w (f_M_zero to fr w (1 : Int32)))
def k_M_in_4_6 (dn : Int32) (fr : Int64) (to : Int64) (w : Int64) : Prop := (k_M_zero to fr w (1 : Int32)) ∧ (k_M_in_9_10 dn fr to w (f_M_zero to fr w (1 : Int32)))
def f_M_in (dn : Int32) (fr : Int64) (to : Int64) (w : Int64) : Int64 := (if dn = 0 then f_M_in_15_2 dn fr to w else f_M_in_4_6 dn fr to w)
def k_M_in (dn : Int32) (fr : Int64) (to : Int64) (w : Int64) : Prop := (if dn = 0 then k_M_in_15_2 dn fr to w else k_M_in_4_6 dn fr to w)
set_option maxHeartbeats 4000000 in
set_option maxRecDepth 100000 in
theorem c_M_in (l : Launch) (dn : Int32) (fr : Int64) (to : Int64) (w : Int64) (hQ : k_M_in dn fr to w) : Met l y_M_in w_M_in ({ frames := 2, cells := 0, slots := 0, locals := 50 }) (va_Pc [.int dn, .long fr, .long to, .long w] (fun _ => True)) (vp_Sl (fun r => r = f_M_in dn fr to w)) 0 0 (fun _ => False) := by
  refine Met.ofW (cc := b_M_in) (maxL := 7) (ret := (some .long)) (by decide) rfl ?_
  intro p e s m args below meth c s₁ B hml hv
  obtain ⟨rfl, -⟩ := hv
  have hx := B.exec
  have hb := B.bytes
  have hr := B.returns
  have hts := atoms_spec (ws := w_M_in) B.pre
  have ht := fun (w : Cond) (h : w ∈ gA) => hts w (List.mem_cons_of_mem _ h)
  have hown : s.vm.findClass "RangedPoolModel" = some m.cls := findClass_of_methodNamed B.named
  have hlocks := B.notSynchronized
  have hl := lv_entry ([.int dn, .long fr, .long to, .long w]) (n := 7) (Nat.le_of_ble_eq_true rfl)
  rw [lg_entry_eq]
  generalize (lg_sl ([.int dn, .long fr, .long to, .long w]) ++ List.replicate (7 - (lg_sl ([.int dn, .long fr, .long to, .long w])).length) Slot.unset).toArray = ls at hl ⊢
  have hl : lv_has ls 7 [(0, .int dn), (1, .long fr), (3, .long to), (5, .long w)] := hl
  have hF : f_M_in dn fr to w = f_M_in dn fr to w := rfl
  refine lv_iload_n hx hb d_M_in_0 rfl (lv_at hl 0 rfl) ?_
  refine lv_if_eq (tgt := 15) hx hb d_M_in_1 (by decide) (fun c1 => ?_) (fun c1 => ?_)
  ·
    have c1 : dn = 0 := c1
    have hF : f_M_in dn fr to w = f_M_in_15_2 dn fr to w := hF.trans (if_pos c1)
    have hQ : k_M_in_15_2 dn fr to w := Eq.mp (if_pos c1) hQ
    refine lv_lload_n hx hb d_M_in_15 rfl (lv_at hl 1 rfl) ?_
    refine lv_lload_n hx hb d_M_in_16 rfl (lv_at hl 2 rfl) ?_
    refine lv_lload hx hb d_M_in_17 (lv_at hl 3 rfl) ?_
    refine lv_iconst (v := (1 : Int32)) hx hb d_M_in_19 (by decide) ?_
    obtain ⟨hs3, hQ⟩ := hQ
    refine g_cSlE (va_runS (As := [.long fr, .long to, .long w, .int (1 : Int32)]) (rest := []) ⟨hx, hb, hml, hown, ht⟩ (c_M_one l fr to w (1 : Int32) hs3) (va_cwS 4 ht gc_M_109 rfl rfl rfl (by decide +kernel) ⟨Nat.le_of_ble_eq_true rfl, Nat.le_of_ble_eq_true rfl⟩) (g_pr0 _) rfl rfl hl.1 rfl (lv_room (Nat.le_of_ble_eq_true rfl)) d_M_in_20 ⟨Nat.le_of_ble_eq_true rfl, Nat.le_of_ble_eq_true rfl⟩) ?_
    exact W.lret (v := f_M_one fr to w (1 : Int32)) hx hb hr (fun t hh hW => ⟨_, rfl, hF.symm, hh⟩) (fun _ h => by cases h) d_M_in_23
  ·
    have c1 : ¬ (dn = 0) := c1
    have hF : f_M_in dn fr to w = f_M_in_4_6 dn fr to w := hF.trans (if_neg c1)
    have hQ : k_M_in_4_6 dn fr to w := Eq.mp (if_neg c1) hQ
    refine lv_lload_n hx hb d_M_in_4 rfl (lv_at hl 2 rfl) ?_
    refine lv_lload_n hx hb d_M_in_5 rfl (lv_at hl 1 rfl) ?_
    refine lv_lload hx hb d_M_in_6 (lv_at hl 3 rfl) ?_
    refine lv_iconst (v := (1 : Int32)) hx hb d_M_in_8 (by decide) ?_
    obtain ⟨hs7, hQ⟩ := hQ
    refine g_cSl (va_runS (As := [.long to, .long fr, .long w, .int (1 : Int32)]) (rest := []) ⟨hx, hb, hml, hown, ht⟩ (c_M_zero l to fr w (1 : Int32) hs7) (va_cwS 4 ht gc_M_105 rfl rfl rfl (by decide +kernel) ⟨Nat.le_of_ble_eq_true rfl, Nat.le_of_ble_eq_true rfl⟩) (g_pr0 _) rfl rfl hl.1 rfl (lv_room (Nat.le_of_ble_eq_true rfl)) d_M_in_9 ⟨Nat.le_of_ble_eq_true rfl, Nat.le_of_ble_eq_true rfl⟩) (fun r8 e9 => ?_)
    have hF : f_M_in dn fr to w = f_M_in_9_10 dn fr to w r8 := hF.trans (by rw [e9]; try rfl)
    have hQ : k_M_in_9_10 dn fr to w r8 := by rw [e9]; exact hQ
    refine lv_goto (tgt := 23) hx hb d_M_in_12 (by decide) ?_
    exact W.lret (v := r8) hx hb hr (fun t hh hW => ⟨_, rfl, hF.symm, hh⟩) (fun _ h => by cases h) d_M_in_23
def f_M_goesOut_15_2 (dn : Int32) (fr : Int64) (to : Int64) (w : Int64) : Int64 := f_M_zero fr to w (0 : Int32)
def k_M_goesOut_15_2 (dn : Int32) (fr : Int64) (to : Int64) (w : Int64) : Prop := (k_M_zero fr to w (0 : Int32)) ∧ True
def f_M_goesOut_9_10 (dn : Int32) (fr : Int64) (to : Int64) (w : Int64) (r8 : Int64) : Int64 := r8
def k_M_goesOut_9_10 (dn : Int32) (fr : Int64) (to : Int64) (w : Int64) (r8 : Int64) : Prop := True
def f_M_goesOut_4_6 (dn : Int32) (fr : Int64) (to : Int64) (w : Int64) : Int64 := (f_M_goesOut_9_10 dn fr to w (f_M_one to fr w (0 : Int32)))
def k_M_goesOut_4_6 (dn : Int32) (fr : Int64) (to : Int64) (w : Int64) : Prop := (k_M_one to fr w (0 : Int32)) ∧ (k_M_goesOut_9_10 dn fr to w (f_M_one to fr w (0 : Int32)))
def f_M_goesOut (dn : Int32) (fr : Int64) (to : Int64) (w : Int64) : Int64 := (if dn = 0 then f_M_goesOut_15_2 dn fr to w else f_M_goesOut_4_6 dn fr to w)
def k_M_goesOut (dn : Int32) (fr : Int64) (to : Int64) (w : Int64) : Prop := (if dn = 0 then k_M_goesOut_15_2 dn fr to w else k_M_goesOut_4_6 dn fr to w)
set_option maxHeartbeats 4000000 in
set_option maxRecDepth 100000 in
theorem c_M_goesOut (l : Launch) (dn : Int32) (fr : Int64) (to : Int64) (w : Int64) (hQ : k_M_goesOut dn fr to w) : Met l y_M_goesOut w_M_goesOut ({ frames := 2, cells := 0, slots := 0, locals := 50 }) (va_Pc [.int dn, .long fr, .long to, .long w] (fun _ => True)) (vp_Sl (fun r => r = f_M_goesOut dn fr to w)) 0 0 (fun _ => False) := by
  refine Met.ofW (cc := b_M_goesOut) (maxL := 7) (ret := (some .long)) (by decide) rfl ?_
  intro p e s m args below meth c s₁ B hml hv
  obtain ⟨rfl, -⟩ := hv
  have hx := B.exec
  have hb := B.bytes
  have hr := B.returns
  have hts := atoms_spec (ws := w_M_goesOut) B.pre
  have ht := fun (w : Cond) (h : w ∈ gA) => hts w (List.mem_cons_of_mem _ h)
  have hown : s.vm.findClass "RangedPoolModel" = some m.cls := findClass_of_methodNamed B.named
  have hlocks := B.notSynchronized
  have hl := lv_entry ([.int dn, .long fr, .long to, .long w]) (n := 7) (Nat.le_of_ble_eq_true rfl)
  rw [lg_entry_eq]
  generalize (lg_sl ([.int dn, .long fr, .long to, .long w]) ++ List.replicate (7 - (lg_sl ([.int dn, .long fr, .long to, .long w])).length) Slot.unset).toArray = ls at hl ⊢
  have hl : lv_has ls 7 [(0, .int dn), (1, .long fr), (3, .long to), (5, .long w)] := hl
  have hF : f_M_goesOut dn fr to w = f_M_goesOut dn fr to w := rfl
  refine lv_iload_n hx hb d_M_goesOut_0 rfl (lv_at hl 0 rfl) ?_
  refine lv_if_eq (tgt := 15) hx hb d_M_goesOut_1 (by decide) (fun c1 => ?_) (fun c1 => ?_)
  ·
    have c1 : dn = 0 := c1
    have hF : f_M_goesOut dn fr to w = f_M_goesOut_15_2 dn fr to w := hF.trans (if_pos c1)
    have hQ : k_M_goesOut_15_2 dn fr to w := Eq.mp (if_pos c1) hQ
    refine lv_lload_n hx hb d_M_goesOut_15 rfl (lv_at hl 1 rfl) ?_
    refine lv_lload_n hx hb d_M_goesOut_16 rfl (lv_at hl 2 rfl) ?_
    refine lv_lload hx hb d_M_goesOut_17 (lv_at hl 3 rfl) ?_
    refine lv_iconst (v := (0 : Int32)) hx hb d_M_goesOut_19 (by decide) ?_
    obtain ⟨hs3, hQ⟩ := hQ
    refine g_cSlE (va_runS (As := [.long fr, .long to, .long w, .int (0 : Int32)]) (rest := []) ⟨hx, hb, hml, hown, ht⟩ (c_M_zero l fr to w (0 : Int32) hs3) (va_cwS 4 ht gc_M_105 rfl rfl rfl (by decide +kernel) ⟨Nat.le_of_ble_eq_true rfl, Nat.le_of_ble_eq_true rfl⟩) (g_pr0 _) rfl rfl hl.1 rfl (lv_room (Nat.le_of_ble_eq_true rfl)) d_M_goesOut_20 ⟨Nat.le_of_ble_eq_true rfl, Nat.le_of_ble_eq_true rfl⟩) ?_
    exact W.lret (v := f_M_zero fr to w (0 : Int32)) hx hb hr (fun t hh hW => ⟨_, rfl, hF.symm, hh⟩) (fun _ h => by cases h) d_M_goesOut_23
  ·
    have c1 : ¬ (dn = 0) := c1
    have hF : f_M_goesOut dn fr to w = f_M_goesOut_4_6 dn fr to w := hF.trans (if_neg c1)
    have hQ : k_M_goesOut_4_6 dn fr to w := Eq.mp (if_neg c1) hQ
    refine lv_lload_n hx hb d_M_goesOut_4 rfl (lv_at hl 2 rfl) ?_
    refine lv_lload_n hx hb d_M_goesOut_5 rfl (lv_at hl 1 rfl) ?_
    refine lv_lload hx hb d_M_goesOut_6 (lv_at hl 3 rfl) ?_
    refine lv_iconst (v := (0 : Int32)) hx hb d_M_goesOut_8 (by decide) ?_
    obtain ⟨hs7, hQ⟩ := hQ
    refine g_cSl (va_runS (As := [.long to, .long fr, .long w, .int (0 : Int32)]) (rest := []) ⟨hx, hb, hml, hown, ht⟩ (c_M_one l to fr w (0 : Int32) hs7) (va_cwS 4 ht gc_M_109 rfl rfl rfl (by decide +kernel) ⟨Nat.le_of_ble_eq_true rfl, Nat.le_of_ble_eq_true rfl⟩) (g_pr0 _) rfl rfl hl.1 rfl (lv_room (Nat.le_of_ble_eq_true rfl)) d_M_goesOut_9 ⟨Nat.le_of_ble_eq_true rfl, Nat.le_of_ble_eq_true rfl⟩) (fun r8 e9 => ?_)
    have hF : f_M_goesOut dn fr to w = f_M_goesOut_9_10 dn fr to w r8 := hF.trans (by rw [e9]; try rfl)
    have hQ : k_M_goesOut_9_10 dn fr to w r8 := by rw [e9]; exact hQ
    refine lv_goto (tgt := 23) hx hb d_M_goesOut_12 (by decide) ?_
    exact W.lret (v := r8) hx hb hr (fun t hh hW => ⟨_, rfl, hF.symm, hh⟩) (fun _ h => by cases h) d_M_goesOut_23
