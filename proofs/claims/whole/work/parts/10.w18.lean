def f_M_burn_48_9 (σ : g_S) (o : Int32) (lo : Int32) (hi : Int32) (q : Int32) (r3 : Int32) : Int64 × g_S := ((-2 : Int64), σ)
def k_M_burn_48_9 (σ : g_S) (o : Int32) (lo : Int32) (hi : Int32) (q : Int32) (r3 : Int32) : Prop := True
def f_M_burn_132_42 (σ : g_S) (o : Int32) (lo : Int32) (hi : Int32) (q : Int32) (r3 : Int32) (τ17 : g_S) (τ22 : g_S) (r27 : Int64) (r31 : Int64) (τ41 : g_S) : Int64 × g_S := ((r27 * (4294967296 : Int64)) + r31, τ41)
def k_M_burn_132_42 (σ : g_S) (o : Int32) (lo : Int32) (hi : Int32) (q : Int32) (r3 : Int32) (τ17 : g_S) (τ22 : g_S) (r27 : Int64) (r31 : Int64) (τ41 : g_S) : Prop := True
def f_M_burn_94_33 (σ : g_S) (o : Int32) (lo : Int32) (hi : Int32) (q : Int32) (r3 : Int32) (τ17 : g_S) (τ22 : g_S) (r27 : Int64) (r31 : Int64) : Int64 × g_S := (f_M_burn_132_42 σ o lo hi q r3 τ17 τ22 r27 r31 (f_M_sweep (g_L (g_L (g_L τ22 8 r3.toNatClampNeg ((τ22.2 8 r3.toNatClampNeg) - q.toInt64)) 9 (((2 : Int32) * r3).toNatClampNeg) ((τ22.2 9 (((2 : Int32) * r3).toNatClampNeg)) + r27)) 9 ((((2 : Int32) * r3) + (1 : Int32)).toNatClampNeg) (((g_L (g_L τ22 8 r3.toNatClampNeg ((τ22.2 8 r3.toNatClampNeg) - q.toInt64)) 9 (((2 : Int32) * r3).toNatClampNeg) ((τ22.2 9 (((2 : Int32) * r3).toNatClampNeg)) + r27)).2 9 ((((2 : Int32) * r3) + (1 : Int32)).toNatClampNeg)) + r31)) r3))
def k_M_burn_94_33 (σ : g_S) (o : Int32) (lo : Int32) (hi : Int32) (q : Int32) (r3 : Int32) (τ17 : g_S) (τ22 : g_S) (r27 : Int64) (r31 : Int64) : Prop := (vp_in ((2 : Int32) * r3) 20) ∧ (vp_in ((2 : Int32) * r3) 20) ∧ (vp_in (((2 : Int32) * r3) + (1 : Int32)) 20) ∧ (vp_in (((2 : Int32) * r3) + (1 : Int32)) 20) ∧ (k_M_sweep (g_L (g_L (g_L τ22 8 r3.toNatClampNeg ((τ22.2 8 r3.toNatClampNeg) - q.toInt64)) 9 (((2 : Int32) * r3).toNatClampNeg) ((τ22.2 9 (((2 : Int32) * r3).toNatClampNeg)) + r27)) 9 ((((2 : Int32) * r3) + (1 : Int32)).toNatClampNeg) (((g_L (g_L τ22 8 r3.toNatClampNeg ((τ22.2 8 r3.toNatClampNeg) - q.toInt64)) 9 (((2 : Int32) * r3).toNatClampNeg) ((τ22.2 9 (((2 : Int32) * r3).toNatClampNeg)) + r27)).2 9 ((((2 : Int32) * r3) + (1 : Int32)).toNatClampNeg)) + r31)) r3) ∧ (k_M_burn_132_42 σ o lo hi q r3 τ17 τ22 r27 r31 (f_M_sweep (g_L (g_L (g_L τ22 8 r3.toNatClampNeg ((τ22.2 8 r3.toNatClampNeg) - q.toInt64)) 9 (((2 : Int32) * r3).toNatClampNeg) ((τ22.2 9 (((2 : Int32) * r3).toNatClampNeg)) + r27)) 9 ((((2 : Int32) * r3) + (1 : Int32)).toNatClampNeg) (((g_L (g_L τ22 8 r3.toNatClampNeg ((τ22.2 8 r3.toNatClampNeg) - q.toInt64)) 9 (((2 : Int32) * r3).toNatClampNeg) ((τ22.2 9 (((2 : Int32) * r3).toNatClampNeg)) + r27)).2 9 ((((2 : Int32) * r3) + (1 : Int32)).toNatClampNeg)) + r31)) r3))
def f_M_burn_82_29 (σ : g_S) (o : Int32) (lo : Int32) (hi : Int32) (q : Int32) (r3 : Int32) (τ17 : g_S) (τ22 : g_S) (r27 : Int64) : Int64 × g_S := (f_M_burn_94_33 σ o lo hi q r3 τ17 τ22 r27 (f_M_worthOne (g_L τ22 8 r3.toNatClampNeg ((τ22.2 8 r3.toNatClampNeg) - q.toInt64)) lo hi q.toInt64 (0 : Int32)))
def k_M_burn_82_29 (σ : g_S) (o : Int32) (lo : Int32) (hi : Int32) (q : Int32) (r3 : Int32) (τ17 : g_S) (τ22 : g_S) (r27 : Int64) : Prop := (k_M_worthOne (g_L τ22 8 r3.toNatClampNeg ((τ22.2 8 r3.toNatClampNeg) - q.toInt64)) lo hi q.toInt64 (0 : Int32)) ∧ (k_M_burn_94_33 σ o lo hi q r3 τ17 τ22 r27 (f_M_worthOne (g_L τ22 8 r3.toNatClampNeg ((τ22.2 8 r3.toNatClampNeg) - q.toInt64)) lo hi q.toInt64 (0 : Int32)))
def f_M_burn_59_23 (σ : g_S) (o : Int32) (lo : Int32) (hi : Int32) (q : Int32) (r3 : Int32) (τ17 : g_S) (τ22 : g_S) : Int64 × g_S := (f_M_burn_82_29 σ o lo hi q r3 τ17 τ22 (f_M_worthZero (g_L τ22 8 r3.toNatClampNeg ((τ22.2 8 r3.toNatClampNeg) - q.toInt64)) lo hi q.toInt64 (0 : Int32)))
def k_M_burn_59_23 (σ : g_S) (o : Int32) (lo : Int32) (hi : Int32) (q : Int32) (r3 : Int32) (τ17 : g_S) (τ22 : g_S) : Prop := (vp_in r3 10) ∧ (vp_in r3 10) ∧ (k_M_worthZero (g_L τ22 8 r3.toNatClampNeg ((τ22.2 8 r3.toNatClampNeg) - q.toInt64)) lo hi q.toInt64 (0 : Int32)) ∧ (k_M_burn_82_29 σ o lo hi q r3 τ17 τ22 (f_M_worthZero (g_L τ22 8 r3.toNatClampNeg ((τ22.2 8 r3.toNatClampNeg) - q.toInt64)) lo hi q.toInt64 (0 : Int32)))
def f_M_burn_53_18 (σ : g_S) (o : Int32) (lo : Int32) (hi : Int32) (q : Int32) (r3 : Int32) (τ17 : g_S) : Int64 × g_S := (f_M_burn_59_23 σ o lo hi q r3 τ17 (f_M_settle τ17 r3))
def k_M_burn_53_18 (σ : g_S) (o : Int32) (lo : Int32) (hi : Int32) (q : Int32) (r3 : Int32) (τ17 : g_S) : Prop := (k_M_settle τ17 r3) ∧ (k_M_burn_59_23 σ o lo hi q r3 τ17 (f_M_settle τ17 r3))
def f_M_burn_52_13 (σ : g_S) (o : Int32) (lo : Int32) (hi : Int32) (q : Int32) (r3 : Int32) : Int64 × g_S := (f_M_burn_53_18 σ o lo hi q r3 (f_M_note σ))
def k_M_burn_52_13 (σ : g_S) (o : Int32) (lo : Int32) (hi : Int32) (q : Int32) (r3 : Int32) : Prop := (k_M_note σ) ∧ (k_M_burn_53_18 σ o lo hi q r3 (f_M_note σ))
def f_M_burn_48_43 (σ : g_S) (o : Int32) (lo : Int32) (hi : Int32) (q : Int32) (r3 : Int32) : Int64 × g_S := ((-2 : Int64), σ)
def k_M_burn_48_43 (σ : g_S) (o : Int32) (lo : Int32) (hi : Int32) (q : Int32) (r3 : Int32) : Prop := True
def f_M_burn_34_10 (σ : g_S) (o : Int32) (lo : Int32) (hi : Int32) (q : Int32) (r3 : Int32) : Int64 × g_S := (if q.toInt64 ≤ (σ.2 8 r3.toNatClampNeg) then f_M_burn_52_13 σ o lo hi q r3 else f_M_burn_48_43 σ o lo hi q r3)
def k_M_burn_34_10 (σ : g_S) (o : Int32) (lo : Int32) (hi : Int32) (q : Int32) (r3 : Int32) : Prop := (vp_in r3 10) ∧ (if q.toInt64 ≤ (σ.2 8 r3.toNatClampNeg) then k_M_burn_52_13 σ o lo hi q r3 else k_M_burn_48_43 σ o lo hi q r3)
def f_M_burn_29_7 (σ : g_S) (o : Int32) (lo : Int32) (hi : Int32) (q : Int32) (r3 : Int32) : Int64 × g_S := (if q < 0 then f_M_burn_48_9 σ o lo hi q r3 else f_M_burn_34_10 σ o lo hi q r3)
def k_M_burn_29_7 (σ : g_S) (o : Int32) (lo : Int32) (hi : Int32) (q : Int32) (r3 : Int32) : Prop := (if q < 0 then k_M_burn_48_9 σ o lo hi q r3 else k_M_burn_34_10 σ o lo hi q r3)
def f_M_burn_25_44 (σ : g_S) (o : Int32) (lo : Int32) (hi : Int32) (q : Int32) (r3 : Int32) : Int64 × g_S := ((-3 : Int64), σ)
def k_M_burn_25_44 (σ : g_S) (o : Int32) (lo : Int32) (hi : Int32) (q : Int32) (r3 : Int32) : Prop := True
def f_M_burn_15_5 (σ : g_S) (o : Int32) (lo : Int32) (hi : Int32) (q : Int32) (r3 : Int32) : Int64 × g_S := (if 0 ≤ r3 then f_M_burn_29_7 σ o lo hi q r3 else f_M_burn_25_44 σ o lo hi q r3)
def k_M_burn_15_5 (σ : g_S) (o : Int32) (lo : Int32) (hi : Int32) (q : Int32) (r3 : Int32) : Prop := (if 0 ≤ r3 then k_M_burn_29_7 σ o lo hi q r3 else k_M_burn_25_44 σ o lo hi q r3)
def f_M_burn_11_2 (σ : g_S) (o : Int32) (lo : Int32) (hi : Int32) (q : Int32) : Int64 × g_S := (f_M_burn_15_5 σ o lo hi q (f_M_find σ o lo hi))
def k_M_burn_11_2 (σ : g_S) (o : Int32) (lo : Int32) (hi : Int32) (q : Int32) : Prop := (k_M_burn_15_5 σ o lo hi q (f_M_find σ o lo hi))
def f_M_burn_7_45 (σ : g_S) (o : Int32) (lo : Int32) (hi : Int32) (q : Int32) : Int64 × g_S := ((-1 : Int64), σ)
def k_M_burn_7_45 (σ : g_S) (o : Int32) (lo : Int32) (hi : Int32) (q : Int32) : Prop := True
def f_M_burn (σ : g_S) (o : Int32) (lo : Int32) (hi : Int32) (q : Int32) : Int64 × g_S := (if (σ.1 0 3) = 0 then f_M_burn_7_45 σ o lo hi q else f_M_burn_11_2 σ o lo hi q)
def k_M_burn (σ : g_S) (o : Int32) (lo : Int32) (hi : Int32) (q : Int32) : Prop := (if (σ.1 0 3) = 0 then k_M_burn_7_45 σ o lo hi q else k_M_burn_11_2 σ o lo hi q)
set_option maxHeartbeats 4000000 in
set_option maxRecDepth 100000 in
theorem c_M_burn (l : Launch) (dC : Nat → ClassId) (dI : Nat → Nat → Nat) (dA : Nat → ClassId) (ad : Nat → Nat) (sz : Nat) (σ : g_S) (o : Int32) (lo : Int32) (hi : Int32) (q : Int32) (hQ : k_M_burn σ o lo hi q) : Met l y_M_burn w_M_burn ({ frames := 3, cells := 0, slots := 0, locals := 75 }) (va_Pc [.ref (ad 0), .int o, .int lo, .int hi, .int q] (g_W (dC, dI) cls (r_tys dA) (g_w r_sh dA ad σ) sz r_Z)) (va_Ql (fun r τ => (r, τ) = f_M_burn σ o lo hi q) (fun τ t => va_P (dC, dI) cls (g_w r_sh dA ad τ) t.heap) (va_A (g_w r_sh dA ad σ) sz)) 0 0 (va_A (g_w r_sh dA ad σ) sz) := by
  refine Met.ofW (cc := b_M_burn) (maxL := 10) (ret := (some .long)) (by decide) rfl ?_
  intro p e s m args below meth c s₁ B hml hv
  obtain ⟨rfl, hsz, hP, hK, hD0, hz⟩ := hv
  have hx := B.exec
  have hb := B.bytes
  have hr := B.returns
  have hts := atoms_spec (ws := w_M_burn) B.pre
  have ht := fun (w : Cond) (h : w ∈ gA) => hts w (List.mem_cons_of_mem _ h)
  have hown : s.vm.findClass "RangedPoolModel" = some m.cls := findClass_of_methodNamed B.named
  have hlocks := B.notSynchronized
  subst hsz
  have hD := hD0.self (sz := s.heap.size)
  have hA : ∀ q : Nat, s.heap.size ≤ q → va_A (g_w r_sh dA ad σ) s.heap.size q := fun q h => Or.inr h
  generalize hAe : va_A (g_w r_sh dA ad σ) s.heap.size = A at hD hA hz ⊢
  have hS : va_S A s.heap s.heap [] := va_S.rf
  have hl := lv_entry ([.ref (ad 0), .int o, .int lo, .int hi, .int q]) (n := 10) (Nat.le_of_ble_eq_true rfl)
  rw [lg_entry_eq]
  generalize (lg_sl ([.ref (ad 0), .int o, .int lo, .int hi, .int q]) ++ List.replicate (10 - (lg_sl ([.ref (ad 0), .int o, .int lo, .int hi, .int q])).length) Slot.unset).toArray = ls at hl ⊢
  have hl : lv_has ls 10 [(0, .ref (ad 0)), (1, .int o), (2, .int lo), (3, .int hi), (4, .int q)] := hl
  have hF : f_M_burn σ o lo hi q = f_M_burn σ o lo hi q := rfl
  refine lv_aload_n hx hb d_M_burn_0 rfl (lv_at hl 0 rfl) ?_
  refine g_get hx hb ht in_M hown hK hP (0) r_at0 rfl 3 (by decide) rfl (ht _ kw464) (fun _ h9 => h9) (v := .int (σ.1 0 3)) rfl d_M_burn_1 ?_
  refine lv_if_ne (tgt := 11) hx hb d_M_burn_4 (by decide) (fun c1 => ?_) (fun c1 => ?_)
  ·
    have c1 : ¬ ((σ.1 0 3) = 0) := c1
    have hF : f_M_burn σ o lo hi q = f_M_burn_11_2 σ o lo hi q := hF.trans (if_neg c1)
    have hQ : k_M_burn_11_2 σ o lo hi q := Eq.mp (if_neg c1) hQ
    refine lv_aload_n hx hb d_M_burn_11 rfl (lv_at hl 0 rfl) ?_
    refine lv_iload_n hx hb d_M_burn_12 rfl (lv_at hl 1 rfl) ?_
    refine lv_iload_n hx hb d_M_burn_13 rfl (lv_at hl 2 rfl) ?_
    refine lv_iload_n hx hb d_M_burn_14 rfl (lv_at hl 3 rfl) ?_
    refine g_cSi (va_runV (As := [.int o, .int lo, .int hi]) (rest := []) ⟨hx, hb, hml, hown, ht⟩ (c_M_find l dC dI dA ad σ o lo hi) (cwV 3 ht gc_M_121 rfl rfl rfl (by decide +kernel) ⟨Nat.le_of_ble_eq_true rfl, Nat.le_of_ble_eq_true rfl⟩) (g_pV (g_prR r_Zok hK hP hS hz _) (g_rc hK hP (0) r_at0 rfl)) rfl rfl hl.1 rfl (lv_room (Nat.le_of_ble_eq_true rfl)) d_M_burn_15 ⟨Nat.le_of_ble_eq_true rfl, Nat.le_of_ble_eq_true rfl⟩) (fun r3 e4 => ?_)
    have hF : f_M_burn σ o lo hi q = f_M_burn_15_5 σ o lo hi q r3 := hF.trans (by rw [e4]; try rfl)
    have hQ : k_M_burn_15_5 σ o lo hi q r3 := by rw [e4]; exact hQ
    refine lv_istore (lv' := [(5, .int r3), (0, .ref (ad 0)), (1, .int o), (2, .int lo), (3, .int hi), (4, .int q)]) hx hb d_M_burn_18 hl (by decide) rfl (fun ls hl => ?_)
    refine lv_iload hx hb d_M_burn_20 (lv_at hl 0 rfl) ?_
    refine lv_if_ge (tgt := 29) hx hb d_M_burn_22 (by decide) (fun c6 => ?_) (fun c6 => ?_)
    ·
      have c6 : 0 ≤ r3 := c6
      have hF : f_M_burn σ o lo hi q = f_M_burn_29_7 σ o lo hi q r3 := hF.trans (if_pos c6)
      have hQ : k_M_burn_29_7 σ o lo hi q r3 := Eq.mp (if_pos c6) hQ
      refine lv_iload hx hb d_M_burn_29 (lv_at hl 5 rfl) ?_
      refine lv_if_lt (tgt := 48) hx hb d_M_burn_31 (by decide) (fun c8 => ?_) (fun c8 => ?_)
      ·
        have c8 : q < 0 := c8
        have hF : f_M_burn σ o lo hi q = f_M_burn_48_9 σ o lo hi q r3 := hF.trans (if_pos c8)
        have hQ : k_M_burn_48_9 σ o lo hi q r3 := Eq.mp (if_pos c8) hQ
        refine lv_ldc2 (v := (-2 : Int64)) hx hb hown (ht _ kw574) d_M_burn_48 ?_
        exact W.lret (v := (-2 : Int64)) hx hb hr (fun t hh hW => ⟨⟨(-2 : Int64), σ, rfl, hF.symm, by show va_P (dC, dI) cls (g_w r_sh dA ad σ) t.heap; rw [hh]; exact hP⟩, hS.F hh⟩) hS.2.2 d_M_burn_51
      ·
        have c8 : ¬ (q < 0) := c8
        have hF : f_M_burn σ o lo hi q = f_M_burn_34_10 σ o lo hi q r3 := hF.trans (if_neg c8)
        have hQ : k_M_burn_34_10 σ o lo hi q r3 := Eq.mp (if_neg c8) hQ
        refine lv_iload hx hb d_M_burn_34 (lv_at hl 5 rfl) ?_
        refine lv_i2l (v := q.toInt64) hx hb d_M_burn_36 rfl ?_
        refine lv_aload_n hx hb d_M_burn_37 rfl (lv_at hl 1 rfl) ?_
        refine g_get hx hb ht in_M hown hK hP (0) r_at0 rfl 12 (by decide) rfl (ht _ kw473) (fun _ h9 => h9) (v := .ref (ad 8)) rfl d_M_burn_38 ?_
        refine lv_iload hx hb d_M_burn_41 (lv_at hl 0 rfl) ?_
        obtain ⟨hs11, hQ⟩ := hQ
        refine g_lald hx hb hK hP (8) r_at8 rfl (hs11) (j := r3.toNatClampNeg) (rfl) d_M_burn_43 ?_
        refine W.lcmp hx hb d_M_burn_44 ?_
        refine lv_if_le (tgt := 52) hx hb d_M_burn_45 (by decide) (fun c12 => ?_) (fun c12 => ?_)
        ·
          have c12 : q.toInt64 ≤ (σ.2 8 r3.toNatClampNeg) := (lg_cmp_le _ _).mp c12
          have hF : f_M_burn σ o lo hi q = f_M_burn_52_13 σ o lo hi q r3 := hF.trans (if_pos c12)
          have hQ : k_M_burn_52_13 σ o lo hi q r3 := Eq.mp (if_pos c12) hQ
          refine lv_aload_n hx hb d_M_burn_52 rfl (lv_at hl 1 rfl) ?_
          obtain ⟨hs14, hQ⟩ := hQ
          refine g_cWv (va_runV (As := []) (rest := []) ⟨hx, hb, hml, hown, ht⟩ (c_M_note l dC dI dA ad s.heap.size σ hs14) (cwV 0 ht gc_M_96 rfl rfl rfl (by decide +kernel) ⟨Nat.le_of_ble_eq_true rfl, Nat.le_of_ble_eq_true rfl⟩) (g_pV (g_prW r_Zok hK hP hD hS hA hz _) (g_rc hK hP (0) r_at0 rfl)) rfl rfl hl.1 rfl (lv_room (Nat.le_of_ble_eq_true rfl)) d_M_burn_53 ⟨Nat.le_of_ble_eq_true rfl, Nat.le_of_ble_eq_true rfl⟩) hD hS hA (fun τ17 H locs e16 hP hD hS => ?_)
          have hF : f_M_burn σ o lo hi q = f_M_burn_53_18 σ o lo hi q r3 τ17 := hF.trans (by rw [e16]; try rfl)
          have hQ : k_M_burn_53_18 σ o lo hi q r3 τ17 := by rw [e16]; exact hQ
          refine lv_aload_n hx hb d_M_burn_56 rfl (lv_at hl 1 rfl) ?_
          refine lv_iload hx hb d_M_burn_57 (lv_at hl 0 rfl) ?_
          obtain ⟨hs19, hQ⟩ := hQ
          refine g_cWv (va_runV (As := [.int r3]) (rest := []) ⟨hx, hb, hml, hown, ht⟩ (c_M_settle l dC dI dA ad H.size τ17 r3 hs19) (cwV 1 ht gc_M_138 rfl rfl rfl (by decide +kernel) ⟨Nat.le_of_ble_eq_true rfl, Nat.le_of_ble_eq_true rfl⟩) (g_pV (g_prW r_Zok hK hP hD hS hA hz _) (g_rc hK hP (0) r_at0 rfl)) rfl rfl hl.1 rfl (lv_room (Nat.le_of_ble_eq_true rfl)) d_M_burn_59 ⟨Nat.le_of_ble_eq_true rfl, Nat.le_of_ble_eq_true rfl⟩) hD hS hA (fun τ22 H locs e21 hP hD hS => ?_)
          have hF : f_M_burn σ o lo hi q = f_M_burn_59_23 σ o lo hi q r3 τ17 τ22 := hF.trans (by rw [e21]; try rfl)
          have hQ : k_M_burn_59_23 σ o lo hi q r3 τ17 τ22 := by rw [e21]; exact hQ
          refine lv_aload_n hx hb d_M_burn_62 rfl (lv_at hl 1 rfl) ?_
          refine g_get hx hb ht in_M hown hK hP (0) r_at0 rfl 12 (by decide) rfl (ht _ kw473) (fun _ h9 => h9) (v := .ref (ad 8)) rfl d_M_burn_63 ?_
          refine lv_iload hx hb d_M_burn_66 (lv_at hl 0 rfl) ?_
          refine lv_dup2_11 hx hb d_M_burn_68 rfl rfl ?_
          obtain ⟨hs24, hQ⟩ := hQ
          refine g_lald hx hb hK hP (8) r_at8 rfl (hs24) (j := r3.toNatClampNeg) (rfl) d_M_burn_69 ?_
          refine lv_iload hx hb d_M_burn_70 (lv_at hl 5 rfl) ?_
          refine lv_i2l (v := q.toInt64) hx hb d_M_burn_72 rfl ?_
          refine lv_lsub hx hb d_M_burn_73 ?_
          obtain ⟨hs25, hQ⟩ := hQ
          refine g_last (x := (τ22.2 8 r3.toNatClampNeg) - q.toInt64) hx hb hK hP hD hS (8) r_at8 rfl (hs25) (j := r3.toNatClampNeg) (rfl) d_M_burn_74 (fun H locs hP hD hS => ?_)
          refine lv_aload_n hx hb d_M_burn_75 rfl (lv_at hl 1 rfl) ?_
          refine lv_iload_n hx hb d_M_burn_76 rfl (lv_at hl 3 rfl) ?_
          refine lv_iload_n hx hb d_M_burn_77 rfl (lv_at hl 4 rfl) ?_
          refine lv_iload hx hb d_M_burn_78 (lv_at hl 5 rfl) ?_
          refine lv_i2l (v := q.toInt64) hx hb d_M_burn_80 rfl ?_
          refine lv_iconst (v := (0 : Int32)) hx hb d_M_burn_81 (by decide) ?_
          obtain ⟨hs26, hQ⟩ := hQ
          refine g_cSl (va_runV (As := [.int lo, .int hi, .long q.toInt64, .int (0 : Int32)]) (rest := []) ⟨hx, hb, hml, hown, ht⟩ (c_M_worthZero l dC dI dA ad (g_L τ22 8 r3.toNatClampNeg ((τ22.2 8 r3.toNatClampNeg) - q.toInt64)) lo hi q.toInt64 (0 : Int32) hs26) (cwV 4 ht gc_M_129 rfl rfl rfl (by decide +kernel) ⟨Nat.le_of_ble_eq_true rfl, Nat.le_of_ble_eq_true rfl⟩) (g_pV (g_prR r_Zok hK hP hS hz _) (g_rc hK hP (0) r_at0 rfl)) rfl rfl hl.1 rfl (lv_room (Nat.le_of_ble_eq_true rfl)) d_M_burn_82 ⟨Nat.le_of_ble_eq_true rfl, Nat.le_of_ble_eq_true rfl⟩) (fun r27 e28 => ?_)
          have hF : f_M_burn σ o lo hi q = f_M_burn_82_29 σ o lo hi q r3 τ17 τ22 r27 := hF.trans (by rw [e28]; try rfl)
          have hQ : k_M_burn_82_29 σ o lo hi q r3 τ17 τ22 r27 := by rw [e28]; exact hQ
          refine lv_lstore (lv' := [(6, .long r27), (5, .int r3), (0, .ref (ad 0)), (1, .int o), (2, .int lo), (3, .int hi), (4, .int q)]) hx hb d_M_burn_85 hl (by decide) rfl (fun ls hl => ?_)
          refine lv_aload_n hx hb d_M_burn_87 rfl (lv_at hl 2 rfl) ?_
          refine lv_iload_n hx hb d_M_burn_88 rfl (lv_at hl 4 rfl) ?_
          refine lv_iload_n hx hb d_M_burn_89 rfl (lv_at hl 5 rfl) ?_
          refine lv_iload hx hb d_M_burn_90 (lv_at hl 6 rfl) ?_
          refine lv_i2l (v := q.toInt64) hx hb d_M_burn_92 rfl ?_
          refine lv_iconst (v := (0 : Int32)) hx hb d_M_burn_93 (by decide) ?_
          obtain ⟨hs30, hQ⟩ := hQ
          refine g_cSl (va_runV (As := [.int lo, .int hi, .long q.toInt64, .int (0 : Int32)]) (rest := []) ⟨hx, hb, hml, hown, ht⟩ (c_M_worthOne l dC dI dA ad (g_L τ22 8 r3.toNatClampNeg ((τ22.2 8 r3.toNatClampNeg) - q.toInt64)) lo hi q.toInt64 (0 : Int32) hs30) (cwV 4 ht gc_M_133 rfl rfl rfl (by decide +kernel) ⟨Nat.le_of_ble_eq_true rfl, Nat.le_of_ble_eq_true rfl⟩) (g_pV (g_prR r_Zok hK hP hS hz _) (g_rc hK hP (0) r_at0 rfl)) rfl rfl hl.1 rfl (lv_room (Nat.le_of_ble_eq_true rfl)) d_M_burn_94 ⟨Nat.le_of_ble_eq_true rfl, Nat.le_of_ble_eq_true rfl⟩) (fun r31 e32 => ?_)
          have hF : f_M_burn σ o lo hi q = f_M_burn_94_33 σ o lo hi q r3 τ17 τ22 r27 r31 := hF.trans (by rw [e32]; try rfl)
          have hQ : k_M_burn_94_33 σ o lo hi q r3 τ17 τ22 r27 r31 := by rw [e32]; exact hQ
          refine lv_lstore (lv' := [(8, .long r31), (6, .long r27), (5, .int r3), (0, .ref (ad 0)), (1, .int o), (2, .int lo), (3, .int hi), (4, .int q)]) hx hb d_M_burn_97 hl (by decide) rfl (fun ls hl => ?_)
          refine lv_aload_n hx hb d_M_burn_99 rfl (lv_at hl 3 rfl) ?_
          refine g_get hx hb ht in_M hown hK hP (0) r_at0 rfl 13 (by decide) rfl (ht _ kw474) (fun _ h9 => h9) (v := .ref (ad 9)) rfl d_M_burn_100 ?_
          refine lv_iconst (v := (2 : Int32)) hx hb d_M_burn_103 (by decide) ?_
          refine lv_iload hx hb d_M_burn_104 (lv_at hl 2 rfl) ?_
          refine lv_imul hx hb d_M_burn_106 ?_
          refine lv_dup2_11 hx hb d_M_burn_107 rfl rfl ?_
          obtain ⟨hs34, hQ⟩ := hQ
          refine g_lald hx hb hK hP (9) r_at9 rfl (hs34) (j := ((2 : Int32) * r3).toNatClampNeg) (rfl) d_M_burn_108 ?_
          show W _ _ _ _ _ _ _ _ _ _ _ _ _ _ _ (F0 _ _ _ (.long (τ22.2 9 (((2 : Int32) * r3).toNatClampNeg)) :: _))
          refine lv_lload hx hb d_M_burn_109 (lv_at hl 1 rfl) ?_
          refine lv_ladd hx hb d_M_burn_111 ?_
          obtain ⟨hs35, hQ⟩ := hQ
          refine g_last (x := (τ22.2 9 (((2 : Int32) * r3).toNatClampNeg)) + r27) hx hb hK hP hD hS (9) r_at9 rfl (hs35) (j := ((2 : Int32) * r3).toNatClampNeg) (rfl) d_M_burn_112 (fun H locs hP hD hS => ?_)
          refine lv_aload_n hx hb d_M_burn_113 rfl (lv_at hl 3 rfl) ?_
          refine g_get hx hb ht in_M hown hK hP (0) r_at0 rfl 13 (by decide) rfl (ht _ kw474) (fun _ h9 => h9) (v := .ref (ad 9)) rfl d_M_burn_114 ?_
          refine lv_iconst (v := (2 : Int32)) hx hb d_M_burn_117 (by decide) ?_
          refine lv_iload hx hb d_M_burn_118 (lv_at hl 2 rfl) ?_
          refine lv_imul hx hb d_M_burn_120 ?_
          refine lv_iconst (v := (1 : Int32)) hx hb d_M_burn_121 (by decide) ?_
          refine lv_iadd hx hb d_M_burn_122 ?_
          refine lv_dup2_11 hx hb d_M_burn_123 rfl rfl ?_
          obtain ⟨hs36, hQ⟩ := hQ
          refine g_lald hx hb hK hP (9) r_at9 rfl (hs36) (j := (((2 : Int32) * r3) + (1 : Int32)).toNatClampNeg) (rfl) d_M_burn_124 ?_
          refine lv_lload hx hb d_M_burn_125 (lv_at hl 0 rfl) ?_
          refine lv_ladd hx hb d_M_burn_127 ?_
          obtain ⟨hs37, hQ⟩ := hQ
          refine g_last (x := ((g_L (g_L τ22 8 r3.toNatClampNeg ((τ22.2 8 r3.toNatClampNeg) - q.toInt64)) 9 (((2 : Int32) * r3).toNatClampNeg) ((τ22.2 9 (((2 : Int32) * r3).toNatClampNeg)) + r27)).2 9 ((((2 : Int32) * r3) + (1 : Int32)).toNatClampNeg)) + r31) hx hb hK hP hD hS (9) r_at9 rfl (hs37) (j := (((2 : Int32) * r3) + (1 : Int32)).toNatClampNeg) (rfl) d_M_burn_128 (fun H locs hP hD hS => ?_)
          refine lv_aload_n hx hb d_M_burn_129 rfl (lv_at hl 3 rfl) ?_
          refine lv_iload hx hb d_M_burn_130 (lv_at hl 2 rfl) ?_
          obtain ⟨hs38, hQ⟩ := hQ
          refine g_cWv (va_runV (As := [.int r3]) (rest := []) ⟨hx, hb, hml, hown, ht⟩ (c_M_sweep l dC dI dA ad H.size (g_L (g_L (g_L τ22 8 r3.toNatClampNeg ((τ22.2 8 r3.toNatClampNeg) - q.toInt64)) 9 (((2 : Int32) * r3).toNatClampNeg) ((τ22.2 9 (((2 : Int32) * r3).toNatClampNeg)) + r27)) 9 ((((2 : Int32) * r3) + (1 : Int32)).toNatClampNeg) (((g_L (g_L τ22 8 r3.toNatClampNeg ((τ22.2 8 r3.toNatClampNeg) - q.toInt64)) 9 (((2 : Int32) * r3).toNatClampNeg) ((τ22.2 9 (((2 : Int32) * r3).toNatClampNeg)) + r27)).2 9 ((((2 : Int32) * r3) + (1 : Int32)).toNatClampNeg)) + r31)) r3 hs38) (cwV 1 ht gc_M_148 rfl rfl rfl (by decide +kernel) ⟨Nat.le_of_ble_eq_true rfl, Nat.le_of_ble_eq_true rfl⟩) (g_pV (g_prW r_Zok hK hP hD hS hA hz _) (g_rc hK hP (0) r_at0 rfl)) rfl rfl hl.1 rfl (lv_room (Nat.le_of_ble_eq_true rfl)) d_M_burn_132 ⟨Nat.le_of_ble_eq_true rfl, Nat.le_of_ble_eq_true rfl⟩) hD hS hA (fun τ41 H locs e40 hP hD hS => ?_)
          have hF : f_M_burn σ o lo hi q = f_M_burn_132_42 σ o lo hi q r3 τ17 τ22 r27 r31 τ41 := hF.trans (by rw [e40]; try rfl)
          have hQ : k_M_burn_132_42 σ o lo hi q r3 τ17 τ22 r27 r31 τ41 := by rw [e40]; exact hQ
          refine lv_lload hx hb d_M_burn_135 (lv_at hl 1 rfl) ?_
          refine lv_ldc2 (v := (4294967296 : Int64)) hx hb hown (ht _ kw603) d_M_burn_137 ?_
          refine lv_lmul hx hb d_M_burn_140 ?_
          refine lv_lload hx hb d_M_burn_141 (lv_at hl 0 rfl) ?_
          refine lv_ladd hx hb d_M_burn_143 ?_
          exact W.lret (v := (r27 * (4294967296 : Int64)) + r31) hx hb hr (fun t hh hW => ⟨⟨(r27 * (4294967296 : Int64)) + r31, τ41, rfl, hF.symm, by show va_P (dC, dI) cls (g_w r_sh dA ad τ41) t.heap; rw [hh]; exact hP⟩, hS.F hh⟩) hS.2.2 d_M_burn_144
        ·
          have c12 : ¬ (q.toInt64 ≤ (σ.2 8 r3.toNatClampNeg)) := mt (lg_cmp_le _ _).mpr c12
          have hF : f_M_burn σ o lo hi q = f_M_burn_48_43 σ o lo hi q r3 := hF.trans (if_neg c12)
          have hQ : k_M_burn_48_43 σ o lo hi q r3 := Eq.mp (if_neg c12) hQ
          refine lv_ldc2 (v := (-2 : Int64)) hx hb hown (ht _ kw574) d_M_burn_48 ?_
          exact W.lret (v := (-2 : Int64)) hx hb hr (fun t hh hW => ⟨⟨(-2 : Int64), σ, rfl, hF.symm, by show va_P (dC, dI) cls (g_w r_sh dA ad σ) t.heap; rw [hh]; exact hP⟩, hS.F hh⟩) hS.2.2 d_M_burn_51
    ·
      have c6 : ¬ (0 ≤ r3) := c6
      have hF : f_M_burn σ o lo hi q = f_M_burn_25_44 σ o lo hi q r3 := hF.trans (if_neg c6)
      have hQ : k_M_burn_25_44 σ o lo hi q r3 := Eq.mp (if_neg c6) hQ
      refine lv_ldc2 (v := (-3 : Int64)) hx hb hown (ht _ kw612) d_M_burn_25 ?_
      exact W.lret (v := (-3 : Int64)) hx hb hr (fun t hh hW => ⟨⟨(-3 : Int64), σ, rfl, hF.symm, by show va_P (dC, dI) cls (g_w r_sh dA ad σ) t.heap; rw [hh]; exact hP⟩, hS.F hh⟩) hS.2.2 d_M_burn_28
  ·
    have c1 : (σ.1 0 3) = 0 := c1
    have hF : f_M_burn σ o lo hi q = f_M_burn_7_45 σ o lo hi q := hF.trans (if_pos c1)
    have hQ : k_M_burn_7_45 σ o lo hi q := Eq.mp (if_pos c1) hQ
    refine lv_ldc2 (v := (-1 : Int64)) hx hb hown (ht _ kw568) d_M_burn_7 ?_
    exact W.lret (v := (-1 : Int64)) hx hb hr (fun t hh hW => ⟨⟨(-1 : Int64), σ, rfl, hF.symm, by show va_P (dC, dI) cls (g_w r_sh dA ad σ) t.heap; rw [hh]; exact hP⟩, hS.F hh⟩) hS.2.2 d_M_burn_10
def f_M_collect_89_21 (σ : g_S) (o : Int32) (lo : Int32) (hi : Int32) (r3 : Int32) (τ13 : g_S) (τ20 : g_S) : Int64 × g_S := (((σ.2 9 (((2 : Int32) * r3).toNatClampNeg)) * (4294967296 : Int64)) + (σ.2 9 ((((2 : Int32) * r3) + (1 : Int32)).toNatClampNeg)), τ20)
def k_M_collect_89_21 (σ : g_S) (o : Int32) (lo : Int32) (hi : Int32) (r3 : Int32) (τ13 : g_S) (τ20 : g_S) : Prop := True
def f_M_collect_61_14 (σ : g_S) (o : Int32) (lo : Int32) (hi : Int32) (r3 : Int32) (τ13 : g_S) : Int64 × g_S := (f_M_collect_89_21 σ o lo hi r3 τ13 (f_M_sweep (g_L (g_L τ13 9 (((2 : Int32) * r3).toNatClampNeg) (0 : Int64)) 9 ((((2 : Int32) * r3) + (1 : Int32)).toNatClampNeg) (0 : Int64)) r3))
def k_M_collect_61_14 (σ : g_S) (o : Int32) (lo : Int32) (hi : Int32) (r3 : Int32) (τ13 : g_S) : Prop := (vp_in ((2 : Int32) * r3) 20) ∧ (vp_in (((2 : Int32) * r3) + (1 : Int32)) 20) ∧ (k_M_sweep (g_L (g_L τ13 9 (((2 : Int32) * r3).toNatClampNeg) (0 : Int64)) 9 ((((2 : Int32) * r3) + (1 : Int32)).toNatClampNeg) (0 : Int64)) r3) ∧ (k_M_collect_89_21 σ o lo hi r3 τ13 (f_M_sweep (g_L (g_L τ13 9 (((2 : Int32) * r3).toNatClampNeg) (0 : Int64)) 9 ((((2 : Int32) * r3) + (1 : Int32)).toNatClampNeg) (0 : Int64)) r3))
def f_M_collect_29_7 (σ : g_S) (o : Int32) (lo : Int32) (hi : Int32) (r3 : Int32) : Int64 × g_S := (f_M_collect_61_14 σ o lo hi r3 (f_M_pay σ o (-(σ.2 9 (((2 : Int32) * r3).toNatClampNeg))) (-(σ.2 9 ((((2 : Int32) * r3) + (1 : Int32)).toNatClampNeg)))))
def k_M_collect_29_7 (σ : g_S) (o : Int32) (lo : Int32) (hi : Int32) (r3 : Int32) : Prop := (vp_in ((2 : Int32) * r3) 20) ∧ (vp_in (((2 : Int32) * r3) + (1 : Int32)) 20) ∧ (k_M_pay σ o (-(σ.2 9 (((2 : Int32) * r3).toNatClampNeg))) (-(σ.2 9 ((((2 : Int32) * r3) + (1 : Int32)).toNatClampNeg)))) ∧ (k_M_collect_61_14 σ o lo hi r3 (f_M_pay σ o (-(σ.2 9 (((2 : Int32) * r3).toNatClampNeg))) (-(σ.2 9 ((((2 : Int32) * r3) + (1 : Int32)).toNatClampNeg)))))
def f_M_collect_25_22 (σ : g_S) (o : Int32) (lo : Int32) (hi : Int32) (r3 : Int32) : Int64 × g_S := ((-3 : Int64), σ)
def k_M_collect_25_22 (σ : g_S) (o : Int32) (lo : Int32) (hi : Int32) (r3 : Int32) : Prop := True
def f_M_collect_15_5 (σ : g_S) (o : Int32) (lo : Int32) (hi : Int32) (r3 : Int32) : Int64 × g_S := (if 0 ≤ r3 then f_M_collect_29_7 σ o lo hi r3 else f_M_collect_25_22 σ o lo hi r3)
def k_M_collect_15_5 (σ : g_S) (o : Int32) (lo : Int32) (hi : Int32) (r3 : Int32) : Prop := (if 0 ≤ r3 then k_M_collect_29_7 σ o lo hi r3 else k_M_collect_25_22 σ o lo hi r3)
def f_M_collect_11_2 (σ : g_S) (o : Int32) (lo : Int32) (hi : Int32) : Int64 × g_S := (f_M_collect_15_5 σ o lo hi (f_M_find σ o lo hi))
def k_M_collect_11_2 (σ : g_S) (o : Int32) (lo : Int32) (hi : Int32) : Prop := (k_M_collect_15_5 σ o lo hi (f_M_find σ o lo hi))
def f_M_collect_7_23 (σ : g_S) (o : Int32) (lo : Int32) (hi : Int32) : Int64 × g_S := ((-1 : Int64), σ)
def k_M_collect_7_23 (σ : g_S) (o : Int32) (lo : Int32) (hi : Int32) : Prop := True
def f_M_collect (σ : g_S) (o : Int32) (lo : Int32) (hi : Int32) : Int64 × g_S := (if (σ.1 0 3) = 0 then f_M_collect_7_23 σ o lo hi else f_M_collect_11_2 σ o lo hi)
def k_M_collect (σ : g_S) (o : Int32) (lo : Int32) (hi : Int32) : Prop := (if (σ.1 0 3) = 0 then k_M_collect_7_23 σ o lo hi else k_M_collect_11_2 σ o lo hi)
set_option maxHeartbeats 4000000 in
set_option maxRecDepth 100000 in
theorem c_M_collect (l : Launch) (dC : Nat → ClassId) (dI : Nat → Nat → Nat) (dA : Nat → ClassId) (ad : Nat → Nat) (sz : Nat) (σ : g_S) (o : Int32) (lo : Int32) (hi : Int32) (hQ : k_M_collect σ o lo hi) : Met l y_M_collect w_M_collect ({ frames := 1, cells := 0, slots := 0, locals := 25 }) (va_Pc [.ref (ad 0), .int o, .int lo, .int hi] (g_W (dC, dI) cls (r_tys dA) (g_w r_sh dA ad σ) sz r_Z)) (va_Ql (fun r τ => (r, τ) = f_M_collect σ o lo hi) (fun τ t => va_P (dC, dI) cls (g_w r_sh dA ad τ) t.heap) (va_A (g_w r_sh dA ad σ) sz)) 0 0 (va_A (g_w r_sh dA ad σ) sz) := by
  refine Met.ofW (cc := b_M_collect) (maxL := 9) (ret := (some .long)) (by decide) rfl ?_
  intro p e s m args below meth c s₁ B hml hv
  obtain ⟨rfl, hsz, hP, hK, hD0, hz⟩ := hv
  have hx := B.exec
  have hb := B.bytes
  have hr := B.returns
  have hts := atoms_spec (ws := w_M_collect) B.pre
  have ht := fun (w : Cond) (h : w ∈ gA) => hts w (List.mem_cons_of_mem _ h)
  have hown : s.vm.findClass "RangedPoolModel" = some m.cls := findClass_of_methodNamed B.named
  have hlocks := B.notSynchronized
  subst hsz
  have hD := hD0.self (sz := s.heap.size)
  have hA : ∀ q : Nat, s.heap.size ≤ q → va_A (g_w r_sh dA ad σ) s.heap.size q := fun q h => Or.inr h
  generalize hAe : va_A (g_w r_sh dA ad σ) s.heap.size = A at hD hA hz ⊢
  have hS : va_S A s.heap s.heap [] := va_S.rf
  have hl := lv_entry ([.ref (ad 0), .int o, .int lo, .int hi]) (n := 9) (Nat.le_of_ble_eq_true rfl)
  rw [lg_entry_eq]
  generalize (lg_sl ([.ref (ad 0), .int o, .int lo, .int hi]) ++ List.replicate (9 - (lg_sl ([.ref (ad 0), .int o, .int lo, .int hi])).length) Slot.unset).toArray = ls at hl ⊢
  have hl : lv_has ls 9 [(0, .ref (ad 0)), (1, .int o), (2, .int lo), (3, .int hi)] := hl
  have hF : f_M_collect σ o lo hi = f_M_collect σ o lo hi := rfl
  refine lv_aload_n hx hb d_M_collect_0 rfl (lv_at hl 0 rfl) ?_
  refine g_get hx hb ht in_M hown hK hP (0) r_at0 rfl 3 (by decide) rfl (ht _ kw464) (fun _ h9 => h9) (v := .int (σ.1 0 3)) rfl d_M_collect_1 ?_
  refine lv_if_ne (tgt := 11) hx hb d_M_collect_4 (by decide) (fun c1 => ?_) (fun c1 => ?_)
  ·
    have c1 : ¬ ((σ.1 0 3) = 0) := c1
    have hF : f_M_collect σ o lo hi = f_M_collect_11_2 σ o lo hi := hF.trans (if_neg c1)
    have hQ : k_M_collect_11_2 σ o lo hi := Eq.mp (if_neg c1) hQ
    refine lv_aload_n hx hb d_M_collect_11 rfl (lv_at hl 0 rfl) ?_
    refine lv_iload_n hx hb d_M_collect_12 rfl (lv_at hl 1 rfl) ?_
    refine lv_iload_n hx hb d_M_collect_13 rfl (lv_at hl 2 rfl) ?_
    refine lv_iload_n hx hb d_M_collect_14 rfl (lv_at hl 3 rfl) ?_
    refine g_cSi (va_runV (As := [.int o, .int lo, .int hi]) (rest := []) ⟨hx, hb, hml, hown, ht⟩ (c_M_find l dC dI dA ad σ o lo hi) (cwV 3 ht gc_M_121 rfl rfl rfl (by decide +kernel) ⟨Nat.le_of_ble_eq_true rfl, Nat.le_of_ble_eq_true rfl⟩) (g_pV (g_prR r_Zok hK hP hS hz _) (g_rc hK hP (0) r_at0 rfl)) rfl rfl hl.1 rfl (lv_room (Nat.le_of_ble_eq_true rfl)) d_M_collect_15 ⟨Nat.le_of_ble_eq_true rfl, Nat.le_of_ble_eq_true rfl⟩) (fun r3 e4 => ?_)
    have hF : f_M_collect σ o lo hi = f_M_collect_15_5 σ o lo hi r3 := hF.trans (by rw [e4]; try rfl)
    have hQ : k_M_collect_15_5 σ o lo hi r3 := by rw [e4]; exact hQ
    refine lv_istore (lv' := [(4, .int r3), (0, .ref (ad 0)), (1, .int o), (2, .int lo), (3, .int hi)]) hx hb d_M_collect_18 hl (by decide) rfl (fun ls hl => ?_)
    refine lv_iload hx hb d_M_collect_20 (lv_at hl 0 rfl) ?_
    refine lv_if_ge (tgt := 29) hx hb d_M_collect_22 (by decide) (fun c6 => ?_) (fun c6 => ?_)
    ·
      have c6 : 0 ≤ r3 := c6
      have hF : f_M_collect σ o lo hi = f_M_collect_29_7 σ o lo hi r3 := hF.trans (if_pos c6)
      have hQ : k_M_collect_29_7 σ o lo hi r3 := Eq.mp (if_pos c6) hQ
      refine lv_aload_n hx hb d_M_collect_29 rfl (lv_at hl 1 rfl) ?_
      refine g_get hx hb ht in_M hown hK hP (0) r_at0 rfl 13 (by decide) rfl (ht _ kw474) (fun _ h9 => h9) (v := .ref (ad 9)) rfl d_M_collect_30 ?_
      refine lv_iconst (v := (2 : Int32)) hx hb d_M_collect_33 (by decide) ?_
      refine lv_iload hx hb d_M_collect_34 (lv_at hl 0 rfl) ?_
      refine lv_imul hx hb d_M_collect_36 ?_
      obtain ⟨hs8, hQ⟩ := hQ
      refine g_lald hx hb hK hP (9) r_at9 rfl (hs8) (j := ((2 : Int32) * r3).toNatClampNeg) (rfl) d_M_collect_37 ?_
      refine lv_lstore (lv' := [(5, .long (σ.2 9 (((2 : Int32) * r3).toNatClampNeg))), (4, .int r3), (0, .ref (ad 0)), (1, .int o), (2, .int lo), (3, .int hi)]) hx hb d_M_collect_38 hl (by decide) rfl (fun ls hl => ?_)
      refine lv_aload_n hx hb d_M_collect_40 rfl (lv_at hl 2 rfl) ?_
      refine g_get hx hb ht in_M hown hK hP (0) r_at0 rfl 13 (by decide) rfl (ht _ kw474) (fun _ h9 => h9) (v := .ref (ad 9)) rfl d_M_collect_41 ?_
      refine lv_iconst (v := (2 : Int32)) hx hb d_M_collect_44 (by decide) ?_
      refine lv_iload hx hb d_M_collect_45 (lv_at hl 1 rfl) ?_
      refine lv_imul hx hb d_M_collect_47 ?_
      refine lv_iconst (v := (1 : Int32)) hx hb d_M_collect_48 (by decide) ?_
      refine lv_iadd hx hb d_M_collect_49 ?_
      obtain ⟨hs9, hQ⟩ := hQ
      refine g_lald hx hb hK hP (9) r_at9 rfl (hs9) (j := (((2 : Int32) * r3) + (1 : Int32)).toNatClampNeg) (rfl) d_M_collect_50 ?_
      refine lv_lstore (lv' := [(7, .long (σ.2 9 ((((2 : Int32) * r3) + (1 : Int32)).toNatClampNeg))), (5, .long (σ.2 9 (((2 : Int32) * r3).toNatClampNeg))), (4, .int r3), (0, .ref (ad 0)), (1, .int o), (2, .int lo), (3, .int hi)]) hx hb d_M_collect_51 hl (by decide) rfl (fun ls hl => ?_)
      refine lv_aload_n hx hb d_M_collect_53 rfl (lv_at hl 3 rfl) ?_
      refine lv_iload_n hx hb d_M_collect_54 rfl (lv_at hl 4 rfl) ?_
      refine lv_lload hx hb d_M_collect_55 (lv_at hl 1 rfl) ?_
      refine lv_lneg hx hb d_M_collect_57 ?_
      refine lv_lload hx hb d_M_collect_58 (lv_at hl 0 rfl) ?_
      refine lv_lneg hx hb d_M_collect_60 ?_
      obtain ⟨hs10, hQ⟩ := hQ
      refine g_cWv (va_runV (As := [.int o, .long (-(σ.2 9 (((2 : Int32) * r3).toNatClampNeg))), .long (-(σ.2 9 ((((2 : Int32) * r3) + (1 : Int32)).toNatClampNeg)))]) (rest := []) ⟨hx, hb, hml, hown, ht⟩ (c_M_pay l dC dI dA ad s.heap.size σ o (-(σ.2 9 (((2 : Int32) * r3).toNatClampNeg))) (-(σ.2 9 ((((2 : Int32) * r3) + (1 : Int32)).toNatClampNeg))) hs10) (cwV 3 ht gc_M_142 rfl rfl rfl (by decide +kernel) ⟨Nat.le_of_ble_eq_true rfl, Nat.le_of_ble_eq_true rfl⟩) (g_pV (g_prW r_Zok hK hP hD hS hA hz _) (g_rc hK hP (0) r_at0 rfl)) rfl rfl hl.1 rfl (lv_room (Nat.le_of_ble_eq_true rfl)) d_M_collect_61 ⟨Nat.le_of_ble_eq_true rfl, Nat.le_of_ble_eq_true rfl⟩) hD hS hA (fun τ13 H locs e12 hP hD hS => ?_)
      have hF : f_M_collect σ o lo hi = f_M_collect_61_14 σ o lo hi r3 τ13 := hF.trans (by rw [e12]; try rfl)
      have hQ : k_M_collect_61_14 σ o lo hi r3 τ13 := by rw [e12]; exact hQ
      refine lv_aload_n hx hb d_M_collect_64 rfl (lv_at hl 3 rfl) ?_
      refine g_get hx hb ht in_M hown hK hP (0) r_at0 rfl 13 (by decide) rfl (ht _ kw474) (fun _ h9 => h9) (v := .ref (ad 9)) rfl d_M_collect_65 ?_
      refine lv_iconst (v := (2 : Int32)) hx hb d_M_collect_68 (by decide) ?_
      refine lv_iload hx hb d_M_collect_69 (lv_at hl 2 rfl) ?_
      refine lv_imul hx hb d_M_collect_71 ?_
      refine lv_lconst (v := (0 : Int64)) hx hb d_M_collect_72 (by decide) ?_
      obtain ⟨hs15, hQ⟩ := hQ
      refine g_last (x := (0 : Int64)) hx hb hK hP hD hS (9) r_at9 rfl (hs15) (j := ((2 : Int32) * r3).toNatClampNeg) (rfl) d_M_collect_73 (fun H locs hP hD hS => ?_)
      refine lv_aload_n hx hb d_M_collect_74 rfl (lv_at hl 3 rfl) ?_
      refine g_get hx hb ht in_M hown hK hP (0) r_at0 rfl 13 (by decide) rfl (ht _ kw474) (fun _ h9 => h9) (v := .ref (ad 9)) rfl d_M_collect_75 ?_
      refine lv_iconst (v := (2 : Int32)) hx hb d_M_collect_78 (by decide) ?_
      refine lv_iload hx hb d_M_collect_79 (lv_at hl 2 rfl) ?_
      refine lv_imul hx hb d_M_collect_81 ?_
      refine lv_iconst (v := (1 : Int32)) hx hb d_M_collect_82 (by decide) ?_
      refine lv_iadd hx hb d_M_collect_83 ?_
      refine lv_lconst (v := (0 : Int64)) hx hb d_M_collect_84 (by decide) ?_
      obtain ⟨hs16, hQ⟩ := hQ
      refine g_last (x := (0 : Int64)) hx hb hK hP hD hS (9) r_at9 rfl (hs16) (j := (((2 : Int32) * r3) + (1 : Int32)).toNatClampNeg) (rfl) d_M_collect_85 (fun H locs hP hD hS => ?_)
      refine lv_aload_n hx hb d_M_collect_86 rfl (lv_at hl 3 rfl) ?_
      refine lv_iload hx hb d_M_collect_87 (lv_at hl 2 rfl) ?_
      obtain ⟨hs17, hQ⟩ := hQ
      refine g_cWv (va_runV (As := [.int r3]) (rest := []) ⟨hx, hb, hml, hown, ht⟩ (c_M_sweep l dC dI dA ad H.size (g_L (g_L τ13 9 (((2 : Int32) * r3).toNatClampNeg) (0 : Int64)) 9 ((((2 : Int32) * r3) + (1 : Int32)).toNatClampNeg) (0 : Int64)) r3 hs17) (cwV 1 ht gc_M_148 rfl rfl rfl (by decide +kernel) ⟨Nat.le_of_ble_eq_true rfl, Nat.le_of_ble_eq_true rfl⟩) (g_pV (g_prW r_Zok hK hP hD hS hA hz _) (g_rc hK hP (0) r_at0 rfl)) rfl rfl hl.1 rfl (lv_room (Nat.le_of_ble_eq_true rfl)) d_M_collect_89 ⟨Nat.le_of_ble_eq_true rfl, Nat.le_of_ble_eq_true rfl⟩) hD hS hA (fun τ20 H locs e19 hP hD hS => ?_)
      have hF : f_M_collect σ o lo hi = f_M_collect_89_21 σ o lo hi r3 τ13 τ20 := hF.trans (by rw [e19]; try rfl)
      have hQ : k_M_collect_89_21 σ o lo hi r3 τ13 τ20 := by rw [e19]; exact hQ
      refine lv_lload hx hb d_M_collect_92 (lv_at hl 1 rfl) ?_
      refine lv_ldc2 (v := (4294967296 : Int64)) hx hb hown (ht _ kw603) d_M_collect_94 ?_
      refine lv_lmul hx hb d_M_collect_97 ?_
      refine lv_lload hx hb d_M_collect_98 (lv_at hl 0 rfl) ?_
      refine lv_ladd hx hb d_M_collect_100 ?_
      exact W.lret (v := ((σ.2 9 (((2 : Int32) * r3).toNatClampNeg)) * (4294967296 : Int64)) + (σ.2 9 ((((2 : Int32) * r3) + (1 : Int32)).toNatClampNeg))) hx hb hr (fun t hh hW => ⟨⟨((σ.2 9 (((2 : Int32) * r3).toNatClampNeg)) * (4294967296 : Int64)) + (σ.2 9 ((((2 : Int32) * r3) + (1 : Int32)).toNatClampNeg)), τ20, rfl, hF.symm, by show va_P (dC, dI) cls (g_w r_sh dA ad τ20) t.heap; rw [hh]; exact hP⟩, hS.F hh⟩) hS.2.2 d_M_collect_101
    ·
      have c6 : ¬ (0 ≤ r3) := c6
      have hF : f_M_collect σ o lo hi = f_M_collect_25_22 σ o lo hi r3 := hF.trans (if_neg c6)
      have hQ : k_M_collect_25_22 σ o lo hi r3 := Eq.mp (if_neg c6) hQ
      refine lv_ldc2 (v := (-3 : Int64)) hx hb hown (ht _ kw612) d_M_collect_25 ?_
      exact W.lret (v := (-3 : Int64)) hx hb hr (fun t hh hW => ⟨⟨(-3 : Int64), σ, rfl, hF.symm, by show va_P (dC, dI) cls (g_w r_sh dA ad σ) t.heap; rw [hh]; exact hP⟩, hS.F hh⟩) hS.2.2 d_M_collect_28
  ·
    have c1 : (σ.1 0 3) = 0 := c1
    have hF : f_M_collect σ o lo hi = f_M_collect_7_23 σ o lo hi := hF.trans (if_pos c1)
    have hQ : k_M_collect_7_23 σ o lo hi := Eq.mp (if_pos c1) hQ
    refine lv_ldc2 (v := (-1 : Int64)) hx hb hown (ht _ kw568) d_M_collect_7 ?_
    exact W.lret (v := (-1 : Int64)) hx hb hr (fun t hh hW => ⟨⟨(-1 : Int64), σ, rfl, hF.symm, by show va_P (dC, dI) cls (g_w r_sh dA ad σ) t.heap; rw [hh]; exact hP⟩, hS.F hh⟩) hS.2.2 d_M_collect_10
