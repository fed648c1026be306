def f_P_swap_29_7 (σ : g_S) (o : Int32) (dn : Int32) (am : Int32) (lim : Int32) (r3 : Int32) : Int64 × g_S := ((-2 : Int64), σ)
def k_P_swap_29_7 (σ : g_S) (o : Int32) (dn : Int32) (am : Int32) (lim : Int32) (r3 : Int32) : Prop := True
def f_P_swap_147_55 (σ : g_S) (o : Int32) (dn : Int32) (am : Int32) (lim : Int32) (r3 : Int32) (r10 : Int32) (τ18 : g_S) (r21 : Int32) (τ27 : g_S) (r29 : Int32) (τ39 : g_S) (τ44 : g_S) (τ49 : g_S) (τ54 : g_S) : Int64 × g_S := (f_P_pair (τ54.2 9 6) (τ54.2 9 7), g_I (g_I τ54 0 8 (τ54.1 9 4)) 0 9 (τ54.1 9 5))
def k_P_swap_147_55 (σ : g_S) (o : Int32) (dn : Int32) (am : Int32) (lim : Int32) (r3 : Int32) (r10 : Int32) (τ18 : g_S) (r21 : Int32) (τ27 : g_S) (r29 : Int32) (τ39 : g_S) (τ44 : g_S) (τ49 : g_S) (τ54 : g_S) : Prop := True
def f_P_swap_138_50 (σ : g_S) (o : Int32) (dn : Int32) (am : Int32) (lim : Int32) (r3 : Int32) (r10 : Int32) (τ18 : g_S) (r21 : Int32) (τ27 : g_S) (r29 : Int32) (τ39 : g_S) (τ44 : g_S) (τ49 : g_S) : Int64 × g_S := (f_P_swap_147_55 σ o dn am lim r3 r10 τ18 r21 τ27 r29 τ39 τ44 τ49 (f_B_keepPendingGrowth τ49 r29))
def k_P_swap_138_50 (σ : g_S) (o : Int32) (dn : Int32) (am : Int32) (lim : Int32) (r3 : Int32) (r10 : Int32) (τ18 : g_S) (r21 : Int32) (τ27 : g_S) (r29 : Int32) (τ39 : g_S) (τ44 : g_S) (τ49 : g_S) : Prop := (k_B_keepPendingGrowth τ49 r29) ∧ (k_P_swap_147_55 σ o dn am lim r3 r10 τ18 r21 τ27 r29 τ39 τ44 τ49 (f_B_keepPendingGrowth τ49 r29))
def f_P_swap_121_45 (σ : g_S) (o : Int32) (dn : Int32) (am : Int32) (lim : Int32) (r3 : Int32) (r10 : Int32) (τ18 : g_S) (r21 : Int32) (τ27 : g_S) (r29 : Int32) (τ39 : g_S) (τ44 : g_S) : Int64 × g_S := (f_P_swap_138_50 σ o dn am lim r3 r10 τ18 r21 τ27 r29 τ39 τ44 (f_P_transfer τ44 o ((1 : Int32) - r29) (-(τ44.2 9 7))))
def k_P_swap_121_45 (σ : g_S) (o : Int32) (dn : Int32) (am : Int32) (lim : Int32) (r3 : Int32) (r10 : Int32) (τ18 : g_S) (r21 : Int32) (τ27 : g_S) (r29 : Int32) (τ39 : g_S) (τ44 : g_S) : Prop := (k_P_transfer τ44 o ((1 : Int32) - r29) (-(τ44.2 9 7))) ∧ (k_P_swap_138_50 σ o dn am lim r3 r10 τ18 r21 τ27 r29 τ39 τ44 (f_P_transfer τ44 o ((1 : Int32) - r29) (-(τ44.2 9 7))))
def f_P_swap_107_40 (σ : g_S) (o : Int32) (dn : Int32) (am : Int32) (lim : Int32) (r3 : Int32) (r10 : Int32) (τ18 : g_S) (r21 : Int32) (τ27 : g_S) (r29 : Int32) (τ39 : g_S) : Int64 × g_S := (f_P_swap_121_45 σ o dn am lim r3 r10 τ18 r21 τ27 r29 τ39 (f_P_transfer τ39 o r29 (τ39.2 9 6)))
def k_P_swap_107_40 (σ : g_S) (o : Int32) (dn : Int32) (am : Int32) (lim : Int32) (r3 : Int32) (r10 : Int32) (τ18 : g_S) (r21 : Int32) (τ27 : g_S) (r29 : Int32) (τ39 : g_S) : Prop := (k_P_transfer τ39 o r29 (τ39.2 9 6)) ∧ (k_P_swap_121_45 σ o dn am lim r3 r10 τ18 r21 τ27 r29 τ39 (f_P_transfer τ39 o r29 (τ39.2 9 6)))
def f_P_swap_99_35 (σ : g_S) (o : Int32) (dn : Int32) (am : Int32) (lim : Int32) (r3 : Int32) (r10 : Int32) (τ18 : g_S) (r21 : Int32) (τ27 : g_S) (r29 : Int32) : Int64 × g_S := (f_P_swap_107_40 σ o dn am lim r3 r10 τ18 r21 τ27 r29 (f_H_mark τ27 (τ27.1 0 9)))
def k_P_swap_99_35 (σ : g_S) (o : Int32) (dn : Int32) (am : Int32) (lim : Int32) (r3 : Int32) (r10 : Int32) (τ18 : g_S) (r21 : Int32) (τ27 : g_S) (r29 : Int32) : Prop := (k_H_mark τ27 (τ27.1 0 9)) ∧ (k_P_swap_107_40 σ o dn am lim r3 r10 τ18 r21 τ27 r29 (f_H_mark τ27 (τ27.1 0 9)))
def f_P_swap_95_58 (σ : g_S) (o : Int32) (dn : Int32) (am : Int32) (lim : Int32) (r3 : Int32) (r10 : Int32) (τ18 : g_S) (r21 : Int32) (τ27 : g_S) (r29 : Int32) : Int64 × g_S := ((-5 : Int64), τ27)
def k_P_swap_95_58 (σ : g_S) (o : Int32) (dn : Int32) (am : Int32) (lim : Int32) (r3 : Int32) (r10 : Int32) (τ18 : g_S) (r21 : Int32) (τ27 : g_S) (r29 : Int32) : Prop := True
def f_P_swap_70_31 (σ : g_S) (o : Int32) (dn : Int32) (am : Int32) (lim : Int32) (r3 : Int32) (r10 : Int32) (τ18 : g_S) (r21 : Int32) (τ27 : g_S) (r29 : Int32) : Int64 × g_S := (if (τ27.2 9 6) ≤ (τ27.2 (o.toNatClampNeg + 10) r29.toNatClampNeg) then f_P_swap_99_35 σ o dn am lim r3 r10 τ18 r21 τ27 r29 else f_P_swap_95_58 σ o dn am lim r3 r10 τ18 r21 τ27 r29)
def k_P_swap_70_31 (σ : g_S) (o : Int32) (dn : Int32) (am : Int32) (lim : Int32) (r3 : Int32) (r10 : Int32) (τ18 : g_S) (r21 : Int32) (τ27 : g_S) (r29 : Int32) : Prop := (vp_in o 4) ∧ (vp_in r29 2) ∧ (if (τ27.2 9 6) ≤ (τ27.2 (o.toNatClampNeg + 10) r29.toNatClampNeg) then k_P_swap_99_35 σ o dn am lim r3 r10 τ18 r21 τ27 r29 else k_P_swap_95_58 σ o dn am lim r3 r10 τ18 r21 τ27 r29)
def f_P_swap_63_28 (σ : g_S) (o : Int32) (dn : Int32) (am : Int32) (lim : Int32) (r3 : Int32) (r10 : Int32) (τ18 : g_S) (r21 : Int32) (τ27 : g_S) : Int64 × g_S := (f_P_swap_70_31 σ o dn am lim r3 r10 τ18 r21 τ27 (f_D_tokenIn τ27))
def k_P_swap_63_28 (σ : g_S) (o : Int32) (dn : Int32) (am : Int32) (lim : Int32) (r3 : Int32) (r10 : Int32) (τ18 : g_S) (r21 : Int32) (τ27 : g_S) : Prop := (k_P_swap_70_31 σ o dn am lim r3 r10 τ18 r21 τ27 (f_D_tokenIn τ27))
def f_P_swap_60_23 (σ : g_S) (o : Int32) (dn : Int32) (am : Int32) (lim : Int32) (r3 : Int32) (r10 : Int32) (τ18 : g_S) (r21 : Int32) : Int64 × g_S := (f_P_swap_63_28 σ o dn am lim r3 r10 τ18 r21 (f_D_workOut τ18 am r21))
def k_P_swap_60_23 (σ : g_S) (o : Int32) (dn : Int32) (am : Int32) (lim : Int32) (r3 : Int32) (r10 : Int32) (τ18 : g_S) (r21 : Int32) : Prop := (k_D_workOut τ18 am r21) ∧ (k_P_swap_63_28 σ o dn am lim r3 r10 τ18 r21 (f_D_workOut τ18 am r21))
def f_P_swap_46_19 (σ : g_S) (o : Int32) (dn : Int32) (am : Int32) (lim : Int32) (r3 : Int32) (r10 : Int32) (τ18 : g_S) : Int64 × g_S := (f_P_swap_60_23 σ o dn am lim r3 r10 τ18 (f_P_priceOf lim))
def k_P_swap_46_19 (σ : g_S) (o : Int32) (dn : Int32) (am : Int32) (lim : Int32) (r3 : Int32) (r10 : Int32) (τ18 : g_S) : Prop := (k_P_priceOf lim) ∧ (k_P_swap_60_23 σ o dn am lim r3 r10 τ18 (f_P_priceOf lim))
def f_P_swap_33_14 (σ : g_S) (o : Int32) (dn : Int32) (am : Int32) (lim : Int32) (r3 : Int32) (r10 : Int32) : Int64 × g_S := (f_P_swap_46_19 σ o dn am lim r3 r10 (f_D_startAt σ (σ.1 0 8) (σ.1 0 9) dn))
def k_P_swap_33_14 (σ : g_S) (o : Int32) (dn : Int32) (am : Int32) (lim : Int32) (r3 : Int32) (r10 : Int32) : Prop := (k_D_startAt σ (σ.1 0 8) (σ.1 0 9) dn) ∧ (k_P_swap_46_19 σ o dn am lim r3 r10 (f_D_startAt σ (σ.1 0 8) (σ.1 0 9) dn))
def f_P_swap_29_59 (σ : g_S) (o : Int32) (dn : Int32) (am : Int32) (lim : Int32) (r3 : Int32) (r10 : Int32) : Int64 × g_S := ((-2 : Int64), σ)
def k_P_swap_29_59 (σ : g_S) (o : Int32) (dn : Int32) (am : Int32) (lim : Int32) (r3 : Int32) (r10 : Int32) : Prop := True
def f_P_swap_23_12 (σ : g_S) (o : Int32) (dn : Int32) (am : Int32) (lim : Int32) (r3 : Int32) (r10 : Int32) : Int64 × g_S := (if r10 = 0 then f_P_swap_29_59 σ o dn am lim r3 r10 else f_P_swap_33_14 σ o dn am lim r3 r10)
def k_P_swap_23_12 (σ : g_S) (o : Int32) (dn : Int32) (am : Int32) (lim : Int32) (r3 : Int32) (r10 : Int32) : Prop := (if r10 = 0 then k_P_swap_29_59 σ o dn am lim r3 r10 else k_P_swap_33_14 σ o dn am lim r3 r10)
def f_P_swap_18_8 (σ : g_S) (o : Int32) (dn : Int32) (am : Int32) (lim : Int32) (r3 : Int32) : Int64 × g_S := (f_P_swap_23_12 σ o dn am lim r3 (f_P_isTrade σ dn am lim))
def k_P_swap_18_8 (σ : g_S) (o : Int32) (dn : Int32) (am : Int32) (lim : Int32) (r3 : Int32) : Prop := (k_P_isTrade σ dn am lim) ∧ (k_P_swap_23_12 σ o dn am lim r3 (f_P_isTrade σ dn am lim))
def f_P_swap_12_5 (σ : g_S) (o : Int32) (dn : Int32) (am : Int32) (lim : Int32) (r3 : Int32) : Int64 × g_S := (if r3 = 0 then f_P_swap_29_7 σ o dn am lim r3 else f_P_swap_18_8 σ o dn am lim r3)
def k_P_swap_12_5 (σ : g_S) (o : Int32) (dn : Int32) (am : Int32) (lim : Int32) (r3 : Int32) : Prop := (if r3 = 0 then k_P_swap_29_7 σ o dn am lim r3 else k_P_swap_18_8 σ o dn am lim r3)
def f_P_swap_11_2 (σ : g_S) (o : Int32) (dn : Int32) (am : Int32) (lim : Int32) : Int64 × g_S := (f_P_swap_12_5 σ o dn am lim (f_P_isOwner o))
def k_P_swap_11_2 (σ : g_S) (o : Int32) (dn : Int32) (am : Int32) (lim : Int32) : Prop := (k_P_swap_12_5 σ o dn am lim (f_P_isOwner o))
def f_P_swap_7_60 (σ : g_S) (o : Int32) (dn : Int32) (am : Int32) (lim : Int32) : Int64 × g_S := ((-1 : Int64), σ)
def k_P_swap_7_60 (σ : g_S) (o : Int32) (dn : Int32) (am : Int32) (lim : Int32) : Prop := True
def f_P_swap (σ : g_S) (o : Int32) (dn : Int32) (am : Int32) (lim : Int32) : Int64 × g_S := (if (σ.1 0 7) = 0 then f_P_swap_7_60 σ o dn am lim else f_P_swap_11_2 σ o dn am lim)
def k_P_swap (σ : g_S) (o : Int32) (dn : Int32) (am : Int32) (lim : Int32) : Prop := (if (σ.1 0 7) = 0 then k_P_swap_7_60 σ o dn am lim else k_P_swap_11_2 σ o dn am lim)
set_option maxHeartbeats 4000000 in
set_option maxRecDepth 100000 in
theorem c_P_swap (l : Launch) (dC : Nat → ClassId) (dI : Nat → Nat → Nat) (dA : Nat → ClassId) (ad : Nat → Nat) (tb : Nat) (sz : Nat) (σ : g_S) (o : Int32) (dn : Int32) (am : Int32) (lim : Int32) (hQ : k_P_swap σ o dn am lim) : Met l y_P_swap w_P_swap ({ frames := 6, cells := 0, slots := 0, locals := 157 }) (va_Pc [.ref (ad 0), .int o, .int dn, .int am, .int lim] (g_W (dC, dI) cls (x_tys dA) (g_w x_sh dA ad σ) sz (x_Z tb))) (va_Ql (fun r τ => (r, τ) = f_P_swap σ o dn am lim) (fun τ t => va_P (dC, dI) cls (g_w x_sh dA ad τ) t.heap) (va_A (g_w x_sh dA ad σ) sz)) 0 0 (va_A (g_w x_sh dA ad σ) sz) := by
  refine Met.ofW (cc := b_P_swap) (maxL := 6) (ret := (some .long)) (by decide) rfl ?_
  intro p e s m args below meth c s₁ B hml hv
  obtain ⟨rfl, hsz, hP, hK, hD0, hz⟩ := hv
  have hx := B.exec
  have hb := B.bytes
  have hr := B.returns
  have hts := atoms_spec (ws := w_P_swap) B.pre
  have ht := fun (w : Cond) (h : w ∈ gA) => hts w (List.mem_cons_of_mem _ h)
  have hown : s.vm.findClass "RangedPool" = some m.cls := findClass_of_methodNamed B.named
  have hlocks := B.notSynchronized
  subst hsz
  have hD := hD0.self (sz := s.heap.size)
  have hA : ∀ q : Nat, s.heap.size ≤ q → va_A (g_w x_sh dA ad σ) s.heap.size q := fun q h => Or.inr h
  generalize hAe : va_A (g_w x_sh dA ad σ) s.heap.size = A at hD hA hz ⊢
  have hS : va_S A s.heap s.heap [] := va_S.rf
  have hl := lv_entry ([.ref (ad 0), .int o, .int dn, .int am, .int lim]) (n := 6) (Nat.le_of_ble_eq_true rfl)
  rw [lg_entry_eq]
  generalize (lg_sl ([.ref (ad 0), .int o, .int dn, .int am, .int lim]) ++ List.replicate (6 - (lg_sl ([.ref (ad 0), .int o, .int dn, .int am, .int lim])).length) Slot.unset).toArray = ls at hl ⊢
  have hl : lv_has ls 6 [(0, .ref (ad 0)), (1, .int o), (2, .int dn), (3, .int am), (4, .int lim)] := hl
  have hF : f_P_swap σ o dn am lim = f_P_swap σ o dn am lim := rfl
  refine lv_aload_n hx hb d_P_swap_0 rfl (lv_at hl 0 rfl) ?_
  refine g_get hx hb ht in_P hown hK hP (0) x_at0 rfl 7 (by decide) rfl (ht _ kw136) (fun _ h9 => h9) (v := .int (σ.1 0 7)) rfl d_P_swap_1 ?_
  refine lv_if_ne (tgt := 11) hx hb d_P_swap_4 (by decide) (fun c1 => ?_) (fun c1 => ?_)
  ·
    have c1 : ¬ ((σ.1 0 7) = 0) := c1
    have hF : f_P_swap σ o dn am lim = f_P_swap_11_2 σ o dn am lim := hF.trans (if_neg c1)
    have hQ : k_P_swap_11_2 σ o dn am lim := Eq.mp (if_neg c1) hQ
    refine lv_iload_n hx hb d_P_swap_11 rfl (lv_at hl 1 rfl) ?_
    refine g_cSi (va_runS (As := [.int o]) (rest := []) ⟨hx, hb, hml, hown, ht⟩ (c_P_isOwner l o) (va_cwS 1 ht gc_P_72 rfl rfl rfl (by decide +kernel) ⟨Nat.le_of_ble_eq_true rfl, Nat.le_of_ble_eq_true rfl⟩) (g_pr0 _) rfl rfl hl.1 rfl (lv_room (Nat.le_of_ble_eq_true rfl)) d_P_swap_12 ⟨Nat.le_of_ble_eq_true rfl, Nat.le_of_ble_eq_true rfl⟩) (fun r3 e4 => ?_)
    have hF : f_P_swap σ o dn am lim = f_P_swap_12_5 σ o dn am lim r3 := hF.trans (by rw [e4]; try rfl)
    have hQ : k_P_swap_12_5 σ o dn am lim r3 := by rw [e4]; exact hQ
    refine lv_if_eq (tgt := 29) hx hb d_P_swap_15 (by decide) (fun c6 => ?_) (fun c6 => ?_)
    ·
      have c6 : r3 = 0 := c6
      have hF : f_P_swap σ o dn am lim = f_P_swap_29_7 σ o dn am lim r3 := hF.trans (if_pos c6)
      have hQ : k_P_swap_29_7 σ o dn am lim r3 := Eq.mp (if_pos c6) hQ
      refine lv_ldc2 (v := (-2 : Int64)) hx hb hown (ht _ kw201) d_P_swap_29 ?_
      exact W.lret (v := (-2 : Int64)) hx hb hr (fun t hh hW => ⟨⟨(-2 : Int64), σ, rfl, hF.symm, by show va_P (dC, dI) cls (g_w x_sh dA ad σ) t.heap; rw [hh]; exact hP⟩, hS.F hh⟩) hS.2.2 d_P_swap_32
    ·
      have c6 : ¬ (r3 = 0) := c6
      have hF : f_P_swap σ o dn am lim = f_P_swap_18_8 σ o dn am lim r3 := hF.trans (if_neg c6)
      have hQ : k_P_swap_18_8 σ o dn am lim r3 := Eq.mp (if_neg c6) hQ
      refine lv_aload_n hx hb d_P_swap_18 rfl (lv_at hl 0 rfl) ?_
      refine lv_iload_n hx hb d_P_swap_19 rfl (lv_at hl 2 rfl) ?_
      refine lv_iload_n hx hb d_P_swap_20 rfl (lv_at hl 3 rfl) ?_
      refine lv_iload hx hb d_P_swap_21 (lv_at hl 4 rfl) ?_
      obtain ⟨hs9, hQ⟩ := hQ
      refine g_cSi (va_runV (As := [.int dn, .int am, .int lim]) (rest := []) ⟨hx, hb, hml, hown, ht⟩ (c_P_isTrade l dC dI dA ad tb σ dn am lim hs9) (cwV 3 ht gc_P_146 rfl rfl rfl (by decide +kernel) ⟨Nat.le_of_ble_eq_true rfl, Nat.le_of_ble_eq_true rfl⟩) (g_pV (g_prR x_Zok hK hP hS hz _) (g_rc hK hP (0) x_at0 rfl)) rfl rfl hl.1 rfl (lv_room (Nat.le_of_ble_eq_true rfl)) d_P_swap_23 ⟨Nat.le_of_ble_eq_true rfl, Nat.le_of_ble_eq_true rfl⟩) (fun r10 e11 => ?_)
      have hF : f_P_swap σ o dn am lim = f_P_swap_23_12 σ o dn am lim r3 r10 := hF.trans (by rw [e11]; try rfl)
      have hQ : k_P_swap_23_12 σ o dn am lim r3 r10 := by rw [e11]; exact hQ
      refine lv_if_ne (tgt := 33) hx hb d_P_swap_26 (by decide) (fun c13 => ?_) (fun c13 => ?_)
      ·
        have c13 : ¬ (r10 = 0) := c13
        have hF : f_P_swap σ o dn am lim = f_P_swap_33_14 σ o dn am lim r3 r10 := hF.trans (if_neg c13)
        have hQ : k_P_swap_33_14 σ o dn am lim r3 r10 := Eq.mp (if_neg c13) hQ
        refine lv_aload_n hx hb d_P_swap_33 rfl (lv_at hl 0 rfl) ?_
        refine g_get hx hb ht in_P hown hK hP (0) x_at0 rfl 6 (by decide) rfl (ht _ kw135) (fun _ h9 => h9) (v := .ref (ad 9)) rfl d_P_swap_34 ?_
        refine lv_aload_n hx hb d_P_swap_37 rfl (lv_at hl 0 rfl) ?_
        refine g_get hx hb ht in_P hown hK hP (0) x_at0 rfl 8 (by decide) rfl (ht _ kw137) (fun _ h9 => h9) (v := .int (σ.1 0 8)) rfl d_P_swap_38 ?_
        refine lv_aload_n hx hb d_P_swap_41 rfl (lv_at hl 0 rfl) ?_
        refine g_get hx hb ht in_P hown hK hP (0) x_at0 rfl 9 (by decide) rfl (ht _ kw138) (fun _ h9 => h9) (v := .int (σ.1 0 9)) rfl d_P_swap_42 ?_
        refine lv_iload_n hx hb d_P_swap_45 rfl (lv_at hl 2 rfl) ?_
        obtain ⟨hs15, hQ⟩ := hQ
        refine g_cWv (va_runVN (host := "RangedPool") (As := [.int (σ.1 0 8), .int (σ.1 0 9), .int dn]) (rest := []) ⟨hx, hb, hml, hown, ht⟩ (c_D_startAt l dC dI dA ad tb s.heap.size σ (σ.1 0 8) (σ.1 0 9) dn hs15) ⟨va_cnB 3 ht gn_D_startAt rfl rfl rfl (hz.1 _ nk288) (ht _ kw5) (by decide +kernel) ⟨Nat.le_of_ble_eq_true rfl, Nat.le_of_ble_eq_true rfl⟩, ht _ kw290, ht _ ks16⟩ (g_pV (g_prW x_Zok hK hP hD hS hA hz _) (g_rc hK hP (9) x_at9 rfl)) rfl rfl hl.1 rfl (lv_room (Nat.le_of_ble_eq_true rfl)) d_P_swap_46 ⟨Nat.le_of_ble_eq_true rfl, Nat.le_of_ble_eq_true rfl⟩) hD hS hA (fun τ18 H locs e17 hP hD hS => ?_)
        have hF : f_P_swap σ o dn am lim = f_P_swap_46_19 σ o dn am lim r3 r10 τ18 := hF.trans (by rw [e17]; try rfl)
        have hQ : k_P_swap_46_19 σ o dn am lim r3 r10 τ18 := by rw [e17]; exact hQ
        refine lv_aload_n hx hb d_P_swap_49 rfl (lv_at hl 0 rfl) ?_
        refine g_get hx hb ht in_P hown hK hP (0) x_at0 rfl 6 (by decide) rfl (ht _ kw135) (fun _ h9 => h9) (v := .ref (ad 9)) rfl d_P_swap_50 ?_
        refine lv_aload_n hx hb d_P_swap_53 rfl (lv_at hl 0 rfl) ?_
        refine g_get hx hb ht in_P hown hK hP (0) x_at0 rfl 4 (by decide) rfl (ht _ kw133) (fun _ h9 => h9) (v := .ref (ad 3)) rfl d_P_swap_54 ?_
        refine lv_iload_n hx hb d_P_swap_57 rfl (lv_at hl 3 rfl) ?_
        refine lv_iload hx hb d_P_swap_58 (lv_at hl 4 rfl) ?_
        obtain ⟨hs20, hQ⟩ := hQ
        refine g_cSi (va_runS (As := [.int lim]) (rest := [.int am, .ref (ad 3), .ref (ad 9)]) ⟨hx, hb, hml, hown, ht⟩ (c_P_priceOf l tb lim hs20) (va_cwS 1 ht gc_P_59 rfl rfl rfl (by decide +kernel) ⟨Nat.le_of_ble_eq_true rfl, Nat.le_of_ble_eq_true rfl⟩) (g_prZ x_Zok hS hz _) rfl rfl hl.1 rfl (lv_room (Nat.le_of_ble_eq_true rfl)) d_P_swap_60 ⟨Nat.le_of_ble_eq_true rfl, Nat.le_of_ble_eq_true rfl⟩) (fun r21 e22 => ?_)
        have hF : f_P_swap σ o dn am lim = f_P_swap_60_23 σ o dn am lim r3 r10 τ18 r21 := hF.trans (by rw [e22]; try rfl)
        have hQ : k_P_swap_60_23 σ o dn am lim r3 r10 τ18 r21 := by rw [e22]; exact hQ
        obtain ⟨hs24, hQ⟩ := hQ
        refine g_cWv (va_runVN (host := "RangedPool") (As := [.ref (ad 3), .int am, .int r21]) (rest := []) ⟨hx, hb, hml, hown, ht⟩ (c_D_workOut l dC dI dA ad tb H.size τ18 am r21 hs24) ⟨va_cnB 3 ht gn_D_workOut rfl rfl rfl (hz.1 _ nk292) (ht _ kw5) (by decide +kernel) ⟨Nat.le_of_ble_eq_true rfl, Nat.le_of_ble_eq_true rfl⟩, ht _ kw294, ht _ ks17⟩ (g_pV (g_prW x_Zok hK hP hD hS hA hz _) (g_rc hK hP (9) x_at9 rfl)) rfl rfl hl.1 rfl (lv_room (Nat.le_of_ble_eq_true rfl)) d_P_swap_63 ⟨Nat.le_of_ble_eq_true rfl, Nat.le_of_ble_eq_true rfl⟩) hD hS hA (fun τ27 H locs e26 hP hD hS => ?_)
        have hF : f_P_swap σ o dn am lim = f_P_swap_63_28 σ o dn am lim r3 r10 τ18 r21 τ27 := hF.trans (by rw [e26]; try rfl)
        have hQ : k_P_swap_63_28 σ o dn am lim r3 r10 τ18 r21 τ27 := by rw [e26]; exact hQ
        refine lv_aload_n hx hb d_P_swap_66 rfl (lv_at hl 0 rfl) ?_
        refine g_get hx hb ht in_P hown hK hP (0) x_at0 rfl 6 (by decide) rfl (ht _ kw135) (fun _ h9 => h9) (v := .ref (ad 9)) rfl d_P_swap_67 ?_
        refine g_cSi (va_runVN (host := "RangedPool") (As := []) (rest := []) ⟨hx, hb, hml, hown, ht⟩ (c_D_tokenIn l dC dI dA ad tb τ27) ⟨va_cnB 0 ht gn_D_tokenIn rfl rfl rfl (hz.1 _ nk368) (ht _ kw5) (by decide +kernel) ⟨Nat.le_of_ble_eq_true rfl, Nat.le_of_ble_eq_true rfl⟩, ht _ kw370, ht _ ks31⟩ (g_pV (g_prR x_Zok hK hP hS hz _) (g_rc hK hP (9) x_at9 rfl)) rfl rfl hl.1 rfl (lv_room (Nat.le_of_ble_eq_true rfl)) d_P_swap_70 ⟨Nat.le_of_ble_eq_true rfl, Nat.le_of_ble_eq_true rfl⟩) (fun r29 e30 => ?_)
        have hF : f_P_swap σ o dn am lim = f_P_swap_70_31 σ o dn am lim r3 r10 τ18 r21 τ27 r29 := hF.trans (by rw [e30]; try rfl)
        have hQ : k_P_swap_70_31 σ o dn am lim r3 r10 τ18 r21 τ27 r29 := by rw [e30]; exact hQ
        refine lv_istore (lv' := [(5, .int r29), (0, .ref (ad 0)), (1, .int o), (2, .int dn), (3, .int am), (4, .int lim)]) hx hb d_P_swap_73 hl (by decide) rfl (fun ls hl => ?_)
        refine lv_aload_n hx hb d_P_swap_75 rfl (lv_at hl 1 rfl) ?_
        refine g_get hx hb ht in_P hown hK hP (0) x_at0 rfl 2 (by decide) rfl (ht _ kw131) (fun _ h9 => h9) (v := .ref (ad 1)) rfl d_P_swap_76 ?_
        refine lv_iload_n hx hb d_P_swap_79 rfl (lv_at hl 2 rfl) ?_
        obtain ⟨hs32, hQ⟩ := hQ
        refine g_aald hx hb hK hP 1 x_at1 rfl rfl (hs32) (z := o.toNatClampNeg + 10) (x_el1 (rfl) (g_nlt hs32)) d_P_swap_80 ?_
        refine lv_iload hx hb d_P_swap_81 (lv_at hl 0 rfl) ?_
        obtain ⟨hs33, hQ⟩ := hQ
        refine g_lald hx hb hK hP (o.toNatClampNeg + 10) (x_at10 (g_nlt hs32)) rfl (hs33) (j := r29.toNatClampNeg) (rfl) d_P_swap_83 ?_
        refine lv_aload_n hx hb d_P_swap_84 rfl (lv_at hl 1 rfl) ?_
        refine g_get hx hb ht in_P hown hK hP (0) x_at0 rfl 6 (by decide) rfl (ht _ kw135) (fun _ h9 => h9) (v := .ref (ad 9)) rfl d_P_swap_85 ?_
        refine g_getN hx hb ht in_D hown hK hP (9) x_at9 rfl 6 (by decide) rfl (va_Nw.use rfl (hz.1 _ nk109)) (fun _ h9 => h9) (v := .long (τ27.2 9 6)) rfl d_P_swap_88 ?_
        refine W.lcmp hx hb d_P_swap_91 ?_
        refine lv_if_ge (tgt := 99) hx hb d_P_swap_92 (by decide) (fun c34 => ?_) (fun c34 => ?_)
        ·
          have c34 : (τ27.2 9 6) ≤ (τ27.2 (o.toNatClampNeg + 10) r29.toNatClampNeg) := (lg_cmp_ge _ _).mp c34
          have hF : f_P_swap σ o dn am lim = f_P_swap_99_35 σ o dn am lim r3 r10 τ18 r21 τ27 r29 := hF.trans (if_pos c34)
          have hQ : k_P_swap_99_35 σ o dn am lim r3 r10 τ18 r21 τ27 r29 := Eq.mp (if_pos c34) hQ
          refine lv_aload_n hx hb d_P_swap_99 rfl (lv_at hl 1 rfl) ?_
          refine g_get hx hb ht in_P hown hK hP (0) x_at0 rfl 5 (by decide) rfl (ht _ kw134) (fun _ h9 => h9) (v := .ref (ad 5)) rfl d_P_swap_100 ?_
          refine lv_aload_n hx hb d_P_swap_103 rfl (lv_at hl 1 rfl) ?_
          refine g_get hx hb ht in_P hown hK hP (0) x_at0 rfl 9 (by decide) rfl (ht _ kw138) (fun _ h9 => h9) (v := .int (τ27.1 0 9)) rfl d_P_swap_104 ?_
          obtain ⟨hs36, hQ⟩ := hQ
          refine g_cWv (va_runVN (host := "RangedPool") (As := [.int (τ27.1 0 9)]) (rest := []) ⟨hx, hb, hml, hown, ht⟩ (c_H_mark l dC dI dA ad tb H.size τ27 (τ27.1 0 9) hs36) ⟨va_cnB 1 ht gn_H_mark rfl rfl rfl (hz.1 _ nk172) (ht _ kw4) (by decide +kernel) ⟨Nat.le_of_ble_eq_true rfl, Nat.le_of_ble_eq_true rfl⟩, ht _ kw174, ht _ ks0⟩ (g_pV (g_prW x_Zok hK hP hD hS hA hz _) (g_rc hK hP (5) x_at5 rfl)) rfl rfl hl.1 rfl (lv_room (Nat.le_of_ble_eq_true rfl)) d_P_swap_107 ⟨Nat.le_of_ble_eq_true rfl, Nat.le_of_ble_eq_true rfl⟩) hD hS hA (fun τ39 H locs e38 hP hD hS => ?_)
          have hF : f_P_swap σ o dn am lim = f_P_swap_107_40 σ o dn am lim r3 r10 τ18 r21 τ27 r29 τ39 := hF.trans (by rw [e38]; try rfl)
          have hQ : k_P_swap_107_40 σ o dn am lim r3 r10 τ18 r21 τ27 r29 τ39 := by rw [e38]; exact hQ
          refine lv_aload_n hx hb d_P_swap_110 rfl (lv_at hl 1 rfl) ?_
          refine lv_iload_n hx hb d_P_swap_111 rfl (lv_at hl 2 rfl) ?_
          refine lv_iload hx hb d_P_swap_112 (lv_at hl 0 rfl) ?_
          refine lv_aload_n hx hb d_P_swap_114 rfl (lv_at hl 1 rfl) ?_
          refine g_get hx hb ht in_P hown hK hP (0) x_at0 rfl 6 (by decide) rfl (ht _ kw135) (fun _ h9 => h9) (v := .ref (ad 9)) rfl d_P_swap_115 ?_
          refine g_getN hx hb ht in_D hown hK hP (9) x_at9 rfl 6 (by decide) rfl (va_Nw.use rfl (hz.1 _ nk109)) (fun _ h9 => h9) (v := .long (τ39.2 9 6)) rfl d_P_swap_118 ?_
          obtain ⟨hs41, hQ⟩ := hQ
          refine g_cWv (va_runV (As := [.int o, .int r29, .long (τ39.2 9 6)]) (rest := []) ⟨hx, hb, hml, hown, ht⟩ (c_P_transfer l dC dI dA ad tb H.size τ39 o r29 (τ39.2 9 6) hs41) (cwV 3 ht gc_P_165 rfl rfl rfl (by decide +kernel) ⟨Nat.le_of_ble_eq_true rfl, Nat.le_of_ble_eq_true rfl⟩) (g_pV (g_prW x_Zok hK hP hD hS hA hz _) (g_rc hK hP (0) x_at0 rfl)) rfl rfl hl.1 rfl (lv_room (Nat.le_of_ble_eq_true rfl)) d_P_swap_121 ⟨Nat.le_of_ble_eq_true rfl, Nat.le_of_ble_eq_true rfl⟩) hD hS hA (fun τ44 H locs e43 hP hD hS => ?_)
          have hF : f_P_swap σ o dn am lim = f_P_swap_121_45 σ o dn am lim r3 r10 τ18 r21 τ27 r29 τ39 τ44 := hF.trans (by rw [e43]; try rfl)
          have hQ : k_P_swap_121_45 σ o dn am lim r3 r10 τ18 r21 τ27 r29 τ39 τ44 := by rw [e43]; exact hQ
          refine lv_aload_n hx hb d_P_swap_124 rfl (lv_at hl 1 rfl) ?_
          refine lv_iload_n hx hb d_P_swap_125 rfl (lv_at hl 2 rfl) ?_
          refine lv_iconst (v := (1 : Int32)) hx hb d_P_swap_126 (by decide) ?_
          refine lv_iload hx hb d_P_swap_127 (lv_at hl 0 rfl) ?_
          refine lv_isub hx hb d_P_swap_129 ?_
          refine lv_aload_n hx hb d_P_swap_130 rfl (lv_at hl 1 rfl) ?_
          refine g_get hx hb ht in_P hown hK hP (0) x_at0 rfl 6 (by decide) rfl (ht _ kw135) (fun _ h9 => h9) (v := .ref (ad 9)) rfl d_P_swap_131 ?_
          refine g_getN hx hb ht in_D hown hK hP (9) x_at9 rfl 7 (by decide) rfl (va_Nw.use rfl (hz.1 _ nk111)) (fun _ h9 => h9) (v := .long (τ44.2 9 7)) rfl d_P_swap_134 ?_
          refine lv_lneg hx hb d_P_swap_137 ?_
          obtain ⟨hs46, hQ⟩ := hQ
          refine g_cWv (va_runV (As := [.int o, .int ((1 : Int32) - r29), .long (-(τ44.2 9 7))]) (rest := []) ⟨hx, hb, hml, hown, ht⟩ (c_P_transfer l dC dI dA ad tb H.size τ44 o ((1 : Int32) - r29) (-(τ44.2 9 7)) hs46) (cwV 3 ht gc_P_165 rfl rfl rfl (by decide +kernel) ⟨Nat.le_of_ble_eq_true rfl, Nat.le_of_ble_eq_true rfl⟩) (g_pV (g_prW x_Zok hK hP hD hS hA hz _) (g_rc hK hP (0) x_at0 rfl)) rfl rfl hl.1 rfl (lv_room (Nat.le_of_ble_eq_true rfl)) d_P_swap_138 ⟨Nat.le_of_ble_eq_true rfl, Nat.le_of_ble_eq_true rfl⟩) hD hS hA (fun τ49 H locs e48 hP hD hS => ?_)
          have hF : f_P_swap σ o dn am lim = f_P_swap_138_50 σ o dn am lim r3 r10 τ18 r21 τ27 r29 τ39 τ44 τ49 := hF.trans (by rw [e48]; try rfl)
          have hQ : k_P_swap_138_50 σ o dn am lim r3 r10 τ18 r21 τ27 r29 τ39 τ44 τ49 := by rw [e48]; exact hQ
          refine lv_aload_n hx hb d_P_swap_141 rfl (lv_at hl 1 rfl) ?_
          refine g_get hx hb ht in_P hown hK hP (0) x_at0 rfl 4 (by decide) rfl (ht _ kw133) (fun _ h9 => h9) (v := .ref (ad 3)) rfl d_P_swap_142 ?_
          refine lv_iload hx hb d_P_swap_145 (lv_at hl 0 rfl) ?_
          obtain ⟨hs51, hQ⟩ := hQ
          refine g_cWv (va_runVN (host := "RangedPool") (As := [.int r29]) (rest := []) ⟨hx, hb, hml, hown, ht⟩ (c_B_keepPendingGrowth l dC dI dA ad tb H.size τ49 r29 hs51) ⟨va_cnB 1 ht gn_B_keepPendingGrowth rfl rfl rfl (hz.1 _ nk372) (ht _ kw2) (by decide +kernel) ⟨Nat.le_of_ble_eq_true rfl, Nat.le_of_ble_eq_true rfl⟩, ht _ kw374, ht _ ks32⟩ (g_pV (g_prW x_Zok hK hP hD hS hA hz _) (g_rc hK hP (3) x_at3 rfl)) rfl rfl hl.1 rfl (lv_room (Nat.le_of_ble_eq_true rfl)) d_P_swap_147 ⟨Nat.le_of_ble_eq_true rfl, Nat.le_of_ble_eq_true rfl⟩) hD hS hA (fun τ54 H locs e53 hP hD hS => ?_)
          have hF : f_P_swap σ o dn am lim = f_P_swap_147_55 σ o dn am lim r3 r10 τ18 r21 τ27 r29 τ39 τ44 τ49 τ54 := hF.trans (by rw [e53]; try rfl)
          have hQ : k_P_swap_147_55 σ o dn am lim r3 r10 τ18 r21 τ27 r29 τ39 τ44 τ49 τ54 := by rw [e53]; exact hQ
          refine lv_aload_n hx hb d_P_swap_150 rfl (lv_at hl 1 rfl) ?_
          refine lv_aload_n hx hb d_P_swap_151 rfl (lv_at hl 1 rfl) ?_
          refine g_get hx hb ht in_P hown hK hP (0) x_at0 rfl 6 (by decide) rfl (ht _ kw135) (fun _ h9 => h9) (v := .ref (ad 9)) rfl d_P_swap_152 ?_
          refine g_getN hx hb ht in_D hown hK hP (9) x_at9 rfl 4 (by decide) rfl (va_Nw.use rfl (hz.1 _ nk105)) (fun _ h9 => h9) (v := .int (τ54.1 9 4)) rfl d_P_swap_155 ?_
          refine g_putI (v := τ54.1 9 4) (ty := .int) hx hb ht in_P yt_P yt_P_ok n_P hown hK hP hD hS (0) x_at0 rfl 8 (by decide) rfl (ht _ kw137) (fun _ h9 => h9) rfl (by decide +kernel) (rfl) (rfl) d_P_swap_158 (fun H locs hP hD hS => ?_)
          refine lv_aload_n hx hb d_P_swap_161 rfl (lv_at hl 1 rfl) ?_
          refine lv_aload_n hx hb d_P_swap_162 rfl (lv_at hl 1 rfl) ?_
          refine g_get hx hb ht in_P hown hK hP (0) x_at0 rfl 6 (by decide) rfl (ht _ kw135) (fun _ h9 => h9) (v := .ref (ad 9)) rfl d_P_swap_163 ?_
          refine g_getN hx hb ht in_D hown hK hP (9) x_at9 rfl 5 (by decide) rfl (va_Nw.use rfl (hz.1 _ nk107)) (fun _ h9 => h9) (v := .int (τ54.1 9 5)) rfl d_P_swap_166 ?_
          refine g_putI (v := τ54.1 9 5) (ty := .int) hx hb ht in_P yt_P yt_P_ok n_P hown hK hP hD hS (0) x_at0 rfl 9 (by decide) rfl (ht _ kw138) (fun _ h9 => h9) rfl (by decide +kernel) (rfl) (rfl) d_P_swap_169 (fun H locs hP hD hS => ?_)
          refine lv_aload_n hx hb d_P_swap_172 rfl (lv_at hl 1 rfl) ?_
          refine g_get hx hb ht in_P hown hK hP (0) x_at0 rfl 6 (by decide) rfl (ht _ kw135) (fun _ h9 => h9) (v := .ref (ad 9)) rfl d_P_swap_173 ?_
          refine g_getN hx hb ht in_D hown hK hP (9) x_at9 rfl 6 (by decide) rfl (va_Nw.use rfl (hz.1 _ nk109)) (fun _ h9 => h9) (v := .long (τ54.2 9 6)) rfl d_P_swap_176 ?_
          refine lv_aload_n hx hb d_P_swap_179 rfl (lv_at hl 1 rfl) ?_
          refine g_get hx hb ht in_P hown hK hP (0) x_at0 rfl 6 (by decide) rfl (ht _ kw135) (fun _ h9 => h9) (v := .ref (ad 9)) rfl d_P_swap_180 ?_
          refine g_getN hx hb ht in_D hown hK hP (9) x_at9 rfl 7 (by decide) rfl (va_Nw.use rfl (hz.1 _ nk111)) (fun _ h9 => h9) (v := .long (τ54.2 9 7)) rfl d_P_swap_183 ?_
          refine g_cSlE (va_runS (As := [.long (τ54.2 9 6), .long (τ54.2 9 7)]) (rest := []) ⟨hx, hb, hml, hown, ht⟩ (c_P_pair l (τ54.2 9 6) (τ54.2 9 7)) (va_cwS 2 ht gc_P_134 rfl rfl rfl (by decide +kernel) ⟨Nat.le_of_ble_eq_true rfl, Nat.le_of_ble_eq_true rfl⟩) (g_pr0 _) rfl rfl hl.1 rfl (lv_room (Nat.le_of_ble_eq_true rfl)) d_P_swap_186 ⟨Nat.le_of_ble_eq_true rfl, Nat.le_of_ble_eq_true rfl⟩) ?_
          exact W.lret (v := f_P_pair (τ54.2 9 6) (τ54.2 9 7)) hx hb hr (fun t hh hW => ⟨⟨f_P_pair (τ54.2 9 6) (τ54.2 9 7), g_I (g_I τ54 0 8 (τ54.1 9 4)) 0 9 (τ54.1 9 5), rfl, hF.symm, by show va_P (dC, dI) cls (g_w x_sh dA ad (g_I (g_I τ54 0 8 (τ54.1 9 4)) 0 9 (τ54.1 9 5))) t.heap; rw [hh]; exact hP⟩, hS.F hh⟩) hS.2.2 d_P_swap_189
        ·
          have c34 : ¬ ((τ27.2 9 6) ≤ (τ27.2 (o.toNatClampNeg + 10) r29.toNatClampNeg)) := mt (lg_cmp_ge _ _).mpr c34
          have hF : f_P_swap σ o dn am lim = f_P_swap_95_58 σ o dn am lim r3 r10 τ18 r21 τ27 r29 := hF.trans (if_neg c34)
          have hQ : k_P_swap_95_58 σ o dn am lim r3 r10 τ18 r21 τ27 r29 := Eq.mp (if_neg c34) hQ
          refine lv_ldc2 (v := (-5 : Int64)) hx hb hown (ht _ kw246) d_P_swap_95 ?_
          exact W.lret (v := (-5 : Int64)) hx hb hr (fun t hh hW => ⟨⟨(-5 : Int64), τ27, rfl, hF.symm, by show va_P (dC, dI) cls (g_w x_sh dA ad τ27) t.heap; rw [hh]; exact hP⟩, hS.F hh⟩) hS.2.2 d_P_swap_98
      ·
        have c13 : r10 = 0 := c13
        have hF : f_P_swap σ o dn am lim = f_P_swap_29_59 σ o dn am lim r3 r10 := hF.trans (if_pos c13)
        have hQ : k_P_swap_29_59 σ o dn am lim r3 r10 := Eq.mp (if_pos c13) hQ
        refine lv_ldc2 (v := (-2 : Int64)) hx hb hown (ht _ kw201) d_P_swap_29 ?_
        exact W.lret (v := (-2 : Int64)) hx hb hr (fun t hh hW => ⟨⟨(-2 : Int64), σ, rfl, hF.symm, by show va_P (dC, dI) cls (g_w x_sh dA ad σ) t.heap; rw [hh]; exact hP⟩, hS.F hh⟩) hS.2.2 d_P_swap_32
  ·
    have c1 : (σ.1 0 7) = 0 := c1
    have hF : f_P_swap σ o dn am lim = f_P_swap_7_60 σ o dn am lim := hF.trans (if_pos c1)
    have hQ : k_P_swap_7_60 σ o dn am lim := Eq.mp (if_pos c1) hQ
    refine lv_ldc2 (v := (-1 : Int64)) hx hb hown (ht _ kw195) d_P_swap_7 ?_
    exact W.lret (v := (-1 : Int64)) hx hb hr (fun t hh hW => ⟨⟨(-1 : Int64), σ, rfl, hF.symm, by show va_P (dC, dI) cls (g_w x_sh dA ad σ) t.heap; rw [hh]; exact hP⟩, hS.F hh⟩) hS.2.2 d_P_swap_10
def f_P_quote_54_22 (σ : g_S) (dn : Int32) (am : Int32) (lim : Int32) (r4 : Int32) (τ12 : g_S) (r15 : Int32) (τ21 : g_S) : Int64 × g_S := (f_P_pair (τ21.2 9 6) (τ21.2 9 7), τ21)
def k_P_quote_54_22 (σ : g_S) (dn : Int32) (am : Int32) (lim : Int32) (r4 : Int32) (τ12 : g_S) (r15 : Int32) (τ21 : g_S) : Prop := True
def f_P_quote_51_17 (σ : g_S) (dn : Int32) (am : Int32) (lim : Int32) (r4 : Int32) (τ12 : g_S) (r15 : Int32) : Int64 × g_S := (f_P_quote_54_22 σ dn am lim r4 τ12 r15 (f_D_workOut τ12 am r15))
def k_P_quote_51_17 (σ : g_S) (dn : Int32) (am : Int32) (lim : Int32) (r4 : Int32) (τ12 : g_S) (r15 : Int32) : Prop := (k_D_workOut τ12 am r15) ∧ (k_P_quote_54_22 σ dn am lim r4 τ12 r15 (f_D_workOut τ12 am r15))
def f_P_quote_38_13 (σ : g_S) (dn : Int32) (am : Int32) (lim : Int32) (r4 : Int32) (τ12 : g_S) : Int64 × g_S := (f_P_quote_51_17 σ dn am lim r4 τ12 (f_P_priceOf lim))
def k_P_quote_38_13 (σ : g_S) (dn : Int32) (am : Int32) (lim : Int32) (r4 : Int32) (τ12 : g_S) : Prop := (k_P_priceOf lim) ∧ (k_P_quote_51_17 σ dn am lim r4 τ12 (f_P_priceOf lim))
def f_P_quote_25_8 (σ : g_S) (dn : Int32) (am : Int32) (lim : Int32) (r4 : Int32) : Int64 × g_S := (f_P_quote_38_13 σ dn am lim r4 (f_D_startAt σ (σ.1 0 8) (σ.1 0 9) dn))
def k_P_quote_25_8 (σ : g_S) (dn : Int32) (am : Int32) (lim : Int32) (r4 : Int32) : Prop := (k_D_startAt σ (σ.1 0 8) (σ.1 0 9) dn) ∧ (k_P_quote_38_13 σ dn am lim r4 (f_D_startAt σ (σ.1 0 8) (σ.1 0 9) dn))
def f_P_quote_21_25 (σ : g_S) (dn : Int32) (am : Int32) (lim : Int32) (r4 : Int32) : Int64 × g_S := ((-2 : Int64), σ)
def k_P_quote_21_25 (σ : g_S) (dn : Int32) (am : Int32) (lim : Int32) (r4 : Int32) : Prop := True
def f_P_quote_15_6 (σ : g_S) (dn : Int32) (am : Int32) (lim : Int32) (r4 : Int32) : Int64 × g_S := (if r4 = 0 then f_P_quote_21_25 σ dn am lim r4 else f_P_quote_25_8 σ dn am lim r4)
def k_P_quote_15_6 (σ : g_S) (dn : Int32) (am : Int32) (lim : Int32) (r4 : Int32) : Prop := (if r4 = 0 then k_P_quote_21_25 σ dn am lim r4 else k_P_quote_25_8 σ dn am lim r4)
def f_P_quote_11_2 (σ : g_S) (dn : Int32) (am : Int32) (lim : Int32) : Int64 × g_S := (f_P_quote_15_6 σ dn am lim (f_P_isTrade σ dn am lim))
def k_P_quote_11_2 (σ : g_S) (dn : Int32) (am : Int32) (lim : Int32) : Prop := (k_P_isTrade σ dn am lim) ∧ (k_P_quote_15_6 σ dn am lim (f_P_isTrade σ dn am lim))
def f_P_quote_7_26 (σ : g_S) (dn : Int32) (am : Int32) (lim : Int32) : Int64 × g_S := ((-1 : Int64), σ)
def k_P_quote_7_26 (σ : g_S) (dn : Int32) (am : Int32) (lim : Int32) : Prop := True
def f_P_quote (σ : g_S) (dn : Int32) (am : Int32) (lim : Int32) : Int64 × g_S := (if (σ.1 0 7) = 0 then f_P_quote_7_26 σ dn am lim else f_P_quote_11_2 σ dn am lim)
def k_P_quote (σ : g_S) (dn : Int32) (am : Int32) (lim : Int32) : Prop := (if (σ.1 0 7) = 0 then k_P_quote_7_26 σ dn am lim else k_P_quote_11_2 σ dn am lim)
set_option maxHeartbeats 4000000 in
set_option maxRecDepth 100000 in
theorem c_P_quote (l : Launch) (dC : Nat → ClassId) (dI : Nat → Nat → Nat) (dA : Nat → ClassId) (ad : Nat → Nat) (tb : Nat) (sz : Nat) (σ : g_S) (dn : Int32) (am : Int32) (lim : Int32) (hQ : k_P_quote σ dn am lim) : Met l y_P_quote w_P_quote ({ frames := 6, cells := 0, slots := 0, locals := 157 }) (va_Pc [.ref (ad 0), .int dn, .int am, .int lim] (g_W (dC, dI) cls (x_tys dA) (g_w x_sh dA ad σ) sz (x_Z tb))) (va_Ql (fun r τ => (r, τ) = f_P_quote σ dn am lim) (fun τ t => va_P (dC, dI) cls (g_w x_sh dA ad τ) t.heap) (va_A (g_w x_sh dA ad σ) sz)) 0 0 (va_A (g_w x_sh dA ad σ) sz) := by
  refine Met.ofW (cc := b_P_quote) (maxL := 4) (ret := (some .long)) (by decide) rfl ?_
  intro p e s m args below meth c s₁ B hml hv
  obtain ⟨rfl, hsz, hP, hK, hD0, hz⟩ := hv
  have hx := B.exec
  have hb := B.bytes
  have hr := B.returns
  have hts := atoms_spec (ws := w_P_quote) B.pre
  have ht := fun (w : Cond) (h : w ∈ gA) => hts w (List.mem_cons_of_mem _ h)
  have hown : s.vm.findClass "RangedPool" = some m.cls := findClass_of_methodNamed B.named
  have hlocks := B.notSynchronized
  subst hsz
  have hD := hD0.self (sz := s.heap.size)
  have hA : ∀ q : Nat, s.heap.size ≤ q → va_A (g_w x_sh dA ad σ) s.heap.size q := fun q h => Or.inr h
  generalize hAe : va_A (g_w x_sh dA ad σ) s.heap.size = A at hD hA hz ⊢
  have hS : va_S A s.heap s.heap [] := va_S.rf
  have hl := lv_entry ([.ref (ad 0), .int dn, .int am, .int lim]) (n := 4) (Nat.le_of_ble_eq_true rfl)
  rw [lg_entry_eq]
  generalize (lg_sl ([.ref (ad 0), .int dn, .int am, .int lim]) ++ List.replicate (4 - (lg_sl ([.ref (ad 0), .int dn, .int am, .int lim])).length) Slot.unset).toArray = ls at hl ⊢
  have hl : lv_has ls 4 [(0, .ref (ad 0)), (1, .int dn), (2, .int am), (3, .int lim)] := hl
  have hF : f_P_quote σ dn am lim = f_P_quote σ dn am lim := rfl
  refine lv_aload_n hx hb d_P_quote_0 rfl (lv_at hl 0 rfl) ?_
  refine g_get hx hb ht in_P hown hK hP (0) x_at0 rfl 7 (by decide) rfl (ht _ kw136) (fun _ h9 => h9) (v := .int (σ.1 0 7)) rfl d_P_quote_1 ?_
  refine lv_if_ne (tgt := 11) hx hb d_P_quote_4 (by decide) (fun c1 => ?_) (fun c1 => ?_)
  ·
    have c1 : ¬ ((σ.1 0 7) = 0) := c1
    have hF : f_P_quote σ dn am lim = f_P_quote_11_2 σ dn am lim := hF.trans (if_neg c1)
    have hQ : k_P_quote_11_2 σ dn am lim := Eq.mp (if_neg c1) hQ
    refine lv_aload_n hx hb d_P_quote_11 rfl (lv_at hl 0 rfl) ?_
    refine lv_iload_n hx hb d_P_quote_12 rfl (lv_at hl 1 rfl) ?_
    refine lv_iload_n hx hb d_P_quote_13 rfl (lv_at hl 2 rfl) ?_
    refine lv_iload_n hx hb d_P_quote_14 rfl (lv_at hl 3 rfl) ?_
    obtain ⟨hs3, hQ⟩ := hQ
    refine g_cSi (va_runV (As := [.int dn, .int am, .int lim]) (rest := []) ⟨hx, hb, hml, hown, ht⟩ (c_P_isTrade l dC dI dA ad tb σ dn am lim hs3) (cwV 3 ht gc_P_146 rfl rfl rfl (by decide +kernel) ⟨Nat.le_of_ble_eq_true rfl, Nat.le_of_ble_eq_true rfl⟩) (g_pV (g_prR x_Zok hK hP hS hz _) (g_rc hK hP (0) x_at0 rfl)) rfl rfl hl.1 rfl (lv_room (Nat.le_of_ble_eq_true rfl)) d_P_quote_15 ⟨Nat.le_of_ble_eq_true rfl, Nat.le_of_ble_eq_true rfl⟩) (fun r4 e5 => ?_)
    have hF : f_P_quote σ dn am lim = f_P_quote_15_6 σ dn am lim r4 := hF.trans (by rw [e5]; try rfl)
    have hQ : k_P_quote_15_6 σ dn am lim r4 := by rw [e5]; exact hQ
    refine lv_if_ne (tgt := 25) hx hb d_P_quote_18 (by decide) (fun c7 => ?_) (fun c7 => ?_)
    ·
      have c7 : ¬ (r4 = 0) := c7
      have hF : f_P_quote σ dn am lim = f_P_quote_25_8 σ dn am lim r4 := hF.trans (if_neg c7)
      have hQ : k_P_quote_25_8 σ dn am lim r4 := Eq.mp (if_neg c7) hQ
      refine lv_aload_n hx hb d_P_quote_25 rfl (lv_at hl 0 rfl) ?_
      refine g_get hx hb ht in_P hown hK hP (0) x_at0 rfl 6 (by decide) rfl (ht _ kw135) (fun _ h9 => h9) (v := .ref (ad 9)) rfl d_P_quote_26 ?_
      refine lv_aload_n hx hb d_P_quote_29 rfl (lv_at hl 0 rfl) ?_
      refine g_get hx hb ht in_P hown hK hP (0) x_at0 rfl 8 (by decide) rfl (ht _ kw137) (fun _ h9 => h9) (v := .int (σ.1 0 8)) rfl d_P_quote_30 ?_
      refine lv_aload_n hx hb d_P_quote_33 rfl (lv_at hl 0 rfl) ?_
      refine g_get hx hb ht in_P hown hK hP (0) x_at0 rfl 9 (by decide) rfl (ht _ kw138) (fun _ h9 => h9) (v := .int (σ.1 0 9)) rfl d_P_quote_34 ?_
      refine lv_iload_n hx hb d_P_quote_37 rfl (lv_at hl 1 rfl) ?_
      obtain ⟨hs9, hQ⟩ := hQ
      refine g_cWv (va_runVN (host := "RangedPool") (As := [.int (σ.1 0 8), .int (σ.1 0 9), .int dn]) (rest := []) ⟨hx, hb, hml, hown, ht⟩ (c_D_startAt l dC dI dA ad tb s.heap.size σ (σ.1 0 8) (σ.1 0 9) dn hs9) ⟨va_cnB 3 ht gn_D_startAt rfl rfl rfl (hz.1 _ nk288) (ht _ kw5) (by decide +kernel) ⟨Nat.le_of_ble_eq_true rfl, Nat.le_of_ble_eq_true rfl⟩, ht _ kw290, ht _ ks16⟩ (g_pV (g_prW x_Zok hK hP hD hS hA hz _) (g_rc hK hP (9) x_at9 rfl)) rfl rfl hl.1 rfl (lv_room (Nat.le_of_ble_eq_true rfl)) d_P_quote_38 ⟨Nat.le_of_ble_eq_true rfl, Nat.le_of_ble_eq_true rfl⟩) hD hS hA (fun τ12 H locs e11 hP hD hS => ?_)
      have hF : f_P_quote σ dn am lim = f_P_quote_38_13 σ dn am lim r4 τ12 := hF.trans (by rw [e11]; try rfl)
      have hQ : k_P_quote_38_13 σ dn am lim r4 τ12 := by rw [e11]; exact hQ
      refine lv_aload_n hx hb d_P_quote_41 rfl (lv_at hl 0 rfl) ?_
      refine g_get hx hb ht in_P hown hK hP (0) x_at0 rfl 6 (by decide) rfl (ht _ kw135) (fun _ h9 => h9) (v := .ref (ad 9)) rfl d_P_quote_42 ?_
      refine lv_aload_n hx hb d_P_quote_45 rfl (lv_at hl 0 rfl) ?_
      refine g_get hx hb ht in_P hown hK hP (0) x_at0 rfl 4 (by decide) rfl (ht _ kw133) (fun _ h9 => h9) (v := .ref (ad 3)) rfl d_P_quote_46 ?_
      refine lv_iload_n hx hb d_P_quote_49 rfl (lv_at hl 2 rfl) ?_
      refine lv_iload_n hx hb d_P_quote_50 rfl (lv_at hl 3 rfl) ?_
      obtain ⟨hs14, hQ⟩ := hQ
      refine g_cSi (va_runS (As := [.int lim]) (rest := [.int am, .ref (ad 3), .ref (ad 9)]) ⟨hx, hb, hml, hown, ht⟩ (c_P_priceOf l tb lim hs14) (va_cwS 1 ht gc_P_59 rfl rfl rfl (by decide +kernel) ⟨Nat.le_of_ble_eq_true rfl, Nat.le_of_ble_eq_true rfl⟩) (g_prZ x_Zok hS hz _) rfl rfl hl.1 rfl (lv_room (Nat.le_of_ble_eq_true rfl)) d_P_quote_51 ⟨Nat.le_of_ble_eq_true rfl, Nat.le_of_ble_eq_true rfl⟩) (fun r15 e16 => ?_)
      have hF : f_P_quote σ dn am lim = f_P_quote_51_17 σ dn am lim r4 τ12 r15 := hF.trans (by rw [e16]; try rfl)
      have hQ : k_P_quote_51_17 σ dn am lim r4 τ12 r15 := by rw [e16]; exact hQ
      obtain ⟨hs18, hQ⟩ := hQ
      refine g_cWv (va_runVN (host := "RangedPool") (As := [.ref (ad 3), .int am, .int r15]) (rest := []) ⟨hx, hb, hml, hown, ht⟩ (c_D_workOut l dC dI dA ad tb H.size τ12 am r15 hs18) ⟨va_cnB 3 ht gn_D_workOut rfl rfl rfl (hz.1 _ nk292) (ht _ kw5) (by decide +kernel) ⟨Nat.le_of_ble_eq_true rfl, Nat.le_of_ble_eq_true rfl⟩, ht _ kw294, ht _ ks17⟩ (g_pV (g_prW x_Zok hK hP hD hS hA hz _) (g_rc hK hP (9) x_at9 rfl)) rfl rfl hl.1 rfl (lv_room (Nat.le_of_ble_eq_true rfl)) d_P_quote_54 ⟨Nat.le_of_ble_eq_true rfl, Nat.le_of_ble_eq_true rfl⟩) hD hS hA (fun τ21 H locs e20 hP hD hS => ?_)
      have hF : f_P_quote σ dn am lim = f_P_quote_54_22 σ dn am lim r4 τ12 r15 τ21 := hF.trans (by rw [e20]; try rfl)
      have hQ : k_P_quote_54_22 σ dn am lim r4 τ12 r15 τ21 := by rw [e20]; exact hQ
      refine lv_aload_n hx hb d_P_quote_57 rfl (lv_at hl 0 rfl) ?_
      refine g_get hx hb ht in_P hown hK hP (0) x_at0 rfl 6 (by decide) rfl (ht _ kw135) (fun _ h9 => h9) (v := .ref (ad 9)) rfl d_P_quote_58 ?_
      refine g_getN hx hb ht in_D hown hK hP (9) x_at9 rfl 6 (by decide) rfl (va_Nw.use rfl (hz.1 _ nk109)) (fun _ h9 => h9) (v := .long (τ21.2 9 6)) rfl d_P_quote_61 ?_
      refine lv_aload_n hx hb d_P_quote_64 rfl (lv_at hl 0 rfl) ?_
      refine g_get hx hb ht in_P hown hK hP (0) x_at0 rfl 6 (by decide) rfl (ht _ kw135) (fun _ h9 => h9) (v := .ref (ad 9)) rfl d_P_quote_65 ?_
      refine g_getN hx hb ht in_D hown hK hP (9) x_at9 rfl 7 (by decide) rfl (va_Nw.use rfl (hz.1 _ nk111)) (fun _ h9 => h9) (v := .long (τ21.2 9 7)) rfl d_P_quote_68 ?_
      refine g_cSlE (va_runS (As := [.long (τ21.2 9 6), .long (τ21.2 9 7)]) (rest := []) ⟨hx, hb, hml, hown, ht⟩ (c_P_pair l (τ21.2 9 6) (τ21.2 9 7)) (va_cwS 2 ht gc_P_134 rfl rfl rfl (by decide +kernel) ⟨Nat.le_of_ble_eq_true rfl, Nat.le_of_ble_eq_true rfl⟩) (g_pr0 _) rfl rfl hl.1 rfl (lv_room (Nat.le_of_ble_eq_true rfl)) d_P_quote_71 ⟨Nat.le_of_ble_eq_true rfl, Nat.le_of_ble_eq_true rfl⟩) ?_
      exact W.lret (v := f_P_pair (τ21.2 9 6) (τ21.2 9 7)) hx hb hr (fun t hh hW => ⟨⟨f_P_pair (τ21.2 9 6) (τ21.2 9 7), τ21, rfl, hF.symm, by show va_P (dC, dI) cls (g_w x_sh dA ad τ21) t.heap; rw [hh]; exact hP⟩, hS.F hh⟩) hS.2.2 d_P_quote_74
    ·
      have c7 : r4 = 0 := c7
      have hF : f_P_quote σ dn am lim = f_P_quote_21_25 σ dn am lim r4 := hF.trans (if_pos c7)
      have hQ : k_P_quote_21_25 σ dn am lim r4 := Eq.mp (if_pos c7) hQ
      refine lv_ldc2 (v := (-2 : Int64)) hx hb hown (ht _ kw201) d_P_quote_21 ?_
      exact W.lret (v := (-2 : Int64)) hx hb hr (fun t hh hW => ⟨⟨(-2 : Int64), σ, rfl, hF.symm, by show va_P (dC, dI) cls (g_w x_sh dA ad σ) t.heap; rw [hh]; exact hP⟩, hS.F hh⟩) hS.2.2 d_P_quote_24
  ·
    have c1 : (σ.1 0 7) = 0 := c1
    have hF : f_P_quote σ dn am lim = f_P_quote_7_26 σ dn am lim := hF.trans (if_pos c1)
    have hQ : k_P_quote_7_26 σ dn am lim := Eq.mp (if_pos c1) hQ
    refine lv_ldc2 (v := (-1 : Int64)) hx hb hown (ht _ kw195) d_P_quote_7 ?_
    exact W.lret (v := (-1 : Int64)) hx hb hr (fun t hh hW => ⟨⟨(-1 : Int64), σ, rfl, hF.symm, by show va_P (dC, dI) cls (g_w x_sh dA ad σ) t.heap; rw [hh]; exact hP⟩, hS.F hh⟩) hS.2.2 d_P_quote_10
