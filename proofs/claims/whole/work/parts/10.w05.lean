def f_D_priceAfterTaking_73_12 (σ : g_S) (w : Int64) (tg : Int32) (r2 : Int64) (r10 : Int64) : Int32 := r10.toInt32
def k_D_priceAfterTaking_73_12 (σ : g_S) (w : Int64) (tg : Int32) (r2 : Int64) (r10 : Int64) : Prop := True
def f_D_priceAfterTaking_47_8 (σ : g_S) (w : Int64) (tg : Int32) (r2 : Int64) : Int32 := (f_D_priceAfterTaking_73_12 σ w tg r2 (f_P_quotient ((w * (65536 : Int64)) * ((σ.1 9 4).toInt64)) ((w * (65536 : Int64)) - ((-(σ.2 9 3)) * ((σ.1 9 4).toInt64))) (1 : Int32)))
def k_D_priceAfterTaking_47_8 (σ : g_S) (w : Int64) (tg : Int32) (r2 : Int64) : Prop := (k_P_quotient ((w * (65536 : Int64)) * ((σ.1 9 4).toInt64)) ((w * (65536 : Int64)) - ((-(σ.2 9 3)) * ((σ.1 9 4).toInt64))) (1 : Int32)) ∧ (k_D_priceAfterTaking_73_12 σ w tg r2 (f_P_quotient ((w * (65536 : Int64)) * ((σ.1 9 4).toInt64)) ((w * (65536 : Int64)) - ((-(σ.2 9 3)) * ((σ.1 9 4).toInt64))) (1 : Int32)))
def f_D_priceAfterTaking_41_17 (σ : g_S) (w : Int64) (tg : Int32) (r2 : Int64) (r15 : Int64) : Int32 := (((σ.1 9 4).toInt64) - r15).toInt32
def k_D_priceAfterTaking_41_17 (σ : g_S) (w : Int64) (tg : Int32) (r2 : Int64) (r15 : Int64) : Prop := True
def f_D_priceAfterTaking_28_13 (σ : g_S) (w : Int64) (tg : Int32) (r2 : Int64) : Int32 := (f_D_priceAfterTaking_41_17 σ w tg r2 (f_P_quotient ((-(σ.2 9 3)) * (65536 : Int64)) w (1 : Int32)))
def k_D_priceAfterTaking_28_13 (σ : g_S) (w : Int64) (tg : Int32) (r2 : Int64) : Prop := (k_P_quotient ((-(σ.2 9 3)) * (65536 : Int64)) w (1 : Int32)) ∧ (k_D_priceAfterTaking_41_17 σ w tg r2 (f_P_quotient ((-(σ.2 9 3)) * (65536 : Int64)) w (1 : Int32)))
def f_D_priceAfterTaking_21_6 (σ : g_S) (w : Int64) (tg : Int32) (r2 : Int64) : Int32 := (if (σ.1 9 1) = 0 then f_D_priceAfterTaking_47_8 σ w tg r2 else f_D_priceAfterTaking_28_13 σ w tg r2)
def k_D_priceAfterTaking_21_6 (σ : g_S) (w : Int64) (tg : Int32) (r2 : Int64) : Prop := (if (σ.1 9 1) = 0 then k_D_priceAfterTaking_47_8 σ w tg r2 else k_D_priceAfterTaking_28_13 σ w tg r2)
def f_D_priceAfterTaking_19_18 (σ : g_S) (w : Int64) (tg : Int32) (r2 : Int64) : Int32 := tg
def k_D_priceAfterTaking_19_18 (σ : g_S) (w : Int64) (tg : Int32) (r2 : Int64) : Prop := True
def f_D_priceAfterTaking_12_4 (σ : g_S) (w : Int64) (tg : Int32) (r2 : Int64) : Int32 := (if (-(σ.2 9 3)) < r2 then f_D_priceAfterTaking_21_6 σ w tg r2 else f_D_priceAfterTaking_19_18 σ w tg r2)
def k_D_priceAfterTaking_12_4 (σ : g_S) (w : Int64) (tg : Int32) (r2 : Int64) : Prop := (if (-(σ.2 9 3)) < r2 then k_D_priceAfterTaking_21_6 σ w tg r2 else k_D_priceAfterTaking_19_18 σ w tg r2)
def f_D_priceAfterTaking (σ : g_S) (w : Int64) (tg : Int32) : Int32 := (f_D_priceAfterTaking_12_4 σ w tg (f_D_amountOut σ w tg))
def k_D_priceAfterTaking (σ : g_S) (w : Int64) (tg : Int32) : Prop := (k_D_amountOut σ w tg) ∧ (k_D_priceAfterTaking_12_4 σ w tg (f_D_amountOut σ w tg))
set_option maxHeartbeats 4000000 in
set_option maxRecDepth 100000 in
theorem c_D_priceAfterTaking (l : Launch) (dC : Nat → ClassId) (dI : Nat → Nat → Nat) (dA : Nat → ClassId) (ad : Nat → Nat) (tb : Nat) (σ : g_S) (w : Int64) (tg : Int32) (hQ : k_D_priceAfterTaking σ w tg) : Met l y_D_priceAfterTaking w_D_priceAfterTaking ({ frames := 3, cells := 0, slots := 0, locals := 75 }) (va_Pc [.ref (ad 9), .long w, .int tg] (g_R (dC, dI) cls (x_tys dA) (g_w x_sh dA ad σ) (x_Z tb))) (vp_Si (fun r => r = f_D_priceAfterTaking σ w tg)) 0 0 (fun _ => False) := by
  refine Met.ofW (cc := b_D_priceAfterTaking) (maxL := 6) (ret := (some .int)) (by decide) rfl ?_
  intro p e s m args below meth c s₁ B hml hv
  obtain ⟨rfl, hP, hK, hz⟩ := hv
  have hx := B.exec
  have hb := B.bytes
  have hr := B.returns
  have hts := atoms_spec (ws := w_D_priceAfterTaking) B.pre
  have ht := fun (w : Cond) (h : w ∈ gA) => hts w (List.mem_cons_of_mem _ h)
  have hown : s.vm.findClass "RangedPool$Trade" = some m.cls := findClass_of_methodNamed B.named
  have hlocks := B.notSynchronized
  have hS : va_S (fun _ => False) s.heap s.heap [] := va_S.rf
  have hl := lv_entry ([.ref (ad 9), .long w, .int tg]) (n := 6) (Nat.le_of_ble_eq_true rfl)
  rw [lg_entry_eq]
  generalize (lg_sl ([.ref (ad 9), .long w, .int tg]) ++ List.replicate (6 - (lg_sl ([.ref (ad 9), .long w, .int tg])).length) Slot.unset).toArray = ls at hl ⊢
  have hl : lv_has ls 6 [(0, .ref (ad 9)), (1, .long w), (3, .int tg)] := hl
  have hF : f_D_priceAfterTaking σ w tg = f_D_priceAfterTaking σ w tg := rfl
  refine lv_aload_n hx hb d_D_priceAfterTaking_0 rfl (lv_at hl 0 rfl) ?_
  refine g_get hx hb ht in_D hown hK hP (9) x_at9 rfl 3 (by decide) rfl (ht _ kw103) (fun _ h9 => h9) (v := .long (σ.2 9 3)) rfl d_D_priceAfterTaking_1 ?_
  refine lv_lneg hx hb d_D_priceAfterTaking_4 ?_
  refine lv_lstore (lv' := [(4, .long (-(σ.2 9 3))), (0, .ref (ad 9)), (1, .long w), (3, .int tg)]) hx hb d_D_priceAfterTaking_5 hl (by decide) rfl (fun ls hl => ?_)
  refine lv_lload hx hb d_D_priceAfterTaking_7 (lv_at hl 0 rfl) ?_
  refine lv_aload_n hx hb d_D_priceAfterTaking_9 rfl (lv_at hl 1 rfl) ?_
  refine lv_lload_n hx hb d_D_priceAfterTaking_10 rfl (lv_at hl 2 rfl) ?_
  refine lv_iload_n hx hb d_D_priceAfterTaking_11 rfl (lv_at hl 3 rfl) ?_
  obtain ⟨hs1, hQ⟩ := hQ
  refine g_cSl (va_runV (As := [.long w, .int tg]) (rest := [.long (-(σ.2 9 3))]) ⟨hx, hb, hml, hown, ht⟩ (c_D_amountOut l dC dI dA ad tb σ w tg hs1) (cwV 2 ht gc_D_72 rfl rfl rfl (by decide +kernel) ⟨Nat.le_of_ble_eq_true rfl, Nat.le_of_ble_eq_true rfl⟩) (g_pV (g_prR x_Zok hK hP hS hz _) (g_rc hK hP (9) x_at9 rfl)) rfl rfl hl.1 rfl (lv_room (Nat.le_of_ble_eq_true rfl)) d_D_priceAfterTaking_12 ⟨Nat.le_of_ble_eq_true rfl, Nat.le_of_ble_eq_true rfl⟩) (fun r2 e3 => ?_)
  have hF : f_D_priceAfterTaking σ w tg = f_D_priceAfterTaking_12_4 σ w tg r2 := hF.trans (by rw [e3]; try rfl)
  have hQ : k_D_priceAfterTaking_12_4 σ w tg r2 := by rw [e3]; exact hQ
  refine W.lcmp hx hb d_D_priceAfterTaking_15 ?_
  refine lv_if_lt (tgt := 21) hx hb d_D_priceAfterTaking_16 (by decide) (fun c5 => ?_) (fun c5 => ?_)
  ·
    have c5 : (-(σ.2 9 3)) < r2 := (lg_cmp_lt _ _).mp c5
    have hF : f_D_priceAfterTaking σ w tg = f_D_priceAfterTaking_21_6 σ w tg r2 := hF.trans (if_pos c5)
    have hQ : k_D_priceAfterTaking_21_6 σ w tg r2 := Eq.mp (if_pos c5) hQ
    refine lv_aload_n hx hb d_D_priceAfterTaking_21 rfl (lv_at hl 1 rfl) ?_
    refine g_get hx hb ht in_D hown hK hP (9) x_at9 rfl 1 (by decide) rfl (ht _ kw101) (fun _ h9 => h9) (v := .int (σ.1 9 1)) rfl d_D_priceAfterTaking_22 ?_
    refine lv_if_eq (tgt := 47) hx hb d_D_priceAfterTaking_25 (by decide) (fun c7 => ?_) (fun c7 => ?_)
    ·
      have c7 : (σ.1 9 1) = 0 := c7
      have hF : f_D_priceAfterTaking σ w tg = f_D_priceAfterTaking_47_8 σ w tg r2 := hF.trans (if_pos c7)
      have hQ : k_D_priceAfterTaking_47_8 σ w tg r2 := Eq.mp (if_pos c7) hQ
      refine lv_lload_n hx hb d_D_priceAfterTaking_47 rfl (lv_at hl 2 rfl) ?_
      refine lv_ldc2 (v := (65536 : Int64)) hx hb hown (ht _ kw342) d_D_priceAfterTaking_48 ?_
      refine lv_lmul hx hb d_D_priceAfterTaking_51 ?_
      refine lv_aload_n hx hb d_D_priceAfterTaking_52 rfl (lv_at hl 1 rfl) ?_
      refine g_get hx hb ht in_D hown hK hP (9) x_at9 rfl 4 (by decide) rfl (ht _ kw104) (fun _ h9 => h9) (v := .int (σ.1 9 4)) rfl d_D_priceAfterTaking_53 ?_
      refine lv_i2l (v := (σ.1 9 4).toInt64) hx hb d_D_priceAfterTaking_56 rfl ?_
      refine lv_lmul hx hb d_D_priceAfterTaking_57 ?_
      refine lv_lload_n hx hb d_D_priceAfterTaking_58 rfl (lv_at hl 2 rfl) ?_
      refine lv_ldc2 (v := (65536 : Int64)) hx hb hown (ht _ kw342) d_D_priceAfterTaking_59 ?_
      refine lv_lmul hx hb d_D_priceAfterTaking_62 ?_
      refine lv_lload hx hb d_D_priceAfterTaking_63 (lv_at hl 0 rfl) ?_
      refine lv_aload_n hx hb d_D_priceAfterTaking_65 rfl (lv_at hl 1 rfl) ?_
      refine g_get hx hb ht in_D hown hK hP (9) x_at9 rfl 4 (by decide) rfl (ht _ kw104) (fun _ h9 => h9) (v := .int (σ.1 9 4)) rfl d_D_priceAfterTaking_66 ?_
      refine lv_i2l (v := (σ.1 9 4).toInt64) hx hb d_D_priceAfterTaking_69 rfl ?_
      refine lv_lmul hx hb d_D_priceAfterTaking_70 ?_
      refine lv_lsub hx hb d_D_priceAfterTaking_71 ?_
      refine lv_iconst (v := (1 : Int32)) hx hb d_D_priceAfterTaking_72 (by decide) ?_
      obtain ⟨hs9, hQ⟩ := hQ
      refine g_cSl (va_runSN (host := "RangedPool") (As := [.long ((w * (65536 : Int64)) * ((σ.1 9 4).toInt64)), .long ((w * (65536 : Int64)) - ((-(σ.2 9 3)) * ((σ.1 9 4).toInt64))), .int (1 : Int32)]) (rest := []) ⟨hx, hb, hml, hown, ht⟩ (c_P_quotient l ((w * (65536 : Int64)) * ((σ.1 9 4).toInt64)) ((w * (65536 : Int64)) - ((-(σ.2 9 3)) * ((σ.1 9 4).toInt64))) (1 : Int32) hs9) ⟨va_cnB 3 ht gn_P_quotient rfl rfl rfl (hz.1 _ nk343) (ht _ kw1) (by decide +kernel) ⟨Nat.le_of_ble_eq_true rfl, Nat.le_of_ble_eq_true rfl⟩, ht _ kw233, trivial⟩ (g_pr0 _) rfl rfl hl.1 rfl (lv_room (Nat.le_of_ble_eq_true rfl)) d_D_priceAfterTaking_73 ⟨Nat.le_of_ble_eq_true rfl, Nat.le_of_ble_eq_true rfl⟩) (fun r10 e11 => ?_)
      have hF : f_D_priceAfterTaking σ w tg = f_D_priceAfterTaking_73_12 σ w tg r2 r10 := hF.trans (by rw [e11]; try rfl)
      have hQ : k_D_priceAfterTaking_73_12 σ w tg r2 r10 := by rw [e11]; exact hQ
      refine lv_l2i (v := r10.toInt32) hx hb d_D_priceAfterTaking_76 rfl ?_
      exact W.iret (v := r10.toInt32) hx hb hr (fun t hh hW => ⟨_, rfl, hF.symm, hh⟩) (fun _ h => by cases h) d_D_priceAfterTaking_77
    ·
      have c7 : ¬ ((σ.1 9 1) = 0) := c7
      have hF : f_D_priceAfterTaking σ w tg = f_D_priceAfterTaking_28_13 σ w tg r2 := hF.trans (if_neg c7)
      have hQ : k_D_priceAfterTaking_28_13 σ w tg r2 := Eq.mp (if_neg c7) hQ
      refine lv_aload_n hx hb d_D_priceAfterTaking_28 rfl (lv_at hl 1 rfl) ?_
      refine g_get hx hb ht in_D hown hK hP (9) x_at9 rfl 4 (by decide) rfl (ht _ kw104) (fun _ h9 => h9) (v := .int (σ.1 9 4)) rfl d_D_priceAfterTaking_29 ?_
      refine lv_i2l (v := (σ.1 9 4).toInt64) hx hb d_D_priceAfterTaking_32 rfl ?_
      refine lv_lload hx hb d_D_priceAfterTaking_33 (lv_at hl 0 rfl) ?_
      refine lv_ldc2 (v := (65536 : Int64)) hx hb hown (ht _ kw342) d_D_priceAfterTaking_35 ?_
      refine lv_lmul hx hb d_D_priceAfterTaking_38 ?_
      refine lv_lload_n hx hb d_D_priceAfterTaking_39 rfl (lv_at hl 2 rfl) ?_
      refine lv_iconst (v := (1 : Int32)) hx hb d_D_priceAfterTaking_40 (by decide) ?_
      obtain ⟨hs14, hQ⟩ := hQ
      refine g_cSl (va_runSN (host := "RangedPool") (As := [.long ((-(σ.2 9 3)) * (65536 : Int64)), .long w, .int (1 : Int32)]) (rest := [.long ((σ.1 9 4).toInt64)]) ⟨hx, hb, hml, hown, ht⟩ (c_P_quotient l ((-(σ.2 9 3)) * (65536 : Int64)) w (1 : Int32) hs14) ⟨va_cnB 3 ht gn_P_quotient rfl rfl rfl (hz.1 _ nk343) (ht _ kw1) (by decide +kernel) ⟨Nat.le_of_ble_eq_true rfl, Nat.le_of_ble_eq_true rfl⟩, ht _ kw233, trivial⟩ (g_pr0 _) rfl rfl hl.1 rfl (lv_room (Nat.le_of_ble_eq_true rfl)) d_D_priceAfterTaking_41 ⟨Nat.le_of_ble_eq_true rfl, Nat.le_of_ble_eq_true rfl⟩) (fun r15 e16 => ?_)
      have hF : f_D_priceAfterTaking σ w tg = f_D_priceAfterTaking_41_17 σ w tg r2 r15 := hF.trans (by rw [e16]; try rfl)
      have hQ : k_D_priceAfterTaking_41_17 σ w tg r2 r15 := by rw [e16]; exact hQ
      refine lv_lsub hx hb d_D_priceAfterTaking_44 ?_
      refine lv_l2i (v := (((σ.1 9 4).toInt64) - r15).toInt32) hx hb d_D_priceAfterTaking_45 rfl ?_
      exact W.iret (v := (((σ.1 9 4).toInt64) - r15).toInt32) hx hb hr (fun t hh hW => ⟨_, rfl, hF.symm, hh⟩) (fun _ h => by cases h) d_D_priceAfterTaking_46
  ·
    have c5 : ¬ ((-(σ.2 9 3)) < r2) := mt (lg_cmp_lt _ _).mpr c5
    have hF : f_D_priceAfterTaking σ w tg = f_D_priceAfterTaking_19_18 σ w tg r2 := hF.trans (if_neg c5)
    have hQ : k_D_priceAfterTaking_19_18 σ w tg r2 := Eq.mp (if_neg c5) hQ
    refine lv_iload_n hx hb d_D_priceAfterTaking_19 rfl (lv_at hl 3 rfl) ?_
    exact W.iret (v := tg) hx hb hr (fun t hh hW => ⟨_, rfl, hF.symm, hh⟩) (fun _ h => by cases h) d_D_priceAfterTaking_20
def f_T_begin (σ : g_S) (k : Nat) (o : Int32) (lo : Int32) (hi : Int32) : g_S := g_I (g_I (g_I σ (k + 14) 0 o) (k + 14) 1 lo) (k + 14) 2 hi
set_option maxHeartbeats 4000000 in
set_option maxRecDepth 100000 in
theorem c_T_begin (l : Launch) (dC : Nat → ClassId) (dI : Nat → Nat → Nat) (dA : Nat → ClassId) (ad : Nat → Nat) (tb : Nat) (sz : Nat) (σ : g_S) (k : Nat) (o : Int32) (lo : Int32) (hi : Int32) (hk : k < 10) : Met l y_T_begin w_T_begin ({ frames := 0, cells := 0, slots := 0, locals := 0 }) (va_Pc [.ref (ad (k + 14)), .int o, .int lo, .int hi] (g_W (dC, dI) cls (x_tys dA) (g_w x_sh dA ad σ) sz (x_Z tb))) (va_Qv (fun τ => τ = f_T_begin σ k o lo hi) (fun τ t => va_P (dC, dI) cls (g_w x_sh dA ad τ) t.heap) (va_A (g_w x_sh dA ad σ) sz)) 0 0 (va_A (g_w x_sh dA ad σ) sz) := by
  refine Met.ofW (cc := b_T_begin) (maxL := 4) (ret := none) (by decide) rfl ?_
  intro p e s m args below meth c s₁ B hml hv
  obtain ⟨rfl, hsz, hP, hK, hD0, hz⟩ := hv
  have hx := B.exec
  have hb := B.bytes
  have hr := B.returns
  have hts := atoms_spec (ws := w_T_begin) B.pre
  have ht := fun (w : Cond) (h : w ∈ gA) => hts w (List.mem_cons_of_mem _ h)
  have hown : s.vm.findClass "RangedPool$Lot" = some m.cls := findClass_of_methodNamed B.named
  have hlocks := B.notSynchronized
  subst hsz
  have hD := hD0.self (sz := s.heap.size)
  have hA : ∀ q : Nat, s.heap.size ≤ q → va_A (g_w x_sh dA ad σ) s.heap.size q := fun q h => Or.inr h
  generalize hAe : va_A (g_w x_sh dA ad σ) s.heap.size = A at hD hA hz ⊢
  have hS : va_S A s.heap s.heap [] := va_S.rf
  have hl := lv_entry ([.ref (ad (k + 14)), .int o, .int lo, .int hi]) (n := 4) (Nat.le_of_ble_eq_true rfl)
  rw [lg_entry_eq]
  generalize (lg_sl ([.ref (ad (k + 14)), .int o, .int lo, .int hi]) ++ List.replicate (4 - (lg_sl ([.ref (ad (k + 14)), .int o, .int lo, .int hi])).length) Slot.unset).toArray = ls at hl ⊢
  have hl : lv_has ls 4 [(0, .ref (ad (k + 14))), (1, .int o), (2, .int lo), (3, .int hi)] := hl
  have hF : f_T_begin σ k o lo hi = f_T_begin σ k o lo hi := rfl
  refine lv_aload_n hx hb d_T_begin_0 rfl (lv_at hl 0 rfl) ?_
  refine lv_iload_n hx hb d_T_begin_1 rfl (lv_at hl 1 rfl) ?_
  refine g_putI (v := o) (ty := .int) hx hb ht in_T yt_T yt_T_ok n_T hown hK hP hD hS (k + 14) (x_at14 hk) rfl 0 (by decide) rfl (ht _ kw31) (fun _ h9 => h9) rfl (by decide +kernel) (rfl) (rfl) d_T_begin_2 (fun H locs hP hD hS => ?_)
  refine lv_aload_n hx hb d_T_begin_5 rfl (lv_at hl 0 rfl) ?_
  refine lv_iload_n hx hb d_T_begin_6 rfl (lv_at hl 2 rfl) ?_
  refine g_putI (v := lo) (ty := .int) hx hb ht in_T yt_T yt_T_ok n_T hown hK hP hD hS (k + 14) (x_at14 hk) rfl 1 (by decide) rfl (ht _ kw32) (fun _ h9 => h9) rfl (by decide +kernel) (rfl) (rfl) d_T_begin_7 (fun H locs hP hD hS => ?_)
  refine lv_aload_n hx hb d_T_begin_10 rfl (lv_at hl 0 rfl) ?_
  refine lv_iload_n hx hb d_T_begin_11 rfl (lv_at hl 3 rfl) ?_
  refine g_putI (v := hi) (ty := .int) hx hb ht in_T yt_T yt_T_ok n_T hown hK hP hD hS (k + 14) (x_at14 hk) rfl 2 (by decide) rfl (ht _ kw34) (fun _ h9 => h9) rfl (by decide +kernel) (rfl) (rfl) d_T_begin_12 (fun H locs hP hD hS => ?_)
  exact W.vret hx hb hr (fun t hh hW => ⟨⟨g_I (g_I (g_I σ (k + 14) 0 o) (k + 14) 1 lo) (k + 14) 2 hi, rfl, hF.symm, by show va_P (dC, dI) cls (g_w x_sh dA ad (g_I (g_I (g_I σ (k + 14) 0 o) (k + 14) 1 lo) (k + 14) 2 hi)) t.heap; rw [hh]; exact hP⟩, hS.F hh⟩) hS.2.2 d_T_begin_15
def f_T_settle_44_5 (σ : g_S) (k : Nat) (τ2 : g_S) : g_S := τ2
def f_T_settle_L2 (σ : g_S) (k : Nat) : Nat → Nat → g_S → g_S
  | 0, jk, τ1 => (τ1)
  | jn + 1, jk, τ1 => f_T_settle_L2 σ k jn (jk + 1) (g_L (g_L τ1 (k + 24) jk ((τ1.2 (k + 24) jk) + (((τ1.2 (k + 34) jk) * (τ1.2 (k + 14) 3)) / (4294967296 : Int64)))) (k + 34) jk (0 : Int64))
def f_T_settle (σ : g_S) (k : Nat) : g_S := (f_T_settle_44_5 σ k (f_T_settle_L2 σ k 2 0 σ))
set_option maxHeartbeats 4000000 in
set_option maxRecDepth 100000 in
theorem c_T_settle (l : Launch) (dC : Nat → ClassId) (dI : Nat → Nat → Nat) (dA : Nat → ClassId) (ad : Nat → Nat) (tb : Nat) (sz : Nat) (σ : g_S) (k : Nat) (hk : k < 10) : Met l y_T_settle w_T_settle ({ frames := 0, cells := 0, slots := 0, locals := 0 }) (va_Pc [.ref (ad (k + 14))] (g_W (dC, dI) cls (x_tys dA) (g_w x_sh dA ad σ) sz (x_Z tb))) (va_Qv (fun τ => τ = f_T_settle σ k) (fun τ t => va_P (dC, dI) cls (g_w x_sh dA ad τ) t.heap) (va_A (g_w x_sh dA ad σ) sz)) 0 0 (va_A (g_w x_sh dA ad σ) sz) := by
  refine Met.ofW (cc := b_T_settle) (maxL := 2) (ret := none) (by decide) rfl ?_
  intro p e s m args below meth c s₁ B hml hv
  obtain ⟨rfl, hsz, hP, hK, hD0, hz⟩ := hv
  have hx := B.exec
  have hb := B.bytes
  have hr := B.returns
  have hts := atoms_spec (ws := w_T_settle) B.pre
  have ht := fun (w : Cond) (h : w ∈ gA) => hts w (List.mem_cons_of_mem _ h)
  have hown : s.vm.findClass "RangedPool$Lot" = some m.cls := findClass_of_methodNamed B.named
  have hlocks := B.notSynchronized
  subst hsz
  have hD := hD0.self (sz := s.heap.size)
  have hA : ∀ q : Nat, s.heap.size ≤ q → va_A (g_w x_sh dA ad σ) s.heap.size q := fun q h => Or.inr h
  generalize hAe : va_A (g_w x_sh dA ad σ) s.heap.size = A at hD hA hz ⊢
  have hS : va_S A s.heap s.heap [] := va_S.rf
  have hl := lv_entry ([.ref (ad (k + 14))]) (n := 2) (Nat.le_of_ble_eq_true rfl)
  rw [lg_entry_eq]
  generalize (lg_sl ([.ref (ad (k + 14))]) ++ List.replicate (2 - (lg_sl ([.ref (ad (k + 14))])).length) Slot.unset).toArray = ls at hl ⊢
  have hl : lv_has ls 2 [(0, .ref (ad (k + 14)))] := hl
  have hF : f_T_settle σ k = f_T_settle σ k := rfl
  refine lv_iconst (v := (0 : Int32)) hx hb d_T_settle_0 (by decide) ?_
  refine lv_istore_n (lv' := [(1, .int (0 : Int32)), (0, .ref (ad (k + 14)))]) hx hb d_T_settle_1 rfl hl (by decide) rfl (fun ls hl => ?_)
  have J44_3 : ∀ (τ2 : g_S) (ls : Array Slot) (H : Heap) (locs : List Loc), τ2 = (f_T_settle_L2 σ k 2 0 σ) → lv_has ls 2 [] → va_P (dC, dI) cls (g_w x_sh dA ad τ2) H → va_D A (g_w x_sh dA ad τ2) → va_S A s.heap H locs → W p l e (headSpec w_T_settle ({ frames := 0, cells := 0, slots := 0, locals := 0 })).room s m ([.ref (ad (k + 14))] : List Value).toArray below meth c H locs 0 0 (MQ below (va_Qv (fun τ => τ = f_T_settle σ k) (fun τ t => va_P (dC, dI) cls (g_w x_sh dA ad τ) t.heap) A) ([.ref (ad (k + 14))] : List Value).toArray s 0 0 A) (F0 m 44 ls []) := by
    intro τ2 ls H locs e4 hl hP hD hS
    have hF : f_T_settle σ k = f_T_settle_44_5 σ k τ2 := hF.trans (by rw [e4]; try rfl)
    exact W.vret hx hb hr (fun t hh hW => ⟨⟨τ2, rfl, hF.symm, by show va_P (dC, dI) cls (g_w x_sh dA ad τ2) t.heap; rw [hh]; exact hP⟩, hS.F hh⟩) hS.2.2 d_T_settle_44
  have LL2_6 : ∀ (jn : Nat) (jk : Nat) (τ1 : g_S) (ls : Array Slot) (H : Heap) (locs : List Loc), jk + jn = 2 → f_T_settle_L2 σ k 2 0 σ = f_T_settle_L2 σ k jn jk τ1 → lv_has ls 2 [(1, .int (Int32.ofNat jk)), (0, .ref (ad (k + 14)))] → va_P (dC, dI) cls (g_w x_sh dA ad τ1) H → va_D A (g_w x_sh dA ad τ1) → va_S A s.heap H locs → W p l e (headSpec w_T_settle ({ frames := 0, cells := 0, slots := 0, locals := 0 })).room s m ([.ref (ad (k + 14))] : List Value).toArray below meth c H locs 0 0 (MQ below (va_Qv (fun τ => τ = f_T_settle σ k) (fun τ t => va_P (dC, dI) cls (g_w x_sh dA ad τ) t.heap) A) ([.ref (ad (k + 14))] : List Value).toArray s 0 0 A) (F0 m 2 ls []) := by
    intro jn
    induction jn with
    | zero =>
      intro jk τ1 ls H locs hkn hF hl hP hD hS
      have hF : f_T_settle_L2 σ k 2 0 σ = (τ1) := hF
      skip
      refine lv_iload_n hx hb d_T_settle_2 rfl (lv_at hl 0 rfl) ?_
      refine lv_iconst (v := (2 : Int32)) hx hb d_T_settle_3 (by decide) ?_
      refine lv_icmp_ge (tgt := 44) hx hb d_T_settle_4 (by decide) (fun _ => ?_) (fun c7 => absurd (g_geN (N := 2) (by omega)) c7)
      exact J44_3 τ1 ls H locs hF.symm (lv_sub hl [] rfl) hP hD hS
    | succ jn ih =>
      intro jk τ1 ls H locs hkn hF hl hP hD hS
      have hF : f_T_settle_L2 σ k 2 0 σ = f_T_settle_L2 σ k jn (jk + 1) (g_L (g_L τ1 (k + 24) jk ((τ1.2 (k + 24) jk) + (((τ1.2 (k + 34) jk) * (τ1.2 (k + 14) 3)) / (4294967296 : Int64)))) (k + 34) jk (0 : Int64)) := hF
      skip
      refine lv_iload_n hx hb d_T_settle_2 rfl (lv_at hl 0 rfl) ?_
      refine lv_iconst (v := (2 : Int32)) hx hb d_T_settle_3 (by decide) ?_
      refine lv_icmp_ge (tgt := 44) hx hb d_T_settle_4 (by decide) (fun c8 => absurd c8 (g_lt (N := 2) (by omega) (by decide))) (fun _ => ?_)
      refine lv_aload_n hx hb d_T_settle_7 rfl (lv_at hl 1 rfl) ?_
      refine g_get hx hb ht in_T hown hK hP (k + 14) (x_at14 hk) rfl 4 (by decide) rfl (ht _ kw39) (fun _ h9 => h9) (v := .ref (ad (k + 24))) rfl d_T_settle_8 ?_
      refine lv_iload_n hx hb d_T_settle_11 rfl (lv_at hl 0 rfl) ?_
      refine lv_dup2_11 hx hb d_T_settle_12 rfl rfl ?_
      refine g_lald hx hb hK hP (k + 24) (x_at24 hk) rfl (g_eix rfl (by omega) (by omega)) (j := jk) (g_ena rfl (by omega)) d_T_settle_13 ?_
      refine lv_aload_n hx hb d_T_settle_14 rfl (lv_at hl 1 rfl) ?_
      refine g_get hx hb ht in_T hown hK hP (k + 14) (x_at14 hk) rfl 5 (by decide) rfl (ht _ kw41) (fun _ h9 => h9) (v := .ref (ad (k + 34))) rfl d_T_settle_15 ?_
      refine lv_iload_n hx hb d_T_settle_18 rfl (lv_at hl 0 rfl) ?_
      refine g_lald hx hb hK hP (k + 34) (x_at34 hk) rfl (g_eix rfl (by omega) (by omega)) (j := jk) (g_ena rfl (by omega)) d_T_settle_19 ?_
      refine lv_aload_n hx hb d_T_settle_20 rfl (lv_at hl 1 rfl) ?_
      refine g_get hx hb ht in_T hown hK hP (k + 14) (x_at14 hk) rfl 3 (by decide) rfl (ht _ kw36) (fun _ h9 => h9) (v := .long (τ1.2 (k + 14) 3)) rfl d_T_settle_21 ?_
      refine lv_lmul hx hb d_T_settle_24 ?_
      refine lv_ldc2 (v := (4294967296 : Int64)) hx hb hown (ht _ kw264) d_T_settle_25 ?_
      refine lv_ldiv hx hb d_T_settle_28 (by decide) ?_
      refine lv_ladd hx hb d_T_settle_29 ?_
      refine g_last (x := (τ1.2 (k + 24) jk) + (((τ1.2 (k + 34) jk) * (τ1.2 (k + 14) 3)) / (4294967296 : Int64))) hx hb hK hP hD hS (k + 24) (x_at24 hk) rfl (g_eix rfl (by omega) (by omega)) (j := jk) (g_ena rfl (by omega)) d_T_settle_30 (fun H locs hP hD hS => ?_)
      refine lv_aload_n hx hb d_T_settle_31 rfl (lv_at hl 1 rfl) ?_
      refine g_get hx hb ht in_T hown hK hP (k + 14) (x_at14 hk) rfl 5 (by decide) rfl (ht _ kw41) (fun _ h9 => h9) (v := .ref (ad (k + 34))) rfl d_T_settle_32 ?_
      refine lv_iload_n hx hb d_T_settle_35 rfl (lv_at hl 0 rfl) ?_
      refine lv_lconst (v := (0 : Int64)) hx hb d_T_settle_36 (by decide) ?_
      refine g_last (x := (0 : Int64)) hx hb hK hP hD hS (k + 34) (x_at34 hk) rfl (g_eix rfl (by omega) (by omega)) (j := jk) (g_ena rfl (by omega)) d_T_settle_37 (fun H locs hP hD hS => ?_)
      refine lv_iinc (v := Int32.ofNat (jk + 1)) (lv' := [(1, .int (Int32.ofNat (jk + 1))), (0, .ref (ad (k + 14)))]) hx hb d_T_settle_38 hl (k := 0) rfl (g_inc jk) (by decide) rfl (fun ls hl => ?_)
      refine lv_goto (tgt := 2) hx hb d_T_settle_41 (by decide) ?_
      exact ih (jk + 1) (g_L (g_L τ1 (k + 24) jk ((τ1.2 (k + 24) jk) + (((τ1.2 (k + 34) jk) * (τ1.2 (k + 14) 3)) / (4294967296 : Int64)))) (k + 34) jk (0 : Int64)) ls H locs (by omega) hF (lv_sub hl [0, 1] rfl) hP hD hS
  exact LL2_6 2 0 σ ls s.heap [] (by omega) rfl  (lv_sub hl [0, 1] rfl) hP hD hS
def f_B_clearPendingGrowth_32_5 (σ : g_S) (τ2 : g_S) : g_S := τ2
def f_B_clearPendingGrowth_L10 (σ : g_S) : Nat → Nat → g_S → g_S
  | 0, jk, τ1 => (τ1)
  | jn + 1, jk, τ1 => f_B_clearPendingGrowth_L10 σ jn (jk + 1) (g_L τ1 (jk + 14) 6 (0 : Int64))
def f_B_clearPendingGrowth (σ : g_S) : g_S := (f_B_clearPendingGrowth_32_5 σ (f_B_clearPendingGrowth_L10 σ 10 0 σ))
set_option maxHeartbeats 4000000 in
set_option maxRecDepth 100000 in
theorem c_B_clearPendingGrowth (l : Launch) (dC : Nat → ClassId) (dI : Nat → Nat → Nat) (dA : Nat → ClassId) (ad : Nat → Nat) (tb : Nat) (sz : Nat) (σ : g_S) : Met l y_B_clearPendingGrowth w_B_clearPendingGrowth ({ frames := 0, cells := 0, slots := 0, locals := 0 }) (va_Pc [.ref (ad 3)] (g_W (dC, dI) cls (x_tys dA) (g_w x_sh dA ad σ) sz (x_Z tb))) (va_Qv (fun τ => τ = f_B_clearPendingGrowth σ) (fun τ t => va_P (dC, dI) cls (g_w x_sh dA ad τ) t.heap) (va_A (g_w x_sh dA ad σ) sz)) 0 0 (va_A (g_w x_sh dA ad σ) sz) := by
  refine Met.ofW (cc := b_B_clearPendingGrowth) (maxL := 5) (ret := none) (by decide) rfl ?_
  intro p e s m args below meth c s₁ B hml hv
  obtain ⟨rfl, hsz, hP, hK, hD0, hz⟩ := hv
  have hx := B.exec
  have hb := B.bytes
  have hr := B.returns
  have hts := atoms_spec (ws := w_B_clearPendingGrowth) B.pre
  have ht := fun (w : Cond) (h : w ∈ gA) => hts w (List.mem_cons_of_mem _ h)
  have hown : s.vm.findClass "RangedPool$LotBook" = some m.cls := findClass_of_methodNamed B.named
  have hlocks := B.notSynchronized
  subst hsz
  have hD := hD0.self (sz := s.heap.size)
  have hA : ∀ q : Nat, s.heap.size ≤ q → va_A (g_w x_sh dA ad σ) s.heap.size q := fun q h => Or.inr h
  generalize hAe : va_A (g_w x_sh dA ad σ) s.heap.size = A at hD hA hz ⊢
  have hS : va_S A s.heap s.heap [] := va_S.rf
  have hl := lv_entry ([.ref (ad 3)]) (n := 5) (Nat.le_of_ble_eq_true rfl)
  rw [lg_entry_eq]
  generalize (lg_sl ([.ref (ad 3)]) ++ List.replicate (5 - (lg_sl ([.ref (ad 3)])).length) Slot.unset).toArray = ls at hl ⊢
  have hl : lv_has ls 5 [(0, .ref (ad 3))] := hl
  have hF : f_B_clearPendingGrowth σ = f_B_clearPendingGrowth σ := rfl
  refine lv_aload_n hx hb d_B_clearPendingGrowth_0 rfl (lv_at hl 0 rfl) ?_
  refine g_get hx hb ht in_B hown hK hP (3) x_at3 rfl 0 (by decide) rfl (ht _ kw60) (fun _ h9 => h9) (v := .ref (ad 4)) rfl d_B_clearPendingGrowth_1 ?_
  refine lv_astore_n (lv' := [(1, .ref (ad 4)), (0, .ref (ad 3))]) hx hb d_B_clearPendingGrowth_4 rfl hl (by decide) rfl (fun ls hl => ?_)
  refine lv_aload_n hx hb d_B_clearPendingGrowth_5 rfl (lv_at hl 0 rfl) ?_
  refine g_alen (v := (10 : Int32)) hx hb hK hP 4 x_at4 rfl rfl d_B_clearPendingGrowth_6 ?_
  refine lv_istore_n (lv' := [(2, .int (10 : Int32)), (1, .ref (ad 4)), (0, .ref (ad 3))]) hx hb d_B_clearPendingGrowth_7 rfl hl (by decide) rfl (fun ls hl => ?_)
  refine lv_iconst (v := (0 : Int32)) hx hb d_B_clearPendingGrowth_8 (by decide) ?_
  refine lv_istore_n (lv' := [(3, .int (0 : Int32)), (2, .int (10 : Int32)), (1, .ref (ad 4)), (0, .ref (ad 3))]) hx hb d_B_clearPendingGrowth_9 rfl hl (by decide) rfl (fun ls hl => ?_)
  have J32_3 : ∀ (τ2 : g_S) (ls : Array Slot) (H : Heap) (locs : List Loc), τ2 = (f_B_clearPendingGrowth_L10 σ 10 0 σ) → lv_has ls 5 [] → va_P (dC, dI) cls (g_w x_sh dA ad τ2) H → va_D A (g_w x_sh dA ad τ2) → va_S A s.heap H locs → W p l e (headSpec w_B_clearPendingGrowth ({ frames := 0, cells := 0, slots := 0, locals := 0 })).room s m ([.ref (ad 3)] : List Value).toArray below meth c H locs 0 0 (MQ below (va_Qv (fun τ => τ = f_B_clearPendingGrowth σ) (fun τ t => va_P (dC, dI) cls (g_w x_sh dA ad τ) t.heap) A) ([.ref (ad 3)] : List Value).toArray s 0 0 A) (F0 m 32 ls []) := by
    intro τ2 ls H locs e4 hl hP hD hS
    have hF : f_B_clearPendingGrowth σ = f_B_clearPendingGrowth_32_5 σ τ2 := hF.trans (by rw [e4]; try rfl)
    exact W.vret hx hb hr (fun t hh hW => ⟨⟨τ2, rfl, hF.symm, by show va_P (dC, dI) cls (g_w x_sh dA ad τ2) t.heap; rw [hh]; exact hP⟩, hS.F hh⟩) hS.2.2 d_B_clearPendingGrowth_32
  have LL10_6 : ∀ (jn : Nat) (jk : Nat) (τ1 : g_S) (ls : Array Slot) (H : Heap) (locs : List Loc), jk + jn = 10 → f_B_clearPendingGrowth_L10 σ 10 0 σ = f_B_clearPendingGrowth_L10 σ jn jk τ1 → lv_has ls 5 [(3, .int (Int32.ofNat jk)), (2, .int (10 : Int32)), (1, .ref (ad 4))] → va_P (dC, dI) cls (g_w x_sh dA ad τ1) H → va_D A (g_w x_sh dA ad τ1) → va_S A s.heap H locs → W p l e (headSpec w_B_clearPendingGrowth ({ frames := 0, cells := 0, slots := 0, locals := 0 })).room s m ([.ref (ad 3)] : List Value).toArray below meth c H locs 0 0 (MQ below (va_Qv (fun τ => τ = f_B_clearPendingGrowth σ) (fun τ t => va_P (dC, dI) cls (g_w x_sh dA ad τ) t.heap) A) ([.ref (ad 3)] : List Value).toArray s 0 0 A) (F0 m 10 ls []) := by
    intro jn
    induction jn with
    | zero =>
      intro jk τ1 ls H locs hkn hF hl hP hD hS
      have hF : f_B_clearPendingGrowth_L10 σ 10 0 σ = (τ1) := hF
      skip
      refine lv_iload_n hx hb d_B_clearPendingGrowth_10 rfl (lv_at hl 0 rfl) ?_
      refine lv_iload_n hx hb d_B_clearPendingGrowth_11 rfl (lv_at hl 1 rfl) ?_
      refine lv_icmp_ge (tgt := 32) hx hb d_B_clearPendingGrowth_12 (by decide) (fun _ => ?_) (fun c7 => absurd (g_geN (N := 10) (by omega)) c7)
      exact J32_3 τ1 ls H locs hF.symm (lv_sub hl [] rfl) hP hD hS
    | succ jn ih =>
      intro jk τ1 ls H locs hkn hF hl hP hD hS
      have hF : f_B_clearPendingGrowth_L10 σ 10 0 σ = f_B_clearPendingGrowth_L10 σ jn (jk + 1) (g_L τ1 (jk + 14) 6 (0 : Int64)) := hF
      skip
      refine lv_iload_n hx hb d_B_clearPendingGrowth_10 rfl (lv_at hl 0 rfl) ?_
      refine lv_iload_n hx hb d_B_clearPendingGrowth_11 rfl (lv_at hl 1 rfl) ?_
      refine lv_icmp_ge (tgt := 32) hx hb d_B_clearPendingGrowth_12 (by decide) (fun c8 => absurd c8 (g_lt (N := 10) (by omega) (by decide))) (fun _ => ?_)
      refine lv_aload_n hx hb d_B_clearPendingGrowth_15 rfl (lv_at hl 2 rfl) ?_
      refine lv_iload_n hx hb d_B_clearPendingGrowth_16 rfl (lv_at hl 0 rfl) ?_
      refine g_aald hx hb hK hP 4 x_at4 rfl rfl (g_eix rfl (by omega) (by omega)) (z := jk + 14) (x_el4 (g_ena rfl (by omega)) (by omega)) d_B_clearPendingGrowth_17 ?_
      refine lv_astore (lv' := [(4, .ref (ad (jk + 14))), (3, .int (Int32.ofNat jk)), (2, .int (10 : Int32)), (1, .ref (ad 4))]) hx hb d_B_clearPendingGrowth_18 hl (by decide) rfl (fun ls hl => ?_)
      refine lv_aload hx hb d_B_clearPendingGrowth_20 (lv_at hl 0 rfl) ?_
      refine lv_lconst (v := (0 : Int64)) hx hb d_B_clearPendingGrowth_22 (by decide) ?_
      refine g_putLN (v := (0 : Int64)) (ty := .long) hx hb ht in_T yt_T yt_T_ok n_T hown hK hP hD hS (jk + 14) (x_at14 (by omega)) rfl 6 (by decide) rfl (va_Nw.use rfl (hz.1 _ nk43)) (fun _ h9 => h9) rfl (by decide +kernel) (rfl) (rfl) d_B_clearPendingGrowth_23 (fun H locs hP hD hS => ?_)
      refine lv_iinc (v := Int32.ofNat (jk + 1)) (lv' := [(3, .int (Int32.ofNat (jk + 1))), (4, .ref (ad (jk + 14))), (2, .int (10 : Int32)), (1, .ref (ad 4))]) hx hb d_B_clearPendingGrowth_26 hl (k := 1) rfl (g_inc jk) (by decide) rfl (fun ls hl => ?_)
      refine lv_goto (tgt := 10) hx hb d_B_clearPendingGrowth_29 (by decide) ?_
      exact ih (jk + 1) (g_L τ1 (jk + 14) 6 (0 : Int64)) ls H locs (by omega) hF (lv_sub hl [0, 2, 3] rfl) hP hD hS
  exact LL10_6 10 0 σ ls s.heap [] (by omega) rfl  (lv_sub hl [0, 1, 2] rfl) hP hD hS
def f_B_growPending_68_9 (σ : g_S) (n : Int32) (fe : Int64) (w : Int64) (r2 : Int64) (τ6 : g_S) : g_S := τ6
def k_B_growPending_68_9 (σ : g_S) (n : Int32) (fe : Int64) (w : Int64) (r2 : Int64) (τ6 : g_S) : Prop := True
def f_B_growPending_L27 (σ : g_S) (n : Int32) (fe : Int64) (w : Int64) (r2 : Int64) : Nat → Nat → g_S → g_S
  | 0, jk, τ5 => (τ5)
  | jn + 1, jk, τ5 => f_B_growPending_L27 σ n fe w r2 jn (jk + 1) (if (f_T_isInRange τ5 jk n) = 0 then τ5 else g_L τ5 (jk + 14) 6 ((τ5.2 (jk + 14) 6) + r2))
def f_B_growPending_8_4 (σ : g_S) (n : Int32) (fe : Int64) (w : Int64) (r2 : Int64) : g_S := (f_B_growPending_68_9 σ n fe w r2 (f_B_growPending_L27 σ n fe w r2 10 0 σ))
def k_B_growPending_8_4 (σ : g_S) (n : Int32) (fe : Int64) (w : Int64) (r2 : Int64) : Prop := (k_B_growPending_68_9 σ n fe w r2 (f_B_growPending_L27 σ n fe w r2 10 0 σ))
def f_B_growPending (σ : g_S) (n : Int32) (fe : Int64) (w : Int64) : g_S := (f_B_growPending_8_4 σ n fe w (f_P_quotient (fe * (4294967296 : Int64)) w (0 : Int32)))
def k_B_growPending (σ : g_S) (n : Int32) (fe : Int64) (w : Int64) : Prop := (k_P_quotient (fe * (4294967296 : Int64)) w (0 : Int32)) ∧ (k_B_growPending_8_4 σ n fe w (f_P_quotient (fe * (4294967296 : Int64)) w (0 : Int32)))
set_option maxHeartbeats 4000000 in
set_option maxRecDepth 100000 in
theorem c_B_growPending (l : Launch) (dC : Nat → ClassId) (dI : Nat → Nat → Nat) (dA : Nat → ClassId) (ad : Nat → Nat) (tb : Nat) (sz : Nat) (σ : g_S) (n : Int32) (fe : Int64) (w : Int64) (hQ : k_B_growPending σ n fe w) : Met l y_B_growPending w_B_growPending ({ frames := 1, cells := 0, slots := 0, locals := 26 }) (va_Pc [.ref (ad 3), .int n, .long fe, .long w] (g_W (dC, dI) cls (x_tys dA) (g_w x_sh dA ad σ) sz (x_Z tb))) (va_Qv (fun τ => τ = f_B_growPending σ n fe w) (fun τ t => va_P (dC, dI) cls (g_w x_sh dA ad τ) t.heap) (va_A (g_w x_sh dA ad σ) sz)) 0 0 (va_A (g_w x_sh dA ad σ) sz) := by
  refine Met.ofW (cc := b_B_growPending) (maxL := 12) (ret := none) (by decide) rfl ?_
  intro p e s m args below meth c s₁ B hml hv
  obtain ⟨rfl, hsz, hP, hK, hD0, hz⟩ := hv
  have hx := B.exec
  have hb := B.bytes
  have hr := B.returns
  have hts := atoms_spec (ws := w_B_growPending) B.pre
  have ht := fun (w : Cond) (h : w ∈ gA) => hts w (List.mem_cons_of_mem _ h)
  have hown : s.vm.findClass "RangedPool$LotBook" = some m.cls := findClass_of_methodNamed B.named
  have hlocks := B.notSynchronized
  subst hsz
  have hD := hD0.self (sz := s.heap.size)
  have hA : ∀ q : Nat, s.heap.size ≤ q → va_A (g_w x_sh dA ad σ) s.heap.size q := fun q h => Or.inr h
  generalize hAe : va_A (g_w x_sh dA ad σ) s.heap.size = A at hD hA hz ⊢
  have hS : va_S A s.heap s.heap [] := va_S.rf
  have hl := lv_entry ([.ref (ad 3), .int n, .long fe, .long w]) (n := 12) (Nat.le_of_ble_eq_true rfl)
  rw [lg_entry_eq]
  generalize (lg_sl ([.ref (ad 3), .int n, .long fe, .long w]) ++ List.replicate (12 - (lg_sl ([.ref (ad 3), .int n, .long fe, .long w])).length) Slot.unset).toArray = ls at hl ⊢
  have hl : lv_has ls 12 [(0, .ref (ad 3)), (1, .int n), (2, .long fe), (4, .long w)] := hl
  have hF : f_B_growPending σ n fe w = f_B_growPending σ n fe w := rfl
  refine lv_lload_n hx hb d_B_growPending_0 rfl (lv_at hl 2 rfl) ?_
  refine lv_ldc2 (v := (4294967296 : Int64)) hx hb hown (ht _ kw359) d_B_growPending_1 ?_
  refine lv_lmul hx hb d_B_growPending_4 ?_
  refine lv_lload hx hb d_B_growPending_5 (lv_at hl 3 rfl) ?_
  refine lv_iconst (v := (0 : Int32)) hx hb d_B_growPending_7 (by decide) ?_
  obtain ⟨hs1, hQ⟩ := hQ
  refine g_cSl (va_runSN (host := "RangedPool") (As := [.long (fe * (4294967296 : Int64)), .long w, .int (0 : Int32)]) (rest := []) ⟨hx, hb, hml, hown, ht⟩ (c_P_quotient l (fe * (4294967296 : Int64)) w (0 : Int32) hs1) ⟨va_cnB 3 ht gn_P_quotient rfl rfl rfl (hz.1 _ nk360) (ht _ kw1) (by decide +kernel) ⟨Nat.le_of_ble_eq_true rfl, Nat.le_of_ble_eq_true rfl⟩, ht _ kw233, trivial⟩ (g_pr0 _) rfl rfl hl.1 rfl (lv_room (Nat.le_of_ble_eq_true rfl)) d_B_growPending_8 ⟨Nat.le_of_ble_eq_true rfl, Nat.le_of_ble_eq_true rfl⟩) (fun r2 e3 => ?_)
  have hF : f_B_growPending σ n fe w = f_B_growPending_8_4 σ n fe w r2 := hF.trans (by rw [e3]; try rfl)
  have hQ : k_B_growPending_8_4 σ n fe w r2 := by rw [e3]; exact hQ
  refine lv_lstore (lv' := [(6, .long r2), (0, .ref (ad 3)), (1, .int n), (2, .long fe), (4, .long w)]) hx hb d_B_growPending_11 hl (by decide) rfl (fun ls hl => ?_)
  refine lv_aload_n hx hb d_B_growPending_13 rfl (lv_at hl 1 rfl) ?_
  refine g_get hx hb ht in_B hown hK hP (3) x_at3 rfl 0 (by decide) rfl (ht _ kw60) (fun _ h9 => h9) (v := .ref (ad 4)) rfl d_B_growPending_14 ?_
  refine lv_astore (lv' := [(8, .ref (ad 4)), (6, .long r2), (0, .ref (ad 3)), (1, .int n), (2, .long fe), (4, .long w)]) hx hb d_B_growPending_17 hl (by decide) rfl (fun ls hl => ?_)
  refine lv_aload hx hb d_B_growPending_19 (lv_at hl 0 rfl) ?_
  refine g_alen (v := (10 : Int32)) hx hb hK hP 4 x_at4 rfl rfl d_B_growPending_21 ?_
  refine lv_istore (lv' := [(9, .int (10 : Int32)), (8, .ref (ad 4)), (6, .long r2), (0, .ref (ad 3)), (1, .int n), (2, .long fe), (4, .long w)]) hx hb d_B_growPending_22 hl (by decide) rfl (fun ls hl => ?_)
  refine lv_iconst (v := (0 : Int32)) hx hb d_B_growPending_24 (by decide) ?_
  refine lv_istore (lv' := [(10, .int (0 : Int32)), (9, .int (10 : Int32)), (8, .ref (ad 4)), (6, .long r2), (0, .ref (ad 3)), (1, .int n), (2, .long fe), (4, .long w)]) hx hb d_B_growPending_25 hl (by decide) rfl (fun ls hl => ?_)
  have J68_7 : ∀ (τ6 : g_S) (ls : Array Slot) (H : Heap) (locs : List Loc), τ6 = (f_B_growPending_L27 σ n fe w r2 10 0 σ) → lv_has ls 12 [] → va_P (dC, dI) cls (g_w x_sh dA ad τ6) H → va_D A (g_w x_sh dA ad τ6) → va_S A s.heap H locs → W p l e (headSpec w_B_growPending ({ frames := 1, cells := 0, slots := 0, locals := 26 })).room s m ([.ref (ad 3), .int n, .long fe, .long w] : List Value).toArray below meth c H locs 0 0 (MQ below (va_Qv (fun τ => τ = f_B_growPending σ n fe w) (fun τ t => va_P (dC, dI) cls (g_w x_sh dA ad τ) t.heap) A) ([.ref (ad 3), .int n, .long fe, .long w] : List Value).toArray s 0 0 A) (F0 m 68 ls []) := by
    intro τ6 ls H locs e8 hl hP hD hS
    have hF : f_B_growPending σ n fe w = f_B_growPending_68_9 σ n fe w r2 τ6 := hF.trans (by rw [e8]; try rfl)
    have hQ : k_B_growPending_68_9 σ n fe w r2 τ6 := by rw [e8]; exact hQ
    exact W.vret hx hb hr (fun t hh hW => ⟨⟨τ6, rfl, hF.symm, by show va_P (dC, dI) cls (g_w x_sh dA ad τ6) t.heap; rw [hh]; exact hP⟩, hS.F hh⟩) hS.2.2 d_B_growPending_68
  have LL27_10 : ∀ (jn : Nat) (jk : Nat) (τ5 : g_S) (ls : Array Slot) (H : Heap) (locs : List Loc), jk + jn = 10 → f_B_growPending_L27 σ n fe w r2 10 0 σ = f_B_growPending_L27 σ n fe w r2 jn jk τ5 → lv_has ls 12 [(10, .int (Int32.ofNat jk)), (9, .int (10 : Int32)), (8, .ref (ad 4)), (6, .long r2), (1, .int n)] → va_P (dC, dI) cls (g_w x_sh dA ad τ5) H → va_D A (g_w x_sh dA ad τ5) → va_S A s.heap H locs → W p l e (headSpec w_B_growPending ({ frames := 1, cells := 0, slots := 0, locals := 26 })).room s m ([.ref (ad 3), .int n, .long fe, .long w] : List Value).toArray below meth c H locs 0 0 (MQ below (va_Qv (fun τ => τ = f_B_growPending σ n fe w) (fun τ t => va_P (dC, dI) cls (g_w x_sh dA ad τ) t.heap) A) ([.ref (ad 3), .int n, .long fe, .long w] : List Value).toArray s 0 0 A) (F0 m 27 ls []) := by
    intro jn
    induction jn with
    | zero =>
      intro jk τ5 ls H locs hkn hF hl hP hD hS
      have hF : f_B_growPending_L27 σ n fe w r2 10 0 σ = (τ5) := hF
      skip
      refine lv_iload hx hb d_B_growPending_27 (lv_at hl 0 rfl) ?_
      refine lv_iload hx hb d_B_growPending_29 (lv_at hl 1 rfl) ?_
      refine lv_icmp_ge (tgt := 68) hx hb d_B_growPending_31 (by decide) (fun _ => ?_) (fun c11 => absurd (g_geN (N := 10) (by omega)) c11)
      exact J68_7 τ5 ls H locs hF.symm (lv_sub hl [] rfl) hP hD hS
    | succ jn ih =>
      intro jk τ5 ls H locs hkn hF hl hP hD hS
      have hF : f_B_growPending_L27 σ n fe w r2 10 0 σ = f_B_growPending_L27 σ n fe w r2 jn (jk + 1) (if (f_T_isInRange τ5 jk n) = 0 then τ5 else g_L τ5 (jk + 14) 6 ((τ5.2 (jk + 14) 6) + r2)) := hF
      skip
      refine lv_iload hx hb d_B_growPending_27 (lv_at hl 0 rfl) ?_
      refine lv_iload hx hb d_B_growPending_29 (lv_at hl 1 rfl) ?_
      refine lv_icmp_ge (tgt := 68) hx hb d_B_growPending_31 (by decide) (fun c12 => absurd c12 (g_lt (N := 10) (by omega) (by decide))) (fun _ => ?_)
      refine lv_aload hx hb d_B_growPending_34 (lv_at hl 2 rfl) ?_
      refine lv_iload hx hb d_B_growPending_36 (lv_at hl 0 rfl) ?_
      refine g_aald hx hb hK hP 4 x_at4 rfl rfl (g_eix rfl (by omega) (by omega)) (z := jk + 14) (x_el4 (g_ena rfl (by omega)) (by omega)) d_B_growPending_38 ?_
      refine lv_astore (lv' := [(11, .ref (ad (jk + 14))), (10, .int (Int32.ofNat jk)), (9, .int (10 : Int32)), (8, .ref (ad 4)), (6, .long r2), (1, .int n)]) hx hb d_B_growPending_39 hl (by decide) rfl (fun ls hl => ?_)
      refine lv_aload hx hb d_B_growPending_41 (lv_at hl 0 rfl) ?_
      refine lv_iload_n hx hb d_B_growPending_43 rfl (lv_at hl 5 rfl) ?_
      refine g_cSiE (va_runVN (host := "RangedPool") (As := [.int n]) (rest := []) ⟨hx, hb, hml, hown, ht⟩ (c_T_isInRange l dC dI dA ad tb τ5 jk n (by omega)) ⟨va_cnB 1 ht gn_T_isInRange rfl rfl rfl (hz.1 _ nk327) (ht _ kw3) (by decide +kernel) ⟨Nat.le_of_ble_eq_true rfl, Nat.le_of_ble_eq_true rfl⟩, ht _ kw329, ht _ ks24⟩ (g_pV (g_prR x_Zok hK hP hS hz _) (g_rc hK hP (jk + 14) (x_at14 (by omega)) rfl)) rfl rfl hl.1 rfl (lv_room (Nat.le_of_ble_eq_true rfl)) d_B_growPending_44 ⟨Nat.le_of_ble_eq_true rfl, Nat.le_of_ble_eq_true rfl⟩) ?_
      have J62_16 : ∀ (τ15 : g_S) (ls : Array Slot) (H : Heap) (locs : List Loc), τ15 = (if (f_T_isInRange τ5 jk n) = 0 then τ5 else g_L τ5 (jk + 14) 6 ((τ5.2 (jk + 14) 6) + r2)) → lv_has ls 12 [(10, .int (Int32.ofNat jk)), (9, .int (10 : Int32)), (8, .ref (ad 4)), (6, .long r2), (1, .int n)] → va_P (dC, dI) cls (g_w x_sh dA ad τ15) H → va_D A (g_w x_sh dA ad τ15) → va_S A s.heap H locs → W p l e (headSpec w_B_growPending ({ frames := 1, cells := 0, slots := 0, locals := 26 })).room s m ([.ref (ad 3), .int n, .long fe, .long w] : List Value).toArray below meth c H locs 0 0 (MQ below (va_Qv (fun τ => τ = f_B_growPending σ n fe w) (fun τ t => va_P (dC, dI) cls (g_w x_sh dA ad τ) t.heap) A) ([.ref (ad 3), .int n, .long fe, .long w] : List Value).toArray s 0 0 A) (F0 m 62 ls []) := by
        intro τ15 ls H locs e17 hl hP hD hS
        rw [e17] at hP hD
        refine lv_iinc (v := Int32.ofNat (jk + 1)) (lv' := [(10, .int (Int32.ofNat (jk + 1))), (9, .int (10 : Int32)), (8, .ref (ad 4)), (6, .long r2), (1, .int n)]) hx hb d_B_growPending_62 hl (k := 0) rfl (g_inc jk) (by decide) rfl (fun ls hl => ?_)
        refine lv_goto (tgt := 27) hx hb d_B_growPending_65 (by decide) ?_
        exact ih (jk + 1) (if (f_T_isInRange τ5 jk n) = 0 then τ5 else g_L τ5 (jk + 14) 6 ((τ5.2 (jk + 14) 6) + r2)) ls H locs (by omega) hF (lv_sub hl [0, 1, 2, 3, 4] rfl) hP hD hS
      refine lv_if_eq (tgt := 62) hx hb d_B_growPending_47 (by decide) (fun c18 => ?_) (fun c18 => ?_)
      ·
        have c18 : (f_T_isInRange τ5 jk n) = 0 := c18
        exact J62_16 τ5 ls H locs (if_pos c18).symm (lv_sub hl [1, 2, 3, 4, 5] rfl) hP hD hS
      ·
        have c18 : ¬ ((f_T_isInRange τ5 jk n) = 0) := c18
        refine lv_aload hx hb d_B_growPending_50 (lv_at hl 0 rfl) ?_
        refine lv_dup hx hb d_B_growPending_52 rfl ?_
        refine g_getN hx hb ht in_T hown hK hP (jk + 14) (x_at14 (by omega)) rfl 6 (by decide) rfl (va_Nw.use rfl (hz.1 _ nk43)) (fun _ h9 => h9) (v := .long (τ5.2 (jk + 14) 6)) rfl d_B_growPending_53 ?_
        refine lv_lload hx hb d_B_growPending_56 (lv_at hl 4 rfl) ?_
        refine lv_ladd hx hb d_B_growPending_58 ?_
        refine g_putLN (v := (τ5.2 (jk + 14) 6) + r2) (ty := .long) hx hb ht in_T yt_T yt_T_ok n_T hown hK hP hD hS (jk + 14) (x_at14 (by omega)) rfl 6 (by decide) rfl (va_Nw.use rfl (hz.1 _ nk43)) (fun _ h9 => h9) rfl (by decide +kernel) (rfl) (rfl) d_B_growPending_59 (fun H locs hP hD hS => ?_)
        exact J62_16 (g_L τ5 (jk + 14) 6 ((τ5.2 (jk + 14) 6) + r2)) ls H locs (if_neg c18).symm (lv_sub hl [1, 2, 3, 4, 5] rfl) hP hD hS
  exact LL27_10 10 0 σ ls s.heap [] (by omega) rfl  (lv_sub hl [0, 1, 2, 3, 5] rfl) hP hD hS
def f_B_keepPendingGrowth_44_6 (σ : g_S) (n : Int32) (τ2 : g_S) : g_S := τ2
def k_B_keepPendingGrowth_44_6 (σ : g_S) (n : Int32) (τ2 : g_S) : Prop := True
def f_B_keepPendingGrowth_L11 (σ : g_S) (n : Int32) : Nat → Nat → g_S → g_S
  | 0, jk, τ1 => (τ1)
  | jn + 1, jk, τ1 => f_B_keepPendingGrowth_L11 σ n jn (jk + 1) (g_L τ1 (jk + 34) n.toNatClampNeg ((τ1.2 (jk + 34) n.toNatClampNeg) + (τ1.2 (jk + 14) 6)))
def k_B_keepPendingGrowth_L11 (σ : g_S) (n : Int32) : Nat → Nat → g_S → Prop
  | 0, jk, τ1 => True
  | jn + 1, jk, τ1 => (vp_in n 2) ∧ (vp_in n 2) ∧ (k_B_keepPendingGrowth_L11 σ n jn (jk + 1) (g_L τ1 (jk + 34) n.toNatClampNeg ((τ1.2 (jk + 34) n.toNatClampNeg) + (τ1.2 (jk + 14) 6))))
def f_B_keepPendingGrowth (σ : g_S) (n : Int32) : g_S := (f_B_keepPendingGrowth_44_6 σ n (f_B_keepPendingGrowth_L11 σ n 10 0 σ))
def k_B_keepPendingGrowth (σ : g_S) (n : Int32) : Prop := (k_B_keepPendingGrowth_L11 σ n 10 0 σ) ∧ (k_B_keepPendingGrowth_44_6 σ n (f_B_keepPendingGrowth_L11 σ n 10 0 σ))
set_option maxHeartbeats 4000000 in
set_option maxRecDepth 100000 in
theorem c_B_keepPendingGrowth (l : Launch) (dC : Nat → ClassId) (dI : Nat → Nat → Nat) (dA : Nat → ClassId) (ad : Nat → Nat) (tb : Nat) (sz : Nat) (σ : g_S) (n : Int32) (hQ : k_B_keepPendingGrowth σ n) : Met l y_B_keepPendingGrowth w_B_keepPendingGrowth ({ frames := 0, cells := 0, slots := 0, locals := 0 }) (va_Pc [.ref (ad 3), .int n] (g_W (dC, dI) cls (x_tys dA) (g_w x_sh dA ad σ) sz (x_Z tb))) (va_Qv (fun τ => τ = f_B_keepPendingGrowth σ n) (fun τ t => va_P (dC, dI) cls (g_w x_sh dA ad τ) t.heap) (va_A (g_w x_sh dA ad σ) sz)) 0 0 (va_A (g_w x_sh dA ad σ) sz) := by
  refine Met.ofW (cc := b_B_keepPendingGrowth) (maxL := 6) (ret := none) (by decide) rfl ?_
  intro p e s m args below meth c s₁ B hml hv
  obtain ⟨rfl, hsz, hP, hK, hD0, hz⟩ := hv
  have hx := B.exec
  have hb := B.bytes
  have hr := B.returns
  have hts := atoms_spec (ws := w_B_keepPendingGrowth) B.pre
  have ht := fun (w : Cond) (h : w ∈ gA) => hts w (List.mem_cons_of_mem _ h)
  have hown : s.vm.findClass "RangedPool$LotBook" = some m.cls := findClass_of_methodNamed B.named
  have hlocks := B.notSynchronized
  subst hsz
  have hD := hD0.self (sz := s.heap.size)
  have hA : ∀ q : Nat, s.heap.size ≤ q → va_A (g_w x_sh dA ad σ) s.heap.size q := fun q h => Or.inr h
  generalize hAe : va_A (g_w x_sh dA ad σ) s.heap.size = A at hD hA hz ⊢
  have hS : va_S A s.heap s.heap [] := va_S.rf
  have hl := lv_entry ([.ref (ad 3), .int n]) (n := 6) (Nat.le_of_ble_eq_true rfl)
  rw [lg_entry_eq]
  generalize (lg_sl ([.ref (ad 3), .int n]) ++ List.replicate (6 - (lg_sl ([.ref (ad 3), .int n])).length) Slot.unset).toArray = ls at hl ⊢
  have hl : lv_has ls 6 [(0, .ref (ad 3)), (1, .int n)] := hl
  have hF : f_B_keepPendingGrowth σ n = f_B_keepPendingGrowth σ n := rfl
  refine lv_aload_n hx hb d_B_keepPendingGrowth_0 rfl (lv_at hl 0 rfl) ?_
  refine g_get hx hb ht in_B hown hK hP (3) x_at3 rfl 0 (by decide) rfl (ht _ kw60) (fun _ h9 => h9) (v := .ref (ad 4)) rfl d_B_keepPendingGrowth_1 ?_
  refine lv_astore_n (lv' := [(2, .ref (ad 4)), (0, .ref (ad 3)), (1, .int n)]) hx hb d_B_keepPendingGrowth_4 rfl hl (by decide) rfl (fun ls hl => ?_)
  refine lv_aload_n hx hb d_B_keepPendingGrowth_5 rfl (lv_at hl 0 rfl) ?_
  refine g_alen (v := (10 : Int32)) hx hb hK hP 4 x_at4 rfl rfl d_B_keepPendingGrowth_6 ?_
  refine lv_istore_n (lv' := [(3, .int (10 : Int32)), (2, .ref (ad 4)), (0, .ref (ad 3)), (1, .int n)]) hx hb d_B_keepPendingGrowth_7 rfl hl (by decide) rfl (fun ls hl => ?_)
  refine lv_iconst (v := (0 : Int32)) hx hb d_B_keepPendingGrowth_8 (by decide) ?_
  refine lv_istore (lv' := [(4, .int (0 : Int32)), (3, .int (10 : Int32)), (2, .ref (ad 4)), (0, .ref (ad 3)), (1, .int n)]) hx hb d_B_keepPendingGrowth_9 hl (by decide) rfl (fun ls hl => ?_)
  obtain ⟨hT3, hQ⟩ := hQ
  have J44_4 : ∀ (τ2 : g_S) (ls : Array Slot) (H : Heap) (locs : List Loc), τ2 = (f_B_keepPendingGrowth_L11 σ n 10 0 σ) → lv_has ls 6 [] → va_P (dC, dI) cls (g_w x_sh dA ad τ2) H → va_D A (g_w x_sh dA ad τ2) → va_S A s.heap H locs → W p l e (headSpec w_B_keepPendingGrowth ({ frames := 0, cells := 0, slots := 0, locals := 0 })).room s m ([.ref (ad 3), .int n] : List Value).toArray below meth c H locs 0 0 (MQ below (va_Qv (fun τ => τ = f_B_keepPendingGrowth σ n) (fun τ t => va_P (dC, dI) cls (g_w x_sh dA ad τ) t.heap) A) ([.ref (ad 3), .int n] : List Value).toArray s 0 0 A) (F0 m 44 ls []) := by
    intro τ2 ls H locs e5 hl hP hD hS
    have hF : f_B_keepPendingGrowth σ n = f_B_keepPendingGrowth_44_6 σ n τ2 := hF.trans (by rw [e5]; try rfl)
    have hQ : k_B_keepPendingGrowth_44_6 σ n τ2 := by rw [e5]; exact hQ
    exact W.vret hx hb hr (fun t hh hW => ⟨⟨τ2, rfl, hF.symm, by show va_P (dC, dI) cls (g_w x_sh dA ad τ2) t.heap; rw [hh]; exact hP⟩, hS.F hh⟩) hS.2.2 d_B_keepPendingGrowth_44
  have LL11_7 : ∀ (jn : Nat) (jk : Nat) (τ1 : g_S) (ls : Array Slot) (H : Heap) (locs : List Loc), jk + jn = 10 → f_B_keepPendingGrowth_L11 σ n 10 0 σ = f_B_keepPendingGrowth_L11 σ n jn jk τ1 → k_B_keepPendingGrowth_L11 σ n jn jk τ1 → lv_has ls 6 [(4, .int (Int32.ofNat jk)), (3, .int (10 : Int32)), (2, .ref (ad 4)), (1, .int n)] → va_P (dC, dI) cls (g_w x_sh dA ad τ1) H → va_D A (g_w x_sh dA ad τ1) → va_S A s.heap H locs → W p l e (headSpec w_B_keepPendingGrowth ({ frames := 0, cells := 0, slots := 0, locals := 0 })).room s m ([.ref (ad 3), .int n] : List Value).toArray below meth c H locs 0 0 (MQ below (va_Qv (fun τ => τ = f_B_keepPendingGrowth σ n) (fun τ t => va_P (dC, dI) cls (g_w x_sh dA ad τ) t.heap) A) ([.ref (ad 3), .int n] : List Value).toArray s 0 0 A) (F0 m 11 ls []) := by
    intro jn
    induction jn with
    | zero =>
      intro jk τ1 ls H locs hkn hF hQ hl hP hD hS
      have hF : f_B_keepPendingGrowth_L11 σ n 10 0 σ = (τ1) := hF
      have hQ : True := hQ
      refine lv_iload hx hb d_B_keepPendingGrowth_11 (lv_at hl 0 rfl) ?_
      refine lv_iload_n hx hb d_B_keepPendingGrowth_13 rfl (lv_at hl 1 rfl) ?_
      refine lv_icmp_ge (tgt := 44) hx hb d_B_keepPendingGrowth_14 (by decide) (fun _ => ?_) (fun c8 => absurd (g_geN (N := 10) (by omega)) c8)
      exact J44_4 τ1 ls H locs hF.symm (lv_sub hl [] rfl) hP hD hS
    | succ jn ih =>
      intro jk τ1 ls H locs hkn hF hQ hl hP hD hS
      have hF : f_B_keepPendingGrowth_L11 σ n 10 0 σ = f_B_keepPendingGrowth_L11 σ n jn (jk + 1) (g_L τ1 (jk + 34) n.toNatClampNeg ((τ1.2 (jk + 34) n.toNatClampNeg) + (τ1.2 (jk + 14) 6))) := hF
      have hQ : (vp_in n 2) ∧ (vp_in n 2) ∧ (k_B_keepPendingGrowth_L11 σ n jn (jk + 1) (g_L τ1 (jk + 34) n.toNatClampNeg ((τ1.2 (jk + 34) n.toNatClampNeg) + (τ1.2 (jk + 14) 6)))) := hQ
      refine lv_iload hx hb d_B_keepPendingGrowth_11 (lv_at hl 0 rfl) ?_
      refine lv_iload_n hx hb d_B_keepPendingGrowth_13 rfl (lv_at hl 1 rfl) ?_
      refine lv_icmp_ge (tgt := 44) hx hb d_B_keepPendingGrowth_14 (by decide) (fun c9 => absurd c9 (g_lt (N := 10) (by omega) (by decide))) (fun _ => ?_)
      refine lv_aload_n hx hb d_B_keepPendingGrowth_17 rfl (lv_at hl 2 rfl) ?_
      refine lv_iload hx hb d_B_keepPendingGrowth_18 (lv_at hl 0 rfl) ?_
      refine g_aald hx hb hK hP 4 x_at4 rfl rfl (g_eix rfl (by omega) (by omega)) (z := jk + 14) (x_el4 (g_ena rfl (by omega)) (by omega)) d_B_keepPendingGrowth_20 ?_
      refine lv_astore (lv' := [(5, .ref (ad (jk + 14))), (4, .int (Int32.ofNat jk)), (3, .int (10 : Int32)), (2, .ref (ad 4)), (1, .int n)]) hx hb d_B_keepPendingGrowth_21 hl (by decide) rfl (fun ls hl => ?_)
      refine lv_aload hx hb d_B_keepPendingGrowth_23 (lv_at hl 0 rfl) ?_
      refine g_getN hx hb ht in_T hown hK hP (jk + 14) (x_at14 (by omega)) rfl 5 (by decide) rfl (va_Nw.use rfl (hz.1 _ nk42)) (fun _ h9 => h9) (v := .ref (ad (jk + 34))) rfl d_B_keepPendingGrowth_25 ?_
      refine lv_iload_n hx hb d_B_keepPendingGrowth_28 rfl (lv_at hl 4 rfl) ?_
      refine lv_dup2_11 hx hb d_B_keepPendingGrowth_29 rfl rfl ?_
      obtain ⟨hs10, hQ⟩ := hQ
      refine g_lald hx hb hK hP (jk + 34) (x_at34 (by omega)) rfl (hs10) (j := n.toNatClampNeg) (rfl) d_B_keepPendingGrowth_30 ?_
      refine lv_aload hx hb d_B_keepPendingGrowth_31 (lv_at hl 0 rfl) ?_
      refine g_getN hx hb ht in_T hown hK hP (jk + 14) (x_at14 (by omega)) rfl 6 (by decide) rfl (va_Nw.use rfl (hz.1 _ nk43)) (fun _ h9 => h9) (v := .long (τ1.2 (jk + 14) 6)) rfl d_B_keepPendingGrowth_33 ?_
      refine lv_ladd hx hb d_B_keepPendingGrowth_36 ?_
      obtain ⟨hs11, hQ⟩ := hQ
      refine g_last (x := (τ1.2 (jk + 34) n.toNatClampNeg) + (τ1.2 (jk + 14) 6)) hx hb hK hP hD hS (jk + 34) (x_at34 (by omega)) rfl (hs11) (j := n.toNatClampNeg) (rfl) d_B_keepPendingGrowth_37 (fun H locs hP hD hS => ?_)
      refine lv_iinc (v := Int32.ofNat (jk + 1)) (lv' := [(4, .int (Int32.ofNat (jk + 1))), (5, .ref (ad (jk + 14))), (3, .int (10 : Int32)), (2, .ref (ad 4)), (1, .int n)]) hx hb d_B_keepPendingGrowth_38 hl (k := 1) rfl (g_inc jk) (by decide) rfl (fun ls hl => ?_)
      refine lv_goto (tgt := 11) hx hb d_B_keepPendingGrowth_41 (by decide) ?_
      exact ih (jk + 1) (g_L τ1 (jk + 34) n.toNatClampNeg ((τ1.2 (jk + 34) n.toNatClampNeg) + (τ1.2 (jk + 14) 6))) ls H locs (by omega) hF hQ (lv_sub hl [0, 2, 3, 4] rfl) hP hD hS
  exact LL11_7 10 0 σ ls s.heap [] (by omega) rfl hT3 (lv_sub hl [0, 1, 2, 4] rfl) hP hD hS
def f_D_startAt (σ : g_S) (pr : Int32) (stp : Int32) (dn : Int32) : g_S := g_L (g_L (g_I (g_I (g_I σ 9 4 pr) 9 5 stp) 9 1 dn) 9 6 (0 : Int64)) 9 7 (0 : Int64)
def k_D_startAt (σ : g_S) (pr : Int32) (stp : Int32) (dn : Int32) : Prop := (dn = 0 ∨ dn = 1) ∧ True
set_option maxHeartbeats 4000000 in
set_option maxRecDepth 100000 in
theorem c_D_startAt (l : Launch) (dC : Nat → ClassId) (dI : Nat → Nat → Nat) (dA : Nat → ClassId) (ad : Nat → Nat) (tb : Nat) (sz : Nat) (σ : g_S) (pr : Int32) (stp : Int32) (dn : Int32) (hQ : k_D_startAt σ pr stp dn) : Met l y_D_startAt w_D_startAt ({ frames := 0, cells := 0, slots := 0, locals := 0 }) (va_Pc [.ref (ad 9), .int pr, .int stp, .int dn] (g_W (dC, dI) cls (x_tys dA) (g_w x_sh dA ad σ) sz (x_Z tb))) (va_Qv (fun τ => τ = f_D_startAt σ pr stp dn) (fun τ t => va_P (dC, dI) cls (g_w x_sh dA ad τ) t.heap) (va_A (g_w x_sh dA ad σ) sz)) 0 0 (va_A (g_w x_sh dA ad σ) sz) := by
  refine Met.ofW (cc := b_D_startAt) (maxL := 4) (ret := none) (by decide) rfl ?_
  intro p e s m args below meth c s₁ B hml hv
  obtain ⟨rfl, hsz, hP, hK, hD0, hz⟩ := hv
  have hx := B.exec
  have hb := B.bytes
  have hr := B.returns
  have hts := atoms_spec (ws := w_D_startAt) B.pre
  have ht := fun (w : Cond) (h : w ∈ gA) => hts w (List.mem_cons_of_mem _ h)
  have hown : s.vm.findClass "RangedPool$Trade" = some m.cls := findClass_of_methodNamed B.named
  have hlocks := B.notSynchronized
  subst hsz
  have hD := hD0.self (sz := s.heap.size)
  have hA : ∀ q : Nat, s.heap.size ≤ q → va_A (g_w x_sh dA ad σ) s.heap.size q := fun q h => Or.inr h
  generalize hAe : va_A (g_w x_sh dA ad σ) s.heap.size = A at hD hA hz ⊢
  have hS : va_S A s.heap s.heap [] := va_S.rf
  have hl := lv_entry ([.ref (ad 9), .int pr, .int stp, .int dn]) (n := 4) (Nat.le_of_ble_eq_true rfl)
  rw [lg_entry_eq]
  generalize (lg_sl ([.ref (ad 9), .int pr, .int stp, .int dn]) ++ List.replicate (4 - (lg_sl ([.ref (ad 9), .int pr, .int stp, .int dn])).length) Slot.unset).toArray = ls at hl ⊢
  have hl : lv_has ls 4 [(0, .ref (ad 9)), (1, .int pr), (2, .int stp), (3, .int dn)] := hl
  have hF : f_D_startAt σ pr stp dn = f_D_startAt σ pr stp dn := rfl
  refine lv_aload_n hx hb d_D_startAt_0 rfl (lv_at hl 0 rfl) ?_
  refine lv_iload_n hx hb d_D_startAt_1 rfl (lv_at hl 1 rfl) ?_
  refine g_putI (v := pr) (ty := .int) hx hb ht in_D yt_D yt_D_ok n_D hown hK hP hD hS (9) x_at9 rfl 4 (by decide) rfl (ht _ kw104) (fun _ h9 => h9) rfl (by decide +kernel) (rfl) (rfl) d_D_startAt_2 (fun H locs hP hD hS => ?_)
  refine lv_aload_n hx hb d_D_startAt_5 rfl (lv_at hl 0 rfl) ?_
  refine lv_iload_n hx hb d_D_startAt_6 rfl (lv_at hl 2 rfl) ?_
  refine g_putI (v := stp) (ty := .int) hx hb ht in_D yt_D yt_D_ok n_D hown hK hP hD hS (9) x_at9 rfl 5 (by decide) rfl (ht _ kw106) (fun _ h9 => h9) rfl (by decide +kernel) (rfl) (rfl) d_D_startAt_7 (fun H locs hP hD hS => ?_)
  refine lv_aload_n hx hb d_D_startAt_10 rfl (lv_at hl 0 rfl) ?_
  refine lv_iload_n hx hb d_D_startAt_11 rfl (lv_at hl 3 rfl) ?_
  obtain ⟨hs1, hQ⟩ := hQ
  refine g_putI (v := dn) (ty := .boolean) hx hb ht in_D yt_D yt_D_ok n_D hown hK hP hD hS (9) x_at9 rfl 1 (by decide) rfl (ht _ kw101) (fun _ h9 => h9) rfl (by decide +kernel) (g_nar hs1) (g_fitz hs1) d_D_startAt_12 (fun H locs hP hD hS => ?_)
  refine lv_aload_n hx hb d_D_startAt_15 rfl (lv_at hl 0 rfl) ?_
  refine lv_lconst (v := (0 : Int64)) hx hb d_D_startAt_16 (by decide) ?_
  refine g_putL (v := (0 : Int64)) (ty := .long) hx hb ht in_D yt_D yt_D_ok n_D hown hK hP hD hS (9) x_at9 rfl 6 (by decide) rfl (ht _ kw108) (fun _ h9 => h9) rfl (by decide +kernel) (rfl) (rfl) d_D_startAt_17 (fun H locs hP hD hS => ?_)
  refine lv_aload_n hx hb d_D_startAt_20 rfl (lv_at hl 0 rfl) ?_
  refine lv_lconst (v := (0 : Int64)) hx hb d_D_startAt_21 (by decide) ?_
  refine g_putL (v := (0 : Int64)) (ty := .long) hx hb ht in_D yt_D yt_D_ok n_D hown hK hP hD hS (9) x_at9 rfl 7 (by decide) rfl (ht _ kw110) (fun _ h9 => h9) rfl (by decide +kernel) (rfl) (rfl) d_D_startAt_22 (fun H locs hP hD hS => ?_)
  exact W.vret hx hb hr (fun t hh hW => ⟨⟨g_L (g_L (g_I (g_I (g_I σ 9 4 pr) 9 5 stp) 9 1 dn) 9 6 (0 : Int64)) 9 7 (0 : Int64), rfl, hF.symm, by show va_P (dC, dI) cls (g_w x_sh dA ad (g_L (g_L (g_I (g_I (g_I σ 9 4 pr) 9 5 stp) 9 1 dn) 9 6 (0 : Int64)) 9 7 (0 : Int64))) t.heap; rw [hh]; exact hP⟩, hS.F hh⟩) hS.2.2 d_D_startAt_25
