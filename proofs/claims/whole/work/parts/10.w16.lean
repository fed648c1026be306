def f_M_settle_58_6 (σ : g_S) (i : Int32) (τ2 : g_S) : g_S := τ2
def k_M_settle_58_6 (σ : g_S) (i : Int32) (τ2 : g_S) : Prop := True
def f_M_settle_L2 (σ : g_S) (i : Int32) : Nat → Nat → g_S → g_S
  | 0, jk, τ1 => (τ1)
  | jn + 1, jk, τ1 => f_M_settle_L2 σ i jn (jk + 1) (g_L (g_L τ1 9 ((((2 : Int32) * i) + (Int32.ofNat jk)).toNatClampNeg) ((τ1.2 9 ((((2 : Int32) * i) + (Int32.ofNat jk)).toNatClampNeg)) + (((τ1.2 10 ((((2 : Int32) * i) + (Int32.ofNat jk)).toNatClampNeg)) * (τ1.2 8 i.toNatClampNeg)) / (4294967296 : Int64)))) 10 ((((2 : Int32) * i) + (Int32.ofNat jk)).toNatClampNeg) (0 : Int64))
def k_M_settle_L2 (σ : g_S) (i : Int32) : Nat → Nat → g_S → Prop
  | 0, jk, τ1 => True
  | jn + 1, jk, τ1 => (vp_in (((2 : Int32) * i) + (Int32.ofNat jk)) 20) ∧ (vp_in (((2 : Int32) * i) + (Int32.ofNat jk)) 20) ∧ (vp_in i 10) ∧ (vp_in (((2 : Int32) * i) + (Int32.ofNat jk)) 20) ∧ (vp_in (((2 : Int32) * i) + (Int32.ofNat jk)) 20) ∧ (k_M_settle_L2 σ i jn (jk + 1) (g_L (g_L τ1 9 ((((2 : Int32) * i) + (Int32.ofNat jk)).toNatClampNeg) ((τ1.2 9 ((((2 : Int32) * i) + (Int32.ofNat jk)).toNatClampNeg)) + (((τ1.2 10 ((((2 : Int32) * i) + (Int32.ofNat jk)).toNatClampNeg)) * (τ1.2 8 i.toNatClampNeg)) / (4294967296 : Int64)))) 10 ((((2 : Int32) * i) + (Int32.ofNat jk)).toNatClampNeg) (0 : Int64)))
def f_M_settle (σ : g_S) (i : Int32) : g_S := (f_M_settle_58_6 σ i (f_M_settle_L2 σ i 2 0 σ))
def k_M_settle (σ : g_S) (i : Int32) : Prop := (k_M_settle_L2 σ i 2 0 σ) ∧ (k_M_settle_58_6 σ i (f_M_settle_L2 σ i 2 0 σ))
set_option maxHeartbeats 4000000 in
set_option maxRecDepth 100000 in
theorem c_M_settle (l : Launch) (dC : Nat → ClassId) (dI : Nat → Nat → Nat) (dA : Nat → ClassId) (ad : Nat → Nat) (sz : Nat) (σ : g_S) (i : Int32) (hQ : k_M_settle σ i) : Met l y_M_settle w_M_settle ({ frames := 0, cells := 0, slots := 0, locals := 0 }) (va_Pc [.ref (ad 0), .int i] (g_W (dC, dI) cls (r_tys dA) (g_w r_sh dA ad σ) sz r_Z)) (va_Qv (fun τ => τ = f_M_settle σ i) (fun τ t => va_P (dC, dI) cls (g_w r_sh dA ad τ) t.heap) (va_A (g_w r_sh dA ad σ) sz)) 0 0 (va_A (g_w r_sh dA ad σ) sz) := by
  refine Met.ofW (cc := b_M_settle) (maxL := 3) (ret := none) (by decide) rfl ?_
  intro p e s m args below meth c s₁ B hml hv
  obtain ⟨rfl, hsz, hP, hK, hD0, hz⟩ := hv
  have hx := B.exec
  have hb := B.bytes
  have hr := B.returns
  have hts := atoms_spec (ws := w_M_settle) B.pre
  have ht := fun (w : Cond) (h : w ∈ gA) => hts w (List.mem_cons_of_mem _ h)
  have hown : s.vm.findClass "RangedPoolModel" = some m.cls := findClass_of_methodNamed B.named
  have hlocks := B.notSynchronized
  subst hsz
  have hD := hD0.self (sz := s.heap.size)
  have hA : ∀ q : Nat, s.heap.size ≤ q → va_A (g_w r_sh dA ad σ) s.heap.size q := fun q h => Or.inr h
  generalize hAe : va_A (g_w r_sh dA ad σ) s.heap.size = A at hD hA hz ⊢
  have hS : va_S A s.heap s.heap [] := va_S.rf
  have hl := lv_entry ([.ref (ad 0), .int i]) (n := 3) (Nat.le_of_ble_eq_true rfl)
  rw [lg_entry_eq]
  generalize (lg_sl ([.ref (ad 0), .int i]) ++ List.replicate (3 - (lg_sl ([.ref (ad 0), .int i])).length) Slot.unset).toArray = ls at hl ⊢
  have hl : lv_has ls 3 [(0, .ref (ad 0)), (1, .int i)] := hl
  have hF : f_M_settle σ i = f_M_settle σ i := rfl
  refine lv_iconst (v := (0 : Int32)) hx hb d_M_settle_0 (by decide) ?_
  refine lv_istore_n (lv' := [(2, .int (0 : Int32)), (0, .ref (ad 0)), (1, .int i)]) hx hb d_M_settle_1 rfl hl (by decide) rfl (fun ls hl => ?_)
  obtain ⟨hT3, hQ⟩ := hQ
  have J58_4 : ∀ (τ2 : g_S) (ls : Array Slot) (H : Heap) (locs : List Loc), τ2 = (f_M_settle_L2 σ i 2 0 σ) → lv_has ls 3 [] → va_P (dC, dI) cls (g_w r_sh dA ad τ2) H → va_D A (g_w r_sh dA ad τ2) → va_S A s.heap H locs → W p l e (headSpec w_M_settle ({ frames := 0, cells := 0, slots := 0, locals := 0 })).room s m ([.ref (ad 0), .int i] : List Value).toArray below meth c H locs 0 0 (MQ below (va_Qv (fun τ => τ = f_M_settle σ i) (fun τ t => va_P (dC, dI) cls (g_w r_sh dA ad τ) t.heap) A) ([.ref (ad 0), .int i] : List Value).toArray s 0 0 A) (F0 m 58 ls []) := by
    intro τ2 ls H locs e5 hl hP hD hS
    have hF : f_M_settle σ i = f_M_settle_58_6 σ i τ2 := hF.trans (by rw [e5]; try rfl)
    have hQ : k_M_settle_58_6 σ i τ2 := by rw [e5]; exact hQ
    exact W.vret hx hb hr (fun t hh hW => ⟨⟨τ2, rfl, hF.symm, by show va_P (dC, dI) cls (g_w r_sh dA ad τ2) t.heap; rw [hh]; exact hP⟩, hS.F hh⟩) hS.2.2 d_M_settle_58
  have LL2_7 : ∀ (jn : Nat) (jk : Nat) (τ1 : g_S) (ls : Array Slot) (H : Heap) (locs : List Loc), jk + jn = 2 → f_M_settle_L2 σ i 2 0 σ = f_M_settle_L2 σ i jn jk τ1 → k_M_settle_L2 σ i jn jk τ1 → lv_has ls 3 [(2, .int (Int32.ofNat jk)), (0, .ref (ad 0)), (1, .int i)] → va_P (dC, dI) cls (g_w r_sh dA ad τ1) H → va_D A (g_w r_sh dA ad τ1) → va_S A s.heap H locs → W p l e (headSpec w_M_settle ({ frames := 0, cells := 0, slots := 0, locals := 0 })).room s m ([.ref (ad 0), .int i] : List Value).toArray below meth c H locs 0 0 (MQ below (va_Qv (fun τ => τ = f_M_settle σ i) (fun τ t => va_P (dC, dI) cls (g_w r_sh dA ad τ) t.heap) A) ([.ref (ad 0), .int i] : List Value).toArray s 0 0 A) (F0 m 2 ls []) := by
    intro jn
    induction jn with
    | zero =>
      intro jk τ1 ls H locs hkn hF hQ hl hP hD hS
      have hF : f_M_settle_L2 σ i 2 0 σ = (τ1) := hF
      have hQ : True := hQ
      refine lv_iload_n hx hb d_M_settle_2 rfl (lv_at hl 0 rfl) ?_
      refine lv_iconst (v := (2 : Int32)) hx hb d_M_settle_3 (by decide) ?_
      refine lv_icmp_ge (tgt := 58) hx hb d_M_settle_4 (by decide) (fun _ => ?_) (fun c8 => absurd (g_geN (N := 2) (by omega)) c8)
      exact J58_4 τ1 ls H locs hF.symm (lv_sub hl [] rfl) hP hD hS
    | succ jn ih =>
      intro jk τ1 ls H locs hkn hF hQ hl hP hD hS
      have hF : f_M_settle_L2 σ i 2 0 σ = f_M_settle_L2 σ i jn (jk + 1) (g_L (g_L τ1 9 ((((2 : Int32) * i) + (Int32.ofNat jk)).toNatClampNeg) ((τ1.2 9 ((((2 : Int32) * i) + (Int32.ofNat jk)).toNatClampNeg)) + (((τ1.2 10 ((((2 : Int32) * i) + (Int32.ofNat jk)).toNatClampNeg)) * (τ1.2 8 i.toNatClampNeg)) / (4294967296 : Int64)))) 10 ((((2 : Int32) * i) + (Int32.ofNat jk)).toNatClampNeg) (0 : Int64)) := hF
      have hQ : (vp_in (((2 : Int32) * i) + (Int32.ofNat jk)) 20) ∧ (vp_in (((2 : Int32) * i) + (Int32.ofNat jk)) 20) ∧ (vp_in i 10) ∧ (vp_in (((2 : Int32) * i) + (Int32.ofNat jk)) 20) ∧ (vp_in (((2 : Int32) * i) + (Int32.ofNat jk)) 20) ∧ (k_M_settle_L2 σ i jn (jk + 1) (g_L (g_L τ1 9 ((((2 : Int32) * i) + (Int32.ofNat jk)).toNatClampNeg) ((τ1.2 9 ((((2 : Int32) * i) + (Int32.ofNat jk)).toNatClampNeg)) + (((τ1.2 10 ((((2 : Int32) * i) + (Int32.ofNat jk)).toNatClampNeg)) * (τ1.2 8 i.toNatClampNeg)) / (4294967296 : Int64)))) 10 ((((2 : Int32) * i) + (Int32.ofNat jk)).toNatClampNeg) (0 : Int64))) := hQ
      refine lv_iload_n hx hb d_M_settle_2 rfl (lv_at hl 0 rfl) ?_
      refine lv_iconst (v := (2 : Int32)) hx hb d_M_settle_3 (by decide) ?_
      refine lv_icmp_ge (tgt := 58) hx hb d_M_settle_4 (by decide) (fun c9 => absurd c9 (g_lt (N := 2) (by omega) (by decide))) (fun _ => ?_)
      refine lv_aload_n hx hb d_M_settle_7 rfl (lv_at hl 1 rfl) ?_
      refine g_get hx hb ht in_M hown hK hP (0) r_at0 rfl 13 (by decide) rfl (ht _ kw474) (fun _ h9 => h9) (v := .ref (ad 9)) rfl d_M_settle_8 ?_
      refine lv_iconst (v := (2 : Int32)) hx hb d_M_settle_11 (by decide) ?_
      refine lv_iload_n hx hb d_M_settle_12 rfl (lv_at hl 2 rfl) ?_
      refine lv_imul hx hb d_M_settle_13 ?_
      refine lv_iload_n hx hb d_M_settle_14 rfl (lv_at hl 0 rfl) ?_
      refine lv_iadd hx hb d_M_settle_15 ?_
      refine lv_dup2_11 hx hb d_M_settle_16 rfl rfl ?_
      obtain ⟨hs10, hQ⟩ := hQ
      refine g_lald hx hb hK hP (9) r_at9 rfl (hs10) (j := (((2 : Int32) * i) + (Int32.ofNat jk)).toNatClampNeg) (rfl) d_M_settle_17 ?_
      refine lv_aload_n hx hb d_M_settle_18 rfl (lv_at hl 1 rfl) ?_
      refine g_get hx hb ht in_M hown hK hP (0) r_at0 rfl 14 (by decide) rfl (ht _ kw475) (fun _ h9 => h9) (v := .ref (ad 10)) rfl d_M_settle_19 ?_
      refine lv_iconst (v := (2 : Int32)) hx hb d_M_settle_22 (by decide) ?_
      refine lv_iload_n hx hb d_M_settle_23 rfl (lv_at hl 2 rfl) ?_
      refine lv_imul hx hb d_M_settle_24 ?_
      refine lv_iload_n hx hb d_M_settle_25 rfl (lv_at hl 0 rfl) ?_
      refine lv_iadd hx hb d_M_settle_26 ?_
      obtain ⟨hs11, hQ⟩ := hQ
      refine g_lald hx hb hK hP (10) r_at10 rfl (hs11) (j := (((2 : Int32) * i) + (Int32.ofNat jk)).toNatClampNeg) (rfl) d_M_settle_27 ?_
      refine lv_aload_n hx hb d_M_settle_28 rfl (lv_at hl 1 rfl) ?_
      refine g_get hx hb ht in_M hown hK hP (0) r_at0 rfl 12 (by decide) rfl (ht _ kw473) (fun _ h9 => h9) (v := .ref (ad 8)) rfl d_M_settle_29 ?_
      refine lv_iload_n hx hb d_M_settle_32 rfl (lv_at hl 2 rfl) ?_
      obtain ⟨hs12, hQ⟩ := hQ
      refine g_lald hx hb hK hP (8) r_at8 rfl (hs12) (j := i.toNatClampNeg) (rfl) d_M_settle_33 ?_
      refine lv_lmul hx hb d_M_settle_34 ?_
      refine lv_ldc2 (v := (4294967296 : Int64)) hx hb hown (ht _ kw603) d_M_settle_35 ?_
      refine lv_ldiv hx hb d_M_settle_38 (by decide) ?_
      refine lv_ladd hx hb d_M_settle_39 ?_
      obtain ⟨hs13, hQ⟩ := hQ
      refine g_last (x := (τ1.2 9 ((((2 : Int32) * i) + (Int32.ofNat jk)).toNatClampNeg)) + (((τ1.2 10 ((((2 : Int32) * i) + (Int32.ofNat jk)).toNatClampNeg)) * (τ1.2 8 i.toNatClampNeg)) / (4294967296 : Int64))) hx hb hK hP hD hS (9) r_at9 rfl (hs13) (j := (((2 : Int32) * i) + (Int32.ofNat jk)).toNatClampNeg) (rfl) d_M_settle_40 (fun H locs hP hD hS => ?_)
      refine lv_aload_n hx hb d_M_settle_41 rfl (lv_at hl 1 rfl) ?_
      refine g_get hx hb ht in_M hown hK hP (0) r_at0 rfl 14 (by decide) rfl (ht _ kw475) (fun _ h9 => h9) (v := .ref (ad 10)) rfl d_M_settle_42 ?_
      refine lv_iconst (v := (2 : Int32)) hx hb d_M_settle_45 (by decide) ?_
      refine lv_iload_n hx hb d_M_settle_46 rfl (lv_at hl 2 rfl) ?_
      refine lv_imul hx hb d_M_settle_47 ?_
      refine lv_iload_n hx hb d_M_settle_48 rfl (lv_at hl 0 rfl) ?_
      refine lv_iadd hx hb d_M_settle_49 ?_
      refine lv_lconst (v := (0 : Int64)) hx hb d_M_settle_50 (by decide) ?_
      obtain ⟨hs14, hQ⟩ := hQ
      refine g_last (x := (0 : Int64)) hx hb hK hP hD hS (10) r_at10 rfl (hs14) (j := (((2 : Int32) * i) + (Int32.ofNat jk)).toNatClampNeg) (rfl) d_M_settle_51 (fun H locs hP hD hS => ?_)
      refine lv_iinc (v := Int32.ofNat (jk + 1)) (lv' := [(2, .int (Int32.ofNat (jk + 1))), (0, .ref (ad 0)), (1, .int i)]) hx hb d_M_settle_52 hl (k := 0) rfl (g_inc jk) (by decide) rfl (fun ls hl => ?_)
      refine lv_goto (tgt := 2) hx hb d_M_settle_55 (by decide) ?_
      exact ih (jk + 1) (g_L (g_L τ1 9 ((((2 : Int32) * i) + (Int32.ofNat jk)).toNatClampNeg) ((τ1.2 9 ((((2 : Int32) * i) + (Int32.ofNat jk)).toNatClampNeg)) + (((τ1.2 10 ((((2 : Int32) * i) + (Int32.ofNat jk)).toNatClampNeg)) * (τ1.2 8 i.toNatClampNeg)) / (4294967296 : Int64)))) 10 ((((2 : Int32) * i) + (Int32.ofNat jk)).toNatClampNeg) (0 : Int64)) ls H locs (by omega) hF hQ (lv_sub hl [0, 1, 2] rfl) hP hD hS
  exact LL2_7 2 0 σ ls s.heap [] (by omega) rfl hT3 (lv_sub hl [0, 1, 2] rfl) hP hD hS
def f_M_sweep_49_6 (σ : g_S) (i : Int32) (x2 : Int32) : g_S := g_I σ 4 i.toNatClampNeg x2
def k_M_sweep_49_6 (σ : g_S) (i : Int32) (x2 : Int32) : Prop := (vp_in i 10) ∧ True
def f_M_sweep (σ : g_S) (i : Int32) : g_S := (f_M_sweep_49_6 σ i (if (0 : Int64) < (σ.2 8 i.toNatClampNeg) then (1 : Int32) else (if (0 : Int64) < (σ.2 9 (((2 : Int32) * i).toNatClampNeg)) then (1 : Int32) else (if (σ.2 9 ((((2 : Int32) * i) + (1 : Int32)).toNatClampNeg)) ≤ (0 : Int64) then (0 : Int32) else (1 : Int32)))))
def k_M_sweep (σ : g_S) (i : Int32) : Prop := (vp_in i 10) ∧ (if (0 : Int64) < (σ.2 8 i.toNatClampNeg) then True else (vp_in ((2 : Int32) * i) 20) ∧ (if (0 : Int64) < (σ.2 9 (((2 : Int32) * i).toNatClampNeg)) then True else (vp_in (((2 : Int32) * i) + (1 : Int32)) 20) ∧ True)) ∧ (k_M_sweep_49_6 σ i (if (0 : Int64) < (σ.2 8 i.toNatClampNeg) then (1 : Int32) else (if (0 : Int64) < (σ.2 9 (((2 : Int32) * i).toNatClampNeg)) then (1 : Int32) else (if (σ.2 9 ((((2 : Int32) * i) + (1 : Int32)).toNatClampNeg)) ≤ (0 : Int64) then (0 : Int32) else (1 : Int32)))))
set_option maxHeartbeats 4000000 in
set_option maxRecDepth 100000 in
theorem c_M_sweep (l : Launch) (dC : Nat → ClassId) (dI : Nat → Nat → Nat) (dA : Nat → ClassId) (ad : Nat → Nat) (sz : Nat) (σ : g_S) (i : Int32) (hQ : k_M_sweep σ i) : Met l y_M_sweep w_M_sweep ({ frames := 0, cells := 0, slots := 0, locals := 0 }) (va_Pc [.ref (ad 0), .int i] (g_W (dC, dI) cls (r_tys dA) (g_w r_sh dA ad σ) sz r_Z)) (va_Qv (fun τ => τ = f_M_sweep σ i) (fun τ t => va_P (dC, dI) cls (g_w r_sh dA ad τ) t.heap) (va_A (g_w r_sh dA ad σ) sz)) 0 0 (va_A (g_w r_sh dA ad σ) sz) := by
  refine Met.ofW (cc := b_M_sweep) (maxL := 2) (ret := none) (by decide) rfl ?_
  intro p e s m args below meth c s₁ B hml hv
  obtain ⟨rfl, hsz, hP, hK, hD0, hz⟩ := hv
  have hx := B.exec
  have hb := B.bytes
  have hr := B.returns
  have hts := atoms_spec (ws := w_M_sweep) B.pre
  have ht := fun (w : Cond) (h : w ∈ gA) => hts w (List.mem_cons_of_mem _ h)
  have hown : s.vm.findClass "RangedPoolModel" = some m.cls := findClass_of_methodNamed B.named
  have hlocks := B.notSynchronized
  subst hsz
  have hD := hD0.self (sz := s.heap.size)
  have hA : ∀ q : Nat, s.heap.size ≤ q → va_A (g_w r_sh dA ad σ) s.heap.size q := fun q h => Or.inr h
  generalize hAe : va_A (g_w r_sh dA ad σ) s.heap.size = A at hD hA hz ⊢
  have hS : va_S A s.heap s.heap [] := va_S.rf
  have hl := lv_entry ([.ref (ad 0), .int i]) (n := 2) (Nat.le_of_ble_eq_true rfl)
  rw [lg_entry_eq]
  generalize (lg_sl ([.ref (ad 0), .int i]) ++ List.replicate (2 - (lg_sl ([.ref (ad 0), .int i])).length) Slot.unset).toArray = ls at hl ⊢
  have hl : lv_has ls 2 [(0, .ref (ad 0)), (1, .int i)] := hl
  have hF : f_M_sweep σ i = f_M_sweep σ i := rfl
  refine lv_aload_n hx hb d_M_sweep_0 rfl (lv_at hl 0 rfl) ?_
  refine g_get hx hb ht in_M hown hK hP (0) r_at0 rfl 8 (by decide) rfl (ht _ kw469) (fun _ h9 => h9) (v := .ref (ad 4)) rfl d_M_sweep_1 ?_
  refine lv_iload_n hx hb d_M_sweep_4 rfl (lv_at hl 1 rfl) ?_
  refine lv_aload_n hx hb d_M_sweep_5 rfl (lv_at hl 0 rfl) ?_
  refine g_get hx hb ht in_M hown hK hP (0) r_at0 rfl 12 (by decide) rfl (ht _ kw473) (fun _ h9 => h9) (v := .ref (ad 8)) rfl d_M_sweep_6 ?_
  refine lv_iload_n hx hb d_M_sweep_9 rfl (lv_at hl 1 rfl) ?_
  obtain ⟨hs1, hQ⟩ := hQ
  refine g_lald hx hb hK hP (8) r_at8 rfl (hs1) (j := i.toNatClampNeg) (rfl) d_M_sweep_10 ?_
  refine lv_lconst (v := (0 : Int64)) hx hb d_M_sweep_11 (by decide) ?_
  refine W.lcmp hx hb d_M_sweep_12 ?_
  obtain ⟨hT5, hQ⟩ := hQ
  have J49_3 : ∀ (x2 : Int32) (ls : Array Slot), x2 = (if (0 : Int64) < (σ.2 8 i.toNatClampNeg) then (1 : Int32) else (if (0 : Int64) < (σ.2 9 (((2 : Int32) * i).toNatClampNeg)) then (1 : Int32) else (if (σ.2 9 ((((2 : Int32) * i) + (1 : Int32)).toNatClampNeg)) ≤ (0 : Int64) then (0 : Int32) else (1 : Int32)))) → lv_has ls 2 [] → W p l e (headSpec w_M_sweep ({ frames := 0, cells := 0, slots := 0, locals := 0 })).room s m ([.ref (ad 0), .int i] : List Value).toArray below meth c s.heap [] 0 0 (MQ below (va_Qv (fun τ => τ = f_M_sweep σ i) (fun τ t => va_P (dC, dI) cls (g_w r_sh dA ad τ) t.heap) A) ([.ref (ad 0), .int i] : List Value).toArray s 0 0 A) (F0 m 49 ls [.int x2, .int i, .ref (ad 4)]) := by
    intro x2 ls e4 hl
    have hF : f_M_sweep σ i = f_M_sweep_49_6 σ i x2 := hF.trans (by rw [e4]; try rfl)
    have hQ : k_M_sweep_49_6 σ i x2 := by rw [e4]; exact hQ
    obtain ⟨hs7, hQ⟩ := hQ
    refine g_zast (x := x2) hx hb hK hP hD hS (4) r_at4 rfl (g_narv (by rw [e4]; (repeat' split) <;> decide)) (hs7) (j := i.toNatClampNeg) (rfl) d_M_sweep_49 (fun H locs hP hD hS => ?_)
    exact W.vret hx hb hr (fun t hh hW => ⟨⟨g_I σ 4 i.toNatClampNeg x2, rfl, hF.symm, by show va_P (dC, dI) cls (g_w r_sh dA ad (g_I σ 4 i.toNatClampNeg x2)) t.heap; rw [hh]; exact hP⟩, hS.F hh⟩) hS.2.2 d_M_sweep_50
  refine lv_if_gt (tgt := 44) hx hb d_M_sweep_13 (by decide) (fun c8 => ?_) (fun c8 => ?_)
  ·
    have c8 : (0 : Int64) < (σ.2 8 i.toNatClampNeg) := (lg_cmp_gt _ _).mp c8
    have hT5 := Eq.mp (if_pos c8) hT5
    refine lv_iconst (v := (1 : Int32)) hx hb d_M_sweep_44 (by decide) ?_
    refine lv_goto (tgt := 49) hx hb d_M_sweep_45 (by decide) ?_
    exact J49_3 (1 : Int32) ls (if_pos c8).symm (lv_sub hl [] rfl)
  ·
    have c8 : ¬ ((0 : Int64) < (σ.2 8 i.toNatClampNeg)) := mt (lg_cmp_gt _ _).mpr c8
    have hT5 := Eq.mp (if_neg c8) hT5
    refine lv_aload_n hx hb d_M_sweep_16 rfl (lv_at hl 0 rfl) ?_
    refine g_get hx hb ht in_M hown hK hP (0) r_at0 rfl 13 (by decide) rfl (ht _ kw474) (fun _ h9 => h9) (v := .ref (ad 9)) rfl d_M_sweep_17 ?_
    refine lv_iconst (v := (2 : Int32)) hx hb d_M_sweep_20 (by decide) ?_
    refine lv_iload_n hx hb d_M_sweep_21 rfl (lv_at hl 1 rfl) ?_
    refine lv_imul hx hb d_M_sweep_22 ?_
    obtain ⟨hs9, hT5⟩ := hT5
    refine g_lald hx hb hK hP (9) r_at9 rfl (hs9) (j := ((2 : Int32) * i).toNatClampNeg) (rfl) d_M_sweep_23 ?_
    refine lv_lconst (v := (0 : Int64)) hx hb d_M_sweep_24 (by decide) ?_
    refine W.lcmp hx hb d_M_sweep_25 ?_
    refine lv_if_gt (tgt := 44) hx hb d_M_sweep_26 (by decide) (fun c10 => ?_) (fun c10 => ?_)
    ·
      have c10 : (0 : Int64) < (σ.2 9 (((2 : Int32) * i).toNatClampNeg)) := (lg_cmp_gt _ _).mp c10
      have hT5 := Eq.mp (if_pos c10) hT5
      refine lv_iconst (v := (1 : Int32)) hx hb d_M_sweep_44 (by decide) ?_
      refine lv_goto (tgt := 49) hx hb d_M_sweep_45 (by decide) ?_
      exact J49_3 (1 : Int32) ls ((if_neg c8).trans (if_pos c10)).symm (lv_sub hl [] rfl)
    ·
      have c10 : ¬ ((0 : Int64) < (σ.2 9 (((2 : Int32) * i).toNatClampNeg))) := mt (lg_cmp_gt _ _).mpr c10
      have hT5 := Eq.mp (if_neg c10) hT5
      refine lv_aload_n hx hb d_M_sweep_29 rfl (lv_at hl 0 rfl) ?_
      refine g_get hx hb ht in_M hown hK hP (0) r_at0 rfl 13 (by decide) rfl (ht _ kw474) (fun _ h9 => h9) (v := .ref (ad 9)) rfl d_M_sweep_30 ?_
      refine lv_iconst (v := (2 : Int32)) hx hb d_M_sweep_33 (by decide) ?_
      refine lv_iload_n hx hb d_M_sweep_34 rfl (lv_at hl 1 rfl) ?_
      refine lv_imul hx hb d_M_sweep_35 ?_
      refine lv_iconst (v := (1 : Int32)) hx hb d_M_sweep_36 (by decide) ?_
      refine lv_iadd hx hb d_M_sweep_37 ?_
      obtain ⟨hs11, hT5⟩ := hT5
      refine g_lald hx hb hK hP (9) r_at9 rfl (hs11) (j := (((2 : Int32) * i) + (1 : Int32)).toNatClampNeg) (rfl) d_M_sweep_38 ?_
      refine lv_lconst (v := (0 : Int64)) hx hb d_M_sweep_39 (by decide) ?_
      refine W.lcmp hx hb d_M_sweep_40 ?_
      refine lv_if_le (tgt := 48) hx hb d_M_sweep_41 (by decide) (fun c12 => ?_) (fun c12 => ?_)
      ·
        have c12 : (σ.2 9 ((((2 : Int32) * i) + (1 : Int32)).toNatClampNeg)) ≤ (0 : Int64) := (lg_cmp_le _ _).mp c12
        refine lv_iconst (v := (0 : Int32)) hx hb d_M_sweep_48 (by decide) ?_
        exact J49_3 (0 : Int32) ls (((if_neg c8).trans (if_neg c10)).trans (if_pos c12)).symm (lv_sub hl [] rfl)
      ·
        have c12 : ¬ ((σ.2 9 ((((2 : Int32) * i) + (1 : Int32)).toNatClampNeg)) ≤ (0 : Int64)) := mt (lg_cmp_le _ _).mpr c12
        refine lv_iconst (v := (1 : Int32)) hx hb d_M_sweep_44 (by decide) ?_
        refine lv_goto (tgt := 49) hx hb d_M_sweep_45 (by decide) ?_
        exact J49_3 (1 : Int32) ls (((if_neg c8).trans (if_neg c10)).trans (if_neg c12)).symm (lv_sub hl [] rfl)
def f_M_pay (σ : g_S) (o : Int32) (a : Int64) (b : Int64) : g_S := g_L (g_L (g_L (g_L σ 2 (((2 : Int32) * o).toNatClampNeg) ((σ.2 2 (((2 : Int32) * o).toNatClampNeg)) - a)) 2 ((((2 : Int32) * o) + (1 : Int32)).toNatClampNeg) (((g_L σ 2 (((2 : Int32) * o).toNatClampNeg) ((σ.2 2 (((2 : Int32) * o).toNatClampNeg)) - a)).2 2 ((((2 : Int32) * o) + (1 : Int32)).toNatClampNeg)) - b)) 3 0 ((σ.2 3 0) + a)) 3 1 ((σ.2 3 1) + b)
def k_M_pay (σ : g_S) (o : Int32) (a : Int64) (b : Int64) : Prop := (vp_in ((2 : Int32) * o) 8) ∧ (vp_in ((2 : Int32) * o) 8) ∧ (vp_in (((2 : Int32) * o) + (1 : Int32)) 8) ∧ (vp_in (((2 : Int32) * o) + (1 : Int32)) 8) ∧ True
set_option maxHeartbeats 4000000 in
set_option maxRecDepth 100000 in
theorem c_M_pay (l : Launch) (dC : Nat → ClassId) (dI : Nat → Nat → Nat) (dA : Nat → ClassId) (ad : Nat → Nat) (sz : Nat) (σ : g_S) (o : Int32) (a : Int64) (b : Int64) (hQ : k_M_pay σ o a b) : Met l y_M_pay w_M_pay ({ frames := 0, cells := 0, slots := 0, locals := 0 }) (va_Pc [.ref (ad 0), .int o, .long a, .long b] (g_W (dC, dI) cls (r_tys dA) (g_w r_sh dA ad σ) sz r_Z)) (va_Qv (fun τ => τ = f_M_pay σ o a b) (fun τ t => va_P (dC, dI) cls (g_w r_sh dA ad τ) t.heap) (va_A (g_w r_sh dA ad σ) sz)) 0 0 (va_A (g_w r_sh dA ad σ) sz) := by
  refine Met.ofW (cc := b_M_pay) (maxL := 6) (ret := none) (by decide) rfl ?_
  intro p e s m args below meth c s₁ B hml hv
  obtain ⟨rfl, hsz, hP, hK, hD0, hz⟩ := hv
  have hx := B.exec
  have hb := B.bytes
  have hr := B.returns
  have hts := atoms_spec (ws := w_M_pay) B.pre
  have ht := fun (w : Cond) (h : w ∈ gA) => hts w (List.mem_cons_of_mem _ h)
  have hown : s.vm.findClass "RangedPoolModel" = some m.cls := findClass_of_methodNamed B.named
  have hlocks := B.notSynchronized
  subst hsz
  have hD := hD0.self (sz := s.heap.size)
  have hA : ∀ q : Nat, s.heap.size ≤ q → va_A (g_w r_sh dA ad σ) s.heap.size q := fun q h => Or.inr h
  generalize hAe : va_A (g_w r_sh dA ad σ) s.heap.size = A at hD hA hz ⊢
  have hS : va_S A s.heap s.heap [] := va_S.rf
  have hl := lv_entry ([.ref (ad 0), .int o, .long a, .long b]) (n := 6) (Nat.le_of_ble_eq_true rfl)
  rw [lg_entry_eq]
  generalize (lg_sl ([.ref (ad 0), .int o, .long a, .long b]) ++ List.replicate (6 - (lg_sl ([.ref (ad 0), .int o, .long a, .long b])).length) Slot.unset).toArray = ls at hl ⊢
  have hl : lv_has ls 6 [(0, .ref (ad 0)), (1, .int o), (2, .long a), (4, .long b)] := hl
  have hF : f_M_pay σ o a b = f_M_pay σ o a b := rfl
  refine lv_aload_n hx hb d_M_pay_0 rfl (lv_at hl 0 rfl) ?_
  refine g_get hx hb ht in_M hown hK hP (0) r_at0 rfl 6 (by decide) rfl (ht _ kw467) (fun _ h9 => h9) (v := .ref (ad 2)) rfl d_M_pay_1 ?_
  refine lv_iconst (v := (2 : Int32)) hx hb d_M_pay_4 (by decide) ?_
  refine lv_iload_n hx hb d_M_pay_5 rfl (lv_at hl 1 rfl) ?_
  refine lv_imul hx hb d_M_pay_6 ?_
  refine lv_dup2_11 hx hb d_M_pay_7 rfl rfl ?_
  obtain ⟨hs1, hQ⟩ := hQ
  refine g_lald hx hb hK hP (2) r_at2 rfl (hs1) (j := ((2 : Int32) * o).toNatClampNeg) (rfl) d_M_pay_8 ?_
  refine lv_lload_n hx hb d_M_pay_9 rfl (lv_at hl 2 rfl) ?_
  refine lv_lsub hx hb d_M_pay_10 ?_
  obtain ⟨hs2, hQ⟩ := hQ
  refine g_last (x := (σ.2 2 (((2 : Int32) * o).toNatClampNeg)) - a) hx hb hK hP hD hS (2) r_at2 rfl (hs2) (j := ((2 : Int32) * o).toNatClampNeg) (rfl) d_M_pay_11 (fun H locs hP hD hS => ?_)
  refine lv_aload_n hx hb d_M_pay_12 rfl (lv_at hl 0 rfl) ?_
  refine g_get hx hb ht in_M hown hK hP (0) r_at0 rfl 6 (by decide) rfl (ht _ kw467) (fun _ h9 => h9) (v := .ref (ad 2)) rfl d_M_pay_13 ?_
  refine lv_iconst (v := (2 : Int32)) hx hb d_M_pay_16 (by decide) ?_
  refine lv_iload_n hx hb d_M_pay_17 rfl (lv_at hl 1 rfl) ?_
  refine lv_imul hx hb d_M_pay_18 ?_
  refine lv_iconst (v := (1 : Int32)) hx hb d_M_pay_19 (by decide) ?_
  refine lv_iadd hx hb d_M_pay_20 ?_
  refine lv_dup2_11 hx hb d_M_pay_21 rfl rfl ?_
  obtain ⟨hs3, hQ⟩ := hQ
  refine g_lald hx hb hK hP (2) r_at2 rfl (hs3) (j := (((2 : Int32) * o) + (1 : Int32)).toNatClampNeg) (rfl) d_M_pay_22 ?_
  refine lv_lload hx hb d_M_pay_23 (lv_at hl 3 rfl) ?_
  refine lv_lsub hx hb d_M_pay_25 ?_
  obtain ⟨hs4, hQ⟩ := hQ
  refine g_last (x := ((g_L σ 2 (((2 : Int32) * o).toNatClampNeg) ((σ.2 2 (((2 : Int32) * o).toNatClampNeg)) - a)).2 2 ((((2 : Int32) * o) + (1 : Int32)).toNatClampNeg)) - b) hx hb hK hP hD hS (2) r_at2 rfl (hs4) (j := (((2 : Int32) * o) + (1 : Int32)).toNatClampNeg) (rfl) d_M_pay_26 (fun H locs hP hD hS => ?_)
  refine lv_aload_n hx hb d_M_pay_27 rfl (lv_at hl 0 rfl) ?_
  refine g_get hx hb ht in_M hown hK hP (0) r_at0 rfl 7 (by decide) rfl (ht _ kw468) (fun _ h9 => h9) (v := .ref (ad 3)) rfl d_M_pay_28 ?_
  refine lv_iconst (v := (0 : Int32)) hx hb d_M_pay_31 (by decide) ?_
  refine lv_dup2_11 hx hb d_M_pay_32 rfl rfl ?_
  refine g_lald hx hb hK hP (3) r_at3 rfl (by unfold vp_in; decide) (j := 0) (by decide) d_M_pay_33 ?_
  show W _ _ _ _ _ _ _ _ _ _ _ _ _ _ _ (F0 _ _ _ (.long (σ.2 3 0) :: _))
  refine lv_lload_n hx hb d_M_pay_34 rfl (lv_at hl 2 rfl) ?_
  refine lv_ladd hx hb d_M_pay_35 ?_
  refine g_last (x := (σ.2 3 0) + a) hx hb hK hP hD hS (3) r_at3 rfl (by unfold vp_in; decide) (j := 0) (by decide) d_M_pay_36 (fun H locs hP hD hS => ?_)
  refine lv_aload_n hx hb d_M_pay_37 rfl (lv_at hl 0 rfl) ?_
  refine g_get hx hb ht in_M hown hK hP (0) r_at0 rfl 7 (by decide) rfl (ht _ kw468) (fun _ h9 => h9) (v := .ref (ad 3)) rfl d_M_pay_38 ?_
  refine lv_iconst (v := (1 : Int32)) hx hb d_M_pay_41 (by decide) ?_
  refine lv_dup2_11 hx hb d_M_pay_42 rfl rfl ?_
  refine g_lald hx hb hK hP (3) r_at3 rfl (by unfold vp_in; decide) (j := 1) (by decide) d_M_pay_43 ?_
  show W _ _ _ _ _ _ _ _ _ _ _ _ _ _ _ (F0 _ _ _ (.long (σ.2 3 1) :: _))
  refine lv_lload hx hb d_M_pay_44 (lv_at hl 3 rfl) ?_
  refine lv_ladd hx hb d_M_pay_46 ?_
  refine g_last (x := (σ.2 3 1) + b) hx hb hK hP hD hS (3) r_at3 rfl (by unfold vp_in; decide) (j := 1) (by decide) d_M_pay_47 (fun H locs hP hD hS => ?_)
  exact W.vret hx hb hr (fun t hh hW => ⟨⟨g_L (g_L (g_L (g_L σ 2 (((2 : Int32) * o).toNatClampNeg) ((σ.2 2 (((2 : Int32) * o).toNatClampNeg)) - a)) 2 ((((2 : Int32) * o) + (1 : Int32)).toNatClampNeg) (((g_L σ 2 (((2 : Int32) * o).toNatClampNeg) ((σ.2 2 (((2 : Int32) * o).toNatClampNeg)) - a)).2 2 ((((2 : Int32) * o) + (1 : Int32)).toNatClampNeg)) - b)) 3 0 ((σ.2 3 0) + a)) 3 1 ((σ.2 3 1) + b), rfl, hF.symm, by show va_P (dC, dI) cls (g_w r_sh dA ad (g_L (g_L (g_L (g_L σ 2 (((2 : Int32) * o).toNatClampNeg) ((σ.2 2 (((2 : Int32) * o).toNatClampNeg)) - a)) 2 ((((2 : Int32) * o) + (1 : Int32)).toNatClampNeg) (((g_L σ 2 (((2 : Int32) * o).toNatClampNeg) ((σ.2 2 (((2 : Int32) * o).toNatClampNeg)) - a)).2 2 ((((2 : Int32) * o) + (1 : Int32)).toNatClampNeg)) - b)) 3 0 ((σ.2 3 0) + a)) 3 1 ((σ.2 3 1) + b))) t.heap; rw [hh]; exact hP⟩, hS.F hh⟩) hS.2.2 d_M_pay_48
