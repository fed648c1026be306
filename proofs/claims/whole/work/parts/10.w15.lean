def f_M_note_84_4 (σ : g_S) : g_S := g_I (g_L (g_L σ 11 ((σ.1 0 17).toNatClampNeg) (σ.2 0 15)) 12 ((σ.1 0 17).toNatClampNeg) (σ.2 0 16)) 0 17 ((σ.1 0 17) + (1 : Int32))
def k_M_note_84_4 (σ : g_S) : Prop := (vp_in (σ.1 0 17) 8) ∧ (vp_in (σ.1 0 17) 8) ∧ True
def f_M_note_78_12 (σ : g_S) (τ9 : g_S) : g_S := g_I (g_L (g_L (g_I τ9 0 17 (7 : Int32)) 11 ((7 : Int32).toNatClampNeg) (τ9.2 0 15)) 12 ((7 : Int32).toNatClampNeg) (τ9.2 0 16)) 0 17 ((7 : Int32) + (1 : Int32))
def k_M_note_78_12 (σ : g_S) (τ9 : g_S) : Prop := (vp_in (7 : Int32) 8) ∧ (vp_in (7 : Int32) 8) ∧ True
def f_M_note_L38 (σ : g_S) : Nat → Nat → g_S → g_S
  | 0, jk, τ8 => (τ8)
  | jn + 1, jk, τ8 => f_M_note_L38 σ jn (jk + 1) (g_L (g_L τ8 11 jk (τ8.2 11 (jk + 1))) 12 jk (τ8.2 12 (jk + 1)))
def f_M_note_36_7 (σ : g_S) : g_S := (f_M_note_78_12 σ (f_M_note_L38 σ 7 0 σ))
def k_M_note_36_7 (σ : g_S) : Prop := (k_M_note_78_12 σ (f_M_note_L38 σ 7 0 σ))
def f_M_note_27_2 (σ : g_S) : g_S := (if (σ.1 0 17) = (8 : Int32) then f_M_note_36_7 σ else f_M_note_84_4 σ)
def k_M_note_27_2 (σ : g_S) : Prop := (if (σ.1 0 17) = (8 : Int32) then k_M_note_36_7 σ else k_M_note_84_4 σ)
def f_M_note_84_23 (σ : g_S) : g_S := g_I (g_L (g_L σ 11 ((σ.1 0 17).toNatClampNeg) (σ.2 0 15)) 12 ((σ.1 0 17).toNatClampNeg) (σ.2 0 16)) 0 17 ((σ.1 0 17) + (1 : Int32))
def k_M_note_84_23 (σ : g_S) : Prop := (vp_in (σ.1 0 17) 8) ∧ (vp_in (σ.1 0 17) 8) ∧ True
def f_M_note_78_31 (σ : g_S) (τ28 : g_S) : g_S := g_I (g_L (g_L (g_I τ28 0 17 (7 : Int32)) 11 ((7 : Int32).toNatClampNeg) (τ28.2 0 15)) 12 ((7 : Int32).toNatClampNeg) (τ28.2 0 16)) 0 17 ((7 : Int32) + (1 : Int32))
def k_M_note_78_31 (σ : g_S) (τ28 : g_S) : Prop := (vp_in (7 : Int32) 8) ∧ (vp_in (7 : Int32) 8) ∧ True
def f_M_note_L38_1 (σ : g_S) : Nat → Nat → g_S → g_S
  | 0, jk, τ27 => (τ27)
  | jn + 1, jk, τ27 => f_M_note_L38_1 σ jn (jk + 1) (g_L (g_L τ27 11 jk (τ27.2 11 (jk + 1))) 12 jk (τ27.2 12 (jk + 1)))
def f_M_note_36_26 (σ : g_S) : g_S := (f_M_note_78_31 σ (f_M_note_L38_1 σ 7 0 σ))
def k_M_note_36_26 (σ : g_S) : Prop := (k_M_note_78_31 σ (f_M_note_L38_1 σ 7 0 σ))
def f_M_note_27_21 (σ : g_S) : g_S := (if (σ.1 0 17) = (8 : Int32) then f_M_note_36_26 σ else f_M_note_84_23 σ)
def k_M_note_27_21 (σ : g_S) : Prop := (if (σ.1 0 17) = (8 : Int32) then k_M_note_36_26 σ else k_M_note_84_23 σ)
def f_M_note_26_37 (σ : g_S) : g_S := σ
def k_M_note_26_37 (σ : g_S) : Prop := True
def f_M_note_7_18 (σ : g_S) : g_S := (if (σ.2 11 (((σ.1 0 17) - (1 : Int32)).toNatClampNeg)) = (σ.2 0 15) then f_M_note_26_37 σ else f_M_note_27_21 σ)
def k_M_note_7_18 (σ : g_S) : Prop := (vp_in ((σ.1 0 17) - (1 : Int32)) 8) ∧ (if (σ.2 11 (((σ.1 0 17) - (1 : Int32)).toNatClampNeg)) = (σ.2 0 15) then k_M_note_26_37 σ else k_M_note_27_21 σ)
def f_M_note (σ : g_S) : g_S := (if (σ.1 0 17) ≤ 0 then f_M_note_27_2 σ else f_M_note_7_18 σ)
def k_M_note (σ : g_S) : Prop := (if (σ.1 0 17) ≤ 0 then k_M_note_27_2 σ else k_M_note_7_18 σ)
set_option maxHeartbeats 4000000 in
set_option maxRecDepth 100000 in
theorem c_M_note (l : Launch) (dC : Nat → ClassId) (dI : Nat → Nat → Nat) (dA : Nat → ClassId) (ad : Nat → Nat) (sz : Nat) (σ : g_S) (hQ : k_M_note σ) : Met l y_M_note w_M_note ({ frames := 0, cells := 0, slots := 0, locals := 0 }) (va_Pc [.ref (ad 0)] (g_W (dC, dI) cls (r_tys dA) (g_w r_sh dA ad σ) sz r_Z)) (va_Qv (fun τ => τ = f_M_note σ) (fun τ t => va_P (dC, dI) cls (g_w r_sh dA ad τ) t.heap) (va_A (g_w r_sh dA ad σ) sz)) 0 0 (va_A (g_w r_sh dA ad σ) sz) := by
  refine Met.ofW (cc := b_M_note) (maxL := 2) (ret := none) (by decide) rfl ?_
  intro p e s m args below meth c s₁ B hml hv
  obtain ⟨rfl, hsz, hP, hK, hD0, hz⟩ := hv
  have hx := B.exec
  have hb := B.bytes
  have hr := B.returns
  have hts := atoms_spec (ws := w_M_note) B.pre
  have ht := fun (w : Cond) (h : w ∈ gA) => hts w (List.mem_cons_of_mem _ h)
  have hown : s.vm.findClass "RangedPoolModel" = some m.cls := findClass_of_methodNamed B.named
  have hlocks := B.notSynchronized
  subst hsz
  have hD := hD0.self (sz := s.heap.size)
  have hA : ∀ q : Nat, s.heap.size ≤ q → va_A (g_w r_sh dA ad σ) s.heap.size q := fun q h => Or.inr h
  generalize hAe : va_A (g_w r_sh dA ad σ) s.heap.size = A at hD hA hz ⊢
  have hS : va_S A s.heap s.heap [] := va_S.rf
  have hl := lv_entry ([.ref (ad 0)]) (n := 2) (Nat.le_of_ble_eq_true rfl)
  rw [lg_entry_eq]
  generalize (lg_sl ([.ref (ad 0)]) ++ List.replicate (2 - (lg_sl ([.ref (ad 0)])).length) Slot.unset).toArray = ls at hl ⊢
  have hl : lv_has ls 2 [(0, .ref (ad 0))] := hl
  have hF : f_M_note σ = f_M_note σ := rfl
  refine lv_aload_n hx hb d_M_note_0 rfl (lv_at hl 0 rfl) ?_
  refine g_get hx hb ht in_M hown hK hP (0) r_at0 rfl 17 (by decide) rfl (ht _ kw478) (fun _ h9 => h9) (v := .int (σ.1 0 17)) rfl d_M_note_1 ?_
  refine lv_if_le (tgt := 27) hx hb d_M_note_4 (by decide) (fun c1 => ?_) (fun c1 => ?_)
  ·
    have c1 : (σ.1 0 17) ≤ 0 := c1
    have hF : f_M_note σ = f_M_note_27_2 σ := hF.trans (if_pos c1)
    have hQ : k_M_note_27_2 σ := Eq.mp (if_pos c1) hQ
    refine lv_aload_n hx hb d_M_note_27 rfl (lv_at hl 0 rfl) ?_
    refine g_get hx hb ht in_M hown hK hP (0) r_at0 rfl 17 (by decide) rfl (ht _ kw478) (fun _ h9 => h9) (v := .int (σ.1 0 17)) rfl d_M_note_28 ?_
    refine lv_bipush (v := (8 : Int32)) hx hb d_M_note_31 (by decide) ?_
    refine lv_icmp_ne (tgt := 84) hx hb d_M_note_33 (by decide) (fun c3 => ?_) (fun c3 => ?_)
    ·
      have c3 : ¬ ((σ.1 0 17) = (8 : Int32)) := c3
      have hF : f_M_note σ = f_M_note_84_4 σ := hF.trans (if_neg c3)
      have hQ : k_M_note_84_4 σ := Eq.mp (if_neg c3) hQ
      refine lv_aload_n hx hb d_M_note_84 rfl (lv_at hl 0 rfl) ?_
      refine g_get hx hb ht in_M hown hK hP (0) r_at0 rfl 18 (by decide) rfl (ht _ kw479) (fun _ h9 => h9) (v := .ref (ad 11)) rfl d_M_note_85 ?_
      refine lv_aload_n hx hb d_M_note_88 rfl (lv_at hl 0 rfl) ?_
      refine g_get hx hb ht in_M hown hK hP (0) r_at0 rfl 17 (by decide) rfl (ht _ kw478) (fun _ h9 => h9) (v := .int (σ.1 0 17)) rfl d_M_note_89 ?_
      refine lv_aload_n hx hb d_M_note_92 rfl (lv_at hl 0 rfl) ?_
      refine g_get hx hb ht in_M hown hK hP (0) r_at0 rfl 15 (by decide) rfl (ht _ kw476) (fun _ h9 => h9) (v := .long (σ.2 0 15)) rfl d_M_note_93 ?_
      obtain ⟨hs5, hQ⟩ := hQ
      refine g_last (x := σ.2 0 15) hx hb hK hP hD hS (11) r_at11 rfl (hs5) (j := (σ.1 0 17).toNatClampNeg) (rfl) d_M_note_96 (fun H locs hP hD hS => ?_)
      refine lv_aload_n hx hb d_M_note_97 rfl (lv_at hl 0 rfl) ?_
      refine g_get hx hb ht in_M hown hK hP (0) r_at0 rfl 19 (by decide) rfl (ht _ kw480) (fun _ h9 => h9) (v := .ref (ad 12)) rfl d_M_note_98 ?_
      refine lv_aload_n hx hb d_M_note_101 rfl (lv_at hl 0 rfl) ?_
      refine g_get hx hb ht in_M hown hK hP (0) r_at0 rfl 17 (by decide) rfl (ht _ kw478) (fun _ h9 => h9) (v := .int (σ.1 0 17)) rfl d_M_note_102 ?_
      refine lv_aload_n hx hb d_M_note_105 rfl (lv_at hl 0 rfl) ?_
      refine g_get hx hb ht in_M hown hK hP (0) r_at0 rfl 16 (by decide) rfl (ht _ kw477) (fun _ h9 => h9) (v := .long (σ.2 0 16)) rfl d_M_note_106 ?_
      obtain ⟨hs6, hQ⟩ := hQ
      refine g_last (x := σ.2 0 16) hx hb hK hP hD hS (12) r_at12 rfl (hs6) (j := (σ.1 0 17).toNatClampNeg) (rfl) d_M_note_109 (fun H locs hP hD hS => ?_)
      refine lv_aload_n hx hb d_M_note_110 rfl (lv_at hl 0 rfl) ?_
      refine lv_dup hx hb d_M_note_111 rfl ?_
      refine g_get hx hb ht in_M hown hK hP (0) r_at0 rfl 17 (by decide) rfl (ht _ kw478) (fun _ h9 => h9) (v := .int (σ.1 0 17)) rfl d_M_note_112 ?_
      refine lv_iconst (v := (1 : Int32)) hx hb d_M_note_115 (by decide) ?_
      refine lv_iadd hx hb d_M_note_116 ?_
      refine g_putI (v := (σ.1 0 17) + (1 : Int32)) (ty := .int) hx hb ht in_M yt_M yt_M_ok n_M hown hK hP hD hS (0) r_at0 rfl 17 (by decide) rfl (ht _ kw478) (fun _ h9 => h9) rfl (by decide +kernel) (rfl) (rfl) d_M_note_117 (fun H locs hP hD hS => ?_)
      exact W.vret hx hb hr (fun t hh hW => ⟨⟨g_I (g_L (g_L σ 11 ((σ.1 0 17).toNatClampNeg) (σ.2 0 15)) 12 ((σ.1 0 17).toNatClampNeg) (σ.2 0 16)) 0 17 ((σ.1 0 17) + (1 : Int32)), rfl, hF.symm, by show va_P (dC, dI) cls (g_w r_sh dA ad (g_I (g_L (g_L σ 11 ((σ.1 0 17).toNatClampNeg) (σ.2 0 15)) 12 ((σ.1 0 17).toNatClampNeg) (σ.2 0 16)) 0 17 ((σ.1 0 17) + (1 : Int32)))) t.heap; rw [hh]; exact hP⟩, hS.F hh⟩) hS.2.2 d_M_note_120
    ·
      have c3 : (σ.1 0 17) = (8 : Int32) := c3
      have hF : f_M_note σ = f_M_note_36_7 σ := hF.trans (if_pos c3)
      have hQ : k_M_note_36_7 σ := Eq.mp (if_pos c3) hQ
      refine lv_iconst (v := (0 : Int32)) hx hb d_M_note_36 (by decide) ?_
      refine lv_istore_n (lv' := [(1, .int (0 : Int32)), (0, .ref (ad 0))]) hx hb d_M_note_37 rfl hl (by decide) rfl (fun ls hl => ?_)
      have J78_10 : ∀ (τ9 : g_S) (ls : Array Slot) (H : Heap) (locs : List Loc), τ9 = (f_M_note_L38 σ 7 0 σ) → lv_has ls 2 [(0, .ref (ad 0))] → va_P (dC, dI) cls (g_w r_sh dA ad τ9) H → va_D A (g_w r_sh dA ad τ9) → va_S A s.heap H locs → W p l e (headSpec w_M_note ({ frames := 0, cells := 0, slots := 0, locals := 0 })).room s m ([.ref (ad 0)] : List Value).toArray below meth c H locs 0 0 (MQ below (va_Qv (fun τ => τ = f_M_note σ) (fun τ t => va_P (dC, dI) cls (g_w r_sh dA ad τ) t.heap) A) ([.ref (ad 0)] : List Value).toArray s 0 0 A) (F0 m 78 ls []) := by
        intro τ9 ls H locs e11 hl hP hD hS
        have hF : f_M_note σ = f_M_note_78_12 σ τ9 := hF.trans (by rw [e11]; try rfl)
        have hQ : k_M_note_78_12 σ τ9 := by rw [e11]; exact hQ
        refine lv_aload_n hx hb d_M_note_78 rfl (lv_at hl 0 rfl) ?_
        refine lv_bipush (v := (7 : Int32)) hx hb d_M_note_79 (by decide) ?_
        refine g_putI (v := (7 : Int32)) (ty := .int) hx hb ht in_M yt_M yt_M_ok n_M hown hK hP hD hS (0) r_at0 rfl 17 (by decide) rfl (ht _ kw478) (fun _ h9 => h9) rfl (by decide +kernel) (rfl) (rfl) d_M_note_81 (fun H locs hP hD hS => ?_)
        refine lv_aload_n hx hb d_M_note_84 rfl (lv_at hl 0 rfl) ?_
        refine g_get hx hb ht in_M hown hK hP (0) r_at0 rfl 18 (by decide) rfl (ht _ kw479) (fun _ h9 => h9) (v := .ref (ad 11)) rfl d_M_note_85 ?_
        refine lv_aload_n hx hb d_M_note_88 rfl (lv_at hl 0 rfl) ?_
        refine g_get hx hb ht in_M hown hK hP (0) r_at0 rfl 17 (by decide) rfl (ht _ kw478) (fun _ h9 => h9) (v := .int (7 : Int32)) rfl d_M_note_89 ?_
        refine lv_aload_n hx hb d_M_note_92 rfl (lv_at hl 0 rfl) ?_
        refine g_get hx hb ht in_M hown hK hP (0) r_at0 rfl 15 (by decide) rfl (ht _ kw476) (fun _ h9 => h9) (v := .long (τ9.2 0 15)) rfl d_M_note_93 ?_
        obtain ⟨hs13, hQ⟩ := hQ
        refine g_last (x := τ9.2 0 15) hx hb hK hP hD hS (11) r_at11 rfl (hs13) (j := (7 : Int32).toNatClampNeg) (rfl) d_M_note_96 (fun H locs hP hD hS => ?_)
        refine lv_aload_n hx hb d_M_note_97 rfl (lv_at hl 0 rfl) ?_
        refine g_get hx hb ht in_M hown hK hP (0) r_at0 rfl 19 (by decide) rfl (ht _ kw480) (fun _ h9 => h9) (v := .ref (ad 12)) rfl d_M_note_98 ?_
        refine lv_aload_n hx hb d_M_note_101 rfl (lv_at hl 0 rfl) ?_
        refine g_get hx hb ht in_M hown hK hP (0) r_at0 rfl 17 (by decide) rfl (ht _ kw478) (fun _ h9 => h9) (v := .int (7 : Int32)) rfl d_M_note_102 ?_
        refine lv_aload_n hx hb d_M_note_105 rfl (lv_at hl 0 rfl) ?_
        refine g_get hx hb ht in_M hown hK hP (0) r_at0 rfl 16 (by decide) rfl (ht _ kw477) (fun _ h9 => h9) (v := .long (τ9.2 0 16)) rfl d_M_note_106 ?_
        obtain ⟨hs14, hQ⟩ := hQ
        refine g_last (x := τ9.2 0 16) hx hb hK hP hD hS (12) r_at12 rfl (hs14) (j := (7 : Int32).toNatClampNeg) (rfl) d_M_note_109 (fun H locs hP hD hS => ?_)
        refine lv_aload_n hx hb d_M_note_110 rfl (lv_at hl 0 rfl) ?_
        refine lv_dup hx hb d_M_note_111 rfl ?_
        refine g_get hx hb ht in_M hown hK hP (0) r_at0 rfl 17 (by decide) rfl (ht _ kw478) (fun _ h9 => h9) (v := .int (7 : Int32)) rfl d_M_note_112 ?_
        refine lv_iconst (v := (1 : Int32)) hx hb d_M_note_115 (by decide) ?_
        refine lv_iadd hx hb d_M_note_116 ?_
        refine g_putI (v := (7 : Int32) + (1 : Int32)) (ty := .int) hx hb ht in_M yt_M yt_M_ok n_M hown hK hP hD hS (0) r_at0 rfl 17 (by decide) rfl (ht _ kw478) (fun _ h9 => h9) rfl (by decide +kernel) (rfl) (rfl) d_M_note_117 (fun H locs hP hD hS => ?_)
        exact W.vret hx hb hr (fun t hh hW => ⟨⟨g_I (g_L (g_L (g_I τ9 0 17 (7 : Int32)) 11 ((7 : Int32).toNatClampNeg) (τ9.2 0 15)) 12 ((7 : Int32).toNatClampNeg) (τ9.2 0 16)) 0 17 ((7 : Int32) + (1 : Int32)), rfl, hF.symm, by show va_P (dC, dI) cls (g_w r_sh dA ad (g_I (g_L (g_L (g_I τ9 0 17 (7 : Int32)) 11 ((7 : Int32).toNatClampNeg) (τ9.2 0 15)) 12 ((7 : Int32).toNatClampNeg) (τ9.2 0 16)) 0 17 ((7 : Int32) + (1 : Int32)))) t.heap; rw [hh]; exact hP⟩, hS.F hh⟩) hS.2.2 d_M_note_120
      have LL38_15 : ∀ (jn : Nat) (jk : Nat) (τ8 : g_S) (ls : Array Slot) (H : Heap) (locs : List Loc), jk + jn = 7 → f_M_note_L38 σ 7 0 σ = f_M_note_L38 σ jn jk τ8 → lv_has ls 2 [(1, .int (Int32.ofNat jk)), (0, .ref (ad 0))] → va_P (dC, dI) cls (g_w r_sh dA ad τ8) H → va_D A (g_w r_sh dA ad τ8) → va_S A s.heap H locs → W p l e (headSpec w_M_note ({ frames := 0, cells := 0, slots := 0, locals := 0 })).room s m ([.ref (ad 0)] : List Value).toArray below meth c H locs 0 0 (MQ below (va_Qv (fun τ => τ = f_M_note σ) (fun τ t => va_P (dC, dI) cls (g_w r_sh dA ad τ) t.heap) A) ([.ref (ad 0)] : List Value).toArray s 0 0 A) (F0 m 38 ls []) := by
        intro jn
        induction jn with
        | zero =>
          intro jk τ8 ls H locs hkn hF hl hP hD hS
          have hF : f_M_note_L38 σ 7 0 σ = (τ8) := hF
          skip
          refine lv_iload_n hx hb d_M_note_38 rfl (lv_at hl 0 rfl) ?_
          refine lv_bipush (v := (7 : Int32)) hx hb d_M_note_39 (by decide) ?_
          refine lv_icmp_ge (tgt := 78) hx hb d_M_note_41 (by decide) (fun _ => ?_) (fun c16 => absurd (g_geN (N := 7) (by omega)) c16)
          exact J78_10 τ8 ls H locs hF.symm (lv_sub hl [1] rfl) hP hD hS
        | succ jn ih =>
          intro jk τ8 ls H locs hkn hF hl hP hD hS
          have hF : f_M_note_L38 σ 7 0 σ = f_M_note_L38 σ jn (jk + 1) (g_L (g_L τ8 11 jk (τ8.2 11 (jk + 1))) 12 jk (τ8.2 12 (jk + 1))) := hF
          skip
          refine lv_iload_n hx hb d_M_note_38 rfl (lv_at hl 0 rfl) ?_
          refine lv_bipush (v := (7 : Int32)) hx hb d_M_note_39 (by decide) ?_
          refine lv_icmp_ge (tgt := 78) hx hb d_M_note_41 (by decide) (fun c17 => absurd c17 (g_lt (N := 7) (by omega) (by decide))) (fun _ => ?_)
          refine lv_aload_n hx hb d_M_note_44 rfl (lv_at hl 1 rfl) ?_
          refine g_get hx hb ht in_M hown hK hP (0) r_at0 rfl 18 (by decide) rfl (ht _ kw479) (fun _ h9 => h9) (v := .ref (ad 11)) rfl d_M_note_45 ?_
          refine lv_iload_n hx hb d_M_note_48 rfl (lv_at hl 0 rfl) ?_
          refine lv_aload_n hx hb d_M_note_49 rfl (lv_at hl 1 rfl) ?_
          refine g_get hx hb ht in_M hown hK hP (0) r_at0 rfl 18 (by decide) rfl (ht _ kw479) (fun _ h9 => h9) (v := .ref (ad 11)) rfl d_M_note_50 ?_
          refine lv_iload_n hx hb d_M_note_53 rfl (lv_at hl 0 rfl) ?_
          refine lv_iconst (v := (1 : Int32)) hx hb d_M_note_54 (by decide) ?_
          refine lv_iadd hx hb d_M_note_55 ?_
          refine g_lald hx hb hK hP (11) r_at11 rfl (g_eix (g_eadd (a := jk) (b := 1) rfl rfl) (by omega) (by omega)) (j := jk + 1) (g_ena (g_eadd (a := jk) (b := 1) rfl rfl) (by omega)) d_M_note_56 ?_
          refine g_last (x := τ8.2 11 (jk + 1)) hx hb hK hP hD hS (11) r_at11 rfl (g_eix rfl (by omega) (by omega)) (j := jk) (g_ena rfl (by omega)) d_M_note_57 (fun H locs hP hD hS => ?_)
          refine lv_aload_n hx hb d_M_note_58 rfl (lv_at hl 1 rfl) ?_
          refine g_get hx hb ht in_M hown hK hP (0) r_at0 rfl 19 (by decide) rfl (ht _ kw480) (fun _ h9 => h9) (v := .ref (ad 12)) rfl d_M_note_59 ?_
          refine lv_iload_n hx hb d_M_note_62 rfl (lv_at hl 0 rfl) ?_
          refine lv_aload_n hx hb d_M_note_63 rfl (lv_at hl 1 rfl) ?_
          refine g_get hx hb ht in_M hown hK hP (0) r_at0 rfl 19 (by decide) rfl (ht _ kw480) (fun _ h9 => h9) (v := .ref (ad 12)) rfl d_M_note_64 ?_
          refine lv_iload_n hx hb d_M_note_67 rfl (lv_at hl 0 rfl) ?_
          refine lv_iconst (v := (1 : Int32)) hx hb d_M_note_68 (by decide) ?_
          refine lv_iadd hx hb d_M_note_69 ?_
          refine g_lald hx hb hK hP (12) r_at12 rfl (g_eix (g_eadd (a := jk) (b := 1) rfl rfl) (by omega) (by omega)) (j := jk + 1) (g_ena (g_eadd (a := jk) (b := 1) rfl rfl) (by omega)) d_M_note_70 ?_
          show W _ _ _ _ _ _ _ _ _ _ _ _ _ _ _ (F0 _ _ _ (.long (τ8.2 12 (jk + 1)) :: _))
          refine g_last (x := τ8.2 12 (jk + 1)) hx hb hK hP hD hS (12) r_at12 rfl (g_eix rfl (by omega) (by omega)) (j := jk) (g_ena rfl (by omega)) d_M_note_71 (fun H locs hP hD hS => ?_)
          refine lv_iinc (v := Int32.ofNat (jk + 1)) (lv' := [(1, .int (Int32.ofNat (jk + 1))), (0, .ref (ad 0))]) hx hb d_M_note_72 hl (k := 0) rfl (g_inc jk) (by decide) rfl (fun ls hl => ?_)
          refine lv_goto (tgt := 38) hx hb d_M_note_75 (by decide) ?_
          exact ih (jk + 1) (g_L (g_L τ8 11 jk (τ8.2 11 (jk + 1))) 12 jk (τ8.2 12 (jk + 1))) ls H locs (by omega) hF (lv_sub hl [0, 1] rfl) hP hD hS
      exact LL38_15 7 0 σ ls s.heap [] (by omega) rfl  (lv_sub hl [0, 1] rfl) hP hD hS
  ·
    have c1 : ¬ ((σ.1 0 17) ≤ 0) := c1
    have hF : f_M_note σ = f_M_note_7_18 σ := hF.trans (if_neg c1)
    have hQ : k_M_note_7_18 σ := Eq.mp (if_neg c1) hQ
    refine lv_aload_n hx hb d_M_note_7 rfl (lv_at hl 0 rfl) ?_
    refine g_get hx hb ht in_M hown hK hP (0) r_at0 rfl 18 (by decide) rfl (ht _ kw479) (fun _ h9 => h9) (v := .ref (ad 11)) rfl d_M_note_8 ?_
    refine lv_aload_n hx hb d_M_note_11 rfl (lv_at hl 0 rfl) ?_
    refine g_get hx hb ht in_M hown hK hP (0) r_at0 rfl 17 (by decide) rfl (ht _ kw478) (fun _ h9 => h9) (v := .int (σ.1 0 17)) rfl d_M_note_12 ?_
    refine lv_iconst (v := (1 : Int32)) hx hb d_M_note_15 (by decide) ?_
    refine lv_isub hx hb d_M_note_16 ?_
    obtain ⟨hs19, hQ⟩ := hQ
    refine g_lald hx hb hK hP (11) r_at11 rfl (hs19) (j := ((σ.1 0 17) - (1 : Int32)).toNatClampNeg) (rfl) d_M_note_17 ?_
    refine lv_aload_n hx hb d_M_note_18 rfl (lv_at hl 0 rfl) ?_
    refine g_get hx hb ht in_M hown hK hP (0) r_at0 rfl 15 (by decide) rfl (ht _ kw476) (fun _ h9 => h9) (v := .long (σ.2 0 15)) rfl d_M_note_19 ?_
    refine W.lcmp hx hb d_M_note_22 ?_
    refine lv_if_ne (tgt := 27) hx hb d_M_note_23 (by decide) (fun c20 => ?_) (fun c20 => ?_)
    ·
      have c20 : ¬ ((σ.2 11 (((σ.1 0 17) - (1 : Int32)).toNatClampNeg)) = (σ.2 0 15)) := mt (lg_cmp_eq _ _).mpr c20
      have hF : f_M_note σ = f_M_note_27_21 σ := hF.trans (if_neg c20)
      have hQ : k_M_note_27_21 σ := Eq.mp (if_neg c20) hQ
      refine lv_aload_n hx hb d_M_note_27 rfl (lv_at hl 0 rfl) ?_
      refine g_get hx hb ht in_M hown hK hP (0) r_at0 rfl 17 (by decide) rfl (ht _ kw478) (fun _ h9 => h9) (v := .int (σ.1 0 17)) rfl d_M_note_28 ?_
      refine lv_bipush (v := (8 : Int32)) hx hb d_M_note_31 (by decide) ?_
      refine lv_icmp_ne (tgt := 84) hx hb d_M_note_33 (by decide) (fun c22 => ?_) (fun c22 => ?_)
      ·
        have c22 : ¬ ((σ.1 0 17) = (8 : Int32)) := c22
        have hF : f_M_note σ = f_M_note_84_23 σ := hF.trans (if_neg c22)
        have hQ : k_M_note_84_23 σ := Eq.mp (if_neg c22) hQ
        refine lv_aload_n hx hb d_M_note_84 rfl (lv_at hl 0 rfl) ?_
        refine g_get hx hb ht in_M hown hK hP (0) r_at0 rfl 18 (by decide) rfl (ht _ kw479) (fun _ h9 => h9) (v := .ref (ad 11)) rfl d_M_note_85 ?_
        refine lv_aload_n hx hb d_M_note_88 rfl (lv_at hl 0 rfl) ?_
        refine g_get hx hb ht in_M hown hK hP (0) r_at0 rfl 17 (by decide) rfl (ht _ kw478) (fun _ h9 => h9) (v := .int (σ.1 0 17)) rfl d_M_note_89 ?_
        refine lv_aload_n hx hb d_M_note_92 rfl (lv_at hl 0 rfl) ?_
        refine g_get hx hb ht in_M hown hK hP (0) r_at0 rfl 15 (by decide) rfl (ht _ kw476) (fun _ h9 => h9) (v := .long (σ.2 0 15)) rfl d_M_note_93 ?_
        obtain ⟨hs24, hQ⟩ := hQ
        refine g_last (x := σ.2 0 15) hx hb hK hP hD hS (11) r_at11 rfl (hs24) (j := (σ.1 0 17).toNatClampNeg) (rfl) d_M_note_96 (fun H locs hP hD hS => ?_)
        refine lv_aload_n hx hb d_M_note_97 rfl (lv_at hl 0 rfl) ?_
        refine g_get hx hb ht in_M hown hK hP (0) r_at0 rfl 19 (by decide) rfl (ht _ kw480) (fun _ h9 => h9) (v := .ref (ad 12)) rfl d_M_note_98 ?_
        refine lv_aload_n hx hb d_M_note_101 rfl (lv_at hl 0 rfl) ?_
        refine g_get hx hb ht in_M hown hK hP (0) r_at0 rfl 17 (by decide) rfl (ht _ kw478) (fun _ h9 => h9) (v := .int (σ.1 0 17)) rfl d_M_note_102 ?_
        refine lv_aload_n hx hb d_M_note_105 rfl (lv_at hl 0 rfl) ?_
        refine g_get hx hb ht in_M hown hK hP (0) r_at0 rfl 16 (by decide) rfl (ht _ kw477) (fun _ h9 => h9) (v := .long (σ.2 0 16)) rfl d_M_note_106 ?_
        obtain ⟨hs25, hQ⟩ := hQ
        refine g_last (x := σ.2 0 16) hx hb hK hP hD hS (12) r_at12 rfl (hs25) (j := (σ.1 0 17).toNatClampNeg) (rfl) d_M_note_109 (fun H locs hP hD hS => ?_)
        refine lv_aload_n hx hb d_M_note_110 rfl (lv_at hl 0 rfl) ?_
        refine lv_dup hx hb d_M_note_111 rfl ?_
        refine g_get hx hb ht in_M hown hK hP (0) r_at0 rfl 17 (by decide) rfl (ht _ kw478) (fun _ h9 => h9) (v := .int (σ.1 0 17)) rfl d_M_note_112 ?_
        refine lv_iconst (v := (1 : Int32)) hx hb d_M_note_115 (by decide) ?_
        refine lv_iadd hx hb d_M_note_116 ?_
        refine g_putI (v := (σ.1 0 17) + (1 : Int32)) (ty := .int) hx hb ht in_M yt_M yt_M_ok n_M hown hK hP hD hS (0) r_at0 rfl 17 (by decide) rfl (ht _ kw478) (fun _ h9 => h9) rfl (by decide +kernel) (rfl) (rfl) d_M_note_117 (fun H locs hP hD hS => ?_)
        exact W.vret hx hb hr (fun t hh hW => ⟨⟨g_I (g_L (g_L σ 11 ((σ.1 0 17).toNatClampNeg) (σ.2 0 15)) 12 ((σ.1 0 17).toNatClampNeg) (σ.2 0 16)) 0 17 ((σ.1 0 17) + (1 : Int32)), rfl, hF.symm, by show va_P (dC, dI) cls (g_w r_sh dA ad (g_I (g_L (g_L σ 11 ((σ.1 0 17).toNatClampNeg) (σ.2 0 15)) 12 ((σ.1 0 17).toNatClampNeg) (σ.2 0 16)) 0 17 ((σ.1 0 17) + (1 : Int32)))) t.heap; rw [hh]; exact hP⟩, hS.F hh⟩) hS.2.2 d_M_note_120
      ·
        have c22 : (σ.1 0 17) = (8 : Int32) := c22
        have hF : f_M_note σ = f_M_note_36_26 σ := hF.trans (if_pos c22)
        have hQ : k_M_note_36_26 σ := Eq.mp (if_pos c22) hQ
        refine lv_iconst (v := (0 : Int32)) hx hb d_M_note_36 (by decide) ?_
        refine lv_istore_n (lv' := [(1, .int (0 : Int32)), (0, .ref (ad 0))]) hx hb d_M_note_37 rfl hl (by decide) rfl (fun ls hl => ?_)
        have J78_29 : ∀ (τ28 : g_S) (ls : Array Slot) (H : Heap) (locs : List Loc), τ28 = (f_M_note_L38_1 σ 7 0 σ) → lv_has ls 2 [(0, .ref (ad 0))] → va_P (dC, dI) cls (g_w r_sh dA ad τ28) H → va_D A (g_w r_sh dA ad τ28) → va_S A s.heap H locs → W p l e (headSpec w_M_note ({ frames := 0, cells := 0, slots := 0, locals := 0 })).room s m ([.ref (ad 0)] : List Value).toArray below meth c H locs 0 0 (MQ below (va_Qv (fun τ => τ = f_M_note σ) (fun τ t => va_P (dC, dI) cls (g_w r_sh dA ad τ) t.heap) A) ([.ref (ad 0)] : List Value).toArray s 0 0 A) (F0 m 78 ls []) := by
          intro τ28 ls H locs e30 hl hP hD hS
          have hF : f_M_note σ = f_M_note_78_31 σ τ28 := hF.trans (by rw [e30]; try rfl)
          have hQ : k_M_note_78_31 σ τ28 := by rw [e30]; exact hQ
          refine lv_aload_n hx hb d_M_note_78 rfl (lv_at hl 0 rfl) ?_
          refine lv_bipush (v := (7 : Int32)) hx hb d_M_note_79 (by decide) ?_
          refine g_putI (v := (7 : Int32)) (ty := .int) hx hb ht in_M yt_M yt_M_ok n_M hown hK hP hD hS (0) r_at0 rfl 17 (by decide) rfl (ht _ kw478) (fun _ h9 => h9) rfl (by decide +kernel) (rfl) (rfl) d_M_note_81 (fun H locs hP hD hS => ?_)
          refine lv_aload_n hx hb d_M_note_84 rfl (lv_at hl 0 rfl) ?_
          refine g_get hx hb ht in_M hown hK hP (0) r_at0 rfl 18 (by decide) rfl (ht _ kw479) (fun _ h9 => h9) (v := .ref (ad 11)) rfl d_M_note_85 ?_
          refine lv_aload_n hx hb d_M_note_88 rfl (lv_at hl 0 rfl) ?_
          refine g_get hx hb ht in_M hown hK hP (0) r_at0 rfl 17 (by decide) rfl (ht _ kw478) (fun _ h9 => h9) (v := .int (7 : Int32)) rfl d_M_note_89 ?_
          refine lv_aload_n hx hb d_M_note_92 rfl (lv_at hl 0 rfl) ?_
          refine g_get hx hb ht in_M hown hK hP (0) r_at0 rfl 15 (by decide) rfl (ht _ kw476) (fun _ h9 => h9) (v := .long (τ28.2 0 15)) rfl d_M_note_93 ?_
          obtain ⟨hs32, hQ⟩ := hQ
          refine g_last (x := τ28.2 0 15) hx hb hK hP hD hS (11) r_at11 rfl (hs32) (j := (7 : Int32).toNatClampNeg) (rfl) d_M_note_96 (fun H locs hP hD hS => ?_)
          refine lv_aload_n hx hb d_M_note_97 rfl (lv_at hl 0 rfl) ?_
          refine g_get hx hb ht in_M hown hK hP (0) r_at0 rfl 19 (by decide) rfl (ht _ kw480) (fun _ h9 => h9) (v := .ref (ad 12)) rfl d_M_note_98 ?_
          refine lv_aload_n hx hb d_M_note_101 rfl (lv_at hl 0 rfl) ?_
          refine g_get hx hb ht in_M hown hK hP (0) r_at0 rfl 17 (by decide) rfl (ht _ kw478) (fun _ h9 => h9) (v := .int (7 : Int32)) rfl d_M_note_102 ?_
          refine lv_aload_n hx hb d_M_note_105 rfl (lv_at hl 0 rfl) ?_
          refine g_get hx hb ht in_M hown hK hP (0) r_at0 rfl 16 (by decide) rfl (ht _ kw477) (fun _ h9 => h9) (v := .long (τ28.2 0 16)) rfl d_M_note_106 ?_
          obtain ⟨hs33, hQ⟩ := hQ
          refine g_last (x := τ28.2 0 16) hx hb hK hP hD hS (12) r_at12 rfl (hs33) (j := (7 : Int32).toNatClampNeg) (rfl) d_M_note_109 (fun H locs hP hD hS => ?_)
          refine lv_aload_n hx hb d_M_note_110 rfl (lv_at hl 0 rfl) ?_
          refine lv_dup hx hb d_M_note_111 rfl ?_
          refine g_get hx hb ht in_M hown hK hP (0) r_at0 rfl 17 (by decide) rfl (ht _ kw478) (fun _ h9 => h9) (v := .int (7 : Int32)) rfl d_M_note_112 ?_
          refine lv_iconst (v := (1 : Int32)) hx hb d_M_note_115 (by decide) ?_
          refine lv_iadd hx hb d_M_note_116 ?_
          refine g_putI (v := (7 : Int32) + (1 : Int32)) (ty := .int) hx hb ht in_M yt_M yt_M_ok n_M hown hK hP hD hS (0) r_at0 rfl 17 (by decide) rfl (ht _ kw478) (fun _ h9 => h9) rfl (by decide +kernel) (rfl) (rfl) d_M_note_117 (fun H locs hP hD hS => ?_)
          exact W.vret hx hb hr (fun t hh hW => ⟨⟨g_I (g_L (g_L (g_I τ28 0 17 (7 : Int32)) 11 ((7 : Int32).toNatClampNeg) (τ28.2 0 15)) 12 ((7 : Int32).toNatClampNeg) (τ28.2 0 16)) 0 17 ((7 : Int32) + (1 : Int32)), rfl, hF.symm, by show va_P (dC, dI) cls (g_w r_sh dA ad (g_I (g_L (g_L (g_I τ28 0 17 (7 : Int32)) 11 ((7 : Int32).toNatClampNeg) (τ28.2 0 15)) 12 ((7 : Int32).toNatClampNeg) (τ28.2 0 16)) 0 17 ((7 : Int32) + (1 : Int32)))) t.heap; rw [hh]; exact hP⟩, hS.F hh⟩) hS.2.2 d_M_note_120
        have LL38_34 : ∀ (jn : Nat) (jk : Nat) (τ27 : g_S) (ls : Array Slot) (H : Heap) (locs : List Loc), jk + jn = 7 → f_M_note_L38_1 σ 7 0 σ = f_M_note_L38_1 σ jn jk τ27 → lv_has ls 2 [(1, .int (Int32.ofNat jk)), (0, .ref (ad 0))] → va_P (dC, dI) cls (g_w r_sh dA ad τ27) H → va_D A (g_w r_sh dA ad τ27) → va_S A s.heap H locs → W p l e (headSpec w_M_note ({ frames := 0, cells := 0, slots := 0, locals := 0 })).room s m ([.ref (ad 0)] : List Value).toArray below meth c H locs 0 0 (MQ below (va_Qv (fun τ => τ = f_M_note σ) (fun τ t => va_P (dC, dI) cls (g_w r_sh dA ad τ) t.heap) A) ([.ref (ad 0)] : List Value).toArray s 0 0 A) (F0 m 38 ls []) := by
          intro jn
          induction jn with
          | zero =>
            intro jk τ27 ls H locs hkn hF hl hP hD hS
            have hF : f_M_note_L38_1 σ 7 0 σ = (τ27) := hF
            skip
            refine lv_iload_n hx hb d_M_note_38 rfl (lv_at hl 0 rfl) ?_
            refine lv_bipush (v := (7 : Int32)) hx hb d_M_note_39 (by decide) ?_
            refine lv_icmp_ge (tgt := 78) hx hb d_M_note_41 (by decide) (fun _ => ?_) (fun c35 => absurd (g_geN (N := 7) (by omega)) c35)
            exact J78_29 τ27 ls H locs hF.symm (lv_sub hl [1] rfl) hP hD hS
          | succ jn ih =>
            intro jk τ27 ls H locs hkn hF hl hP hD hS
            have hF : f_M_note_L38_1 σ 7 0 σ = f_M_note_L38_1 σ jn (jk + 1) (g_L (g_L τ27 11 jk (τ27.2 11 (jk + 1))) 12 jk (τ27.2 12 (jk + 1))) := hF
            skip
            refine lv_iload_n hx hb d_M_note_38 rfl (lv_at hl 0 rfl) ?_
            refine lv_bipush (v := (7 : Int32)) hx hb d_M_note_39 (by decide) ?_
            refine lv_icmp_ge (tgt := 78) hx hb d_M_note_41 (by decide) (fun c36 => absurd c36 (g_lt (N := 7) (by omega) (by decide))) (fun _ => ?_)
            refine lv_aload_n hx hb d_M_note_44 rfl (lv_at hl 1 rfl) ?_
            refine g_get hx hb ht in_M hown hK hP (0) r_at0 rfl 18 (by decide) rfl (ht _ kw479) (fun _ h9 => h9) (v := .ref (ad 11)) rfl d_M_note_45 ?_
            refine lv_iload_n hx hb d_M_note_48 rfl (lv_at hl 0 rfl) ?_
            refine lv_aload_n hx hb d_M_note_49 rfl (lv_at hl 1 rfl) ?_
            refine g_get hx hb ht in_M hown hK hP (0) r_at0 rfl 18 (by decide) rfl (ht _ kw479) (fun _ h9 => h9) (v := .ref (ad 11)) rfl d_M_note_50 ?_
            refine lv_iload_n hx hb d_M_note_53 rfl (lv_at hl 0 rfl) ?_
            refine lv_iconst (v := (1 : Int32)) hx hb d_M_note_54 (by decide) ?_
            refine lv_iadd hx hb d_M_note_55 ?_
            refine g_lald hx hb hK hP (11) r_at11 rfl (g_eix (g_eadd (a := jk) (b := 1) rfl rfl) (by omega) (by omega)) (j := jk + 1) (g_ena (g_eadd (a := jk) (b := 1) rfl rfl) (by omega)) d_M_note_56 ?_
            refine g_last (x := τ27.2 11 (jk + 1)) hx hb hK hP hD hS (11) r_at11 rfl (g_eix rfl (by omega) (by omega)) (j := jk) (g_ena rfl (by omega)) d_M_note_57 (fun H locs hP hD hS => ?_)
            refine lv_aload_n hx hb d_M_note_58 rfl (lv_at hl 1 rfl) ?_
            refine g_get hx hb ht in_M hown hK hP (0) r_at0 rfl 19 (by decide) rfl (ht _ kw480) (fun _ h9 => h9) (v := .ref (ad 12)) rfl d_M_note_59 ?_
            refine lv_iload_n hx hb d_M_note_62 rfl (lv_at hl 0 rfl) ?_
            refine lv_aload_n hx hb d_M_note_63 rfl (lv_at hl 1 rfl) ?_
            refine g_get hx hb ht in_M hown hK hP (0) r_at0 rfl 19 (by decide) rfl (ht _ kw480) (fun _ h9 => h9) (v := .ref (ad 12)) rfl d_M_note_64 ?_
            refine lv_iload_n hx hb d_M_note_67 rfl (lv_at hl 0 rfl) ?_
            refine lv_iconst (v := (1 : Int32)) hx hb d_M_note_68 (by decide) ?_
            refine lv_iadd hx hb d_M_note_69 ?_
            refine g_lald hx hb hK hP (12) r_at12 rfl (g_eix (g_eadd (a := jk) (b := 1) rfl rfl) (by omega) (by omega)) (j := jk + 1) (g_ena (g_eadd (a := jk) (b := 1) rfl rfl) (by omega)) d_M_note_70 ?_
            show W _ _ _ _ _ _ _ _ _ _ _ _ _ _ _ (F0 _ _ _ (.long (τ27.2 12 (jk + 1)) :: _))
            refine g_last (x := τ27.2 12 (jk + 1)) hx hb hK hP hD hS (12) r_at12 rfl (g_eix rfl (by omega) (by omega)) (j := jk) (g_ena rfl (by omega)) d_M_note_71 (fun H locs hP hD hS => ?_)
            refine lv_iinc (v := Int32.ofNat (jk + 1)) (lv' := [(1, .int (Int32.ofNat (jk + 1))), (0, .ref (ad 0))]) hx hb d_M_note_72 hl (k := 0) rfl (g_inc jk) (by decide) rfl (fun ls hl => ?_)
            refine lv_goto (tgt := 38) hx hb d_M_note_75 (by decide) ?_
            exact ih (jk + 1) (g_L (g_L τ27 11 jk (τ27.2 11 (jk + 1))) 12 jk (τ27.2 12 (jk + 1))) ls H locs (by omega) hF (lv_sub hl [0, 1] rfl) hP hD hS
        exact LL38_34 7 0 σ ls s.heap [] (by omega) rfl  (lv_sub hl [0, 1] rfl) hP hD hS
    ·
      have c20 : (σ.2 11 (((σ.1 0 17) - (1 : Int32)).toNatClampNeg)) = (σ.2 0 15) := (lg_cmp_eq _ _).mp c20
      have hF : f_M_note σ = f_M_note_26_37 σ := hF.trans (if_pos c20)
      have hQ : k_M_note_26_37 σ := Eq.mp (if_pos c20) hQ
      exact W.vret hx hb hr (fun t hh hW => ⟨⟨σ, rfl, hF.symm, by show va_P (dC, dI) cls (g_w r_sh dA ad σ) t.heap; rw [hh]; exact hP⟩, hS.F hh⟩) hS.2.2 d_M_note_26
def f_M_open_14_2 (σ : g_S) (n : Int32) : Int32 × g_S := ((0 : Int32), σ)
def k_M_open_14_2 (σ : g_S) (n : Int32) : Prop := True
def f_M_open_36_17 (σ : g_S) (n : Int32) (r4 : Int32) (r10 : Int64) (τ16 : g_S) : Int32 × g_S := ((1 : Int32), τ16)
def k_M_open_36_17 (σ : g_S) (n : Int32) (r4 : Int32) (r10 : Int64) (τ16 : g_S) : Prop := True
def f_M_open_29_12 (σ : g_S) (n : Int32) (r4 : Int32) (r10 : Int64) : Int32 × g_S := (f_M_open_36_17 σ n r4 r10 (f_M_note (g_L (g_I (g_I σ 0 3 (1 : Int32)) 0 5 n) 0 4 r10)))
def k_M_open_29_12 (σ : g_S) (n : Int32) (r4 : Int32) (r10 : Int64) : Prop := (k_M_note (g_L (g_I (g_I σ 0 3 (1 : Int32)) 0 5 n) 0 4 r10)) ∧ (k_M_open_36_17 σ n r4 r10 (f_M_note (g_L (g_I (g_I σ 0 3 (1 : Int32)) 0 5 n) 0 4 r10)))
def f_M_open_16_8 (σ : g_S) (n : Int32) (r4 : Int32) : Int32 × g_S := (f_M_open_29_12 σ n r4 (f_M_price (g_I (g_I σ 0 3 (1 : Int32)) 0 5 n) n))
def k_M_open_16_8 (σ : g_S) (n : Int32) (r4 : Int32) : Prop := (k_M_price (g_I (g_I σ 0 3 (1 : Int32)) 0 5 n) n) ∧ (k_M_open_29_12 σ n r4 (f_M_price (g_I (g_I σ 0 3 (1 : Int32)) 0 5 n) n))
def f_M_open_14_18 (σ : g_S) (n : Int32) (r4 : Int32) : Int32 × g_S := ((0 : Int32), σ)
def k_M_open_14_18 (σ : g_S) (n : Int32) (r4 : Int32) : Prop := True
def f_M_open_8_6 (σ : g_S) (n : Int32) (r4 : Int32) : Int32 × g_S := (if r4 = 0 then f_M_open_14_18 σ n r4 else f_M_open_16_8 σ n r4)
def k_M_open_8_6 (σ : g_S) (n : Int32) (r4 : Int32) : Prop := (if r4 = 0 then k_M_open_14_18 σ n r4 else k_M_open_16_8 σ n r4)
def f_M_open_7_3 (σ : g_S) (n : Int32) : Int32 × g_S := (f_M_open_8_6 σ n (f_M_isStep n))
def k_M_open_7_3 (σ : g_S) (n : Int32) : Prop := (k_M_open_8_6 σ n (f_M_isStep n))
def f_M_open (σ : g_S) (n : Int32) : Int32 × g_S := (if (σ.1 0 3) = 0 then f_M_open_7_3 σ n else f_M_open_14_2 σ n)
def k_M_open (σ : g_S) (n : Int32) : Prop := (if (σ.1 0 3) = 0 then k_M_open_7_3 σ n else k_M_open_14_2 σ n)
set_option maxHeartbeats 4000000 in
set_option maxRecDepth 100000 in
theorem c_M_open (l : Launch) (dC : Nat → ClassId) (dI : Nat → Nat → Nat) (dA : Nat → ClassId) (ad : Nat → Nat) (sz : Nat) (σ : g_S) (n : Int32) (hQ : k_M_open σ n) : Met l y_M_open w_M_open ({ frames := 1, cells := 0, slots := 0, locals := 21 }) (va_Pc [.ref (ad 0), .int n] (g_W (dC, dI) cls (r_tys dA) (g_w r_sh dA ad σ) sz r_Z)) (va_Qi (fun r τ => (r, τ) = f_M_open σ n) (fun τ t => va_P (dC, dI) cls (g_w r_sh dA ad τ) t.heap) (va_A (g_w r_sh dA ad σ) sz)) 0 0 (va_A (g_w r_sh dA ad σ) sz) := by
  refine Met.ofW (cc := b_M_open) (maxL := 2) (ret := (some .boolean)) (by decide) rfl ?_
  intro p e s m args below meth c s₁ B hml hv
  obtain ⟨rfl, hsz, hP, hK, hD0, hz⟩ := hv
  have hx := B.exec
  have hb := B.bytes
  have hr := B.returns
  have hts := atoms_spec (ws := w_M_open) B.pre
  have ht := fun (w : Cond) (h : w ∈ gA) => hts w (List.mem_cons_of_mem _ h)
  have hown : s.vm.findClass "RangedPoolModel" = some m.cls := findClass_of_methodNamed B.named
  have hlocks := B.notSynchronized
  subst hsz
  have hD := hD0.self (sz := s.heap.size)
  have hA : ∀ q : Nat, s.heap.size ≤ q → va_A (g_w r_sh dA ad σ) s.heap.size q := fun q h => Or.inr h
  generalize hAe : va_A (g_w r_sh dA ad σ) s.heap.size = A at hD hA hz ⊢
  have hS : va_S A s.heap s.heap [] := va_S.rf
  have hl := lv_entry ([.ref (ad 0), .int n]) (n := 2) (Nat.le_of_ble_eq_true rfl)
  rw [lg_entry_eq]
  generalize (lg_sl ([.ref (ad 0), .int n]) ++ List.replicate (2 - (lg_sl ([.ref (ad 0), .int n])).length) Slot.unset).toArray = ls at hl ⊢
  have hl : lv_has ls 2 [(0, .ref (ad 0)), (1, .int n)] := hl
  have hF : f_M_open σ n = f_M_open σ n := rfl
  refine lv_aload_n hx hb d_M_open_0 rfl (lv_at hl 0 rfl) ?_
  refine g_get hx hb ht in_M hown hK hP (0) r_at0 rfl 3 (by decide) rfl (ht _ kw464) (fun _ h9 => h9) (v := .int (σ.1 0 3)) rfl d_M_open_1 ?_
  refine lv_if_ne (tgt := 14) hx hb d_M_open_4 (by decide) (fun c1 => ?_) (fun c1 => ?_)
  ·
    have c1 : ¬ ((σ.1 0 3) = 0) := c1
    have hF : f_M_open σ n = f_M_open_14_2 σ n := hF.trans (if_neg c1)
    have hQ : k_M_open_14_2 σ n := Eq.mp (if_neg c1) hQ
    refine lv_iconst (v := (0 : Int32)) hx hb d_M_open_14 (by decide) ?_
    exact W.zret (ty := .boolean) (v := (0 : Int32)) hx hb hr (g_zr (by decide)) (fun t hh hW => ⟨⟨(0 : Int32), σ, rfl, hF.symm, by show va_P (dC, dI) cls (g_w r_sh dA ad σ) t.heap; rw [hh]; exact hP⟩, hS.F hh⟩) hS.2.2 d_M_open_15
  ·
    have c1 : (σ.1 0 3) = 0 := c1
    have hF : f_M_open σ n = f_M_open_7_3 σ n := hF.trans (if_pos c1)
    have hQ : k_M_open_7_3 σ n := Eq.mp (if_pos c1) hQ
    refine lv_iload_n hx hb d_M_open_7 rfl (lv_at hl 1 rfl) ?_
    refine g_cSi (va_runS (As := [.int n]) (rest := []) ⟨hx, hb, hml, hown, ht⟩ (c_M_isStep l n) (va_cwS 1 ht gc_M_82 rfl rfl rfl (by decide +kernel) ⟨Nat.le_of_ble_eq_true rfl, Nat.le_of_ble_eq_true rfl⟩) (g_pr0 _) rfl rfl hl.1 rfl (lv_room (Nat.le_of_ble_eq_true rfl)) d_M_open_8 ⟨Nat.le_of_ble_eq_true rfl, Nat.le_of_ble_eq_true rfl⟩) (fun r4 e5 => ?_)
    have hF : f_M_open σ n = f_M_open_8_6 σ n r4 := hF.trans (by rw [e5]; try rfl)
    have hQ : k_M_open_8_6 σ n r4 := by rw [e5]; exact hQ
    refine lv_if_ne (tgt := 16) hx hb d_M_open_11 (by decide) (fun c7 => ?_) (fun c7 => ?_)
    ·
      have c7 : ¬ (r4 = 0) := c7
      have hF : f_M_open σ n = f_M_open_16_8 σ n r4 := hF.trans (if_neg c7)
      have hQ : k_M_open_16_8 σ n r4 := Eq.mp (if_neg c7) hQ
      refine lv_aload_n hx hb d_M_open_16 rfl (lv_at hl 0 rfl) ?_
      refine lv_iconst (v := (1 : Int32)) hx hb d_M_open_17 (by decide) ?_
      refine g_putI (v := (1 : Int32)) (ty := .boolean) hx hb ht in_M yt_M yt_M_ok n_M hown hK hP hD hS (0) r_at0 rfl 3 (by decide) rfl (ht _ kw464) (fun _ h9 => h9) rfl (by decide +kernel) (g_nar (by decide)) (g_fitz (by decide)) d_M_open_18 (fun H locs hP hD hS => ?_)
      refine lv_aload_n hx hb d_M_open_21 rfl (lv_at hl 0 rfl) ?_
      refine lv_iload_n hx hb d_M_open_22 rfl (lv_at hl 1 rfl) ?_
      refine g_putI (v := n) (ty := .int) hx hb ht in_M yt_M yt_M_ok n_M hown hK hP hD hS (0) r_at0 rfl 5 (by decide) rfl (ht _ kw466) (fun _ h9 => h9) rfl (by decide +kernel) (rfl) (rfl) d_M_open_23 (fun H locs hP hD hS => ?_)
      refine lv_aload_n hx hb d_M_open_26 rfl (lv_at hl 0 rfl) ?_
      refine lv_aload_n hx hb d_M_open_27 rfl (lv_at hl 0 rfl) ?_
      refine lv_iload_n hx hb d_M_open_28 rfl (lv_at hl 1 rfl) ?_
      obtain ⟨hs9, hQ⟩ := hQ
      refine g_cSl (va_runV (As := [.int n]) (rest := [.ref (ad 0)]) ⟨hx, hb, hml, hown, ht⟩ (c_M_price l dC dI dA ad (g_I (g_I σ 0 3 (1 : Int32)) 0 5 n) n hs9) (cwV 1 ht gc_M_89 rfl rfl rfl (by decide +kernel) ⟨Nat.le_of_ble_eq_true rfl, Nat.le_of_ble_eq_true rfl⟩) (g_pV (g_prR r_Zok hK hP hS hz _) (g_rc hK hP (0) r_at0 rfl)) rfl rfl hl.1 rfl (lv_room (Nat.le_of_ble_eq_true rfl)) d_M_open_29 ⟨Nat.le_of_ble_eq_true rfl, Nat.le_of_ble_eq_true rfl⟩) (fun r10 e11 => ?_)
      have hF : f_M_open σ n = f_M_open_29_12 σ n r4 r10 := hF.trans (by rw [e11]; try rfl)
      have hQ : k_M_open_29_12 σ n r4 r10 := by rw [e11]; exact hQ
      refine g_putL (v := r10) (ty := .long) hx hb ht in_M yt_M yt_M_ok n_M hown hK hP hD hS (0) r_at0 rfl 4 (by decide) rfl (ht _ kw465) (fun _ h9 => h9) rfl (by decide +kernel) (rfl) (rfl) d_M_open_32 (fun H locs hP hD hS => ?_)
      refine lv_aload_n hx hb d_M_open_35 rfl (lv_at hl 0 rfl) ?_
      obtain ⟨hs13, hQ⟩ := hQ
      refine g_cWv (va_runV (As := []) (rest := []) ⟨hx, hb, hml, hown, ht⟩ (c_M_note l dC dI dA ad H.size (g_L (g_I (g_I σ 0 3 (1 : Int32)) 0 5 n) 0 4 r10) hs13) (cwV 0 ht gc_M_96 rfl rfl rfl (by decide +kernel) ⟨Nat.le_of_ble_eq_true rfl, Nat.le_of_ble_eq_true rfl⟩) (g_pV (g_prW r_Zok hK hP hD hS hA hz _) (g_rc hK hP (0) r_at0 rfl)) rfl rfl hl.1 rfl (lv_room (Nat.le_of_ble_eq_true rfl)) d_M_open_36 ⟨Nat.le_of_ble_eq_true rfl, Nat.le_of_ble_eq_true rfl⟩) hD hS hA (fun τ16 H locs e15 hP hD hS => ?_)
      have hF : f_M_open σ n = f_M_open_36_17 σ n r4 r10 τ16 := hF.trans (by rw [e15]; try rfl)
      have hQ : k_M_open_36_17 σ n r4 r10 τ16 := by rw [e15]; exact hQ
      refine lv_iconst (v := (1 : Int32)) hx hb d_M_open_39 (by decide) ?_
      exact W.zret (ty := .boolean) (v := (1 : Int32)) hx hb hr (g_zr (by decide)) (fun t hh hW => ⟨⟨(1 : Int32), τ16, rfl, hF.symm, by show va_P (dC, dI) cls (g_w r_sh dA ad τ16) t.heap; rw [hh]; exact hP⟩, hS.F hh⟩) hS.2.2 d_M_open_40
    ·
      have c7 : r4 = 0 := c7
      have hF : f_M_open σ n = f_M_open_14_18 σ n r4 := hF.trans (if_pos c7)
      have hQ : k_M_open_14_18 σ n r4 := Eq.mp (if_pos c7) hQ
      refine lv_iconst (v := (0 : Int32)) hx hb d_M_open_14 (by decide) ?_
      exact W.zret (ty := .boolean) (v := (0 : Int32)) hx hb hr (g_zr (by decide)) (fun t hh hW => ⟨⟨(0 : Int32), σ, rfl, hF.symm, by show va_P (dC, dI) cls (g_w r_sh dA ad σ) t.heap; rw [hh]; exact hP⟩, hS.F hh⟩) hS.2.2 d_M_open_15
def f_M_fund_26_5 (σ : g_S) (o : Int32) (n : Int32) (am : Int32) (r1 : Int32) : Int32 × g_S := ((0 : Int32), σ)
def k_M_fund_26_5 (σ : g_S) (o : Int32) (n : Int32) (am : Int32) (r1 : Int32) : Prop := True
def f_M_fund_26_8 (σ : g_S) (o : Int32) (n : Int32) (am : Int32) (r1 : Int32) : Int32 × g_S := ((0 : Int32), σ)
def k_M_fund_26_8 (σ : g_S) (o : Int32) (n : Int32) (am : Int32) (r1 : Int32) : Prop := True
def f_M_fund_26_11 (σ : g_S) (o : Int32) (n : Int32) (am : Int32) (r1 : Int32) : Int32 × g_S := ((0 : Int32), σ)
def k_M_fund_26_11 (σ : g_S) (o : Int32) (n : Int32) (am : Int32) (r1 : Int32) : Prop := True
def f_M_fund_26_14 (σ : g_S) (o : Int32) (n : Int32) (am : Int32) (r1 : Int32) : Int32 × g_S := ((0 : Int32), σ)
def k_M_fund_26_14 (σ : g_S) (o : Int32) (n : Int32) (am : Int32) (r1 : Int32) : Prop := True
def f_M_fund_28_17 (σ : g_S) (o : Int32) (n : Int32) (am : Int32) (r1 : Int32) : Int32 × g_S := ((1 : Int32), g_L σ 2 ((((2 : Int32) * o) + n).toNatClampNeg) ((σ.2 2 ((((2 : Int32) * o) + n).toNatClampNeg)) + am.toInt64))
def k_M_fund_28_17 (σ : g_S) (o : Int32) (n : Int32) (am : Int32) (r1 : Int32) : Prop := (vp_in (((2 : Int32) * o) + n) 8) ∧ (vp_in (((2 : Int32) * o) + n) 8) ∧ True
def f_M_fund_26_20 (σ : g_S) (o : Int32) (n : Int32) (am : Int32) (r1 : Int32) : Int32 × g_S := ((0 : Int32), σ)
def k_M_fund_26_20 (σ : g_S) (o : Int32) (n : Int32) (am : Int32) (r1 : Int32) : Prop := True
def f_M_fund_20_15 (σ : g_S) (o : Int32) (n : Int32) (am : Int32) (r1 : Int32) : Int32 × g_S := (if am ≤ (1000000000 : Int32) then f_M_fund_28_17 σ o n am r1 else f_M_fund_26_20 σ o n am r1)
def k_M_fund_20_15 (σ : g_S) (o : Int32) (n : Int32) (am : Int32) (r1 : Int32) : Prop := (if am ≤ (1000000000 : Int32) then k_M_fund_28_17 σ o n am r1 else k_M_fund_26_20 σ o n am r1)
def f_M_fund_16_12 (σ : g_S) (o : Int32) (n : Int32) (am : Int32) (r1 : Int32) : Int32 × g_S := (if am < 0 then f_M_fund_26_14 σ o n am r1 else f_M_fund_20_15 σ o n am r1)
def k_M_fund_16_12 (σ : g_S) (o : Int32) (n : Int32) (am : Int32) (r1 : Int32) : Prop := (if am < 0 then k_M_fund_26_14 σ o n am r1 else k_M_fund_20_15 σ o n am r1)
def f_M_fund_11_9 (σ : g_S) (o : Int32) (n : Int32) (am : Int32) (r1 : Int32) : Int32 × g_S := (if (1 : Int32) < n then f_M_fund_26_11 σ o n am r1 else f_M_fund_16_12 σ o n am r1)
def k_M_fund_11_9 (σ : g_S) (o : Int32) (n : Int32) (am : Int32) (r1 : Int32) : Prop := (if (1 : Int32) < n then k_M_fund_26_11 σ o n am r1 else k_M_fund_16_12 σ o n am r1)
def f_M_fund_7_6 (σ : g_S) (o : Int32) (n : Int32) (am : Int32) (r1 : Int32) : Int32 × g_S := (if n < 0 then f_M_fund_26_8 σ o n am r1 else f_M_fund_11_9 σ o n am r1)
def k_M_fund_7_6 (σ : g_S) (o : Int32) (n : Int32) (am : Int32) (r1 : Int32) : Prop := (if n < 0 then k_M_fund_26_8 σ o n am r1 else k_M_fund_11_9 σ o n am r1)
def f_M_fund_1_3 (σ : g_S) (o : Int32) (n : Int32) (am : Int32) (r1 : Int32) : Int32 × g_S := (if r1 = 0 then f_M_fund_26_5 σ o n am r1 else f_M_fund_7_6 σ o n am r1)
def k_M_fund_1_3 (σ : g_S) (o : Int32) (n : Int32) (am : Int32) (r1 : Int32) : Prop := (if r1 = 0 then k_M_fund_26_5 σ o n am r1 else k_M_fund_7_6 σ o n am r1)
def f_M_fund (σ : g_S) (o : Int32) (n : Int32) (am : Int32) : Int32 × g_S := (f_M_fund_1_3 σ o n am (f_M_isOwner o))
def k_M_fund (σ : g_S) (o : Int32) (n : Int32) (am : Int32) : Prop := (k_M_fund_1_3 σ o n am (f_M_isOwner o))
set_option maxHeartbeats 4000000 in
set_option maxRecDepth 100000 in
theorem c_M_fund (l : Launch) (dC : Nat → ClassId) (dI : Nat → Nat → Nat) (dA : Nat → ClassId) (ad : Nat → Nat) (sz : Nat) (σ : g_S) (o : Int32) (n : Int32) (am : Int32) (hQ : k_M_fund σ o n am) : Met l y_M_fund w_M_fund ({ frames := 1, cells := 0, slots := 0, locals := 20 }) (va_Pc [.ref (ad 0), .int o, .int n, .int am] (g_W (dC, dI) cls (r_tys dA) (g_w r_sh dA ad σ) sz r_Z)) (va_Qi (fun r τ => (r, τ) = f_M_fund σ o n am) (fun τ t => va_P (dC, dI) cls (g_w r_sh dA ad τ) t.heap) (va_A (g_w r_sh dA ad σ) sz)) 0 0 (va_A (g_w r_sh dA ad σ) sz) := by
  refine Met.ofW (cc := b_M_fund) (maxL := 4) (ret := (some .boolean)) (by decide) rfl ?_
  intro p e s m args below meth c s₁ B hml hv
  obtain ⟨rfl, hsz, hP, hK, hD0, hz⟩ := hv
  have hx := B.exec
  have hb := B.bytes
  have hr := B.returns
  have hts := atoms_spec (ws := w_M_fund) B.pre
  have ht := fun (w : Cond) (h : w ∈ gA) => hts w (List.mem_cons_of_mem _ h)
  have hown : s.vm.findClass "RangedPoolModel" = some m.cls := findClass_of_methodNamed B.named
  have hlocks := B.notSynchronized
  subst hsz
  have hD := hD0.self (sz := s.heap.size)
  have hA : ∀ q : Nat, s.heap.size ≤ q → va_A (g_w r_sh dA ad σ) s.heap.size q := fun q h => Or.inr h
  generalize hAe : va_A (g_w r_sh dA ad σ) s.heap.size = A at hD hA hz ⊢
  have hS : va_S A s.heap s.heap [] := va_S.rf
  have hl := lv_entry ([.ref (ad 0), .int o, .int n, .int am]) (n := 4) (Nat.le_of_ble_eq_true rfl)
  rw [lg_entry_eq]
  generalize (lg_sl ([.ref (ad 0), .int o, .int n, .int am]) ++ List.replicate (4 - (lg_sl ([.ref (ad 0), .int o, .int n, .int am])).length) Slot.unset).toArray = ls at hl ⊢
  have hl : lv_has ls 4 [(0, .ref (ad 0)), (1, .int o), (2, .int n), (3, .int am)] := hl
  have hF : f_M_fund σ o n am = f_M_fund σ o n am := rfl
  refine lv_iload_n hx hb d_M_fund_0 rfl (lv_at hl 1 rfl) ?_
  refine g_cSi (va_runS (As := [.int o]) (rest := []) ⟨hx, hb, hml, hown, ht⟩ (c_M_isOwner l o) (va_cwS 1 ht gc_M_99 rfl rfl rfl (by decide +kernel) ⟨Nat.le_of_ble_eq_true rfl, Nat.le_of_ble_eq_true rfl⟩) (g_pr0 _) rfl rfl hl.1 rfl (lv_room (Nat.le_of_ble_eq_true rfl)) d_M_fund_1 ⟨Nat.le_of_ble_eq_true rfl, Nat.le_of_ble_eq_true rfl⟩) (fun r1 e2 => ?_)
  have hF : f_M_fund σ o n am = f_M_fund_1_3 σ o n am r1 := hF.trans (by rw [e2]; try rfl)
  have hQ : k_M_fund_1_3 σ o n am r1 := by rw [e2]; exact hQ
  refine lv_if_eq (tgt := 26) hx hb d_M_fund_4 (by decide) (fun c4 => ?_) (fun c4 => ?_)
  ·
    have c4 : r1 = 0 := c4
    have hF : f_M_fund σ o n am = f_M_fund_26_5 σ o n am r1 := hF.trans (if_pos c4)
    have hQ : k_M_fund_26_5 σ o n am r1 := Eq.mp (if_pos c4) hQ
    refine lv_iconst (v := (0 : Int32)) hx hb d_M_fund_26 (by decide) ?_
    exact W.zret (ty := .boolean) (v := (0 : Int32)) hx hb hr (g_zr (by decide)) (fun t hh hW => ⟨⟨(0 : Int32), σ, rfl, hF.symm, by show va_P (dC, dI) cls (g_w r_sh dA ad σ) t.heap; rw [hh]; exact hP⟩, hS.F hh⟩) hS.2.2 d_M_fund_27
  ·
    have c4 : ¬ (r1 = 0) := c4
    have hF : f_M_fund σ o n am = f_M_fund_7_6 σ o n am r1 := hF.trans (if_neg c4)
    have hQ : k_M_fund_7_6 σ o n am r1 := Eq.mp (if_neg c4) hQ
    refine lv_iload_n hx hb d_M_fund_7 rfl (lv_at hl 2 rfl) ?_
    refine lv_if_lt (tgt := 26) hx hb d_M_fund_8 (by decide) (fun c7 => ?_) (fun c7 => ?_)
    ·
      have c7 : n < 0 := c7
      have hF : f_M_fund σ o n am = f_M_fund_26_8 σ o n am r1 := hF.trans (if_pos c7)
      have hQ : k_M_fund_26_8 σ o n am r1 := Eq.mp (if_pos c7) hQ
      refine lv_iconst (v := (0 : Int32)) hx hb d_M_fund_26 (by decide) ?_
      exact W.zret (ty := .boolean) (v := (0 : Int32)) hx hb hr (g_zr (by decide)) (fun t hh hW => ⟨⟨(0 : Int32), σ, rfl, hF.symm, by show va_P (dC, dI) cls (g_w r_sh dA ad σ) t.heap; rw [hh]; exact hP⟩, hS.F hh⟩) hS.2.2 d_M_fund_27
    ·
      have c7 : ¬ (n < 0) := c7
      have hF : f_M_fund σ o n am = f_M_fund_11_9 σ o n am r1 := hF.trans (if_neg c7)
      have hQ : k_M_fund_11_9 σ o n am r1 := Eq.mp (if_neg c7) hQ
      refine lv_iload_n hx hb d_M_fund_11 rfl (lv_at hl 2 rfl) ?_
      refine lv_iconst (v := (1 : Int32)) hx hb d_M_fund_12 (by decide) ?_
      refine lv_icmp_gt (tgt := 26) hx hb d_M_fund_13 (by decide) (fun c10 => ?_) (fun c10 => ?_)
      ·
        have c10 : (1 : Int32) < n := c10
        have hF : f_M_fund σ o n am = f_M_fund_26_11 σ o n am r1 := hF.trans (if_pos c10)
        have hQ : k_M_fund_26_11 σ o n am r1 := Eq.mp (if_pos c10) hQ
        refine lv_iconst (v := (0 : Int32)) hx hb d_M_fund_26 (by decide) ?_
        exact W.zret (ty := .boolean) (v := (0 : Int32)) hx hb hr (g_zr (by decide)) (fun t hh hW => ⟨⟨(0 : Int32), σ, rfl, hF.symm, by show va_P (dC, dI) cls (g_w r_sh dA ad σ) t.heap; rw [hh]; exact hP⟩, hS.F hh⟩) hS.2.2 d_M_fund_27
      ·
        have c10 : ¬ ((1 : Int32) < n) := c10
        have hF : f_M_fund σ o n am = f_M_fund_16_12 σ o n am r1 := hF.trans (if_neg c10)
        have hQ : k_M_fund_16_12 σ o n am r1 := Eq.mp (if_neg c10) hQ
        refine lv_iload_n hx hb d_M_fund_16 rfl (lv_at hl 3 rfl) ?_
        refine lv_if_lt (tgt := 26) hx hb d_M_fund_17 (by decide) (fun c13 => ?_) (fun c13 => ?_)
        ·
          have c13 : am < 0 := c13
          have hF : f_M_fund σ o n am = f_M_fund_26_14 σ o n am r1 := hF.trans (if_pos c13)
          have hQ : k_M_fund_26_14 σ o n am r1 := Eq.mp (if_pos c13) hQ
          refine lv_iconst (v := (0 : Int32)) hx hb d_M_fund_26 (by decide) ?_
          exact W.zret (ty := .boolean) (v := (0 : Int32)) hx hb hr (g_zr (by decide)) (fun t hh hW => ⟨⟨(0 : Int32), σ, rfl, hF.symm, by show va_P (dC, dI) cls (g_w r_sh dA ad σ) t.heap; rw [hh]; exact hP⟩, hS.F hh⟩) hS.2.2 d_M_fund_27
        ·
          have c13 : ¬ (am < 0) := c13
          have hF : f_M_fund σ o n am = f_M_fund_20_15 σ o n am r1 := hF.trans (if_neg c13)
          have hQ : k_M_fund_20_15 σ o n am r1 := Eq.mp (if_neg c13) hQ
          refine lv_iload_n hx hb d_M_fund_20 rfl (lv_at hl 3 rfl) ?_
          refine lv_ldc (v := (1000000000 : Int32)) hx hb hown (ht _ kw563) d_M_fund_21 ?_
          refine lv_icmp_le (tgt := 28) hx hb d_M_fund_23 (by decide) (fun c16 => ?_) (fun c16 => ?_)
          ·
            have c16 : am ≤ (1000000000 : Int32) := c16
            have hF : f_M_fund σ o n am = f_M_fund_28_17 σ o n am r1 := hF.trans (if_pos c16)
            have hQ : k_M_fund_28_17 σ o n am r1 := Eq.mp (if_pos c16) hQ
            refine lv_aload_n hx hb d_M_fund_28 rfl (lv_at hl 0 rfl) ?_
            refine g_get hx hb ht in_M hown hK hP (0) r_at0 rfl 6 (by decide) rfl (ht _ kw467) (fun _ h9 => h9) (v := .ref (ad 2)) rfl d_M_fund_29 ?_
            refine lv_iconst (v := (2 : Int32)) hx hb d_M_fund_32 (by decide) ?_
            refine lv_iload_n hx hb d_M_fund_33 rfl (lv_at hl 1 rfl) ?_
            refine lv_imul hx hb d_M_fund_34 ?_
            refine lv_iload_n hx hb d_M_fund_35 rfl (lv_at hl 2 rfl) ?_
            refine lv_iadd hx hb d_M_fund_36 ?_
            refine lv_dup2_11 hx hb d_M_fund_37 rfl rfl ?_
            obtain ⟨hs18, hQ⟩ := hQ
            refine g_lald hx hb hK hP (2) r_at2 rfl (hs18) (j := (((2 : Int32) * o) + n).toNatClampNeg) (rfl) d_M_fund_38 ?_
            refine lv_iload_n hx hb d_M_fund_39 rfl (lv_at hl 3 rfl) ?_
            refine lv_i2l (v := am.toInt64) hx hb d_M_fund_40 rfl ?_
            refine lv_ladd hx hb d_M_fund_41 ?_
            obtain ⟨hs19, hQ⟩ := hQ
            refine g_last (x := (σ.2 2 ((((2 : Int32) * o) + n).toNatClampNeg)) + am.toInt64) hx hb hK hP hD hS (2) r_at2 rfl (hs19) (j := (((2 : Int32) * o) + n).toNatClampNeg) (rfl) d_M_fund_42 (fun H locs hP hD hS => ?_)
            refine lv_iconst (v := (1 : Int32)) hx hb d_M_fund_43 (by decide) ?_
            exact W.zret (ty := .boolean) (v := (1 : Int32)) hx hb hr (g_zr (by decide)) (fun t hh hW => ⟨⟨(1 : Int32), g_L σ 2 ((((2 : Int32) * o) + n).toNatClampNeg) ((σ.2 2 ((((2 : Int32) * o) + n).toNatClampNeg)) + am.toInt64), rfl, hF.symm, by show va_P (dC, dI) cls (g_w r_sh dA ad (g_L σ 2 ((((2 : Int32) * o) + n).toNatClampNeg) ((σ.2 2 ((((2 : Int32) * o) + n).toNatClampNeg)) + am.toInt64))) t.heap; rw [hh]; exact hP⟩, hS.F hh⟩) hS.2.2 d_M_fund_44
          ·
            have c16 : ¬ (am ≤ (1000000000 : Int32)) := c16
            have hF : f_M_fund σ o n am = f_M_fund_26_20 σ o n am r1 := hF.trans (if_neg c16)
            have hQ : k_M_fund_26_20 σ o n am r1 := Eq.mp (if_neg c16) hQ
            refine lv_iconst (v := (0 : Int32)) hx hb d_M_fund_26 (by decide) ?_
            exact W.zret (ty := .boolean) (v := (0 : Int32)) hx hb hr (g_zr (by decide)) (fun t hh hW => ⟨⟨(0 : Int32), σ, rfl, hF.symm, by show va_P (dC, dI) cls (g_w r_sh dA ad σ) t.heap; rw [hh]; exact hP⟩, hS.F hh⟩) hS.2.2 d_M_fund_27
