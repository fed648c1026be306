def f_M_swap_29_7 (σ : g_S) (o : Int32) (dn : Int32) (am : Int32) (lim : Int32) (r3 : Int32) : Int64 × g_S := ((-2 : Int64), σ)
def k_M_swap_29_7 (σ : g_S) (o : Int32) (dn : Int32) (am : Int32) (lim : Int32) (r3 : Int32) : Prop := True
def f_M_swap_160_48 (σ : g_S) (o : Int32) (dn : Int32) (am : Int32) (lim : Int32) (r3 : Int32) (r10 : Int32) (τ12 : g_S) (x18 : Int32) (τ28 : g_S) (x30 : Int64) (x34 : Int64) (τ41 : g_S) (τ44 : g_S) : Int64 × g_S := (((τ44.2 0 23) * (4294967296 : Int64)) + (τ44.2 0 24), g_I (g_L τ44 0 4 (τ44.2 0 20)) 0 5 (τ44.1 0 21))
def k_M_swap_160_48 (σ : g_S) (o : Int32) (dn : Int32) (am : Int32) (lim : Int32) (r3 : Int32) (r10 : Int32) (τ12 : g_S) (x18 : Int32) (τ28 : g_S) (x30 : Int64) (x34 : Int64) (τ41 : g_S) (τ44 : g_S) : Prop := True
def f_M_swap_L111 (σ : g_S) (o : Int32) (dn : Int32) (am : Int32) (lim : Int32) (r3 : Int32) (r10 : Int32) (τ12 : g_S) (x18 : Int32) (τ28 : g_S) (x30 : Int64) (x34 : Int64) (τ41 : g_S) : Nat → Nat → g_S → g_S
  | 0, jk, τ43 => (τ43)
  | jn + 1, jk, τ43 => f_M_swap_L111 σ o dn am lim r3 r10 τ12 x18 τ28 x30 x34 τ41 jn (jk + 1) (g_L τ43 10 ((((2 : Int32) * (Int32.ofNat jk)) + x18).toNatClampNeg) ((τ43.2 10 ((((2 : Int32) * (Int32.ofNat jk)) + x18).toNatClampNeg)) + (if (τ43.1 4 jk) = 0 then (0 : Int64) else τ43.2 13 jk)))
def k_M_swap_L111 (σ : g_S) (o : Int32) (dn : Int32) (am : Int32) (lim : Int32) (r3 : Int32) (r10 : Int32) (τ12 : g_S) (x18 : Int32) (τ28 : g_S) (x30 : Int64) (x34 : Int64) (τ41 : g_S) : Nat → Nat → g_S → Prop
  | 0, jk, τ43 => True
  | jn + 1, jk, τ43 => (vp_in (((2 : Int32) * (Int32.ofNat jk)) + x18) 20) ∧ ((vp_in (((2 : Int32) * (Int32.ofNat jk)) + x18) 20) ∧ (k_M_swap_L111 σ o dn am lim r3 r10 τ12 x18 τ28 x30 x34 τ41 jn (jk + 1) (g_L τ43 10 ((((2 : Int32) * (Int32.ofNat jk)) + x18).toNatClampNeg) ((τ43.2 10 ((((2 : Int32) * (Int32.ofNat jk)) + x18).toNatClampNeg)) + (if (τ43.1 4 jk) = 0 then (0 : Int64) else τ43.2 13 jk)))))
def f_M_swap_105_42 (σ : g_S) (o : Int32) (dn : Int32) (am : Int32) (lim : Int32) (r3 : Int32) (r10 : Int32) (τ12 : g_S) (x18 : Int32) (τ28 : g_S) (x30 : Int64) (x34 : Int64) (τ41 : g_S) : Int64 × g_S := (f_M_swap_160_48 σ o dn am lim r3 r10 τ12 x18 τ28 x30 x34 τ41 (f_M_swap_L111 σ o dn am lim r3 r10 τ12 x18 τ28 x30 x34 τ41 10 0 τ41))
def k_M_swap_105_42 (σ : g_S) (o : Int32) (dn : Int32) (am : Int32) (lim : Int32) (r3 : Int32) (r10 : Int32) (τ12 : g_S) (x18 : Int32) (τ28 : g_S) (x30 : Int64) (x34 : Int64) (τ41 : g_S) : Prop := (k_M_swap_L111 σ o dn am lim r3 r10 τ12 x18 τ28 x30 x34 τ41 10 0 τ41) ∧ (k_M_swap_160_48 σ o dn am lim r3 r10 τ12 x18 τ28 x30 x34 τ41 (f_M_swap_L111 σ o dn am lim r3 r10 τ12 x18 τ28 x30 x34 τ41 10 0 τ41))
def f_M_swap_105_37 (σ : g_S) (o : Int32) (dn : Int32) (am : Int32) (lim : Int32) (r3 : Int32) (r10 : Int32) (τ12 : g_S) (x18 : Int32) (τ28 : g_S) (x30 : Int64) (x34 : Int64) : Int64 × g_S := (f_M_swap_105_42 σ o dn am lim r3 r10 τ12 x18 τ28 x30 x34 (f_M_pay τ28 o x30 x34))
def k_M_swap_105_37 (σ : g_S) (o : Int32) (dn : Int32) (am : Int32) (lim : Int32) (r3 : Int32) (r10 : Int32) (τ12 : g_S) (x18 : Int32) (τ28 : g_S) (x30 : Int64) (x34 : Int64) : Prop := (k_M_pay τ28 o x30 x34) ∧ (k_M_swap_105_42 σ o dn am lim r3 r10 τ12 x18 τ28 x30 x34 (f_M_pay τ28 o x30 x34))
def f_M_swap_89_33 (σ : g_S) (o : Int32) (dn : Int32) (am : Int32) (lim : Int32) (r3 : Int32) (r10 : Int32) (τ12 : g_S) (x18 : Int32) (τ28 : g_S) (x30 : Int64) : Int64 × g_S := (f_M_swap_105_37 σ o dn am lim r3 r10 τ12 x18 τ28 x30 (if dn = 0 then τ28.2 0 23 else -(τ28.2 0 24)))
def k_M_swap_89_33 (σ : g_S) (o : Int32) (dn : Int32) (am : Int32) (lim : Int32) (r3 : Int32) (r10 : Int32) (τ12 : g_S) (x18 : Int32) (τ28 : g_S) (x30 : Int64) : Prop := (k_M_swap_105_37 σ o dn am lim r3 r10 τ12 x18 τ28 x30 (if dn = 0 then τ28.2 0 23 else -(τ28.2 0 24)))
def f_M_swap_68_29 (σ : g_S) (o : Int32) (dn : Int32) (am : Int32) (lim : Int32) (r3 : Int32) (r10 : Int32) (τ12 : g_S) (x18 : Int32) (τ28 : g_S) : Int64 × g_S := (f_M_swap_89_33 σ o dn am lim r3 r10 τ12 x18 τ28 (if dn = 0 then -(τ28.2 0 24) else τ28.2 0 23))
def k_M_swap_68_29 (σ : g_S) (o : Int32) (dn : Int32) (am : Int32) (lim : Int32) (r3 : Int32) (r10 : Int32) (τ12 : g_S) (x18 : Int32) (τ28 : g_S) : Prop := (k_M_swap_89_33 σ o dn am lim r3 r10 τ12 x18 τ28 (if dn = 0 then -(τ28.2 0 24) else τ28.2 0 23))
def f_M_swap_67_24 (σ : g_S) (o : Int32) (dn : Int32) (am : Int32) (lim : Int32) (r3 : Int32) (r10 : Int32) (τ12 : g_S) (x18 : Int32) : Int64 × g_S := (f_M_swap_68_29 σ o dn am lim r3 r10 τ12 x18 (f_M_note τ12))
def k_M_swap_67_24 (σ : g_S) (o : Int32) (dn : Int32) (am : Int32) (lim : Int32) (r3 : Int32) (r10 : Int32) (τ12 : g_S) (x18 : Int32) : Prop := (k_M_note τ12) ∧ (k_M_swap_68_29 σ o dn am lim r3 r10 τ12 x18 (f_M_note τ12))
def f_M_swap_63_60 (σ : g_S) (o : Int32) (dn : Int32) (am : Int32) (lim : Int32) (r3 : Int32) (r10 : Int32) (τ12 : g_S) (x18 : Int32) : Int64 × g_S := ((-5 : Int64), τ12)
def k_M_swap_63_60 (σ : g_S) (o : Int32) (dn : Int32) (am : Int32) (lim : Int32) (r3 : Int32) (r10 : Int32) (τ12 : g_S) (x18 : Int32) : Prop := True
def f_M_swap_42_21 (σ : g_S) (o : Int32) (dn : Int32) (am : Int32) (lim : Int32) (r3 : Int32) (r10 : Int32) (τ12 : g_S) (x18 : Int32) : Int64 × g_S := (if (τ12.2 0 23) ≤ (τ12.2 2 ((((2 : Int32) * o) + x18).toNatClampNeg)) then f_M_swap_67_24 σ o dn am lim r3 r10 τ12 x18 else f_M_swap_63_60 σ o dn am lim r3 r10 τ12 x18)
def k_M_swap_42_21 (σ : g_S) (o : Int32) (dn : Int32) (am : Int32) (lim : Int32) (r3 : Int32) (r10 : Int32) (τ12 : g_S) (x18 : Int32) : Prop := (vp_in (((2 : Int32) * o) + x18) 8) ∧ (if (τ12.2 0 23) ≤ (τ12.2 2 ((((2 : Int32) * o) + x18).toNatClampNeg)) then k_M_swap_67_24 σ o dn am lim r3 r10 τ12 x18 else k_M_swap_63_60 σ o dn am lim r3 r10 τ12 x18)
def f_M_swap_33_17 (σ : g_S) (o : Int32) (dn : Int32) (am : Int32) (lim : Int32) (r3 : Int32) (r10 : Int32) (τ12 : g_S) : Int64 × g_S := (f_M_swap_42_21 σ o dn am lim r3 r10 τ12 (if dn = 0 then (1 : Int32) else (0 : Int32)))
def k_M_swap_33_17 (σ : g_S) (o : Int32) (dn : Int32) (am : Int32) (lim : Int32) (r3 : Int32) (r10 : Int32) (τ12 : g_S) : Prop := (k_M_swap_42_21 σ o dn am lim r3 r10 τ12 (if dn = 0 then (1 : Int32) else (0 : Int32)))
def f_M_swap_29_62 (σ : g_S) (o : Int32) (dn : Int32) (am : Int32) (lim : Int32) (r3 : Int32) (r10 : Int32) (τ12 : g_S) : Int64 × g_S := ((-2 : Int64), τ12)
def k_M_swap_29_62 (σ : g_S) (o : Int32) (dn : Int32) (am : Int32) (lim : Int32) (r3 : Int32) (r10 : Int32) (τ12 : g_S) : Prop := True
def f_M_swap_23_15 (σ : g_S) (o : Int32) (dn : Int32) (am : Int32) (lim : Int32) (r3 : Int32) (r10 : Int32) (τ12 : g_S) : Int64 × g_S := (if r10 = 0 then f_M_swap_29_62 σ o dn am lim r3 r10 τ12 else f_M_swap_33_17 σ o dn am lim r3 r10 τ12)
def k_M_swap_23_15 (σ : g_S) (o : Int32) (dn : Int32) (am : Int32) (lim : Int32) (r3 : Int32) (r10 : Int32) (τ12 : g_S) : Prop := (if r10 = 0 then k_M_swap_29_62 σ o dn am lim r3 r10 τ12 else k_M_swap_33_17 σ o dn am lim r3 r10 τ12)
def f_M_swap_18_8 (σ : g_S) (o : Int32) (dn : Int32) (am : Int32) (lim : Int32) (r3 : Int32) : Int64 × g_S := (f_M_swap_23_15 σ o dn am lim r3 ((f_M_work σ dn am lim).1) ((f_M_work σ dn am lim).2))
def k_M_swap_18_8 (σ : g_S) (o : Int32) (dn : Int32) (am : Int32) (lim : Int32) (r3 : Int32) : Prop := (k_M_work σ dn am lim) ∧ (k_M_swap_23_15 σ o dn am lim r3 ((f_M_work σ dn am lim).1) ((f_M_work σ dn am lim).2))
def f_M_swap_12_5 (σ : g_S) (o : Int32) (dn : Int32) (am : Int32) (lim : Int32) (r3 : Int32) : Int64 × g_S := (if r3 = 0 then f_M_swap_29_7 σ o dn am lim r3 else f_M_swap_18_8 σ o dn am lim r3)
def k_M_swap_12_5 (σ : g_S) (o : Int32) (dn : Int32) (am : Int32) (lim : Int32) (r3 : Int32) : Prop := (if r3 = 0 then k_M_swap_29_7 σ o dn am lim r3 else k_M_swap_18_8 σ o dn am lim r3)
def f_M_swap_11_2 (σ : g_S) (o : Int32) (dn : Int32) (am : Int32) (lim : Int32) : Int64 × g_S := (f_M_swap_12_5 σ o dn am lim (f_M_isOwner o))
def k_M_swap_11_2 (σ : g_S) (o : Int32) (dn : Int32) (am : Int32) (lim : Int32) : Prop := (k_M_swap_12_5 σ o dn am lim (f_M_isOwner o))
def f_M_swap_7_63 (σ : g_S) (o : Int32) (dn : Int32) (am : Int32) (lim : Int32) : Int64 × g_S := ((-1 : Int64), σ)
def k_M_swap_7_63 (σ : g_S) (o : Int32) (dn : Int32) (am : Int32) (lim : Int32) : Prop := True
def f_M_swap (σ : g_S) (o : Int32) (dn : Int32) (am : Int32) (lim : Int32) : Int64 × g_S := (if (σ.1 0 3) = 0 then f_M_swap_7_63 σ o dn am lim else f_M_swap_11_2 σ o dn am lim)
def k_M_swap (σ : g_S) (o : Int32) (dn : Int32) (am : Int32) (lim : Int32) : Prop := (if (σ.1 0 3) = 0 then k_M_swap_7_63 σ o dn am lim else k_M_swap_11_2 σ o dn am lim)
set_option maxHeartbeats 4000000 in
set_option maxRecDepth 100000 in
theorem c_M_swap (l : Launch) (dC : Nat → ClassId) (dI : Nat → Nat → Nat) (dA : Nat → ClassId) (ad : Nat → Nat) (sz : Nat) (σ : g_S) (o : Int32) (dn : Int32) (am : Int32) (lim : Int32) (hQ : k_M_swap σ o dn am lim) : Met l y_M_swap w_M_swap ({ frames := 5, cells := 0, slots := 0, locals := 143 }) (va_Pc [.ref (ad 0), .int o, .int dn, .int am, .int lim] (g_W (dC, dI) cls (r_tys dA) (g_w r_sh dA ad σ) sz r_Z)) (va_Ql (fun r τ => (r, τ) = f_M_swap σ o dn am lim) (fun τ t => va_P (dC, dI) cls (g_w r_sh dA ad τ) t.heap) (va_A (g_w r_sh dA ad σ) sz)) 0 0 (va_A (g_w r_sh dA ad σ) sz) := by
  refine Met.ofW (cc := b_M_swap) (maxL := 7) (ret := (some .long)) (by decide) rfl ?_
  intro p e s m args below meth c s₁ B hml hv
  obtain ⟨rfl, hsz, hP, hK, hD0, hz⟩ := hv
  have hx := B.exec
  have hb := B.bytes
  have hr := B.returns
  have hts := atoms_spec (ws := w_M_swap) B.pre
  have ht := fun (w : Cond) (h : w ∈ gA) => hts w (List.mem_cons_of_mem _ h)
  have hown : s.vm.findClass "RangedPoolModel" = some m.cls := findClass_of_methodNamed B.named
  have hlocks := B.notSynchronized
  subst hsz
  have hD := hD0.self (sz := s.heap.size)
  have hA : ∀ q : Nat, s.heap.size ≤ q → va_A (g_w r_sh dA ad σ) s.heap.size q := fun q h => Or.inr h
  generalize hAe : va_A (g_w r_sh dA ad σ) s.heap.size = A at hD hA hz ⊢
  have hS : va_S A s.heap s.heap [] := va_S.rf
  have hl := lv_entry ([.ref (ad 0), .int o, .int dn, .int am, .int lim]) (n := 7) (Nat.le_of_ble_eq_true rfl)
  rw [lg_entry_eq]
  generalize (lg_sl ([.ref (ad 0), .int o, .int dn, .int am, .int lim]) ++ List.replicate (7 - (lg_sl ([.ref (ad 0), .int o, .int dn, .int am, .int lim])).length) Slot.unset).toArray = ls at hl ⊢
  have hl : lv_has ls 7 [(0, .ref (ad 0)), (1, .int o), (2, .int dn), (3, .int am), (4, .int lim)] := hl
  have hF : f_M_swap σ o dn am lim = f_M_swap σ o dn am lim := rfl
  refine lv_aload_n hx hb d_M_swap_0 rfl (lv_at hl 0 rfl) ?_
  refine g_get hx hb ht in_M hown hK hP (0) r_at0 rfl 3 (by decide) rfl (ht _ kw464) (fun _ h9 => h9) (v := .int (σ.1 0 3)) rfl d_M_swap_1 ?_
  refine lv_if_ne (tgt := 11) hx hb d_M_swap_4 (by decide) (fun c1 => ?_) (fun c1 => ?_)
  ·
    have c1 : ¬ ((σ.1 0 3) = 0) := c1
    have hF : f_M_swap σ o dn am lim = f_M_swap_11_2 σ o dn am lim := hF.trans (if_neg c1)
    have hQ : k_M_swap_11_2 σ o dn am lim := Eq.mp (if_neg c1) hQ
    refine lv_iload_n hx hb d_M_swap_11 rfl (lv_at hl 1 rfl) ?_
    refine g_cSi (va_runS (As := [.int o]) (rest := []) ⟨hx, hb, hml, hown, ht⟩ (c_M_isOwner l o) (va_cwS 1 ht gc_M_99 rfl rfl rfl (by decide +kernel) ⟨Nat.le_of_ble_eq_true rfl, Nat.le_of_ble_eq_true rfl⟩) (g_pr0 _) rfl rfl hl.1 rfl (lv_room (Nat.le_of_ble_eq_true rfl)) d_M_swap_12 ⟨Nat.le_of_ble_eq_true rfl, Nat.le_of_ble_eq_true rfl⟩) (fun r3 e4 => ?_)
    have hF : f_M_swap σ o dn am lim = f_M_swap_12_5 σ o dn am lim r3 := hF.trans (by rw [e4]; try rfl)
    have hQ : k_M_swap_12_5 σ o dn am lim r3 := by rw [e4]; exact hQ
    refine lv_if_eq (tgt := 29) hx hb d_M_swap_15 (by decide) (fun c6 => ?_) (fun c6 => ?_)
    ·
      have c6 : r3 = 0 := c6
      have hF : f_M_swap σ o dn am lim = f_M_swap_29_7 σ o dn am lim r3 := hF.trans (if_pos c6)
      have hQ : k_M_swap_29_7 σ o dn am lim r3 := Eq.mp (if_pos c6) hQ
      refine lv_ldc2 (v := (-2 : Int64)) hx hb hown (ht _ kw574) d_M_swap_29 ?_
      exact W.lret (v := (-2 : Int64)) hx hb hr (fun t hh hW => ⟨⟨(-2 : Int64), σ, rfl, hF.symm, by show va_P (dC, dI) cls (g_w r_sh dA ad σ) t.heap; rw [hh]; exact hP⟩, hS.F hh⟩) hS.2.2 d_M_swap_32
    ·
      have c6 : ¬ (r3 = 0) := c6
      have hF : f_M_swap σ o dn am lim = f_M_swap_18_8 σ o dn am lim r3 := hF.trans (if_neg c6)
      have hQ : k_M_swap_18_8 σ o dn am lim r3 := Eq.mp (if_neg c6) hQ
      refine lv_aload_n hx hb d_M_swap_18 rfl (lv_at hl 0 rfl) ?_
      refine lv_iload_n hx hb d_M_swap_19 rfl (lv_at hl 2 rfl) ?_
      refine lv_iload_n hx hb d_M_swap_20 rfl (lv_at hl 3 rfl) ?_
      refine lv_iload hx hb d_M_swap_21 (lv_at hl 4 rfl) ?_
      obtain ⟨hs9, hQ⟩ := hQ
      refine g_cWi (va_runV (As := [.int dn, .int am, .int lim]) (rest := []) ⟨hx, hb, hml, hown, ht⟩ (c_M_work l dC dI dA ad s.heap.size σ dn am lim hs9) (cwV 3 ht gc_M_191 rfl rfl rfl (by decide +kernel) ⟨Nat.le_of_ble_eq_true rfl, Nat.le_of_ble_eq_true rfl⟩) (g_pV (g_prW r_Zok hK hP hD hS hA hz _) (g_rc hK hP (0) r_at0 rfl)) rfl rfl hl.1 rfl (lv_room (Nat.le_of_ble_eq_true rfl)) d_M_swap_23 ⟨Nat.le_of_ble_eq_true rfl, Nat.le_of_ble_eq_true rfl⟩) hD hS hA (fun r10 τ12 H locs e11 hP hD hS => ?_)
      have e13 : r10 = (f_M_work σ dn am lim).1 := congrArg Prod.fst e11
      have e14 : τ12 = (f_M_work σ dn am lim).2 := congrArg Prod.snd e11
      have hF : f_M_swap σ o dn am lim = f_M_swap_23_15 σ o dn am lim r3 r10 τ12 := hF.trans (by rw [e13, e14]; try rfl)
      have hQ : k_M_swap_23_15 σ o dn am lim r3 r10 τ12 := by rw [e13, e14]; exact hQ
      refine lv_if_ne (tgt := 33) hx hb d_M_swap_26 (by decide) (fun c16 => ?_) (fun c16 => ?_)
      ·
        have c16 : ¬ (r10 = 0) := c16
        have hF : f_M_swap σ o dn am lim = f_M_swap_33_17 σ o dn am lim r3 r10 τ12 := hF.trans (if_neg c16)
        have hQ : k_M_swap_33_17 σ o dn am lim r3 r10 τ12 := Eq.mp (if_neg c16) hQ
        refine lv_iload_n hx hb d_M_swap_33 rfl (lv_at hl 2 rfl) ?_
        have J42_19 : ∀ (x18 : Int32) (ls : Array Slot), x18 = (if dn = 0 then (1 : Int32) else (0 : Int32)) → lv_has ls 7 [(0, .ref (ad 0)), (1, .int o), (2, .int dn)] → W p l e (headSpec w_M_swap ({ frames := 5, cells := 0, slots := 0, locals := 143 })).room s m ([.ref (ad 0), .int o, .int dn, .int am, .int lim] : List Value).toArray below meth c H locs 0 0 (MQ below (va_Ql (fun r τ => (r, τ) = f_M_swap σ o dn am lim) (fun τ t => va_P (dC, dI) cls (g_w r_sh dA ad τ) t.heap) A) ([.ref (ad 0), .int o, .int dn, .int am, .int lim] : List Value).toArray s 0 0 A) (F0 m 42 ls [.int x18]) := by
          intro x18 ls e20 hl
          have hF : f_M_swap σ o dn am lim = f_M_swap_42_21 σ o dn am lim r3 r10 τ12 x18 := hF.trans (by rw [e20]; try rfl)
          have hQ : k_M_swap_42_21 σ o dn am lim r3 r10 τ12 x18 := by rw [e20]; exact hQ
          refine lv_istore (lv' := [(5, .int x18), (0, .ref (ad 0)), (1, .int o), (2, .int dn)]) hx hb d_M_swap_42 hl (by decide) rfl (fun ls hl => ?_)
          refine lv_aload_n hx hb d_M_swap_44 rfl (lv_at hl 1 rfl) ?_
          refine g_get hx hb ht in_M hown hK hP (0) r_at0 rfl 6 (by decide) rfl (ht _ kw467) (fun _ h9 => h9) (v := .ref (ad 2)) rfl d_M_swap_45 ?_
          refine lv_iconst (v := (2 : Int32)) hx hb d_M_swap_48 (by decide) ?_
          refine lv_iload_n hx hb d_M_swap_49 rfl (lv_at hl 2 rfl) ?_
          refine lv_imul hx hb d_M_swap_50 ?_
          refine lv_iload hx hb d_M_swap_51 (lv_at hl 0 rfl) ?_
          refine lv_iadd hx hb d_M_swap_53 ?_
          obtain ⟨hs22, hQ⟩ := hQ
          refine g_lald hx hb hK hP (2) r_at2 rfl (hs22) (j := (((2 : Int32) * o) + x18).toNatClampNeg) (rfl) d_M_swap_54 ?_
          refine lv_aload_n hx hb d_M_swap_55 rfl (lv_at hl 1 rfl) ?_
          refine g_get hx hb ht in_M hown hK hP (0) r_at0 rfl 23 (by decide) rfl (ht _ kw484) (fun _ h9 => h9) (v := .long (τ12.2 0 23)) rfl d_M_swap_56 ?_
          refine W.lcmp hx hb d_M_swap_59 ?_
          refine lv_if_ge (tgt := 67) hx hb d_M_swap_60 (by decide) (fun c23 => ?_) (fun c23 => ?_)
          ·
            have c23 : (τ12.2 0 23) ≤ (τ12.2 2 ((((2 : Int32) * o) + x18).toNatClampNeg)) := (lg_cmp_ge _ _).mp c23
            have hF : f_M_swap σ o dn am lim = f_M_swap_67_24 σ o dn am lim r3 r10 τ12 x18 := hF.trans (if_pos c23)
            have hQ : k_M_swap_67_24 σ o dn am lim r3 r10 τ12 x18 := Eq.mp (if_pos c23) hQ
            refine lv_aload_n hx hb d_M_swap_67 rfl (lv_at hl 1 rfl) ?_
            obtain ⟨hs25, hQ⟩ := hQ
            refine g_cWv (va_runV (As := []) (rest := []) ⟨hx, hb, hml, hown, ht⟩ (c_M_note l dC dI dA ad H.size τ12 hs25) (cwV 0 ht gc_M_96 rfl rfl rfl (by decide +kernel) ⟨Nat.le_of_ble_eq_true rfl, Nat.le_of_ble_eq_true rfl⟩) (g_pV (g_prW r_Zok hK hP hD hS hA hz _) (g_rc hK hP (0) r_at0 rfl)) rfl rfl hl.1 rfl (lv_room (Nat.le_of_ble_eq_true rfl)) d_M_swap_68 ⟨Nat.le_of_ble_eq_true rfl, Nat.le_of_ble_eq_true rfl⟩) hD hS hA (fun τ28 H locs e27 hP hD hS => ?_)
            have hF : f_M_swap σ o dn am lim = f_M_swap_68_29 σ o dn am lim r3 r10 τ12 x18 τ28 := hF.trans (by rw [e27]; try rfl)
            have hQ : k_M_swap_68_29 σ o dn am lim r3 r10 τ12 x18 τ28 := by rw [e27]; exact hQ
            refine lv_aload_n hx hb d_M_swap_71 rfl (lv_at hl 1 rfl) ?_
            refine lv_iload_n hx hb d_M_swap_72 rfl (lv_at hl 2 rfl) ?_
            refine lv_iload_n hx hb d_M_swap_73 rfl (lv_at hl 3 rfl) ?_
            have J89_31 : ∀ (x30 : Int64) (ls : Array Slot), x30 = (if dn = 0 then -(τ28.2 0 24) else τ28.2 0 23) → lv_has ls 7 [(5, .int x18), (0, .ref (ad 0)), (2, .int dn)] → W p l e (headSpec w_M_swap ({ frames := 5, cells := 0, slots := 0, locals := 143 })).room s m ([.ref (ad 0), .int o, .int dn, .int am, .int lim] : List Value).toArray below meth c H locs 0 0 (MQ below (va_Ql (fun r τ => (r, τ) = f_M_swap σ o dn am lim) (fun τ t => va_P (dC, dI) cls (g_w r_sh dA ad τ) t.heap) A) ([.ref (ad 0), .int o, .int dn, .int am, .int lim] : List Value).toArray s 0 0 A) (F0 m 89 ls [.long x30, .int o, .ref (ad 0)]) := by
              intro x30 ls e32 hl
              have hF : f_M_swap σ o dn am lim = f_M_swap_89_33 σ o dn am lim r3 r10 τ12 x18 τ28 x30 := hF.trans (by rw [e32]; try rfl)
              have hQ : k_M_swap_89_33 σ o dn am lim r3 r10 τ12 x18 τ28 x30 := by rw [e32]; exact hQ
              refine lv_iload_n hx hb d_M_swap_89 rfl (lv_at hl 2 rfl) ?_
              have J105_35 : ∀ (x34 : Int64) (ls : Array Slot), x34 = (if dn = 0 then τ28.2 0 23 else -(τ28.2 0 24)) → lv_has ls 7 [(5, .int x18), (0, .ref (ad 0))] → W p l e (headSpec w_M_swap ({ frames := 5, cells := 0, slots := 0, locals := 143 })).room s m ([.ref (ad 0), .int o, .int dn, .int am, .int lim] : List Value).toArray below meth c H locs 0 0 (MQ below (va_Ql (fun r τ => (r, τ) = f_M_swap σ o dn am lim) (fun τ t => va_P (dC, dI) cls (g_w r_sh dA ad τ) t.heap) A) ([.ref (ad 0), .int o, .int dn, .int am, .int lim] : List Value).toArray s 0 0 A) (F0 m 105 ls [.long x34, .long x30, .int o, .ref (ad 0)]) := by
                intro x34 ls e36 hl
                have hF : f_M_swap σ o dn am lim = f_M_swap_105_37 σ o dn am lim r3 r10 τ12 x18 τ28 x30 x34 := hF.trans (by rw [e36]; try rfl)
                have hQ : k_M_swap_105_37 σ o dn am lim r3 r10 τ12 x18 τ28 x30 x34 := by rw [e36]; exact hQ
                obtain ⟨hs38, hQ⟩ := hQ
                refine g_cWv (va_runV (As := [.int o, .long x30, .long x34]) (rest := []) ⟨hx, hb, hml, hown, ht⟩ (c_M_pay l dC dI dA ad H.size τ28 o x30 x34 hs38) (cwV 3 ht gc_M_142 rfl rfl rfl (by decide +kernel) ⟨Nat.le_of_ble_eq_true rfl, Nat.le_of_ble_eq_true rfl⟩) (g_pV (g_prW r_Zok hK hP hD hS hA hz _) (g_rc hK hP (0) r_at0 rfl)) rfl rfl hl.1 rfl (lv_room (Nat.le_of_ble_eq_true rfl)) d_M_swap_105 ⟨Nat.le_of_ble_eq_true rfl, Nat.le_of_ble_eq_true rfl⟩) hD hS hA (fun τ41 H locs e40 hP hD hS => ?_)
                have hF : f_M_swap σ o dn am lim = f_M_swap_105_42 σ o dn am lim r3 r10 τ12 x18 τ28 x30 x34 τ41 := hF.trans (by rw [e40]; try rfl)
                have hQ : k_M_swap_105_42 σ o dn am lim r3 r10 τ12 x18 τ28 x30 x34 τ41 := by rw [e40]; exact hQ
                refine lv_iconst (v := (0 : Int32)) hx hb d_M_swap_108 (by decide) ?_
                refine lv_istore (lv' := [(6, .int (0 : Int32)), (5, .int x18), (0, .ref (ad 0))]) hx hb d_M_swap_109 hl (by decide) rfl (fun ls hl => ?_)
                obtain ⟨hT45, hQ⟩ := hQ
                have J160_46 : ∀ (τ44 : g_S) (ls : Array Slot) (H : Heap) (locs : List Loc), τ44 = (f_M_swap_L111 σ o dn am lim r3 r10 τ12 x18 τ28 x30 x34 τ41 10 0 τ41) → lv_has ls 7 [(0, .ref (ad 0))] → va_P (dC, dI) cls (g_w r_sh dA ad τ44) H → va_D A (g_w r_sh dA ad τ44) → va_S A s.heap H locs → W p l e (headSpec w_M_swap ({ frames := 5, cells := 0, slots := 0, locals := 143 })).room s m ([.ref (ad 0), .int o, .int dn, .int am, .int lim] : List Value).toArray below meth c H locs 0 0 (MQ below (va_Ql (fun r τ => (r, τ) = f_M_swap σ o dn am lim) (fun τ t => va_P (dC, dI) cls (g_w r_sh dA ad τ) t.heap) A) ([.ref (ad 0), .int o, .int dn, .int am, .int lim] : List Value).toArray s 0 0 A) (F0 m 160 ls []) := by
                  intro τ44 ls H locs e47 hl hP hD hS
                  have hF : f_M_swap σ o dn am lim = f_M_swap_160_48 σ o dn am lim r3 r10 τ12 x18 τ28 x30 x34 τ41 τ44 := hF.trans (by rw [e47]; try rfl)
                  have hQ : k_M_swap_160_48 σ o dn am lim r3 r10 τ12 x18 τ28 x30 x34 τ41 τ44 := by rw [e47]; exact hQ
                  refine lv_aload_n hx hb d_M_swap_160 rfl (lv_at hl 0 rfl) ?_
                  refine lv_aload_n hx hb d_M_swap_161 rfl (lv_at hl 0 rfl) ?_
                  refine g_get hx hb ht in_M hown hK hP (0) r_at0 rfl 20 (by decide) rfl (ht _ kw481) (fun _ h9 => h9) (v := .long (τ44.2 0 20)) rfl d_M_swap_162 ?_
                  refine g_putL (v := τ44.2 0 20) (ty := .long) hx hb ht in_M yt_M yt_M_ok n_M hown hK hP hD hS (0) r_at0 rfl 4 (by decide) rfl (ht _ kw465) (fun _ h9 => h9) rfl (by decide +kernel) (rfl) (rfl) d_M_swap_165 (fun H locs hP hD hS => ?_)
                  refine lv_aload_n hx hb d_M_swap_168 rfl (lv_at hl 0 rfl) ?_
                  refine lv_aload_n hx hb d_M_swap_169 rfl (lv_at hl 0 rfl) ?_
                  refine g_get hx hb ht in_M hown hK hP (0) r_at0 rfl 21 (by decide) rfl (ht _ kw482) (fun _ h9 => h9) (v := .int (τ44.1 0 21)) rfl d_M_swap_170 ?_
                  refine g_putI (v := τ44.1 0 21) (ty := .int) hx hb ht in_M yt_M yt_M_ok n_M hown hK hP hD hS (0) r_at0 rfl 5 (by decide) rfl (ht _ kw466) (fun _ h9 => h9) rfl (by decide +kernel) (rfl) (rfl) d_M_swap_173 (fun H locs hP hD hS => ?_)
                  refine lv_aload_n hx hb d_M_swap_176 rfl (lv_at hl 0 rfl) ?_
                  refine g_get hx hb ht in_M hown hK hP (0) r_at0 rfl 23 (by decide) rfl (ht _ kw484) (fun _ h9 => h9) (v := .long (τ44.2 0 23)) rfl d_M_swap_177 ?_
                  refine lv_ldc2 (v := (4294967296 : Int64)) hx hb hown (ht _ kw603) d_M_swap_180 ?_
                  refine lv_lmul hx hb d_M_swap_183 ?_
                  refine lv_aload_n hx hb d_M_swap_184 rfl (lv_at hl 0 rfl) ?_
                  refine g_get hx hb ht in_M hown hK hP (0) r_at0 rfl 24 (by decide) rfl (ht _ kw485) (fun _ h9 => h9) (v := .long (τ44.2 0 24)) rfl d_M_swap_185 ?_
                  refine lv_ladd hx hb d_M_swap_188 ?_
                  exact W.lret (v := ((τ44.2 0 23) * (4294967296 : Int64)) + (τ44.2 0 24)) hx hb hr (fun t hh hW => ⟨⟨((τ44.2 0 23) * (4294967296 : Int64)) + (τ44.2 0 24), g_I (g_L τ44 0 4 (τ44.2 0 20)) 0 5 (τ44.1 0 21), rfl, hF.symm, by show va_P (dC, dI) cls (g_w r_sh dA ad (g_I (g_L τ44 0 4 (τ44.2 0 20)) 0 5 (τ44.1 0 21))) t.heap; rw [hh]; exact hP⟩, hS.F hh⟩) hS.2.2 d_M_swap_189
                have LL111_49 : ∀ (jn : Nat) (jk : Nat) (τ43 : g_S) (ls : Array Slot) (H : Heap) (locs : List Loc), jk + jn = 10 → f_M_swap_L111 σ o dn am lim r3 r10 τ12 x18 τ28 x30 x34 τ41 10 0 τ41 = f_M_swap_L111 σ o dn am lim r3 r10 τ12 x18 τ28 x30 x34 τ41 jn jk τ43 → k_M_swap_L111 σ o dn am lim r3 r10 τ12 x18 τ28 x30 x34 τ41 jn jk τ43 → lv_has ls 7 [(6, .int (Int32.ofNat jk)), (5, .int x18), (0, .ref (ad 0))] → va_P (dC, dI) cls (g_w r_sh dA ad τ43) H → va_D A (g_w r_sh dA ad τ43) → va_S A s.heap H locs → W p l e (headSpec w_M_swap ({ frames := 5, cells := 0, slots := 0, locals := 143 })).room s m ([.ref (ad 0), .int o, .int dn, .int am, .int lim] : List Value).toArray below meth c H locs 0 0 (MQ below (va_Ql (fun r τ => (r, τ) = f_M_swap σ o dn am lim) (fun τ t => va_P (dC, dI) cls (g_w r_sh dA ad τ) t.heap) A) ([.ref (ad 0), .int o, .int dn, .int am, .int lim] : List Value).toArray s 0 0 A) (F0 m 111 ls []) := by
                  intro jn
                  induction jn with
                  | zero =>
                    intro jk τ43 ls H locs hkn hF hQ hl hP hD hS
                    have hF : f_M_swap_L111 σ o dn am lim r3 r10 τ12 x18 τ28 x30 x34 τ41 10 0 τ41 = (τ43) := hF
                    have hQ : True := hQ
                    refine lv_iload hx hb d_M_swap_111 (lv_at hl 0 rfl) ?_
                    refine lv_bipush (v := (10 : Int32)) hx hb d_M_swap_113 (by decide) ?_
                    refine lv_icmp_ge (tgt := 160) hx hb d_M_swap_115 (by decide) (fun _ => ?_) (fun c50 => absurd (g_geN (N := 10) (by omega)) c50)
                    exact J160_46 τ43 ls H locs hF.symm (lv_sub hl [2] rfl) hP hD hS
                  | succ jn ih =>
                    intro jk τ43 ls H locs hkn hF hQ hl hP hD hS
                    have hF : f_M_swap_L111 σ o dn am lim r3 r10 τ12 x18 τ28 x30 x34 τ41 10 0 τ41 = f_M_swap_L111 σ o dn am lim r3 r10 τ12 x18 τ28 x30 x34 τ41 jn (jk + 1) (g_L τ43 10 ((((2 : Int32) * (Int32.ofNat jk)) + x18).toNatClampNeg) ((τ43.2 10 ((((2 : Int32) * (Int32.ofNat jk)) + x18).toNatClampNeg)) + (if (τ43.1 4 jk) = 0 then (0 : Int64) else τ43.2 13 jk))) := hF
                    have hQ : (vp_in (((2 : Int32) * (Int32.ofNat jk)) + x18) 20) ∧ ((vp_in (((2 : Int32) * (Int32.ofNat jk)) + x18) 20) ∧ (k_M_swap_L111 σ o dn am lim r3 r10 τ12 x18 τ28 x30 x34 τ41 jn (jk + 1) (g_L τ43 10 ((((2 : Int32) * (Int32.ofNat jk)) + x18).toNatClampNeg) ((τ43.2 10 ((((2 : Int32) * (Int32.ofNat jk)) + x18).toNatClampNeg)) + (if (τ43.1 4 jk) = 0 then (0 : Int64) else τ43.2 13 jk))))) := hQ
                    refine lv_iload hx hb d_M_swap_111 (lv_at hl 0 rfl) ?_
                    refine lv_bipush (v := (10 : Int32)) hx hb d_M_swap_113 (by decide) ?_
                    refine lv_icmp_ge (tgt := 160) hx hb d_M_swap_115 (by decide) (fun c51 => absurd c51 (g_lt (N := 10) (by omega) (by decide))) (fun _ => ?_)
                    refine lv_aload_n hx hb d_M_swap_118 rfl (lv_at hl 2 rfl) ?_
                    refine g_get hx hb ht in_M hown hK hP (0) r_at0 rfl 14 (by decide) rfl (ht _ kw475) (fun _ h9 => h9) (v := .ref (ad 10)) rfl d_M_swap_119 ?_
                    refine lv_iconst (v := (2 : Int32)) hx hb d_M_swap_122 (by decide) ?_
                    refine lv_iload hx hb d_M_swap_123 (lv_at hl 0 rfl) ?_
                    refine lv_imul hx hb d_M_swap_125 ?_
                    refine lv_iload hx hb d_M_swap_126 (lv_at hl 1 rfl) ?_
                    refine lv_iadd hx hb d_M_swap_128 ?_
                    refine lv_dup2_11 hx hb d_M_swap_129 rfl rfl ?_
                    obtain ⟨hs52, hQ⟩ := hQ
                    refine g_lald hx hb hK hP (10) r_at10 rfl (hs52) (j := (((2 : Int32) * (Int32.ofNat jk)) + x18).toNatClampNeg) (rfl) d_M_swap_130 ?_
                    refine lv_aload_n hx hb d_M_swap_131 rfl (lv_at hl 2 rfl) ?_
                    refine g_get hx hb ht in_M hown hK hP (0) r_at0 rfl 8 (by decide) rfl (ht _ kw469) (fun _ h9 => h9) (v := .ref (ad 4)) rfl d_M_swap_132 ?_
                    refine lv_iload hx hb d_M_swap_135 (lv_at hl 0 rfl) ?_
                    refine g_zald hx hb hK hP (4) r_at4 rfl (g_eix rfl (by omega) (by omega)) (j := jk) (g_ena rfl (by omega)) d_M_swap_137 ?_
                    have J152_54 : ∀ (x53 : Int64) (ls : Array Slot), x53 = (if (τ43.1 4 jk) = 0 then (0 : Int64) else τ43.2 13 jk) → lv_has ls 7 [(6, .int (Int32.ofNat jk)), (5, .int x18), (0, .ref (ad 0))] → W p l e (headSpec w_M_swap ({ frames := 5, cells := 0, slots := 0, locals := 143 })).room s m ([.ref (ad 0), .int o, .int dn, .int am, .int lim] : List Value).toArray below meth c H locs 0 0 (MQ below (va_Ql (fun r τ => (r, τ) = f_M_swap σ o dn am lim) (fun τ t => va_P (dC, dI) cls (g_w r_sh dA ad τ) t.heap) A) ([.ref (ad 0), .int o, .int dn, .int am, .int lim] : List Value).toArray s 0 0 A) (F0 m 152 ls [.long x53, .long (τ43.2 10 ((((2 : Int32) * (Int32.ofNat jk)) + x18).toNatClampNeg)), .int (((2 : Int32) * (Int32.ofNat jk)) + x18), .ref (ad 10)]) := by
                      intro x53 ls e55 hl
                      rw [e55]
                      refine lv_ladd hx hb d_M_swap_152 ?_
                      obtain ⟨hs56, hQ⟩ := hQ
                      refine g_last (x := (τ43.2 10 ((((2 : Int32) * (Int32.ofNat jk)) + x18).toNatClampNeg)) + (if (τ43.1 4 jk) = 0 then (0 : Int64) else τ43.2 13 jk)) hx hb hK hP hD hS (10) r_at10 rfl (hs56) (j := (((2 : Int32) * (Int32.ofNat jk)) + x18).toNatClampNeg) (rfl) d_M_swap_153 (fun H locs hP hD hS => ?_)
                      refine lv_iinc (v := Int32.ofNat (jk + 1)) (lv' := [(6, .int (Int32.ofNat (jk + 1))), (5, .int x18), (0, .ref (ad 0))]) hx hb d_M_swap_154 hl (k := 0) rfl (g_inc jk) (by decide) rfl (fun ls hl => ?_)
                      refine lv_goto (tgt := 111) hx hb d_M_swap_157 (by decide) ?_
                      exact ih (jk + 1) (g_L τ43 10 ((((2 : Int32) * (Int32.ofNat jk)) + x18).toNatClampNeg) ((τ43.2 10 ((((2 : Int32) * (Int32.ofNat jk)) + x18).toNatClampNeg)) + (if (τ43.1 4 jk) = 0 then (0 : Int64) else τ43.2 13 jk))) ls H locs (by omega) hF hQ (lv_sub hl [0, 1, 2] rfl) hP hD hS
                    refine lv_if_eq (tgt := 151) hx hb d_M_swap_138 (by decide) (fun c57 => ?_) (fun c57 => ?_)
                    ·
                      have c57 : (τ43.1 4 jk) = 0 := c57
                      refine lv_lconst (v := (0 : Int64)) hx hb d_M_swap_151 (by decide) ?_
                      exact J152_54 (0 : Int64) ls (if_pos c57).symm (lv_sub hl [0, 1, 2] rfl)
                    ·
                      have c57 : ¬ ((τ43.1 4 jk) = 0) := c57
                      refine lv_aload_n hx hb d_M_swap_141 rfl (lv_at hl 2 rfl) ?_
                      refine g_get hx hb ht in_M hown hK hP (0) r_at0 rfl 25 (by decide) rfl (ht _ kw486) (fun _ h9 => h9) (v := .ref (ad 13)) rfl d_M_swap_142 ?_
                      refine lv_iload hx hb d_M_swap_145 (lv_at hl 0 rfl) ?_
                      refine g_lald hx hb hK hP (13) r_at13 rfl (g_eix rfl (by omega) (by omega)) (j := jk) (g_ena rfl (by omega)) d_M_swap_147 ?_
                      refine lv_goto (tgt := 152) hx hb d_M_swap_148 (by decide) ?_
                      exact J152_54 (τ43.2 13 jk) ls (if_neg c57).symm (lv_sub hl [0, 1, 2] rfl)
                exact LL111_49 10 0 τ41 ls H locs (by omega) rfl hT45 (lv_sub hl [0, 1, 2] rfl) hP hD hS
              refine lv_if_eq (tgt := 101) hx hb d_M_swap_90 (by decide) (fun c58 => ?_) (fun c58 => ?_)
              ·
                have c58 : dn = 0 := c58
                refine lv_aload_n hx hb d_M_swap_101 rfl (lv_at hl 1 rfl) ?_
                refine g_get hx hb ht in_M hown hK hP (0) r_at0 rfl 23 (by decide) rfl (ht _ kw484) (fun _ h9 => h9) (v := .long (τ28.2 0 23)) rfl d_M_swap_102 ?_
                exact J105_35 (τ28.2 0 23) ls (if_pos c58).symm (lv_sub hl [0, 1] rfl)
              ·
                have c58 : ¬ (dn = 0) := c58
                refine lv_aload_n hx hb d_M_swap_93 rfl (lv_at hl 1 rfl) ?_
                refine g_get hx hb ht in_M hown hK hP (0) r_at0 rfl 24 (by decide) rfl (ht _ kw485) (fun _ h9 => h9) (v := .long (τ28.2 0 24)) rfl d_M_swap_94 ?_
                refine lv_lneg hx hb d_M_swap_97 ?_
                refine lv_goto (tgt := 105) hx hb d_M_swap_98 (by decide) ?_
                exact J105_35 (-(τ28.2 0 24)) ls (if_neg c58).symm (lv_sub hl [0, 1] rfl)
            refine lv_if_eq (tgt := 84) hx hb d_M_swap_74 (by decide) (fun c59 => ?_) (fun c59 => ?_)
            ·
              have c59 : dn = 0 := c59
              refine lv_aload_n hx hb d_M_swap_84 rfl (lv_at hl 1 rfl) ?_
              refine g_get hx hb ht in_M hown hK hP (0) r_at0 rfl 24 (by decide) rfl (ht _ kw485) (fun _ h9 => h9) (v := .long (τ28.2 0 24)) rfl d_M_swap_85 ?_
              refine lv_lneg hx hb d_M_swap_88 ?_
              exact J89_31 (-(τ28.2 0 24)) ls (if_pos c59).symm (lv_sub hl [0, 1, 3] rfl)
            ·
              have c59 : ¬ (dn = 0) := c59
              refine lv_aload_n hx hb d_M_swap_77 rfl (lv_at hl 1 rfl) ?_
              refine g_get hx hb ht in_M hown hK hP (0) r_at0 rfl 23 (by decide) rfl (ht _ kw484) (fun _ h9 => h9) (v := .long (τ28.2 0 23)) rfl d_M_swap_78 ?_
              refine lv_goto (tgt := 89) hx hb d_M_swap_81 (by decide) ?_
              exact J89_31 (τ28.2 0 23) ls (if_neg c59).symm (lv_sub hl [0, 1, 3] rfl)
          ·
            have c23 : ¬ ((τ12.2 0 23) ≤ (τ12.2 2 ((((2 : Int32) * o) + x18).toNatClampNeg))) := mt (lg_cmp_ge _ _).mpr c23
            have hF : f_M_swap σ o dn am lim = f_M_swap_63_60 σ o dn am lim r3 r10 τ12 x18 := hF.trans (if_neg c23)
            have hQ : k_M_swap_63_60 σ o dn am lim r3 r10 τ12 x18 := Eq.mp (if_neg c23) hQ
            refine lv_ldc2 (v := (-5 : Int64)) hx hb hown (ht _ kw598) d_M_swap_63 ?_
            exact W.lret (v := (-5 : Int64)) hx hb hr (fun t hh hW => ⟨⟨(-5 : Int64), τ12, rfl, hF.symm, by show va_P (dC, dI) cls (g_w r_sh dA ad τ12) t.heap; rw [hh]; exact hP⟩, hS.F hh⟩) hS.2.2 d_M_swap_66
        refine lv_if_eq (tgt := 41) hx hb d_M_swap_34 (by decide) (fun c61 => ?_) (fun c61 => ?_)
        ·
          have c61 : dn = 0 := c61
          refine lv_iconst (v := (1 : Int32)) hx hb d_M_swap_41 (by decide) ?_
          exact J42_19 (1 : Int32) ls (if_pos c61).symm (lv_sub hl [0, 1, 2] rfl)
        ·
          have c61 : ¬ (dn = 0) := c61
          refine lv_iconst (v := (0 : Int32)) hx hb d_M_swap_37 (by decide) ?_
          refine lv_goto (tgt := 42) hx hb d_M_swap_38 (by decide) ?_
          exact J42_19 (0 : Int32) ls (if_neg c61).symm (lv_sub hl [0, 1, 2] rfl)
      ·
        have c16 : r10 = 0 := c16
        have hF : f_M_swap σ o dn am lim = f_M_swap_29_62 σ o dn am lim r3 r10 τ12 := hF.trans (if_pos c16)
        have hQ : k_M_swap_29_62 σ o dn am lim r3 r10 τ12 := Eq.mp (if_pos c16) hQ
        refine lv_ldc2 (v := (-2 : Int64)) hx hb hown (ht _ kw574) d_M_swap_29 ?_
        exact W.lret (v := (-2 : Int64)) hx hb hr (fun t hh hW => ⟨⟨(-2 : Int64), τ12, rfl, hF.symm, by show va_P (dC, dI) cls (g_w r_sh dA ad τ12) t.heap; rw [hh]; exact hP⟩, hS.F hh⟩) hS.2.2 d_M_swap_32
  ·
    have c1 : (σ.1 0 3) = 0 := c1
    have hF : f_M_swap σ o dn am lim = f_M_swap_7_63 σ o dn am lim := hF.trans (if_pos c1)
    have hQ : k_M_swap_7_63 σ o dn am lim := Eq.mp (if_pos c1) hQ
    refine lv_ldc2 (v := (-1 : Int64)) hx hb hown (ht _ kw568) d_M_swap_7 ?_
    exact W.lret (v := (-1 : Int64)) hx hb hr (fun t hh hW => ⟨⟨(-1 : Int64), σ, rfl, hF.symm, by show va_P (dC, dI) cls (g_w r_sh dA ad σ) t.heap; rw [hh]; exact hP⟩, hS.F hh⟩) hS.2.2 d_M_swap_10
def f_M_quote_37_11 (σ : g_S) (dn : Int32) (am : Int32) (lim : Int32) (r4 : Int32) (τ6 : g_S) : Int64 × g_S := ((-2 : Int64), τ6)
def k_M_quote_37_11 (σ : g_S) (dn : Int32) (am : Int32) (lim : Int32) (r4 : Int32) (τ6 : g_S) : Prop := True
def f_M_quote_21_12 (σ : g_S) (dn : Int32) (am : Int32) (lim : Int32) (r4 : Int32) (τ6 : g_S) : Int64 × g_S := (((τ6.2 0 23) * (4294967296 : Int64)) + (τ6.2 0 24), τ6)
def k_M_quote_21_12 (σ : g_S) (dn : Int32) (am : Int32) (lim : Int32) (r4 : Int32) (τ6 : g_S) : Prop := True
def f_M_quote_15_9 (σ : g_S) (dn : Int32) (am : Int32) (lim : Int32) (r4 : Int32) (τ6 : g_S) : Int64 × g_S := (if r4 = 0 then f_M_quote_37_11 σ dn am lim r4 τ6 else f_M_quote_21_12 σ dn am lim r4 τ6)
def k_M_quote_15_9 (σ : g_S) (dn : Int32) (am : Int32) (lim : Int32) (r4 : Int32) (τ6 : g_S) : Prop := (if r4 = 0 then k_M_quote_37_11 σ dn am lim r4 τ6 else k_M_quote_21_12 σ dn am lim r4 τ6)
def f_M_quote_11_2 (σ : g_S) (dn : Int32) (am : Int32) (lim : Int32) : Int64 × g_S := (f_M_quote_15_9 σ dn am lim ((f_M_work σ dn am lim).1) ((f_M_work σ dn am lim).2))
def k_M_quote_11_2 (σ : g_S) (dn : Int32) (am : Int32) (lim : Int32) : Prop := (k_M_work σ dn am lim) ∧ (k_M_quote_15_9 σ dn am lim ((f_M_work σ dn am lim).1) ((f_M_work σ dn am lim).2))
def f_M_quote_7_13 (σ : g_S) (dn : Int32) (am : Int32) (lim : Int32) : Int64 × g_S := ((-1 : Int64), σ)
def k_M_quote_7_13 (σ : g_S) (dn : Int32) (am : Int32) (lim : Int32) : Prop := True
def f_M_quote (σ : g_S) (dn : Int32) (am : Int32) (lim : Int32) : Int64 × g_S := (if (σ.1 0 3) = 0 then f_M_quote_7_13 σ dn am lim else f_M_quote_11_2 σ dn am lim)
def k_M_quote (σ : g_S) (dn : Int32) (am : Int32) (lim : Int32) : Prop := (if (σ.1 0 3) = 0 then k_M_quote_7_13 σ dn am lim else k_M_quote_11_2 σ dn am lim)
set_option maxHeartbeats 4000000 in
set_option maxRecDepth 100000 in
theorem c_M_quote (l : Launch) (dC : Nat → ClassId) (dI : Nat → Nat → Nat) (dA : Nat → ClassId) (ad : Nat → Nat) (sz : Nat) (σ : g_S) (dn : Int32) (am : Int32) (lim : Int32) (hQ : k_M_quote σ dn am lim) : Met l y_M_quote w_M_quote ({ frames := 5, cells := 0, slots := 0, locals := 143 }) (va_Pc [.ref (ad 0), .int dn, .int am, .int lim] (g_W (dC, dI) cls (r_tys dA) (g_w r_sh dA ad σ) sz r_Z)) (va_Ql (fun r τ => (r, τ) = f_M_quote σ dn am lim) (fun τ t => va_P (dC, dI) cls (g_w r_sh dA ad τ) t.heap) (va_A (g_w r_sh dA ad σ) sz)) 0 0 (va_A (g_w r_sh dA ad σ) sz) := by
  refine Met.ofW (cc := b_M_quote) (maxL := 4) (ret := (some .long)) (by decide) rfl ?_
  intro p e s m args below meth c s₁ B hml hv
  obtain ⟨rfl, hsz, hP, hK, hD0, hz⟩ := hv
  have hx := B.exec
  have hb := B.bytes
  have hr := B.returns
  have hts := atoms_spec (ws := w_M_quote) B.pre
  have ht := fun (w : Cond) (h : w ∈ gA) => hts w (List.mem_cons_of_mem _ h)
  have hown : s.vm.findClass "RangedPoolModel" = some m.cls := findClass_of_methodNamed B.named
  have hlocks := B.notSynchronized
  subst hsz
  have hD := hD0.self (sz := s.heap.size)
  have hA : ∀ q : Nat, s.heap.size ≤ q → va_A (g_w r_sh dA ad σ) s.heap.size q := fun q h => Or.inr h
  generalize hAe : va_A (g_w r_sh dA ad σ) s.heap.size = A at hD hA hz ⊢
  have hS : va_S A s.heap s.heap [] := va_S.rf
  have hl := lv_entry ([.ref (ad 0), .int dn, .int am, .int lim]) (n := 4) (Nat.le_of_ble_eq_true rfl)
  rw [lg_entry_eq]
  generalize (lg_sl ([.ref (ad 0), .int dn, .int am, .int lim]) ++ List.replicate (4 - (lg_sl ([.ref (ad 0), .int dn, .int am, .int lim])).length) Slot.unset).toArray = ls at hl ⊢
  have hl : lv_has ls 4 [(0, .ref (ad 0)), (1, .int dn), (2, .int am), (3, .int lim)] := hl
  have hF : f_M_quote σ dn am lim = f_M_quote σ dn am lim := rfl
  refine lv_aload_n hx hb d_M_quote_0 rfl (lv_at hl 0 rfl) ?_
  refine g_get hx hb ht in_M hown hK hP (0) r_at0 rfl 3 (by decide) rfl (ht _ kw464) (fun _ h9 => h9) (v := .int (σ.1 0 3)) rfl d_M_quote_1 ?_
  refine lv_if_ne (tgt := 11) hx hb d_M_quote_4 (by decide) (fun c1 => ?_) (fun c1 => ?_)
  ·
    have c1 : ¬ ((σ.1 0 3) = 0) := c1
    have hF : f_M_quote σ dn am lim = f_M_quote_11_2 σ dn am lim := hF.trans (if_neg c1)
    have hQ : k_M_quote_11_2 σ dn am lim := Eq.mp (if_neg c1) hQ
    refine lv_aload_n hx hb d_M_quote_11 rfl (lv_at hl 0 rfl) ?_
    refine lv_iload_n hx hb d_M_quote_12 rfl (lv_at hl 1 rfl) ?_
    refine lv_iload_n hx hb d_M_quote_13 rfl (lv_at hl 2 rfl) ?_
    refine lv_iload_n hx hb d_M_quote_14 rfl (lv_at hl 3 rfl) ?_
    obtain ⟨hs3, hQ⟩ := hQ
    refine g_cWi (va_runV (As := [.int dn, .int am, .int lim]) (rest := []) ⟨hx, hb, hml, hown, ht⟩ (c_M_work l dC dI dA ad s.heap.size σ dn am lim hs3) (cwV 3 ht gc_M_191 rfl rfl rfl (by decide +kernel) ⟨Nat.le_of_ble_eq_true rfl, Nat.le_of_ble_eq_true rfl⟩) (g_pV (g_prW r_Zok hK hP hD hS hA hz _) (g_rc hK hP (0) r_at0 rfl)) rfl rfl hl.1 rfl (lv_room (Nat.le_of_ble_eq_true rfl)) d_M_quote_15 ⟨Nat.le_of_ble_eq_true rfl, Nat.le_of_ble_eq_true rfl⟩) hD hS hA (fun r4 τ6 H locs e5 hP hD hS => ?_)
    have e7 : r4 = (f_M_work σ dn am lim).1 := congrArg Prod.fst e5
    have e8 : τ6 = (f_M_work σ dn am lim).2 := congrArg Prod.snd e5
    have hF : f_M_quote σ dn am lim = f_M_quote_15_9 σ dn am lim r4 τ6 := hF.trans (by rw [e7, e8]; try rfl)
    have hQ : k_M_quote_15_9 σ dn am lim r4 τ6 := by rw [e7, e8]; exact hQ
    refine lv_if_eq (tgt := 37) hx hb d_M_quote_18 (by decide) (fun c10 => ?_) (fun c10 => ?_)
    ·
      have c10 : r4 = 0 := c10
      have hF : f_M_quote σ dn am lim = f_M_quote_37_11 σ dn am lim r4 τ6 := hF.trans (if_pos c10)
      have hQ : k_M_quote_37_11 σ dn am lim r4 τ6 := Eq.mp (if_pos c10) hQ
      refine lv_ldc2 (v := (-2 : Int64)) hx hb hown (ht _ kw574) d_M_quote_37 ?_
      exact W.lret (v := (-2 : Int64)) hx hb hr (fun t hh hW => ⟨⟨(-2 : Int64), τ6, rfl, hF.symm, by show va_P (dC, dI) cls (g_w r_sh dA ad τ6) t.heap; rw [hh]; exact hP⟩, hS.F hh⟩) hS.2.2 d_M_quote_40
    ·
      have c10 : ¬ (r4 = 0) := c10
      have hF : f_M_quote σ dn am lim = f_M_quote_21_12 σ dn am lim r4 τ6 := hF.trans (if_neg c10)
      have hQ : k_M_quote_21_12 σ dn am lim r4 τ6 := Eq.mp (if_neg c10) hQ
      refine lv_aload_n hx hb d_M_quote_21 rfl (lv_at hl 0 rfl) ?_
      refine g_get hx hb ht in_M hown hK hP (0) r_at0 rfl 23 (by decide) rfl (ht _ kw484) (fun _ h9 => h9) (v := .long (τ6.2 0 23)) rfl d_M_quote_22 ?_
      refine lv_ldc2 (v := (4294967296 : Int64)) hx hb hown (ht _ kw603) d_M_quote_25 ?_
      refine lv_lmul hx hb d_M_quote_28 ?_
      refine lv_aload_n hx hb d_M_quote_29 rfl (lv_at hl 0 rfl) ?_
      refine g_get hx hb ht in_M hown hK hP (0) r_at0 rfl 24 (by decide) rfl (ht _ kw485) (fun _ h9 => h9) (v := .long (τ6.2 0 24)) rfl d_M_quote_30 ?_
      refine lv_ladd hx hb d_M_quote_33 ?_
      refine lv_goto (tgt := 40) hx hb d_M_quote_34 (by decide) ?_
      exact W.lret (v := ((τ6.2 0 23) * (4294967296 : Int64)) + (τ6.2 0 24)) hx hb hr (fun t hh hW => ⟨⟨((τ6.2 0 23) * (4294967296 : Int64)) + (τ6.2 0 24), τ6, rfl, hF.symm, by show va_P (dC, dI) cls (g_w r_sh dA ad τ6) t.heap; rw [hh]; exact hP⟩, hS.F hh⟩) hS.2.2 d_M_quote_40
  ·
    have c1 : (σ.1 0 3) = 0 := c1
    have hF : f_M_quote σ dn am lim = f_M_quote_7_13 σ dn am lim := hF.trans (if_pos c1)
    have hQ : k_M_quote_7_13 σ dn am lim := Eq.mp (if_pos c1) hQ
    refine lv_ldc2 (v := (-1 : Int64)) hx hb hown (ht _ kw568) d_M_quote_7 ?_
    exact W.lret (v := (-1 : Int64)) hx hb hr (fun t hh hW => ⟨⟨(-1 : Int64), σ, rfl, hF.symm, by show va_P (dC, dI) cls (g_w r_sh dA ad σ) t.heap; rw [hh]; exact hP⟩, hS.F hh⟩) hS.2.2 d_M_quote_10
