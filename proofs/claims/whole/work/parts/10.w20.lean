def f_M_work_56_2 (σ : g_S) (dn : Int32) (am : Int32) (lim : Int32) : Int32 × g_S := ((0 : Int32), σ)
def k_M_work_56_2 (σ : g_S) (dn : Int32) (am : Int32) (lim : Int32) : Prop := True
def f_M_work_56_5 (σ : g_S) (dn : Int32) (am : Int32) (lim : Int32) : Int32 × g_S := ((0 : Int32), σ)
def k_M_work_56_5 (σ : g_S) (dn : Int32) (am : Int32) (lim : Int32) : Prop := True
def f_M_work_56_8 (σ : g_S) (dn : Int32) (am : Int32) (lim : Int32) : Int32 × g_S := ((0 : Int32), σ)
def k_M_work_56_8 (σ : g_S) (dn : Int32) (am : Int32) (lim : Int32) : Prop := True
def f_M_work_56_14 (σ : g_S) (dn : Int32) (am : Int32) (lim : Int32) (r10 : Int32) : Int32 × g_S := ((0 : Int32), σ)
def k_M_work_56_14 (σ : g_S) (dn : Int32) (am : Int32) (lim : Int32) (r10 : Int32) : Prop := True
def f_M_work_163_34 (σ : g_S) (dn : Int32) (am : Int32) (lim : Int32) (r10 : Int32) (r19 : Int64) (τ25 : g_S) (τ30 : g_S) : Int32 × g_S := ((1 : Int32), τ30)
def k_M_work_163_34 (σ : g_S) (dn : Int32) (am : Int32) (lim : Int32) (r10 : Int32) (r19 : Int64) (τ25 : g_S) (τ30 : g_S) : Prop := True
def f_M_work_L117 (σ : g_S) (dn : Int32) (am : Int32) (lim : Int32) (r10 : Int32) (r19 : Int64) (τ25 : g_S) : Nat → Nat → g_S → g_S
  | 0, jk, τ29 => (τ29)
  | jn + 1, jk, τ29 => (if (τ29.2 0 22) = (0 : Int64) then (τ29) else (if (τ29.2 0 20) = (f_M_price τ29 lim) then (τ29) else f_M_work_L117 σ dn am lim r10 r19 τ25 jn (jk + 1) (f_M_leg τ29 dn (f_M_price τ29 lim))))
def k_M_work_L117 (σ : g_S) (dn : Int32) (am : Int32) (lim : Int32) (r10 : Int32) (r19 : Int64) (τ25 : g_S) : Nat → Nat → g_S → Prop
  | 0, jk, τ29 => True
  | jn + 1, jk, τ29 => (if (τ29.2 0 22) = (0 : Int64) then True else (k_M_price τ29 lim) ∧ (if (τ29.2 0 20) = (f_M_price τ29 lim) then True else (k_M_price τ29 lim) ∧ (k_M_leg τ29 dn (f_M_price τ29 lim)) ∧ (k_M_work_L117 σ dn am lim r10 r19 τ25 jn (jk + 1) (f_M_leg τ29 dn (f_M_price τ29 lim)))))
def f_M_work_114_28 (σ : g_S) (dn : Int32) (am : Int32) (lim : Int32) (r10 : Int32) (r19 : Int64) (τ25 : g_S) : Int32 × g_S := (f_M_work_163_34 σ dn am lim r10 r19 τ25 (f_M_work_L117 σ dn am lim r10 r19 τ25 1000 0 τ25))
def k_M_work_114_28 (σ : g_S) (dn : Int32) (am : Int32) (lim : Int32) (r10 : Int32) (r19 : Int64) (τ25 : g_S) : Prop := (k_M_work_L117 σ dn am lim r10 r19 τ25 1000 0 τ25) ∧ (k_M_work_163_34 σ dn am lim r10 r19 τ25 (f_M_work_L117 σ dn am lim r10 r19 τ25 1000 0 τ25))
def f_M_work_L93 (σ : g_S) (dn : Int32) (am : Int32) (lim : Int32) (r10 : Int32) (r19 : Int64) : Nat → Nat → g_S → g_S
  | 0, jk, τ24 => (τ24)
  | jn + 1, jk, τ24 => f_M_work_L93 σ dn am lim r10 r19 jn (jk + 1) (g_L τ24 13 jk (0 : Int64))
def f_M_work_58_23 (σ : g_S) (dn : Int32) (am : Int32) (lim : Int32) (r10 : Int32) (r19 : Int64) : Int32 × g_S := (f_M_work_114_28 σ dn am lim r10 r19 (f_M_work_L93 σ dn am lim r10 r19 10 0 (g_L (g_L (g_L (g_I (g_L σ 0 20 (σ.2 0 4)) 0 21 (σ.1 0 5)) 0 22 am.toInt64) 0 23 (0 : Int64)) 0 24 (0 : Int64))))
def k_M_work_58_23 (σ : g_S) (dn : Int32) (am : Int32) (lim : Int32) (r10 : Int32) (r19 : Int64) : Prop := (k_M_work_114_28 σ dn am lim r10 r19 (f_M_work_L93 σ dn am lim r10 r19 10 0 (g_L (g_L (g_L (g_I (g_L σ 0 20 (σ.2 0 4)) 0 21 (σ.1 0 5)) 0 22 am.toInt64) 0 23 (0 : Int64)) 0 24 (0 : Int64))))
def f_M_work_56_53 (σ : g_S) (dn : Int32) (am : Int32) (lim : Int32) (r10 : Int32) (r19 : Int64) : Int32 × g_S := ((0 : Int32), σ)
def k_M_work_56_53 (σ : g_S) (dn : Int32) (am : Int32) (lim : Int32) (r10 : Int32) (r19 : Int64) : Prop := True
def f_M_work_45_21 (σ : g_S) (dn : Int32) (am : Int32) (lim : Int32) (r10 : Int32) (r19 : Int64) : Int32 × g_S := (if (σ.2 0 4) < r19 then f_M_work_58_23 σ dn am lim r10 r19 else f_M_work_56_53 σ dn am lim r10 r19)
def k_M_work_45_21 (σ : g_S) (dn : Int32) (am : Int32) (lim : Int32) (r10 : Int32) (r19 : Int64) : Prop := (if (σ.2 0 4) < r19 then k_M_work_58_23 σ dn am lim r10 r19 else k_M_work_56_53 σ dn am lim r10 r19)
def f_M_work_43_17 (σ : g_S) (dn : Int32) (am : Int32) (lim : Int32) (r10 : Int32) : Int32 × g_S := (f_M_work_45_21 σ dn am lim r10 (f_M_price σ lim))
def k_M_work_43_17 (σ : g_S) (dn : Int32) (am : Int32) (lim : Int32) (r10 : Int32) : Prop := (k_M_price σ lim) ∧ (k_M_work_45_21 σ dn am lim r10 (f_M_price σ lim))
def f_M_work_163_71 (σ : g_S) (dn : Int32) (am : Int32) (lim : Int32) (r10 : Int32) (r56 : Int64) (τ62 : g_S) (τ67 : g_S) : Int32 × g_S := ((1 : Int32), τ67)
def k_M_work_163_71 (σ : g_S) (dn : Int32) (am : Int32) (lim : Int32) (r10 : Int32) (r56 : Int64) (τ62 : g_S) (τ67 : g_S) : Prop := True
def f_M_work_L117_1 (σ : g_S) (dn : Int32) (am : Int32) (lim : Int32) (r10 : Int32) (r56 : Int64) (τ62 : g_S) : Nat → Nat → g_S → g_S
  | 0, jk, τ66 => (τ66)
  | jn + 1, jk, τ66 => (if (τ66.2 0 22) = (0 : Int64) then (τ66) else (if (τ66.2 0 20) = (f_M_price τ66 lim) then (τ66) else f_M_work_L117_1 σ dn am lim r10 r56 τ62 jn (jk + 1) (f_M_leg τ66 dn (f_M_price τ66 lim))))
def k_M_work_L117_1 (σ : g_S) (dn : Int32) (am : Int32) (lim : Int32) (r10 : Int32) (r56 : Int64) (τ62 : g_S) : Nat → Nat → g_S → Prop
  | 0, jk, τ66 => True
  | jn + 1, jk, τ66 => (if (τ66.2 0 22) = (0 : Int64) then True else (k_M_price τ66 lim) ∧ (if (τ66.2 0 20) = (f_M_price τ66 lim) then True else (k_M_price τ66 lim) ∧ (k_M_leg τ66 dn (f_M_price τ66 lim)) ∧ (k_M_work_L117_1 σ dn am lim r10 r56 τ62 jn (jk + 1) (f_M_leg τ66 dn (f_M_price τ66 lim)))))
def f_M_work_114_65 (σ : g_S) (dn : Int32) (am : Int32) (lim : Int32) (r10 : Int32) (r56 : Int64) (τ62 : g_S) : Int32 × g_S := (f_M_work_163_71 σ dn am lim r10 r56 τ62 (f_M_work_L117_1 σ dn am lim r10 r56 τ62 1000 0 τ62))
def k_M_work_114_65 (σ : g_S) (dn : Int32) (am : Int32) (lim : Int32) (r10 : Int32) (r56 : Int64) (τ62 : g_S) : Prop := (k_M_work_L117_1 σ dn am lim r10 r56 τ62 1000 0 τ62) ∧ (k_M_work_163_71 σ dn am lim r10 r56 τ62 (f_M_work_L117_1 σ dn am lim r10 r56 τ62 1000 0 τ62))
def f_M_work_L93_1 (σ : g_S) (dn : Int32) (am : Int32) (lim : Int32) (r10 : Int32) (r56 : Int64) : Nat → Nat → g_S → g_S
  | 0, jk, τ61 => (τ61)
  | jn + 1, jk, τ61 => f_M_work_L93_1 σ dn am lim r10 r56 jn (jk + 1) (g_L τ61 13 jk (0 : Int64))
def f_M_work_58_60 (σ : g_S) (dn : Int32) (am : Int32) (lim : Int32) (r10 : Int32) (r56 : Int64) : Int32 × g_S := (f_M_work_114_65 σ dn am lim r10 r56 (f_M_work_L93_1 σ dn am lim r10 r56 10 0 (g_L (g_L (g_L (g_I (g_L σ 0 20 (σ.2 0 4)) 0 21 (σ.1 0 5)) 0 22 am.toInt64) 0 23 (0 : Int64)) 0 24 (0 : Int64))))
def k_M_work_58_60 (σ : g_S) (dn : Int32) (am : Int32) (lim : Int32) (r10 : Int32) (r56 : Int64) : Prop := (k_M_work_114_65 σ dn am lim r10 r56 (f_M_work_L93_1 σ dn am lim r10 r56 10 0 (g_L (g_L (g_L (g_I (g_L σ 0 20 (σ.2 0 4)) 0 21 (σ.1 0 5)) 0 22 am.toInt64) 0 23 (0 : Int64)) 0 24 (0 : Int64))))
def f_M_work_40_90 (σ : g_S) (dn : Int32) (am : Int32) (lim : Int32) (r10 : Int32) (r56 : Int64) : Int32 × g_S := ((0 : Int32), σ)
def k_M_work_40_90 (σ : g_S) (dn : Int32) (am : Int32) (lim : Int32) (r10 : Int32) (r56 : Int64) : Prop := True
def f_M_work_29_58 (σ : g_S) (dn : Int32) (am : Int32) (lim : Int32) (r10 : Int32) (r56 : Int64) : Int32 × g_S := (if r56 < (σ.2 0 4) then f_M_work_58_60 σ dn am lim r10 r56 else f_M_work_40_90 σ dn am lim r10 r56)
def k_M_work_29_58 (σ : g_S) (dn : Int32) (am : Int32) (lim : Int32) (r10 : Int32) (r56 : Int64) : Prop := (if r56 < (σ.2 0 4) then k_M_work_58_60 σ dn am lim r10 r56 else k_M_work_40_90 σ dn am lim r10 r56)
def f_M_work_27_54 (σ : g_S) (dn : Int32) (am : Int32) (lim : Int32) (r10 : Int32) : Int32 × g_S := (f_M_work_29_58 σ dn am lim r10 (f_M_price σ lim))
def k_M_work_27_54 (σ : g_S) (dn : Int32) (am : Int32) (lim : Int32) (r10 : Int32) : Prop := (k_M_price σ lim) ∧ (k_M_work_29_58 σ dn am lim r10 (f_M_price σ lim))
def f_M_work_23_15 (σ : g_S) (dn : Int32) (am : Int32) (lim : Int32) (r10 : Int32) : Int32 × g_S := (if dn = 0 then f_M_work_43_17 σ dn am lim r10 else f_M_work_27_54 σ dn am lim r10)
def k_M_work_23_15 (σ : g_S) (dn : Int32) (am : Int32) (lim : Int32) (r10 : Int32) : Prop := (if dn = 0 then k_M_work_43_17 σ dn am lim r10 else k_M_work_27_54 σ dn am lim r10)
def f_M_work_17_12 (σ : g_S) (dn : Int32) (am : Int32) (lim : Int32) (r10 : Int32) : Int32 × g_S := (if r10 = 0 then f_M_work_56_14 σ dn am lim r10 else f_M_work_23_15 σ dn am lim r10)
def k_M_work_17_12 (σ : g_S) (dn : Int32) (am : Int32) (lim : Int32) (r10 : Int32) : Prop := (if r10 = 0 then k_M_work_56_14 σ dn am lim r10 else k_M_work_23_15 σ dn am lim r10)
def f_M_work_16_9 (σ : g_S) (dn : Int32) (am : Int32) (lim : Int32) : Int32 × g_S := (f_M_work_17_12 σ dn am lim (f_M_isStep lim))
def k_M_work_16_9 (σ : g_S) (dn : Int32) (am : Int32) (lim : Int32) : Prop := (k_M_work_17_12 σ dn am lim (f_M_isStep lim))
def f_M_work_10_6 (σ : g_S) (dn : Int32) (am : Int32) (lim : Int32) : Int32 × g_S := (if (1000000 : Int32) < am then f_M_work_56_8 σ dn am lim else f_M_work_16_9 σ dn am lim)
def k_M_work_10_6 (σ : g_S) (dn : Int32) (am : Int32) (lim : Int32) : Prop := (if (1000000 : Int32) < am then k_M_work_56_8 σ dn am lim else k_M_work_16_9 σ dn am lim)
def f_M_work_4_3 (σ : g_S) (dn : Int32) (am : Int32) (lim : Int32) : Int32 × g_S := (if am < (-1000000 : Int32) then f_M_work_56_5 σ dn am lim else f_M_work_10_6 σ dn am lim)
def k_M_work_4_3 (σ : g_S) (dn : Int32) (am : Int32) (lim : Int32) : Prop := (if am < (-1000000 : Int32) then k_M_work_56_5 σ dn am lim else k_M_work_10_6 σ dn am lim)
def f_M_work (σ : g_S) (dn : Int32) (am : Int32) (lim : Int32) : Int32 × g_S := (if am = 0 then f_M_work_56_2 σ dn am lim else f_M_work_4_3 σ dn am lim)
def k_M_work (σ : g_S) (dn : Int32) (am : Int32) (lim : Int32) : Prop := (if am = 0 then k_M_work_56_2 σ dn am lim else k_M_work_4_3 σ dn am lim)
set_option maxHeartbeats 4000000 in
set_option maxRecDepth 100000 in
theorem c_M_work (l : Launch) (dC : Nat → ClassId) (dI : Nat → Nat → Nat) (dA : Nat → ClassId) (ad : Nat → Nat) (sz : Nat) (σ : g_S) (dn : Int32) (am : Int32) (lim : Int32) (hQ : k_M_work σ dn am lim) : Met l y_M_work w_M_work ({ frames := 4, cells := 0, slots := 0, locals := 119 }) (va_Pc [.ref (ad 0), .int dn, .int am, .int lim] (g_W (dC, dI) cls (r_tys dA) (g_w r_sh dA ad σ) sz r_Z)) (va_Qi (fun r τ => (r, τ) = f_M_work σ dn am lim) (fun τ t => va_P (dC, dI) cls (g_w r_sh dA ad τ) t.heap) (va_A (g_w r_sh dA ad σ) sz)) 0 0 (va_A (g_w r_sh dA ad σ) sz) := by
  refine Met.ofW (cc := b_M_work) (maxL := 5) (ret := (some .boolean)) (by decide) rfl ?_
  intro p e s m args below meth c s₁ B hml hv
  obtain ⟨rfl, hsz, hP, hK, hD0, hz⟩ := hv
  have hx := B.exec
  have hb := B.bytes
  have hr := B.returns
  have hts := atoms_spec (ws := w_M_work) B.pre
  have ht := fun (w : Cond) (h : w ∈ gA) => hts w (List.mem_cons_of_mem _ h)
  have hown : s.vm.findClass "RangedPoolModel" = some m.cls := findClass_of_methodNamed B.named
  have hlocks := B.notSynchronized
  subst hsz
  have hD := hD0.self (sz := s.heap.size)
  have hA : ∀ q : Nat, s.heap.size ≤ q → va_A (g_w r_sh dA ad σ) s.heap.size q := fun q h => Or.inr h
  generalize hAe : va_A (g_w r_sh dA ad σ) s.heap.size = A at hD hA hz ⊢
  have hS : va_S A s.heap s.heap [] := va_S.rf
  have hl := lv_entry ([.ref (ad 0), .int dn, .int am, .int lim]) (n := 5) (Nat.le_of_ble_eq_true rfl)
  rw [lg_entry_eq]
  generalize (lg_sl ([.ref (ad 0), .int dn, .int am, .int lim]) ++ List.replicate (5 - (lg_sl ([.ref (ad 0), .int dn, .int am, .int lim])).length) Slot.unset).toArray = ls at hl ⊢
  have hl : lv_has ls 5 [(0, .ref (ad 0)), (1, .int dn), (2, .int am), (3, .int lim)] := hl
  have hF : f_M_work σ dn am lim = f_M_work σ dn am lim := rfl
  refine lv_iload_n hx hb d_M_work_0 rfl (lv_at hl 2 rfl) ?_
  refine lv_if_eq (tgt := 56) hx hb d_M_work_1 (by decide) (fun c1 => ?_) (fun c1 => ?_)
  ·
    have c1 : am = 0 := c1
    have hF : f_M_work σ dn am lim = f_M_work_56_2 σ dn am lim := hF.trans (if_pos c1)
    have hQ : k_M_work_56_2 σ dn am lim := Eq.mp (if_pos c1) hQ
    refine lv_iconst (v := (0 : Int32)) hx hb d_M_work_56 (by decide) ?_
    exact W.zret (ty := .boolean) (v := (0 : Int32)) hx hb hr (g_zr (by decide)) (fun t hh hW => ⟨⟨(0 : Int32), σ, rfl, hF.symm, by show va_P (dC, dI) cls (g_w r_sh dA ad σ) t.heap; rw [hh]; exact hP⟩, hS.F hh⟩) hS.2.2 d_M_work_57
  ·
    have c1 : ¬ (am = 0) := c1
    have hF : f_M_work σ dn am lim = f_M_work_4_3 σ dn am lim := hF.trans (if_neg c1)
    have hQ : k_M_work_4_3 σ dn am lim := Eq.mp (if_neg c1) hQ
    refine lv_iload_n hx hb d_M_work_4 rfl (lv_at hl 2 rfl) ?_
    refine lv_ldc (v := (-1000000 : Int32)) hx hb hown (ht _ kw629) d_M_work_5 ?_
    refine lv_icmp_lt (tgt := 56) hx hb d_M_work_7 (by decide) (fun c4 => ?_) (fun c4 => ?_)
    ·
      have c4 : am < (-1000000 : Int32) := c4
      have hF : f_M_work σ dn am lim = f_M_work_56_5 σ dn am lim := hF.trans (if_pos c4)
      have hQ : k_M_work_56_5 σ dn am lim := Eq.mp (if_pos c4) hQ
      refine lv_iconst (v := (0 : Int32)) hx hb d_M_work_56 (by decide) ?_
      exact W.zret (ty := .boolean) (v := (0 : Int32)) hx hb hr (g_zr (by decide)) (fun t hh hW => ⟨⟨(0 : Int32), σ, rfl, hF.symm, by show va_P (dC, dI) cls (g_w r_sh dA ad σ) t.heap; rw [hh]; exact hP⟩, hS.F hh⟩) hS.2.2 d_M_work_57
    ·
      have c4 : ¬ (am < (-1000000 : Int32)) := c4
      have hF : f_M_work σ dn am lim = f_M_work_10_6 σ dn am lim := hF.trans (if_neg c4)
      have hQ : k_M_work_10_6 σ dn am lim := Eq.mp (if_neg c4) hQ
      refine lv_iload_n hx hb d_M_work_10 rfl (lv_at hl 2 rfl) ?_
      refine lv_ldc (v := (1000000 : Int32)) hx hb hown (ht _ kw573) d_M_work_11 ?_
      refine lv_icmp_gt (tgt := 56) hx hb d_M_work_13 (by decide) (fun c7 => ?_) (fun c7 => ?_)
      ·
        have c7 : (1000000 : Int32) < am := c7
        have hF : f_M_work σ dn am lim = f_M_work_56_8 σ dn am lim := hF.trans (if_pos c7)
        have hQ : k_M_work_56_8 σ dn am lim := Eq.mp (if_pos c7) hQ
        refine lv_iconst (v := (0 : Int32)) hx hb d_M_work_56 (by decide) ?_
        exact W.zret (ty := .boolean) (v := (0 : Int32)) hx hb hr (g_zr (by decide)) (fun t hh hW => ⟨⟨(0 : Int32), σ, rfl, hF.symm, by show va_P (dC, dI) cls (g_w r_sh dA ad σ) t.heap; rw [hh]; exact hP⟩, hS.F hh⟩) hS.2.2 d_M_work_57
      ·
        have c7 : ¬ ((1000000 : Int32) < am) := c7
        have hF : f_M_work σ dn am lim = f_M_work_16_9 σ dn am lim := hF.trans (if_neg c7)
        have hQ : k_M_work_16_9 σ dn am lim := Eq.mp (if_neg c7) hQ
        refine lv_iload_n hx hb d_M_work_16 rfl (lv_at hl 3 rfl) ?_
        refine g_cSi (va_runS (As := [.int lim]) (rest := []) ⟨hx, hb, hml, hown, ht⟩ (c_M_isStep l lim) (va_cwS 1 ht gc_M_82 rfl rfl rfl (by decide +kernel) ⟨Nat.le_of_ble_eq_true rfl, Nat.le_of_ble_eq_true rfl⟩) (g_pr0 _) rfl rfl hl.1 rfl (lv_room (Nat.le_of_ble_eq_true rfl)) d_M_work_17 ⟨Nat.le_of_ble_eq_true rfl, Nat.le_of_ble_eq_true rfl⟩) (fun r10 e11 => ?_)
        have hF : f_M_work σ dn am lim = f_M_work_17_12 σ dn am lim r10 := hF.trans (by rw [e11]; try rfl)
        have hQ : k_M_work_17_12 σ dn am lim r10 := by rw [e11]; exact hQ
        refine lv_if_eq (tgt := 56) hx hb d_M_work_20 (by decide) (fun c13 => ?_) (fun c13 => ?_)
        ·
          have c13 : r10 = 0 := c13
          have hF : f_M_work σ dn am lim = f_M_work_56_14 σ dn am lim r10 := hF.trans (if_pos c13)
          have hQ : k_M_work_56_14 σ dn am lim r10 := Eq.mp (if_pos c13) hQ
          refine lv_iconst (v := (0 : Int32)) hx hb d_M_work_56 (by decide) ?_
          exact W.zret (ty := .boolean) (v := (0 : Int32)) hx hb hr (g_zr (by decide)) (fun t hh hW => ⟨⟨(0 : Int32), σ, rfl, hF.symm, by show va_P (dC, dI) cls (g_w r_sh dA ad σ) t.heap; rw [hh]; exact hP⟩, hS.F hh⟩) hS.2.2 d_M_work_57
        ·
          have c13 : ¬ (r10 = 0) := c13
          have hF : f_M_work σ dn am lim = f_M_work_23_15 σ dn am lim r10 := hF.trans (if_neg c13)
          have hQ : k_M_work_23_15 σ dn am lim r10 := Eq.mp (if_neg c13) hQ
          refine lv_iload_n hx hb d_M_work_23 rfl (lv_at hl 1 rfl) ?_
          refine lv_if_eq (tgt := 43) hx hb d_M_work_24 (by decide) (fun c16 => ?_) (fun c16 => ?_)
          ·
            have c16 : dn = 0 := c16
            have hF : f_M_work σ dn am lim = f_M_work_43_17 σ dn am lim r10 := hF.trans (if_pos c16)
            have hQ : k_M_work_43_17 σ dn am lim r10 := Eq.mp (if_pos c16) hQ
            refine lv_aload_n hx hb d_M_work_43 rfl (lv_at hl 0 rfl) ?_
            refine lv_iload_n hx hb d_M_work_44 rfl (lv_at hl 3 rfl) ?_
            obtain ⟨hs18, hQ⟩ := hQ
            refine g_cSl (va_runV (As := [.int lim]) (rest := []) ⟨hx, hb, hml, hown, ht⟩ (c_M_price l dC dI dA ad σ lim hs18) (cwV 1 ht gc_M_89 rfl rfl rfl (by decide +kernel) ⟨Nat.le_of_ble_eq_true rfl, Nat.le_of_ble_eq_true rfl⟩) (g_pV (g_prR r_Zok hK hP hS hz _) (g_rc hK hP (0) r_at0 rfl)) rfl rfl hl.1 rfl (lv_room (Nat.le_of_ble_eq_true rfl)) d_M_work_45 ⟨Nat.le_of_ble_eq_true rfl, Nat.le_of_ble_eq_true rfl⟩) (fun r19 e20 => ?_)
            have hF : f_M_work σ dn am lim = f_M_work_45_21 σ dn am lim r10 r19 := hF.trans (by rw [e20]; try rfl)
            have hQ : k_M_work_45_21 σ dn am lim r10 r19 := by rw [e20]; exact hQ
            refine lv_aload_n hx hb d_M_work_48 rfl (lv_at hl 0 rfl) ?_
            refine g_get hx hb ht in_M hown hK hP (0) r_at0 rfl 4 (by decide) rfl (ht _ kw465) (fun _ h9 => h9) (v := .long (σ.2 0 4)) rfl d_M_work_49 ?_
            refine W.lcmp hx hb d_M_work_52 ?_
            refine lv_if_gt (tgt := 58) hx hb d_M_work_53 (by decide) (fun c22 => ?_) (fun c22 => ?_)
            ·
              have c22 : (σ.2 0 4) < r19 := (lg_cmp_gt _ _).mp c22
              have hF : f_M_work σ dn am lim = f_M_work_58_23 σ dn am lim r10 r19 := hF.trans (if_pos c22)
              have hQ : k_M_work_58_23 σ dn am lim r10 r19 := Eq.mp (if_pos c22) hQ
              refine lv_aload_n hx hb d_M_work_58 rfl (lv_at hl 0 rfl) ?_
              refine lv_aload_n hx hb d_M_work_59 rfl (lv_at hl 0 rfl) ?_
              refine g_get hx hb ht in_M hown hK hP (0) r_at0 rfl 4 (by decide) rfl (ht _ kw465) (fun _ h9 => h9) (v := .long (σ.2 0 4)) rfl d_M_work_60 ?_
              refine g_putL (v := σ.2 0 4) (ty := .long) hx hb ht in_M yt_M yt_M_ok n_M hown hK hP hD hS (0) r_at0 rfl 20 (by decide) rfl (ht _ kw481) (fun _ h9 => h9) rfl (by decide +kernel) (rfl) (rfl) d_M_work_63 (fun H locs hP hD hS => ?_)
              refine lv_aload_n hx hb d_M_work_66 rfl (lv_at hl 0 rfl) ?_
              refine lv_aload_n hx hb d_M_work_67 rfl (lv_at hl 0 rfl) ?_
              refine g_get hx hb ht in_M hown hK hP (0) r_at0 rfl 5 (by decide) rfl (ht _ kw466) (fun _ h9 => h9) (v := .int (σ.1 0 5)) rfl d_M_work_68 ?_
              refine g_putI (v := σ.1 0 5) (ty := .int) hx hb ht in_M yt_M yt_M_ok n_M hown hK hP hD hS (0) r_at0 rfl 21 (by decide) rfl (ht _ kw482) (fun _ h9 => h9) rfl (by decide +kernel) (rfl) (rfl) d_M_work_71 (fun H locs hP hD hS => ?_)
              refine lv_aload_n hx hb d_M_work_74 rfl (lv_at hl 0 rfl) ?_
              refine lv_iload_n hx hb d_M_work_75 rfl (lv_at hl 2 rfl) ?_
              refine lv_i2l (v := am.toInt64) hx hb d_M_work_76 rfl ?_
              refine g_putL (v := am.toInt64) (ty := .long) hx hb ht in_M yt_M yt_M_ok n_M hown hK hP hD hS (0) r_at0 rfl 22 (by decide) rfl (ht _ kw483) (fun _ h9 => h9) rfl (by decide +kernel) (rfl) (rfl) d_M_work_77 (fun H locs hP hD hS => ?_)
              refine lv_aload_n hx hb d_M_work_80 rfl (lv_at hl 0 rfl) ?_
              refine lv_lconst (v := (0 : Int64)) hx hb d_M_work_81 (by decide) ?_
              refine g_putL (v := (0 : Int64)) (ty := .long) hx hb ht in_M yt_M yt_M_ok n_M hown hK hP hD hS (0) r_at0 rfl 23 (by decide) rfl (ht _ kw484) (fun _ h9 => h9) rfl (by decide +kernel) (rfl) (rfl) d_M_work_82 (fun H locs hP hD hS => ?_)
              refine lv_aload_n hx hb d_M_work_85 rfl (lv_at hl 0 rfl) ?_
              refine lv_lconst (v := (0 : Int64)) hx hb d_M_work_86 (by decide) ?_
              refine g_putL (v := (0 : Int64)) (ty := .long) hx hb ht in_M yt_M yt_M_ok n_M hown hK hP hD hS (0) r_at0 rfl 24 (by decide) rfl (ht _ kw485) (fun _ h9 => h9) rfl (by decide +kernel) (rfl) (rfl) d_M_work_87 (fun H locs hP hD hS => ?_)
              refine lv_iconst (v := (0 : Int32)) hx hb d_M_work_90 (by decide) ?_
              refine lv_istore (lv' := [(4, .int (0 : Int32)), (0, .ref (ad 0)), (1, .int dn), (2, .int am), (3, .int lim)]) hx hb d_M_work_91 hl (by decide) rfl (fun ls hl => ?_)
              have J114_26 : ∀ (τ25 : g_S) (ls : Array Slot) (H : Heap) (locs : List Loc), τ25 = (f_M_work_L93 σ dn am lim r10 r19 10 0 (g_L (g_L (g_L (g_I (g_L σ 0 20 (σ.2 0 4)) 0 21 (σ.1 0 5)) 0 22 am.toInt64) 0 23 (0 : Int64)) 0 24 (0 : Int64))) → lv_has ls 5 [(0, .ref (ad 0)), (1, .int dn), (3, .int lim)] → va_P (dC, dI) cls (g_w r_sh dA ad τ25) H → va_D A (g_w r_sh dA ad τ25) → va_S A s.heap H locs → W p l e (headSpec w_M_work ({ frames := 4, cells := 0, slots := 0, locals := 119 })).room s m ([.ref (ad 0), .int dn, .int am, .int lim] : List Value).toArray below meth c H locs 0 0 (MQ below (va_Qi (fun r τ => (r, τ) = f_M_work σ dn am lim) (fun τ t => va_P (dC, dI) cls (g_w r_sh dA ad τ) t.heap) A) ([.ref (ad 0), .int dn, .int am, .int lim] : List Value).toArray s 0 0 A) (F0 m 114 ls []) := by
                intro τ25 ls H locs e27 hl hP hD hS
                have hF : f_M_work σ dn am lim = f_M_work_114_28 σ dn am lim r10 r19 τ25 := hF.trans (by rw [e27]; try rfl)
                have hQ : k_M_work_114_28 σ dn am lim r10 r19 τ25 := by rw [e27]; exact hQ
                refine lv_iconst (v := (0 : Int32)) hx hb d_M_work_114 (by decide) ?_
                refine lv_istore (lv' := [(4, .int (0 : Int32)), (0, .ref (ad 0)), (1, .int dn), (3, .int lim)]) hx hb d_M_work_115 hl (by decide) rfl (fun ls hl => ?_)
                obtain ⟨hT31, hQ⟩ := hQ
                have J163_32 : ∀ (τ30 : g_S) (ls : Array Slot) (H : Heap) (locs : List Loc), τ30 = (f_M_work_L117 σ dn am lim r10 r19 τ25 1000 0 τ25) → lv_has ls 5 [] → va_P (dC, dI) cls (g_w r_sh dA ad τ30) H → va_D A (g_w r_sh dA ad τ30) → va_S A s.heap H locs → W p l e (headSpec w_M_work ({ frames := 4, cells := 0, slots := 0, locals := 119 })).room s m ([.ref (ad 0), .int dn, .int am, .int lim] : List Value).toArray below meth c H locs 0 0 (MQ below (va_Qi (fun r τ => (r, τ) = f_M_work σ dn am lim) (fun τ t => va_P (dC, dI) cls (g_w r_sh dA ad τ) t.heap) A) ([.ref (ad 0), .int dn, .int am, .int lim] : List Value).toArray s 0 0 A) (F0 m 163 ls []) := by
                  intro τ30 ls H locs e33 hl hP hD hS
                  have hF : f_M_work σ dn am lim = f_M_work_163_34 σ dn am lim r10 r19 τ25 τ30 := hF.trans (by rw [e33]; try rfl)
                  have hQ : k_M_work_163_34 σ dn am lim r10 r19 τ25 τ30 := by rw [e33]; exact hQ
                  refine lv_iconst (v := (1 : Int32)) hx hb d_M_work_163 (by decide) ?_
                  exact W.zret (ty := .boolean) (v := (1 : Int32)) hx hb hr (g_zr (by decide)) (fun t hh hW => ⟨⟨(1 : Int32), τ30, rfl, hF.symm, by show va_P (dC, dI) cls (g_w r_sh dA ad τ30) t.heap; rw [hh]; exact hP⟩, hS.F hh⟩) hS.2.2 d_M_work_164
                have LL117_35 : ∀ (jn : Nat) (jk : Nat) (τ29 : g_S) (ls : Array Slot) (H : Heap) (locs : List Loc), jk + jn = 1000 → f_M_work_L117 σ dn am lim r10 r19 τ25 1000 0 τ25 = f_M_work_L117 σ dn am lim r10 r19 τ25 jn jk τ29 → k_M_work_L117 σ dn am lim r10 r19 τ25 jn jk τ29 → lv_has ls 5 [(4, .int (Int32.ofNat jk)), (0, .ref (ad 0)), (1, .int dn), (3, .int lim)] → va_P (dC, dI) cls (g_w r_sh dA ad τ29) H → va_D A (g_w r_sh dA ad τ29) → va_S A s.heap H locs → W p l e (headSpec w_M_work ({ frames := 4, cells := 0, slots := 0, locals := 119 })).room s m ([.ref (ad 0), .int dn, .int am, .int lim] : List Value).toArray below meth c H locs 0 0 (MQ below (va_Qi (fun r τ => (r, τ) = f_M_work σ dn am lim) (fun τ t => va_P (dC, dI) cls (g_w r_sh dA ad τ) t.heap) A) ([.ref (ad 0), .int dn, .int am, .int lim] : List Value).toArray s 0 0 A) (F0 m 117 ls []) := by
                  intro jn
                  induction jn with
                  | zero =>
                    intro jk τ29 ls H locs hkn hF hQ hl hP hD hS
                    have hF : f_M_work_L117 σ dn am lim r10 r19 τ25 1000 0 τ25 = (τ29) := hF
                    have hQ : True := hQ
                    refine lv_iload hx hb d_M_work_117 (lv_at hl 0 rfl) ?_
                    refine lv_sipush (v := (1000 : Int32)) hx hb d_M_work_119 (by decide) ?_
                    refine lv_icmp_ge (tgt := 163) hx hb d_M_work_122 (by decide) (fun _ => ?_) (fun c36 => absurd (g_geN (N := 1000) (by omega)) c36)
                    exact J163_32 τ29 ls H locs hF.symm (lv_sub hl [] rfl) hP hD hS
                  | succ jn ih =>
                    intro jk τ29 ls H locs hkn hF hQ hl hP hD hS
                    have hF : f_M_work_L117 σ dn am lim r10 r19 τ25 1000 0 τ25 = (if (τ29.2 0 22) = (0 : Int64) then (τ29) else (if (τ29.2 0 20) = (f_M_price τ29 lim) then (τ29) else f_M_work_L117 σ dn am lim r10 r19 τ25 jn (jk + 1) (f_M_leg τ29 dn (f_M_price τ29 lim)))) := hF
                    have hQ : (if (τ29.2 0 22) = (0 : Int64) then True else (k_M_price τ29 lim) ∧ (if (τ29.2 0 20) = (f_M_price τ29 lim) then True else (k_M_price τ29 lim) ∧ (k_M_leg τ29 dn (f_M_price τ29 lim)) ∧ (k_M_work_L117 σ dn am lim r10 r19 τ25 jn (jk + 1) (f_M_leg τ29 dn (f_M_price τ29 lim))))) := hQ
                    refine lv_iload hx hb d_M_work_117 (lv_at hl 0 rfl) ?_
                    refine lv_sipush (v := (1000 : Int32)) hx hb d_M_work_119 (by decide) ?_
                    refine lv_icmp_ge (tgt := 163) hx hb d_M_work_122 (by decide) (fun c37 => absurd c37 (g_lt (N := 1000) (by omega) (by decide))) (fun _ => ?_)
                    refine lv_aload_n hx hb d_M_work_125 rfl (lv_at hl 1 rfl) ?_
                    refine g_get hx hb ht in_M hown hK hP (0) r_at0 rfl 22 (by decide) rfl (ht _ kw483) (fun _ h9 => h9) (v := .long (τ29.2 0 22)) rfl d_M_work_126 ?_
                    refine lv_lconst (v := (0 : Int64)) hx hb d_M_work_129 (by decide) ?_
                    refine W.lcmp hx hb d_M_work_130 ?_
                    refine lv_if_eq (tgt := 163) hx hb d_M_work_131 (by decide) (fun c38 => ?_) (fun c38 => ?_)
                    ·
                      have c38 : (τ29.2 0 22) = (0 : Int64) := (lg_cmp_eq _ _).mp c38
                      have hF := hF.trans (if_pos c38)
                      have hQ := Eq.mp (if_pos c38) hQ
                      exact J163_32 τ29 ls H locs hF.symm (lv_sub hl [] rfl) hP hD hS
                    ·
                      have c38 : ¬ ((τ29.2 0 22) = (0 : Int64)) := mt (lg_cmp_eq _ _).mpr c38
                      have hF := hF.trans (if_neg c38)
                      have hQ := Eq.mp (if_neg c38) hQ
                      refine lv_aload_n hx hb d_M_work_134 rfl (lv_at hl 1 rfl) ?_
                      refine g_get hx hb ht in_M hown hK hP (0) r_at0 rfl 20 (by decide) rfl (ht _ kw481) (fun _ h9 => h9) (v := .long (τ29.2 0 20)) rfl d_M_work_135 ?_
                      refine lv_aload_n hx hb d_M_work_138 rfl (lv_at hl 1 rfl) ?_
                      refine lv_iload_n hx hb d_M_work_139 rfl (lv_at hl 3 rfl) ?_
                      obtain ⟨hs39, hQ⟩ := hQ
                      refine g_cSlE (va_runV (As := [.int lim]) (rest := [.long (τ29.2 0 20)]) ⟨hx, hb, hml, hown, ht⟩ (c_M_price l dC dI dA ad τ29 lim hs39) (cwV 1 ht gc_M_89 rfl rfl rfl (by decide +kernel) ⟨Nat.le_of_ble_eq_true rfl, Nat.le_of_ble_eq_true rfl⟩) (g_pV (g_prR r_Zok hK hP hS hz _) (g_rc hK hP (0) r_at0 rfl)) rfl rfl hl.1 rfl (lv_room (Nat.le_of_ble_eq_true rfl)) d_M_work_140 ⟨Nat.le_of_ble_eq_true rfl, Nat.le_of_ble_eq_true rfl⟩) ?_
                      refine W.lcmp hx hb d_M_work_143 ?_
                      refine lv_if_eq (tgt := 163) hx hb d_M_work_144 (by decide) (fun c42 => ?_) (fun c42 => ?_)
                      ·
                        have c42 : (τ29.2 0 20) = (f_M_price τ29 lim) := (lg_cmp_eq _ _).mp c42
                        have hF := hF.trans (if_pos c42)
                        have hQ := Eq.mp (if_pos c42) hQ
                        exact J163_32 τ29 ls H locs hF.symm (lv_sub hl [] rfl) hP hD hS
                      ·
                        have c42 : ¬ ((τ29.2 0 20) = (f_M_price τ29 lim)) := mt (lg_cmp_eq _ _).mpr c42
                        have hF := hF.trans (if_neg c42)
                        have hQ := Eq.mp (if_neg c42) hQ
                        refine lv_aload_n hx hb d_M_work_147 rfl (lv_at hl 1 rfl) ?_
                        refine lv_iload_n hx hb d_M_work_148 rfl (lv_at hl 2 rfl) ?_
                        refine lv_aload_n hx hb d_M_work_149 rfl (lv_at hl 1 rfl) ?_
                        refine lv_iload_n hx hb d_M_work_150 rfl (lv_at hl 3 rfl) ?_
                        obtain ⟨hs43, hQ⟩ := hQ
                        refine g_cSlE (va_runV (As := [.int lim]) (rest := [.int dn, .ref (ad 0)]) ⟨hx, hb, hml, hown, ht⟩ (c_M_price l dC dI dA ad τ29 lim hs43) (cwV 1 ht gc_M_89 rfl rfl rfl (by decide +kernel) ⟨Nat.le_of_ble_eq_true rfl, Nat.le_of_ble_eq_true rfl⟩) (g_pV (g_prR r_Zok hK hP hS hz _) (g_rc hK hP (0) r_at0 rfl)) rfl rfl hl.1 rfl (lv_room (Nat.le_of_ble_eq_true rfl)) d_M_work_151 ⟨Nat.le_of_ble_eq_true rfl, Nat.le_of_ble_eq_true rfl⟩) ?_
                        obtain ⟨hs46, hQ⟩ := hQ
                        refine g_cWvE (va_runV (As := [.int dn, .long (f_M_price τ29 lim)]) (rest := []) ⟨hx, hb, hml, hown, ht⟩ (c_M_leg l dC dI dA ad H.size τ29 dn (f_M_price τ29 lim) hs46) (cwV 2 ht gc_M_187 rfl rfl rfl (by decide +kernel) ⟨Nat.le_of_ble_eq_true rfl, Nat.le_of_ble_eq_true rfl⟩) (g_pV (g_prW r_Zok hK hP hD hS hA hz _) (g_rc hK hP (0) r_at0 rfl)) rfl rfl hl.1 rfl (lv_room (Nat.le_of_ble_eq_true rfl)) d_M_work_154 ⟨Nat.le_of_ble_eq_true rfl, Nat.le_of_ble_eq_true rfl⟩) hD hS hA (fun H locs hP hD hS => ?_)
                        refine lv_iinc (v := Int32.ofNat (jk + 1)) (lv' := [(4, .int (Int32.ofNat (jk + 1))), (0, .ref (ad 0)), (1, .int dn), (3, .int lim)]) hx hb d_M_work_157 hl (k := 0) rfl (g_inc jk) (by decide) rfl (fun ls hl => ?_)
                        refine lv_goto (tgt := 117) hx hb d_M_work_160 (by decide) ?_
                        exact ih (jk + 1) (f_M_leg τ29 dn (f_M_price τ29 lim)) ls H locs (by omega) hF hQ (lv_sub hl [0, 1, 2, 3] rfl) hP hD hS
                exact LL117_35 1000 0 τ25 ls H locs (by omega) rfl hT31 (lv_sub hl [0, 1, 2, 3] rfl) hP hD hS
              have LL93_50 : ∀ (jn : Nat) (jk : Nat) (τ24 : g_S) (ls : Array Slot) (H : Heap) (locs : List Loc), jk + jn = 10 → f_M_work_L93 σ dn am lim r10 r19 10 0 (g_L (g_L (g_L (g_I (g_L σ 0 20 (σ.2 0 4)) 0 21 (σ.1 0 5)) 0 22 am.toInt64) 0 23 (0 : Int64)) 0 24 (0 : Int64)) = f_M_work_L93 σ dn am lim r10 r19 jn jk τ24 → lv_has ls 5 [(4, .int (Int32.ofNat jk)), (0, .ref (ad 0)), (1, .int dn), (3, .int lim)] → va_P (dC, dI) cls (g_w r_sh dA ad τ24) H → va_D A (g_w r_sh dA ad τ24) → va_S A s.heap H locs → W p l e (headSpec w_M_work ({ frames := 4, cells := 0, slots := 0, locals := 119 })).room s m ([.ref (ad 0), .int dn, .int am, .int lim] : List Value).toArray below meth c H locs 0 0 (MQ below (va_Qi (fun r τ => (r, τ) = f_M_work σ dn am lim) (fun τ t => va_P (dC, dI) cls (g_w r_sh dA ad τ) t.heap) A) ([.ref (ad 0), .int dn, .int am, .int lim] : List Value).toArray s 0 0 A) (F0 m 93 ls []) := by
                intro jn
                induction jn with
                | zero =>
                  intro jk τ24 ls H locs hkn hF hl hP hD hS
                  have hF : f_M_work_L93 σ dn am lim r10 r19 10 0 (g_L (g_L (g_L (g_I (g_L σ 0 20 (σ.2 0 4)) 0 21 (σ.1 0 5)) 0 22 am.toInt64) 0 23 (0 : Int64)) 0 24 (0 : Int64)) = (τ24) := hF
                  skip
                  refine lv_iload hx hb d_M_work_93 (lv_at hl 0 rfl) ?_
                  refine lv_bipush (v := (10 : Int32)) hx hb d_M_work_95 (by decide) ?_
                  refine lv_icmp_ge (tgt := 114) hx hb d_M_work_97 (by decide) (fun _ => ?_) (fun c51 => absurd (g_geN (N := 10) (by omega)) c51)
                  exact J114_26 τ24 ls H locs hF.symm (lv_sub hl [1, 2, 3] rfl) hP hD hS
                | succ jn ih =>
                  intro jk τ24 ls H locs hkn hF hl hP hD hS
                  have hF : f_M_work_L93 σ dn am lim r10 r19 10 0 (g_L (g_L (g_L (g_I (g_L σ 0 20 (σ.2 0 4)) 0 21 (σ.1 0 5)) 0 22 am.toInt64) 0 23 (0 : Int64)) 0 24 (0 : Int64)) = f_M_work_L93 σ dn am lim r10 r19 jn (jk + 1) (g_L τ24 13 jk (0 : Int64)) := hF
                  skip
                  refine lv_iload hx hb d_M_work_93 (lv_at hl 0 rfl) ?_
                  refine lv_bipush (v := (10 : Int32)) hx hb d_M_work_95 (by decide) ?_
                  refine lv_icmp_ge (tgt := 114) hx hb d_M_work_97 (by decide) (fun c52 => absurd c52 (g_lt (N := 10) (by omega) (by decide))) (fun _ => ?_)
                  refine lv_aload_n hx hb d_M_work_100 rfl (lv_at hl 1 rfl) ?_
                  refine g_get hx hb ht in_M hown hK hP (0) r_at0 rfl 25 (by decide) rfl (ht _ kw486) (fun _ h9 => h9) (v := .ref (ad 13)) rfl d_M_work_101 ?_
                  refine lv_iload hx hb d_M_work_104 (lv_at hl 0 rfl) ?_
                  refine lv_lconst (v := (0 : Int64)) hx hb d_M_work_106 (by decide) ?_
                  refine g_last (x := (0 : Int64)) hx hb hK hP hD hS (13) r_at13 rfl (g_eix rfl (by omega) (by omega)) (j := jk) (g_ena rfl (by omega)) d_M_work_107 (fun H locs hP hD hS => ?_)
                  refine lv_iinc (v := Int32.ofNat (jk + 1)) (lv' := [(4, .int (Int32.ofNat (jk + 1))), (0, .ref (ad 0)), (1, .int dn), (3, .int lim)]) hx hb d_M_work_108 hl (k := 0) rfl (g_inc jk) (by decide) rfl (fun ls hl => ?_)
                  refine lv_goto (tgt := 93) hx hb d_M_work_111 (by decide) ?_
                  exact ih (jk + 1) (g_L τ24 13 jk (0 : Int64)) ls H locs (by omega) hF (lv_sub hl [0, 1, 2, 3] rfl) hP hD hS
              exact LL93_50 10 0 (g_L (g_L (g_L (g_I (g_L σ 0 20 (σ.2 0 4)) 0 21 (σ.1 0 5)) 0 22 am.toInt64) 0 23 (0 : Int64)) 0 24 (0 : Int64)) ls H locs (by omega) rfl  (lv_sub hl [0, 1, 2, 4] rfl) hP hD hS
            ·
              have c22 : ¬ ((σ.2 0 4) < r19) := mt (lg_cmp_gt _ _).mpr c22
              have hF : f_M_work σ dn am lim = f_M_work_56_53 σ dn am lim r10 r19 := hF.trans (if_neg c22)
              have hQ : k_M_work_56_53 σ dn am lim r10 r19 := Eq.mp (if_neg c22) hQ
              refine lv_iconst (v := (0 : Int32)) hx hb d_M_work_56 (by decide) ?_
              exact W.zret (ty := .boolean) (v := (0 : Int32)) hx hb hr (g_zr (by decide)) (fun t hh hW => ⟨⟨(0 : Int32), σ, rfl, hF.symm, by show va_P (dC, dI) cls (g_w r_sh dA ad σ) t.heap; rw [hh]; exact hP⟩, hS.F hh⟩) hS.2.2 d_M_work_57
          ·
            have c16 : ¬ (dn = 0) := c16
            have hF : f_M_work σ dn am lim = f_M_work_27_54 σ dn am lim r10 := hF.trans (if_neg c16)
            have hQ : k_M_work_27_54 σ dn am lim r10 := Eq.mp (if_neg c16) hQ
            refine lv_aload_n hx hb d_M_work_27 rfl (lv_at hl 0 rfl) ?_
            refine lv_iload_n hx hb d_M_work_28 rfl (lv_at hl 3 rfl) ?_
            obtain ⟨hs55, hQ⟩ := hQ
            refine g_cSl (va_runV (As := [.int lim]) (rest := []) ⟨hx, hb, hml, hown, ht⟩ (c_M_price l dC dI dA ad σ lim hs55) (cwV 1 ht gc_M_89 rfl rfl rfl (by decide +kernel) ⟨Nat.le_of_ble_eq_true rfl, Nat.le_of_ble_eq_true rfl⟩) (g_pV (g_prR r_Zok hK hP hS hz _) (g_rc hK hP (0) r_at0 rfl)) rfl rfl hl.1 rfl (lv_room (Nat.le_of_ble_eq_true rfl)) d_M_work_29 ⟨Nat.le_of_ble_eq_true rfl, Nat.le_of_ble_eq_true rfl⟩) (fun r56 e57 => ?_)
            have hF : f_M_work σ dn am lim = f_M_work_29_58 σ dn am lim r10 r56 := hF.trans (by rw [e57]; try rfl)
            have hQ : k_M_work_29_58 σ dn am lim r10 r56 := by rw [e57]; exact hQ
            refine lv_aload_n hx hb d_M_work_32 rfl (lv_at hl 0 rfl) ?_
            refine g_get hx hb ht in_M hown hK hP (0) r_at0 rfl 4 (by decide) rfl (ht _ kw465) (fun _ h9 => h9) (v := .long (σ.2 0 4)) rfl d_M_work_33 ?_
            refine W.lcmp hx hb d_M_work_36 ?_
            refine lv_if_lt (tgt := 58) hx hb d_M_work_37 (by decide) (fun c59 => ?_) (fun c59 => ?_)
            ·
              have c59 : r56 < (σ.2 0 4) := (lg_cmp_lt _ _).mp c59
              have hF : f_M_work σ dn am lim = f_M_work_58_60 σ dn am lim r10 r56 := hF.trans (if_pos c59)
              have hQ : k_M_work_58_60 σ dn am lim r10 r56 := Eq.mp (if_pos c59) hQ
              refine lv_aload_n hx hb d_M_work_58 rfl (lv_at hl 0 rfl) ?_
              refine lv_aload_n hx hb d_M_work_59 rfl (lv_at hl 0 rfl) ?_
              refine g_get hx hb ht in_M hown hK hP (0) r_at0 rfl 4 (by decide) rfl (ht _ kw465) (fun _ h9 => h9) (v := .long (σ.2 0 4)) rfl d_M_work_60 ?_
              refine g_putL (v := σ.2 0 4) (ty := .long) hx hb ht in_M yt_M yt_M_ok n_M hown hK hP hD hS (0) r_at0 rfl 20 (by decide) rfl (ht _ kw481) (fun _ h9 => h9) rfl (by decide +kernel) (rfl) (rfl) d_M_work_63 (fun H locs hP hD hS => ?_)
              refine lv_aload_n hx hb d_M_work_66 rfl (lv_at hl 0 rfl) ?_
              refine lv_aload_n hx hb d_M_work_67 rfl (lv_at hl 0 rfl) ?_
              refine g_get hx hb ht in_M hown hK hP (0) r_at0 rfl 5 (by decide) rfl (ht _ kw466) (fun _ h9 => h9) (v := .int (σ.1 0 5)) rfl d_M_work_68 ?_
              refine g_putI (v := σ.1 0 5) (ty := .int) hx hb ht in_M yt_M yt_M_ok n_M hown hK hP hD hS (0) r_at0 rfl 21 (by decide) rfl (ht _ kw482) (fun _ h9 => h9) rfl (by decide +kernel) (rfl) (rfl) d_M_work_71 (fun H locs hP hD hS => ?_)
              refine lv_aload_n hx hb d_M_work_74 rfl (lv_at hl 0 rfl) ?_
              refine lv_iload_n hx hb d_M_work_75 rfl (lv_at hl 2 rfl) ?_
              refine lv_i2l (v := am.toInt64) hx hb d_M_work_76 rfl ?_
              refine g_putL (v := am.toInt64) (ty := .long) hx hb ht in_M yt_M yt_M_ok n_M hown hK hP hD hS (0) r_at0 rfl 22 (by decide) rfl (ht _ kw483) (fun _ h9 => h9) rfl (by decide +kernel) (rfl) (rfl) d_M_work_77 (fun H locs hP hD hS => ?_)
              refine lv_aload_n hx hb d_M_work_80 rfl (lv_at hl 0 rfl) ?_
              refine lv_lconst (v := (0 : Int64)) hx hb d_M_work_81 (by decide) ?_
              refine g_putL (v := (0 : Int64)) (ty := .long) hx hb ht in_M yt_M yt_M_ok n_M hown hK hP hD hS (0) r_at0 rfl 23 (by decide) rfl (ht _ kw484) (fun _ h9 => h9) rfl (by decide +kernel) (rfl) (rfl) d_M_work_82 (fun H locs hP hD hS => ?_)
              refine lv_aload_n hx hb d_M_work_85 rfl (lv_at hl 0 rfl) ?_
              refine lv_lconst (v := (0 : Int64)) hx hb d_M_work_86 (by decide) ?_
              refine g_putL (v := (0 : Int64)) (ty := .long) hx hb ht in_M yt_M yt_M_ok n_M hown hK hP hD hS (0) r_at0 rfl 24 (by decide) rfl (ht _ kw485) (fun _ h9 => h9) rfl (by decide +kernel) (rfl) (rfl) d_M_work_87 (fun H locs hP hD hS => ?_)
              refine lv_iconst (v := (0 : Int32)) hx hb d_M_work_90 (by decide) ?_
              refine lv_istore (lv' := [(4, .int (0 : Int32)), (0, .ref (ad 0)), (1, .int dn), (2, .int am), (3, .int lim)]) hx hb d_M_work_91 hl (by decide) rfl (fun ls hl => ?_)
              have J114_63 : ∀ (τ62 : g_S) (ls : Array Slot) (H : Heap) (locs : List Loc), τ62 = (f_M_work_L93_1 σ dn am lim r10 r56 10 0 (g_L (g_L (g_L (g_I (g_L σ 0 20 (σ.2 0 4)) 0 21 (σ.1 0 5)) 0 22 am.toInt64) 0 23 (0 : Int64)) 0 24 (0 : Int64))) → lv_has ls 5 [(0, .ref (ad 0)), (1, .int dn), (3, .int lim)] → va_P (dC, dI) cls (g_w r_sh dA ad τ62) H → va_D A (g_w r_sh dA ad τ62) → va_S A s.heap H locs → W p l e (headSpec w_M_work ({ frames := 4, cells := 0, slots := 0, locals := 119 })).room s m ([.ref (ad 0), .int dn, .int am, .int lim] : List Value).toArray below meth c H locs 0 0 (MQ below (va_Qi (fun r τ => (r, τ) = f_M_work σ dn am lim) (fun τ t => va_P (dC, dI) cls (g_w r_sh dA ad τ) t.heap) A) ([.ref (ad 0), .int dn, .int am, .int lim] : List Value).toArray s 0 0 A) (F0 m 114 ls []) := by
                intro τ62 ls H locs e64 hl hP hD hS
                have hF : f_M_work σ dn am lim = f_M_work_114_65 σ dn am lim r10 r56 τ62 := hF.trans (by rw [e64]; try rfl)
                have hQ : k_M_work_114_65 σ dn am lim r10 r56 τ62 := by rw [e64]; exact hQ
                refine lv_iconst (v := (0 : Int32)) hx hb d_M_work_114 (by decide) ?_
                refine lv_istore (lv' := [(4, .int (0 : Int32)), (0, .ref (ad 0)), (1, .int dn), (3, .int lim)]) hx hb d_M_work_115 hl (by decide) rfl (fun ls hl => ?_)
                obtain ⟨hT68, hQ⟩ := hQ
                have J163_69 : ∀ (τ67 : g_S) (ls : Array Slot) (H : Heap) (locs : List Loc), τ67 = (f_M_work_L117_1 σ dn am lim r10 r56 τ62 1000 0 τ62) → lv_has ls 5 [] → va_P (dC, dI) cls (g_w r_sh dA ad τ67) H → va_D A (g_w r_sh dA ad τ67) → va_S A s.heap H locs → W p l e (headSpec w_M_work ({ frames := 4, cells := 0, slots := 0, locals := 119 })).room s m ([.ref (ad 0), .int dn, .int am, .int lim] : List Value).toArray below meth c H locs 0 0 (MQ below (va_Qi (fun r τ => (r, τ) = f_M_work σ dn am lim) (fun τ t => va_P (dC, dI) cls (g_w r_sh dA ad τ) t.heap) A) ([.ref (ad 0), .int dn, .int am, .int lim] : List Value).toArray s 0 0 A) (F0 m 163 ls []) := by
                  intro τ67 ls H locs e70 hl hP hD hS
                  have hF : f_M_work σ dn am lim = f_M_work_163_71 σ dn am lim r10 r56 τ62 τ67 := hF.trans (by rw [e70]; try rfl)
                  have hQ : k_M_work_163_71 σ dn am lim r10 r56 τ62 τ67 := by rw [e70]; exact hQ
                  refine lv_iconst (v := (1 : Int32)) hx hb d_M_work_163 (by decide) ?_
                  exact W.zret (ty := .boolean) (v := (1 : Int32)) hx hb hr (g_zr (by decide)) (fun t hh hW => ⟨⟨(1 : Int32), τ67, rfl, hF.symm, by show va_P (dC, dI) cls (g_w r_sh dA ad τ67) t.heap; rw [hh]; exact hP⟩, hS.F hh⟩) hS.2.2 d_M_work_164
                have LL117_72 : ∀ (jn : Nat) (jk : Nat) (τ66 : g_S) (ls : Array Slot) (H : Heap) (locs : List Loc), jk + jn = 1000 → f_M_work_L117_1 σ dn am lim r10 r56 τ62 1000 0 τ62 = f_M_work_L117_1 σ dn am lim r10 r56 τ62 jn jk τ66 → k_M_work_L117_1 σ dn am lim r10 r56 τ62 jn jk τ66 → lv_has ls 5 [(4, .int (Int32.ofNat jk)), (0, .ref (ad 0)), (1, .int dn), (3, .int lim)] → va_P (dC, dI) cls (g_w r_sh dA ad τ66) H → va_D A (g_w r_sh dA ad τ66) → va_S A s.heap H locs → W p l e (headSpec w_M_work ({ frames := 4, cells := 0, slots := 0, locals := 119 })).room s m ([.ref (ad 0), .int dn, .int am, .int lim] : List Value).toArray below meth c H locs 0 0 (MQ below (va_Qi (fun r τ => (r, τ) = f_M_work σ dn am lim) (fun τ t => va_P (dC, dI) cls (g_w r_sh dA ad τ) t.heap) A) ([.ref (ad 0), .int dn, .int am, .int lim] : List Value).toArray s 0 0 A) (F0 m 117 ls []) := by
                  intro jn
                  induction jn with
                  | zero =>
                    intro jk τ66 ls H locs hkn hF hQ hl hP hD hS
                    have hF : f_M_work_L117_1 σ dn am lim r10 r56 τ62 1000 0 τ62 = (τ66) := hF
                    have hQ : True := hQ
                    refine lv_iload hx hb d_M_work_117 (lv_at hl 0 rfl) ?_
                    refine lv_sipush (v := (1000 : Int32)) hx hb d_M_work_119 (by decide) ?_
                    refine lv_icmp_ge (tgt := 163) hx hb d_M_work_122 (by decide) (fun _ => ?_) (fun c73 => absurd (g_geN (N := 1000) (by omega)) c73)
                    exact J163_69 τ66 ls H locs hF.symm (lv_sub hl [] rfl) hP hD hS
                  | succ jn ih =>
                    intro jk τ66 ls H locs hkn hF hQ hl hP hD hS
                    have hF : f_M_work_L117_1 σ dn am lim r10 r56 τ62 1000 0 τ62 = (if (τ66.2 0 22) = (0 : Int64) then (τ66) else (if (τ66.2 0 20) = (f_M_price τ66 lim) then (τ66) else f_M_work_L117_1 σ dn am lim r10 r56 τ62 jn (jk + 1) (f_M_leg τ66 dn (f_M_price τ66 lim)))) := hF
                    have hQ : (if (τ66.2 0 22) = (0 : Int64) then True else (k_M_price τ66 lim) ∧ (if (τ66.2 0 20) = (f_M_price τ66 lim) then True else (k_M_price τ66 lim) ∧ (k_M_leg τ66 dn (f_M_price τ66 lim)) ∧ (k_M_work_L117_1 σ dn am lim r10 r56 τ62 jn (jk + 1) (f_M_leg τ66 dn (f_M_price τ66 lim))))) := hQ
                    refine lv_iload hx hb d_M_work_117 (lv_at hl 0 rfl) ?_
                    refine lv_sipush (v := (1000 : Int32)) hx hb d_M_work_119 (by decide) ?_
                    refine lv_icmp_ge (tgt := 163) hx hb d_M_work_122 (by decide) (fun c74 => absurd c74 (g_lt (N := 1000) (by omega) (by decide))) (fun _ => ?_)
                    refine lv_aload_n hx hb d_M_work_125 rfl (lv_at hl 1 rfl) ?_
                    refine g_get hx hb ht in_M hown hK hP (0) r_at0 rfl 22 (by decide) rfl (ht _ kw483) (fun _ h9 => h9) (v := .long (τ66.2 0 22)) rfl d_M_work_126 ?_
                    refine lv_lconst (v := (0 : Int64)) hx hb d_M_work_129 (by decide) ?_
                    refine W.lcmp hx hb d_M_work_130 ?_
                    refine lv_if_eq (tgt := 163) hx hb d_M_work_131 (by decide) (fun c75 => ?_) (fun c75 => ?_)
                    ·
                      have c75 : (τ66.2 0 22) = (0 : Int64) := (lg_cmp_eq _ _).mp c75
                      have hF := hF.trans (if_pos c75)
                      have hQ := Eq.mp (if_pos c75) hQ
                      exact J163_69 τ66 ls H locs hF.symm (lv_sub hl [] rfl) hP hD hS
                    ·
                      have c75 : ¬ ((τ66.2 0 22) = (0 : Int64)) := mt (lg_cmp_eq _ _).mpr c75
                      have hF := hF.trans (if_neg c75)
                      have hQ := Eq.mp (if_neg c75) hQ
                      refine lv_aload_n hx hb d_M_work_134 rfl (lv_at hl 1 rfl) ?_
                      refine g_get hx hb ht in_M hown hK hP (0) r_at0 rfl 20 (by decide) rfl (ht _ kw481) (fun _ h9 => h9) (v := .long (τ66.2 0 20)) rfl d_M_work_135 ?_
                      refine lv_aload_n hx hb d_M_work_138 rfl (lv_at hl 1 rfl) ?_
                      refine lv_iload_n hx hb d_M_work_139 rfl (lv_at hl 3 rfl) ?_
                      obtain ⟨hs76, hQ⟩ := hQ
                      refine g_cSlE (va_runV (As := [.int lim]) (rest := [.long (τ66.2 0 20)]) ⟨hx, hb, hml, hown, ht⟩ (c_M_price l dC dI dA ad τ66 lim hs76) (cwV 1 ht gc_M_89 rfl rfl rfl (by decide +kernel) ⟨Nat.le_of_ble_eq_true rfl, Nat.le_of_ble_eq_true rfl⟩) (g_pV (g_prR r_Zok hK hP hS hz _) (g_rc hK hP (0) r_at0 rfl)) rfl rfl hl.1 rfl (lv_room (Nat.le_of_ble_eq_true rfl)) d_M_work_140 ⟨Nat.le_of_ble_eq_true rfl, Nat.le_of_ble_eq_true rfl⟩) ?_
                      refine W.lcmp hx hb d_M_work_143 ?_
                      refine lv_if_eq (tgt := 163) hx hb d_M_work_144 (by decide) (fun c79 => ?_) (fun c79 => ?_)
                      ·
                        have c79 : (τ66.2 0 20) = (f_M_price τ66 lim) := (lg_cmp_eq _ _).mp c79
                        have hF := hF.trans (if_pos c79)
                        have hQ := Eq.mp (if_pos c79) hQ
                        exact J163_69 τ66 ls H locs hF.symm (lv_sub hl [] rfl) hP hD hS
                      ·
                        have c79 : ¬ ((τ66.2 0 20) = (f_M_price τ66 lim)) := mt (lg_cmp_eq _ _).mpr c79
                        have hF := hF.trans (if_neg c79)
                        have hQ := Eq.mp (if_neg c79) hQ
                        refine lv_aload_n hx hb d_M_work_147 rfl (lv_at hl 1 rfl) ?_
                        refine lv_iload_n hx hb d_M_work_148 rfl (lv_at hl 2 rfl) ?_
                        refine lv_aload_n hx hb d_M_work_149 rfl (lv_at hl 1 rfl) ?_
                        refine lv_iload_n hx hb d_M_work_150 rfl (lv_at hl 3 rfl) ?_
                        obtain ⟨hs80, hQ⟩ := hQ
                        refine g_cSlE (va_runV (As := [.int lim]) (rest := [.int dn, .ref (ad 0)]) ⟨hx, hb, hml, hown, ht⟩ (c_M_price l dC dI dA ad τ66 lim hs80) (cwV 1 ht gc_M_89 rfl rfl rfl (by decide +kernel) ⟨Nat.le_of_ble_eq_true rfl, Nat.le_of_ble_eq_true rfl⟩) (g_pV (g_prR r_Zok hK hP hS hz _) (g_rc hK hP (0) r_at0 rfl)) rfl rfl hl.1 rfl (lv_room (Nat.le_of_ble_eq_true rfl)) d_M_work_151 ⟨Nat.le_of_ble_eq_true rfl, Nat.le_of_ble_eq_true rfl⟩) ?_
                        obtain ⟨hs83, hQ⟩ := hQ
                        refine g_cWvE (va_runV (As := [.int dn, .long (f_M_price τ66 lim)]) (rest := []) ⟨hx, hb, hml, hown, ht⟩ (c_M_leg l dC dI dA ad H.size τ66 dn (f_M_price τ66 lim) hs83) (cwV 2 ht gc_M_187 rfl rfl rfl (by decide +kernel) ⟨Nat.le_of_ble_eq_true rfl, Nat.le_of_ble_eq_true rfl⟩) (g_pV (g_prW r_Zok hK hP hD hS hA hz _) (g_rc hK hP (0) r_at0 rfl)) rfl rfl hl.1 rfl (lv_room (Nat.le_of_ble_eq_true rfl)) d_M_work_154 ⟨Nat.le_of_ble_eq_true rfl, Nat.le_of_ble_eq_true rfl⟩) hD hS hA (fun H locs hP hD hS => ?_)
                        refine lv_iinc (v := Int32.ofNat (jk + 1)) (lv' := [(4, .int (Int32.ofNat (jk + 1))), (0, .ref (ad 0)), (1, .int dn), (3, .int lim)]) hx hb d_M_work_157 hl (k := 0) rfl (g_inc jk) (by decide) rfl (fun ls hl => ?_)
                        refine lv_goto (tgt := 117) hx hb d_M_work_160 (by decide) ?_
                        exact ih (jk + 1) (f_M_leg τ66 dn (f_M_price τ66 lim)) ls H locs (by omega) hF hQ (lv_sub hl [0, 1, 2, 3] rfl) hP hD hS
                exact LL117_72 1000 0 τ62 ls H locs (by omega) rfl hT68 (lv_sub hl [0, 1, 2, 3] rfl) hP hD hS
              have LL93_87 : ∀ (jn : Nat) (jk : Nat) (τ61 : g_S) (ls : Array Slot) (H : Heap) (locs : List Loc), jk + jn = 10 → f_M_work_L93_1 σ dn am lim r10 r56 10 0 (g_L (g_L (g_L (g_I (g_L σ 0 20 (σ.2 0 4)) 0 21 (σ.1 0 5)) 0 22 am.toInt64) 0 23 (0 : Int64)) 0 24 (0 : Int64)) = f_M_work_L93_1 σ dn am lim r10 r56 jn jk τ61 → lv_has ls 5 [(4, .int (Int32.ofNat jk)), (0, .ref (ad 0)), (1, .int dn), (3, .int lim)] → va_P (dC, dI) cls (g_w r_sh dA ad τ61) H → va_D A (g_w r_sh dA ad τ61) → va_S A s.heap H locs → W p l e (headSpec w_M_work ({ frames := 4, cells := 0, slots := 0, locals := 119 })).room s m ([.ref (ad 0), .int dn, .int am, .int lim] : List Value).toArray below meth c H locs 0 0 (MQ below (va_Qi (fun r τ => (r, τ) = f_M_work σ dn am lim) (fun τ t => va_P (dC, dI) cls (g_w r_sh dA ad τ) t.heap) A) ([.ref (ad 0), .int dn, .int am, .int lim] : List Value).toArray s 0 0 A) (F0 m 93 ls []) := by
                intro jn
                induction jn with
                | zero =>
                  intro jk τ61 ls H locs hkn hF hl hP hD hS
                  have hF : f_M_work_L93_1 σ dn am lim r10 r56 10 0 (g_L (g_L (g_L (g_I (g_L σ 0 20 (σ.2 0 4)) 0 21 (σ.1 0 5)) 0 22 am.toInt64) 0 23 (0 : Int64)) 0 24 (0 : Int64)) = (τ61) := hF
                  skip
                  refine lv_iload hx hb d_M_work_93 (lv_at hl 0 rfl) ?_
                  refine lv_bipush (v := (10 : Int32)) hx hb d_M_work_95 (by decide) ?_
                  refine lv_icmp_ge (tgt := 114) hx hb d_M_work_97 (by decide) (fun _ => ?_) (fun c88 => absurd (g_geN (N := 10) (by omega)) c88)
                  exact J114_63 τ61 ls H locs hF.symm (lv_sub hl [1, 2, 3] rfl) hP hD hS
                | succ jn ih =>
                  intro jk τ61 ls H locs hkn hF hl hP hD hS
                  have hF : f_M_work_L93_1 σ dn am lim r10 r56 10 0 (g_L (g_L (g_L (g_I (g_L σ 0 20 (σ.2 0 4)) 0 21 (σ.1 0 5)) 0 22 am.toInt64) 0 23 (0 : Int64)) 0 24 (0 : Int64)) = f_M_work_L93_1 σ dn am lim r10 r56 jn (jk + 1) (g_L τ61 13 jk (0 : Int64)) := hF
                  skip
                  refine lv_iload hx hb d_M_work_93 (lv_at hl 0 rfl) ?_
                  refine lv_bipush (v := (10 : Int32)) hx hb d_M_work_95 (by decide) ?_
                  refine lv_icmp_ge (tgt := 114) hx hb d_M_work_97 (by decide) (fun c89 => absurd c89 (g_lt (N := 10) (by omega) (by decide))) (fun _ => ?_)
                  refine lv_aload_n hx hb d_M_work_100 rfl (lv_at hl 1 rfl) ?_
                  refine g_get hx hb ht in_M hown hK hP (0) r_at0 rfl 25 (by decide) rfl (ht _ kw486) (fun _ h9 => h9) (v := .ref (ad 13)) rfl d_M_work_101 ?_
                  refine lv_iload hx hb d_M_work_104 (lv_at hl 0 rfl) ?_
                  refine lv_lconst (v := (0 : Int64)) hx hb d_M_work_106 (by decide) ?_
                  refine g_last (x := (0 : Int64)) hx hb hK hP hD hS (13) r_at13 rfl (g_eix rfl (by omega) (by omega)) (j := jk) (g_ena rfl (by omega)) d_M_work_107 (fun H locs hP hD hS => ?_)
                  refine lv_iinc (v := Int32.ofNat (jk + 1)) (lv' := [(4, .int (Int32.ofNat (jk + 1))), (0, .ref (ad 0)), (1, .int dn), (3, .int lim)]) hx hb d_M_work_108 hl (k := 0) rfl (g_inc jk) (by decide) rfl (fun ls hl => ?_)
                  refine lv_goto (tgt := 93) hx hb d_M_work_111 (by decide) ?_
                  exact ih (jk + 1) (g_L τ61 13 jk (0 : Int64)) ls H locs (by omega) hF (lv_sub hl [0, 1, 2, 3] rfl) hP hD hS
              exact LL93_87 10 0 (g_L (g_L (g_L (g_I (g_L σ 0 20 (σ.2 0 4)) 0 21 (σ.1 0 5)) 0 22 am.toInt64) 0 23 (0 : Int64)) 0 24 (0 : Int64)) ls H locs (by omega) rfl  (lv_sub hl [0, 1, 2, 4] rfl) hP hD hS
            ·
              have c59 : ¬ (r56 < (σ.2 0 4)) := mt (lg_cmp_lt _ _).mpr c59
              have hF : f_M_work σ dn am lim = f_M_work_40_90 σ dn am lim r10 r56 := hF.trans (if_neg c59)
              have hQ : k_M_work_40_90 σ dn am lim r10 r56 := Eq.mp (if_neg c59) hQ
              refine lv_goto (tgt := 56) hx hb d_M_work_40 (by decide) ?_
              refine lv_iconst (v := (0 : Int32)) hx hb d_M_work_56 (by decide) ?_
              exact W.zret (ty := .boolean) (v := (0 : Int32)) hx hb hr (g_zr (by decide)) (fun t hh hW => ⟨⟨(0 : Int32), σ, rfl, hF.symm, by show va_P (dC, dI) cls (g_w r_sh dA ad σ) t.heap; rw [hh]; exact hP⟩, hS.F hh⟩) hS.2.2 d_M_work_57
