def f_M_advance_11_2 (σ : g_S) (n : Int32) : Int32 × g_S := ((0 : Int32), σ)
def f_M_advance_48_9 (σ : g_S) (n : Int32) (x6 : Int64) : Int32 × g_S := ((1 : Int32), g_L (g_L σ 0 15 ((σ.2 0 15) + n.toInt64)) 0 16 ((σ.2 0 16) + x6))
def f_M_advance_13_5 (σ : g_S) (n : Int32) : Int32 × g_S := (f_M_advance_48_9 σ n (if (σ.1 0 3) = 0 then (0 : Int64) else ((σ.1 0 5).toInt64) * n.toInt64))
def f_M_advance_11_11 (σ : g_S) (n : Int32) : Int32 × g_S := ((0 : Int32), σ)
def f_M_advance_4_3 (σ : g_S) (n : Int32) : Int32 × g_S := (if n ≤ (10000 : Int32) then f_M_advance_13_5 σ n else f_M_advance_11_11 σ n)
def f_M_advance (σ : g_S) (n : Int32) : Int32 × g_S := (if n < 0 then f_M_advance_11_2 σ n else f_M_advance_4_3 σ n)
set_option maxHeartbeats 4000000 in
set_option maxRecDepth 100000 in
theorem c_M_advance (l : Launch) (dC : Nat → ClassId) (dI : Nat → Nat → Nat) (dA : Nat → ClassId) (ad : Nat → Nat) (sz : Nat) (σ : g_S) (n : Int32) : Met l y_M_advance w_M_advance ({ frames := 0, cells := 0, slots := 0, locals := 0 }) (va_Pc [.ref (ad 0), .int n] (g_W (dC, dI) cls (r_tys dA) (g_w r_sh dA ad σ) sz r_Z)) (va_Qi (fun r τ => (r, τ) = f_M_advance σ n) (fun τ t => va_P (dC, dI) cls (g_w r_sh dA ad τ) t.heap) (va_A (g_w r_sh dA ad σ) sz)) 0 0 (va_A (g_w r_sh dA ad σ) sz) := by
  refine Met.ofW (cc := b_M_advance) (maxL := 2) (ret := (some .boolean)) (by decide) rfl ?_
  intro p e s m args below meth c s₁ B hml hv
  obtain ⟨rfl, hsz, hP, hK, hD0, hz⟩ := hv
  have hx := B.exec
  have hb := B.bytes
  have hr := B.returns
  have hts := atoms_spec (ws := w_M_advance) B.pre
  have ht := fun (w : Cond) (h : w ∈ gA) => hts w (List.mem_cons_of_mem _ h)
  have hown : s.vm.findClass "RangedPoolModel" = some m.cls := findClass_of_methodNamed B.named
  have hlocks := B.notSynchronized
  subst hsz
  have hD := hD0.self (sz := s.heap.size)
  have hA : ∀ q : Nat, s.heap.size ≤ q → va_A (g_w r_sh dA ad σ) s.heap.size q := fun q h => Or.inr h
  generalize hAe : va_A (g_w r_sh dA ad σ) s.heap.size = A at hD hA hz ⊢
  have hS : va_S A s.heap s.heap [] := va_S.rf
  have hl := lv_entry ([.ref (ad 0), .int n]) (n := 2) (Nat.le_of_ble_eq_true rfl)
  rw [lg_entry_eq]
  generalize (lg_sl ([.ref (ad 0), .int n]) ++ List.replicate (2 - (lg_sl ([.ref (ad 0), .int n])).length) Slot.unset).toArray = ls at hl ⊢
  have hl : lv_has ls 2 [(0, .ref (ad 0)), (1, .int n)] := hl
  have hF : f_M_advance σ n = f_M_advance σ n := rfl
  refine lv_iload_n hx hb d_M_advance_0 rfl (lv_at hl 1 rfl) ?_
  refine lv_if_lt (tgt := 11) hx hb d_M_advance_1 (by decide) (fun c1 => ?_) (fun c1 => ?_)
  ·
    have c1 : n < 0 := c1
    have hF : f_M_advance σ n = f_M_advance_11_2 σ n := hF.trans (if_pos c1)
    refine lv_iconst (v := (0 : Int32)) hx hb d_M_advance_11 (by decide) ?_
    exact W.zret (ty := .boolean) (v := (0 : Int32)) hx hb hr (g_zr (by decide)) (fun t hh hW => ⟨⟨(0 : Int32), σ, rfl, hF.symm, by show va_P (dC, dI) cls (g_w r_sh dA ad σ) t.heap; rw [hh]; exact hP⟩, hS.F hh⟩) hS.2.2 d_M_advance_12
  ·
    have c1 : ¬ (n < 0) := c1
    have hF : f_M_advance σ n = f_M_advance_4_3 σ n := hF.trans (if_neg c1)
    refine lv_iload_n hx hb d_M_advance_4 rfl (lv_at hl 1 rfl) ?_
    refine lv_sipush (v := (10000 : Int32)) hx hb d_M_advance_5 (by decide) ?_
    refine lv_icmp_le (tgt := 13) hx hb d_M_advance_8 (by decide) (fun c4 => ?_) (fun c4 => ?_)
    ·
      have c4 : n ≤ (10000 : Int32) := c4
      have hF : f_M_advance σ n = f_M_advance_13_5 σ n := hF.trans (if_pos c4)
      refine lv_aload_n hx hb d_M_advance_13 rfl (lv_at hl 0 rfl) ?_
      refine lv_dup hx hb d_M_advance_14 rfl ?_
      refine g_get hx hb ht in_M hown hK hP (0) r_at0 rfl 15 (by decide) rfl (ht _ kw476) (fun _ h9 => h9) (v := .long (σ.2 0 15)) rfl d_M_advance_15 ?_
      refine lv_iload_n hx hb d_M_advance_18 rfl (lv_at hl 1 rfl) ?_
      refine lv_i2l (v := n.toInt64) hx hb d_M_advance_19 rfl ?_
      refine lv_ladd hx hb d_M_advance_20 ?_
      refine g_putL (v := (σ.2 0 15) + n.toInt64) (ty := .long) hx hb ht in_M yt_M yt_M_ok n_M hown hK hP hD hS (0) r_at0 rfl 15 (by decide) rfl (ht _ kw476) (fun _ h9 => h9) rfl (by decide +kernel) (rfl) (rfl) d_M_advance_21 (fun H locs hP hD hS => ?_)
      refine lv_aload_n hx hb d_M_advance_24 rfl (lv_at hl 0 rfl) ?_
      refine lv_dup hx hb d_M_advance_25 rfl ?_
      refine g_get hx hb ht in_M hown hK hP (0) r_at0 rfl 16 (by decide) rfl (ht _ kw477) (fun _ h9 => h9) (v := .long (σ.2 0 16)) rfl d_M_advance_26 ?_
      refine lv_aload_n hx hb d_M_advance_29 rfl (lv_at hl 0 rfl) ?_
      refine g_get hx hb ht in_M hown hK hP (0) r_at0 rfl 3 (by decide) rfl (ht _ kw464) (fun _ h9 => h9) (v := .int (σ.1 0 3)) rfl d_M_advance_30 ?_
      have J48_7 : ∀ (x6 : Int64) (ls : Array Slot), x6 = (if (σ.1 0 3) = 0 then (0 : Int64) else ((σ.1 0 5).toInt64) * n.toInt64) → lv_has ls 2 [] → W p l e (headSpec w_M_advance ({ frames := 0, cells := 0, slots := 0, locals := 0 })).room s m ([.ref (ad 0), .int n] : List Value).toArray below meth c H locs 0 0 (MQ below (va_Qi (fun r τ => (r, τ) = f_M_advance σ n) (fun τ t => va_P (dC, dI) cls (g_w r_sh dA ad τ) t.heap) A) ([.ref (ad 0), .int n] : List Value).toArray s 0 0 A) (F0 m 48 ls [.long x6, .long (σ.2 0 16), .ref (ad 0)]) := by
        intro x6 ls e8 hl
        have hF : f_M_advance σ n = f_M_advance_48_9 σ n x6 := hF.trans (by rw [e8]; try rfl)
        refine lv_ladd hx hb d_M_advance_48 ?_
        refine g_putL (v := (σ.2 0 16) + x6) (ty := .long) hx hb ht in_M yt_M yt_M_ok n_M hown hK hP hD hS (0) r_at0 rfl 16 (by decide) rfl (ht _ kw477) (fun _ h9 => h9) rfl (by decide +kernel) (rfl) (rfl) d_M_advance_49 (fun H locs hP hD hS => ?_)
        refine lv_iconst (v := (1 : Int32)) hx hb d_M_advance_52 (by decide) ?_
        exact W.zret (ty := .boolean) (v := (1 : Int32)) hx hb hr (g_zr (by decide)) (fun t hh hW => ⟨⟨(1 : Int32), g_L (g_L σ 0 15 ((σ.2 0 15) + n.toInt64)) 0 16 ((σ.2 0 16) + x6), rfl, hF.symm, by show va_P (dC, dI) cls (g_w r_sh dA ad (g_L (g_L σ 0 15 ((σ.2 0 15) + n.toInt64)) 0 16 ((σ.2 0 16) + x6))) t.heap; rw [hh]; exact hP⟩, hS.F hh⟩) hS.2.2 d_M_advance_53
      refine lv_if_eq (tgt := 47) hx hb d_M_advance_33 (by decide) (fun c10 => ?_) (fun c10 => ?_)
      ·
        have c10 : (σ.1 0 3) = 0 := c10
        refine lv_lconst (v := (0 : Int64)) hx hb d_M_advance_47 (by decide) ?_
        exact J48_7 (0 : Int64) ls (if_pos c10).symm (lv_sub hl [] rfl)
      ·
        have c10 : ¬ ((σ.1 0 3) = 0) := c10
        refine lv_aload_n hx hb d_M_advance_36 rfl (lv_at hl 0 rfl) ?_
        refine g_get hx hb ht in_M hown hK hP (0) r_at0 rfl 5 (by decide) rfl (ht _ kw466) (fun _ h9 => h9) (v := .int (σ.1 0 5)) rfl d_M_advance_37 ?_
        refine lv_i2l (v := (σ.1 0 5).toInt64) hx hb d_M_advance_40 rfl ?_
        refine lv_iload_n hx hb d_M_advance_41 rfl (lv_at hl 1 rfl) ?_
        refine lv_i2l (v := n.toInt64) hx hb d_M_advance_42 rfl ?_
        refine lv_lmul hx hb d_M_advance_43 ?_
        refine lv_goto (tgt := 48) hx hb d_M_advance_44 (by decide) ?_
        exact J48_7 (((σ.1 0 5).toInt64) * n.toInt64) ls (if_neg c10).symm (lv_sub hl [] rfl)
    ·
      have c4 : ¬ (n ≤ (10000 : Int32)) := c4
      have hF : f_M_advance σ n = f_M_advance_11_11 σ n := hF.trans (if_neg c4)
      refine lv_iconst (v := (0 : Int32)) hx hb d_M_advance_11 (by decide) ?_
      exact W.zret (ty := .boolean) (v := (0 : Int32)) hx hb hr (g_zr (by decide)) (fun t hh hW => ⟨⟨(0 : Int32), σ, rfl, hF.symm, by show va_P (dC, dI) cls (g_w r_sh dA ad σ) t.heap; rw [hh]; exact hP⟩, hS.F hh⟩) hS.2.2 d_M_advance_12
