def f_P_isRange_41_5 (σ : g_S) (lo : Int32) (hi : Int32) (r1 : Int32) : Int32 := (0 : Int32)
def k_P_isRange_41_5 (σ : g_S) (lo : Int32) (hi : Int32) (r1 : Int32) : Prop := True
def f_P_isRange_41_11 (σ : g_S) (lo : Int32) (hi : Int32) (r1 : Int32) (r7 : Int32) : Int32 := (0 : Int32)
def k_P_isRange_41_11 (σ : g_S) (lo : Int32) (hi : Int32) (r1 : Int32) (r7 : Int32) : Prop := True
def f_P_isRange_41_14 (σ : g_S) (lo : Int32) (hi : Int32) (r1 : Int32) (r7 : Int32) : Int32 := (0 : Int32)
def k_P_isRange_41_14 (σ : g_S) (lo : Int32) (hi : Int32) (r1 : Int32) (r7 : Int32) : Prop := True
def f_P_isRange_41_18 (σ : g_S) (lo : Int32) (hi : Int32) (r1 : Int32) (r7 : Int32) : Int32 := (0 : Int32)
def k_P_isRange_41_18 (σ : g_S) (lo : Int32) (hi : Int32) (r1 : Int32) (r7 : Int32) : Prop := True
def f_P_isRange_41_22 (σ : g_S) (lo : Int32) (hi : Int32) (r1 : Int32) (r7 : Int32) : Int32 := (0 : Int32)
def k_P_isRange_41_22 (σ : g_S) (lo : Int32) (hi : Int32) (r1 : Int32) (r7 : Int32) : Prop := True
def f_P_isRange_37_23 (σ : g_S) (lo : Int32) (hi : Int32) (r1 : Int32) (r7 : Int32) : Int32 := (1 : Int32)
def k_P_isRange_37_23 (σ : g_S) (lo : Int32) (hi : Int32) (r1 : Int32) (r7 : Int32) : Prop := True
def f_P_isRange_28_19 (σ : g_S) (lo : Int32) (hi : Int32) (r1 : Int32) (r7 : Int32) : Int32 := (if (hi - hi / (σ.1 0 0) * (σ.1 0 0)) = 0 then f_P_isRange_37_23 σ lo hi r1 r7 else f_P_isRange_41_22 σ lo hi r1 r7)
def k_P_isRange_28_19 (σ : g_S) (lo : Int32) (hi : Int32) (r1 : Int32) (r7 : Int32) : Prop := (¬ (σ.1 0 0) = 0) ∧ (if (hi - hi / (σ.1 0 0) * (σ.1 0 0)) = 0 then k_P_isRange_37_23 σ lo hi r1 r7 else k_P_isRange_41_22 σ lo hi r1 r7)
def f_P_isRange_19_15 (σ : g_S) (lo : Int32) (hi : Int32) (r1 : Int32) (r7 : Int32) : Int32 := (if (lo - lo / (σ.1 0 0) * (σ.1 0 0)) = 0 then f_P_isRange_28_19 σ lo hi r1 r7 else f_P_isRange_41_18 σ lo hi r1 r7)
def k_P_isRange_19_15 (σ : g_S) (lo : Int32) (hi : Int32) (r1 : Int32) (r7 : Int32) : Prop := (¬ (σ.1 0 0) = 0) ∧ (if (lo - lo / (σ.1 0 0) * (σ.1 0 0)) = 0 then k_P_isRange_28_19 σ lo hi r1 r7 else k_P_isRange_41_18 σ lo hi r1 r7)
def f_P_isRange_14_12 (σ : g_S) (lo : Int32) (hi : Int32) (r1 : Int32) (r7 : Int32) : Int32 := (if hi ≤ lo then f_P_isRange_41_14 σ lo hi r1 r7 else f_P_isRange_19_15 σ lo hi r1 r7)
def k_P_isRange_14_12 (σ : g_S) (lo : Int32) (hi : Int32) (r1 : Int32) (r7 : Int32) : Prop := (if hi ≤ lo then k_P_isRange_41_14 σ lo hi r1 r7 else k_P_isRange_19_15 σ lo hi r1 r7)
def f_P_isRange_8_9 (σ : g_S) (lo : Int32) (hi : Int32) (r1 : Int32) (r7 : Int32) : Int32 := (if r7 = 0 then f_P_isRange_41_11 σ lo hi r1 r7 else f_P_isRange_14_12 σ lo hi r1 r7)
def k_P_isRange_8_9 (σ : g_S) (lo : Int32) (hi : Int32) (r1 : Int32) (r7 : Int32) : Prop := (if r7 = 0 then k_P_isRange_41_11 σ lo hi r1 r7 else k_P_isRange_14_12 σ lo hi r1 r7)
def f_P_isRange_7_6 (σ : g_S) (lo : Int32) (hi : Int32) (r1 : Int32) : Int32 := (f_P_isRange_8_9 σ lo hi r1 (f_P_isStep hi))
def k_P_isRange_7_6 (σ : g_S) (lo : Int32) (hi : Int32) (r1 : Int32) : Prop := (k_P_isRange_8_9 σ lo hi r1 (f_P_isStep hi))
def f_P_isRange_1_3 (σ : g_S) (lo : Int32) (hi : Int32) (r1 : Int32) : Int32 := (if r1 = 0 then f_P_isRange_41_5 σ lo hi r1 else f_P_isRange_7_6 σ lo hi r1)
def k_P_isRange_1_3 (σ : g_S) (lo : Int32) (hi : Int32) (r1 : Int32) : Prop := (if r1 = 0 then k_P_isRange_41_5 σ lo hi r1 else k_P_isRange_7_6 σ lo hi r1)
def f_P_isRange (σ : g_S) (lo : Int32) (hi : Int32) : Int32 := (f_P_isRange_1_3 σ lo hi (f_P_isStep lo))
def k_P_isRange (σ : g_S) (lo : Int32) (hi : Int32) : Prop := (k_P_isRange_1_3 σ lo hi (f_P_isStep lo))
set_option maxHeartbeats 4000000 in
set_option maxRecDepth 100000 in
theorem c_P_isRange (l : Launch) (dC : Nat → ClassId) (dI : Nat → Nat → Nat) (dA : Nat → ClassId) (ad : Nat → Nat) (tb : Nat) (σ : g_S) (lo : Int32) (hi : Int32) (hQ : k_P_isRange σ lo hi) : Met l y_P_isRange w_P_isRange ({ frames := 1, cells := 0, slots := 0, locals := 20 }) (va_Pc [.ref (ad 0), .int lo, .int hi] (g_R (dC, dI) cls (x_tys dA) (g_w x_sh dA ad σ) (x_Z tb))) (vp_Si (fun r => r = f_P_isRange σ lo hi)) 0 0 (fun _ => False) := by
  refine Met.ofW (cc := b_P_isRange) (maxL := 3) (ret := (some .boolean)) (by decide) rfl ?_
  intro p e s m args below meth c s₁ B hml hv
  obtain ⟨rfl, hP, hK, hz⟩ := hv
  have hx := B.exec
  have hb := B.bytes
  have hr := B.returns
  have hts := atoms_spec (ws := w_P_isRange) B.pre
  have ht := fun (w : Cond) (h : w ∈ gA) => hts w (List.mem_cons_of_mem _ h)
  have hown : s.vm.findClass "RangedPool" = some m.cls := findClass_of_methodNamed B.named
  have hlocks := B.notSynchronized
  have hS : va_S (fun _ => False) s.heap s.heap [] := va_S.rf
  have hl := lv_entry ([.ref (ad 0), .int lo, .int hi]) (n := 3) (Nat.le_of_ble_eq_true rfl)
  rw [lg_entry_eq]
  generalize (lg_sl ([.ref (ad 0), .int lo, .int hi]) ++ List.replicate (3 - (lg_sl ([.ref (ad 0), .int lo, .int hi])).length) Slot.unset).toArray = ls at hl ⊢
  have hl : lv_has ls 3 [(0, .ref (ad 0)), (1, .int lo), (2, .int hi)] := hl
  have hF : f_P_isRange σ lo hi = f_P_isRange σ lo hi := rfl
  refine lv_iload_n hx hb d_P_isRange_0 rfl (lv_at hl 1 rfl) ?_
  refine g_cSi (va_runS (As := [.int lo]) (rest := []) ⟨hx, hb, hml, hown, ht⟩ (c_P_isStep l lo) (va_cwS 1 ht gc_P_56 rfl rfl rfl (by decide +kernel) ⟨Nat.le_of_ble_eq_true rfl, Nat.le_of_ble_eq_true rfl⟩) (g_pr0 _) rfl rfl hl.1 rfl (lv_room (Nat.le_of_ble_eq_true rfl)) d_P_isRange_1 ⟨Nat.le_of_ble_eq_true rfl, Nat.le_of_ble_eq_true rfl⟩) (fun r1 e2 => ?_)
  have hF : f_P_isRange σ lo hi = f_P_isRange_1_3 σ lo hi r1 := hF.trans (by rw [e2]; try rfl)
  have hQ : k_P_isRange_1_3 σ lo hi r1 := by rw [e2]; exact hQ
  refine lv_if_eq (tgt := 41) hx hb d_P_isRange_4 (by decide) (fun c4 => ?_) (fun c4 => ?_)
  ·
    have c4 : r1 = 0 := c4
    have hF : f_P_isRange σ lo hi = f_P_isRange_41_5 σ lo hi r1 := hF.trans (if_pos c4)
    have hQ : k_P_isRange_41_5 σ lo hi r1 := Eq.mp (if_pos c4) hQ
    refine lv_iconst (v := (0 : Int32)) hx hb d_P_isRange_41 (by decide) ?_
    exact W.zret (ty := .boolean) (v := (0 : Int32)) hx hb hr (g_zr (by decide)) (fun t hh hW => ⟨_, rfl, hF.symm, hh⟩) (fun _ h => by cases h) d_P_isRange_42
  ·
    have c4 : ¬ (r1 = 0) := c4
    have hF : f_P_isRange σ lo hi = f_P_isRange_7_6 σ lo hi r1 := hF.trans (if_neg c4)
    have hQ : k_P_isRange_7_6 σ lo hi r1 := Eq.mp (if_neg c4) hQ
    refine lv_iload_n hx hb d_P_isRange_7 rfl (lv_at hl 2 rfl) ?_
    refine g_cSi (va_runS (As := [.int hi]) (rest := []) ⟨hx, hb, hml, hown, ht⟩ (c_P_isStep l hi) (va_cwS 1 ht gc_P_56 rfl rfl rfl (by decide +kernel) ⟨Nat.le_of_ble_eq_true rfl, Nat.le_of_ble_eq_true rfl⟩) (g_pr0 _) rfl rfl hl.1 rfl (lv_room (Nat.le_of_ble_eq_true rfl)) d_P_isRange_8 ⟨Nat.le_of_ble_eq_true rfl, Nat.le_of_ble_eq_true rfl⟩) (fun r7 e8 => ?_)
    have hF : f_P_isRange σ lo hi = f_P_isRange_8_9 σ lo hi r1 r7 := hF.trans (by rw [e8]; try rfl)
    have hQ : k_P_isRange_8_9 σ lo hi r1 r7 := by rw [e8]; exact hQ
    refine lv_if_eq (tgt := 41) hx hb d_P_isRange_11 (by decide) (fun c10 => ?_) (fun c10 => ?_)
    ·
      have c10 : r7 = 0 := c10
      have hF : f_P_isRange σ lo hi = f_P_isRange_41_11 σ lo hi r1 r7 := hF.trans (if_pos c10)
      have hQ : k_P_isRange_41_11 σ lo hi r1 r7 := Eq.mp (if_pos c10) hQ
      refine lv_iconst (v := (0 : Int32)) hx hb d_P_isRange_41 (by decide) ?_
      exact W.zret (ty := .boolean) (v := (0 : Int32)) hx hb hr (g_zr (by decide)) (fun t hh hW => ⟨_, rfl, hF.symm, hh⟩) (fun _ h => by cases h) d_P_isRange_42
    ·
      have c10 : ¬ (r7 = 0) := c10
      have hF : f_P_isRange σ lo hi = f_P_isRange_14_12 σ lo hi r1 r7 := hF.trans (if_neg c10)
      have hQ : k_P_isRange_14_12 σ lo hi r1 r7 := Eq.mp (if_neg c10) hQ
      refine lv_iload_n hx hb d_P_isRange_14 rfl (lv_at hl 1 rfl) ?_
      refine lv_iload_n hx hb d_P_isRange_15 rfl (lv_at hl 2 rfl) ?_
      refine lv_icmp_ge (tgt := 41) hx hb d_P_isRange_16 (by decide) (fun c13 => ?_) (fun c13 => ?_)
      ·
        have c13 : hi ≤ lo := c13
        have hF : f_P_isRange σ lo hi = f_P_isRange_41_14 σ lo hi r1 r7 := hF.trans (if_pos c13)
        have hQ : k_P_isRange_41_14 σ lo hi r1 r7 := Eq.mp (if_pos c13) hQ
        refine lv_iconst (v := (0 : Int32)) hx hb d_P_isRange_41 (by decide) ?_
        exact W.zret (ty := .boolean) (v := (0 : Int32)) hx hb hr (g_zr (by decide)) (fun t hh hW => ⟨_, rfl, hF.symm, hh⟩) (fun _ h => by cases h) d_P_isRange_42
      ·
        have c13 : ¬ (hi ≤ lo) := c13
        have hF : f_P_isRange σ lo hi = f_P_isRange_19_15 σ lo hi r1 r7 := hF.trans (if_neg c13)
        have hQ : k_P_isRange_19_15 σ lo hi r1 r7 := Eq.mp (if_neg c13) hQ
        refine lv_iload_n hx hb d_P_isRange_19 rfl (lv_at hl 1 rfl) ?_
        refine lv_aload_n hx hb d_P_isRange_20 rfl (lv_at hl 0 rfl) ?_
        refine g_get hx hb ht in_P hown hK hP (0) x_at0 rfl 0 (by decide) rfl (ht _ kw129) (fun _ h9 => h9) (v := .int (σ.1 0 0)) rfl d_P_isRange_21 ?_
        obtain ⟨hs16, hQ⟩ := hQ
        refine lv_irem hx hb d_P_isRange_24 (hs16) ?_
        refine lv_if_ne (tgt := 41) hx hb d_P_isRange_25 (by decide) (fun c17 => ?_) (fun c17 => ?_)
        ·
          have c17 : ¬ ((lo - lo / (σ.1 0 0) * (σ.1 0 0)) = 0) := c17
          have hF : f_P_isRange σ lo hi = f_P_isRange_41_18 σ lo hi r1 r7 := hF.trans (if_neg c17)
          have hQ : k_P_isRange_41_18 σ lo hi r1 r7 := Eq.mp (if_neg c17) hQ
          refine lv_iconst (v := (0 : Int32)) hx hb d_P_isRange_41 (by decide) ?_
          exact W.zret (ty := .boolean) (v := (0 : Int32)) hx hb hr (g_zr (by decide)) (fun t hh hW => ⟨_, rfl, hF.symm, hh⟩) (fun _ h => by cases h) d_P_isRange_42
        ·
          have c17 : (lo - lo / (σ.1 0 0) * (σ.1 0 0)) = 0 := c17
          have hF : f_P_isRange σ lo hi = f_P_isRange_28_19 σ lo hi r1 r7 := hF.trans (if_pos c17)
          have hQ : k_P_isRange_28_19 σ lo hi r1 r7 := Eq.mp (if_pos c17) hQ
          refine lv_iload_n hx hb d_P_isRange_28 rfl (lv_at hl 2 rfl) ?_
          refine lv_aload_n hx hb d_P_isRange_29 rfl (lv_at hl 0 rfl) ?_
          refine g_get hx hb ht in_P hown hK hP (0) x_at0 rfl 0 (by decide) rfl (ht _ kw129) (fun _ h9 => h9) (v := .int (σ.1 0 0)) rfl d_P_isRange_30 ?_
          obtain ⟨hs20, hQ⟩ := hQ
          refine lv_irem hx hb d_P_isRange_33 (hs20) ?_
          refine lv_if_ne (tgt := 41) hx hb d_P_isRange_34 (by decide) (fun c21 => ?_) (fun c21 => ?_)
          ·
            have c21 : ¬ ((hi - hi / (σ.1 0 0) * (σ.1 0 0)) = 0) := c21
            have hF : f_P_isRange σ lo hi = f_P_isRange_41_22 σ lo hi r1 r7 := hF.trans (if_neg c21)
            have hQ : k_P_isRange_41_22 σ lo hi r1 r7 := Eq.mp (if_neg c21) hQ
            refine lv_iconst (v := (0 : Int32)) hx hb d_P_isRange_41 (by decide) ?_
            exact W.zret (ty := .boolean) (v := (0 : Int32)) hx hb hr (g_zr (by decide)) (fun t hh hW => ⟨_, rfl, hF.symm, hh⟩) (fun _ h => by cases h) d_P_isRange_42
          ·
            have c21 : (hi - hi / (σ.1 0 0) * (σ.1 0 0)) = 0 := c21
            have hF : f_P_isRange σ lo hi = f_P_isRange_37_23 σ lo hi r1 r7 := hF.trans (if_pos c21)
            have hQ : k_P_isRange_37_23 σ lo hi r1 r7 := Eq.mp (if_pos c21) hQ
            refine lv_iconst (v := (1 : Int32)) hx hb d_P_isRange_37 (by decide) ?_
            refine lv_goto (tgt := 42) hx hb d_P_isRange_38 (by decide) ?_
            exact W.zret (ty := .boolean) (v := (1 : Int32)) hx hb hr (g_zr (by decide)) (fun t hh hW => ⟨_, rfl, hF.symm, hh⟩) (fun _ h => by cases h) d_P_isRange_42
def f_P_isTrade_23_2 (σ : g_S) (dn : Int32) (am : Int32) (lim : Int32) : Int32 := (0 : Int32)
def k_P_isTrade_23_2 (σ : g_S) (dn : Int32) (am : Int32) (lim : Int32) : Prop := True
def f_P_isTrade_23_5 (σ : g_S) (dn : Int32) (am : Int32) (lim : Int32) : Int32 := (0 : Int32)
def k_P_isTrade_23_5 (σ : g_S) (dn : Int32) (am : Int32) (lim : Int32) : Prop := True
def f_P_isTrade_23_8 (σ : g_S) (dn : Int32) (am : Int32) (lim : Int32) : Int32 := (0 : Int32)
def k_P_isTrade_23_8 (σ : g_S) (dn : Int32) (am : Int32) (lim : Int32) : Prop := True
def f_P_isTrade_63_22 (σ : g_S) (dn : Int32) (am : Int32) (lim : Int32) (r10 : Int32) (r18 : Int32) : Int32 := (0 : Int32)
def k_P_isTrade_63_22 (σ : g_S) (dn : Int32) (am : Int32) (lim : Int32) (r10 : Int32) (r18 : Int32) : Prop := True
def f_P_isTrade_59_23 (σ : g_S) (dn : Int32) (am : Int32) (lim : Int32) (r10 : Int32) (r18 : Int32) : Int32 := (1 : Int32)
def k_P_isTrade_59_23 (σ : g_S) (dn : Int32) (am : Int32) (lim : Int32) (r10 : Int32) (r18 : Int32) : Prop := True
def f_P_isTrade_49_20 (σ : g_S) (dn : Int32) (am : Int32) (lim : Int32) (r10 : Int32) (r18 : Int32) : Int32 := (if r18 ≤ (σ.1 0 8) then f_P_isTrade_63_22 σ dn am lim r10 r18 else f_P_isTrade_59_23 σ dn am lim r10 r18)
def k_P_isTrade_49_20 (σ : g_S) (dn : Int32) (am : Int32) (lim : Int32) (r10 : Int32) (r18 : Int32) : Prop := (if r18 ≤ (σ.1 0 8) then k_P_isTrade_63_22 σ dn am lim r10 r18 else k_P_isTrade_59_23 σ dn am lim r10 r18)
def f_P_isTrade_48_16 (σ : g_S) (dn : Int32) (am : Int32) (lim : Int32) (r10 : Int32) : Int32 := (f_P_isTrade_49_20 σ dn am lim r10 (f_P_priceOf lim))
def k_P_isTrade_48_16 (σ : g_S) (dn : Int32) (am : Int32) (lim : Int32) (r10 : Int32) : Prop := (k_P_priceOf lim) ∧ (k_P_isTrade_49_20 σ dn am lim r10 (f_P_priceOf lim))
def f_P_isTrade_44_30 (σ : g_S) (dn : Int32) (am : Int32) (lim : Int32) (r10 : Int32) (r26 : Int32) : Int32 := (0 : Int32)
def k_P_isTrade_44_30 (σ : g_S) (dn : Int32) (am : Int32) (lim : Int32) (r10 : Int32) (r26 : Int32) : Prop := True
def f_P_isTrade_40_31 (σ : g_S) (dn : Int32) (am : Int32) (lim : Int32) (r10 : Int32) (r26 : Int32) : Int32 := (1 : Int32)
def k_P_isTrade_40_31 (σ : g_S) (dn : Int32) (am : Int32) (lim : Int32) (r10 : Int32) (r26 : Int32) : Prop := True
def f_P_isTrade_30_28 (σ : g_S) (dn : Int32) (am : Int32) (lim : Int32) (r10 : Int32) (r26 : Int32) : Int32 := (if (σ.1 0 8) ≤ r26 then f_P_isTrade_44_30 σ dn am lim r10 r26 else f_P_isTrade_40_31 σ dn am lim r10 r26)
def k_P_isTrade_30_28 (σ : g_S) (dn : Int32) (am : Int32) (lim : Int32) (r10 : Int32) (r26 : Int32) : Prop := (if (σ.1 0 8) ≤ r26 then k_P_isTrade_44_30 σ dn am lim r10 r26 else k_P_isTrade_40_31 σ dn am lim r10 r26)
def f_P_isTrade_29_24 (σ : g_S) (dn : Int32) (am : Int32) (lim : Int32) (r10 : Int32) : Int32 := (f_P_isTrade_30_28 σ dn am lim r10 (f_P_priceOf lim))
def k_P_isTrade_29_24 (σ : g_S) (dn : Int32) (am : Int32) (lim : Int32) (r10 : Int32) : Prop := (k_P_priceOf lim) ∧ (k_P_isTrade_30_28 σ dn am lim r10 (f_P_priceOf lim))
def f_P_isTrade_25_14 (σ : g_S) (dn : Int32) (am : Int32) (lim : Int32) (r10 : Int32) : Int32 := (if dn = 0 then f_P_isTrade_48_16 σ dn am lim r10 else f_P_isTrade_29_24 σ dn am lim r10)
def k_P_isTrade_25_14 (σ : g_S) (dn : Int32) (am : Int32) (lim : Int32) (r10 : Int32) : Prop := (if dn = 0 then k_P_isTrade_48_16 σ dn am lim r10 else k_P_isTrade_29_24 σ dn am lim r10)
def f_P_isTrade_23_32 (σ : g_S) (dn : Int32) (am : Int32) (lim : Int32) (r10 : Int32) : Int32 := (0 : Int32)
def k_P_isTrade_23_32 (σ : g_S) (dn : Int32) (am : Int32) (lim : Int32) (r10 : Int32) : Prop := True
def f_P_isTrade_17_12 (σ : g_S) (dn : Int32) (am : Int32) (lim : Int32) (r10 : Int32) : Int32 := (if r10 = 0 then f_P_isTrade_23_32 σ dn am lim r10 else f_P_isTrade_25_14 σ dn am lim r10)
def k_P_isTrade_17_12 (σ : g_S) (dn : Int32) (am : Int32) (lim : Int32) (r10 : Int32) : Prop := (if r10 = 0 then k_P_isTrade_23_32 σ dn am lim r10 else k_P_isTrade_25_14 σ dn am lim r10)
def f_P_isTrade_16_9 (σ : g_S) (dn : Int32) (am : Int32) (lim : Int32) : Int32 := (f_P_isTrade_17_12 σ dn am lim (f_P_isStep lim))
def k_P_isTrade_16_9 (σ : g_S) (dn : Int32) (am : Int32) (lim : Int32) : Prop := (k_P_isTrade_17_12 σ dn am lim (f_P_isStep lim))
def f_P_isTrade_10_6 (σ : g_S) (dn : Int32) (am : Int32) (lim : Int32) : Int32 := (if (1000000 : Int32) < am then f_P_isTrade_23_8 σ dn am lim else f_P_isTrade_16_9 σ dn am lim)
def k_P_isTrade_10_6 (σ : g_S) (dn : Int32) (am : Int32) (lim : Int32) : Prop := (if (1000000 : Int32) < am then k_P_isTrade_23_8 σ dn am lim else k_P_isTrade_16_9 σ dn am lim)
def f_P_isTrade_4_3 (σ : g_S) (dn : Int32) (am : Int32) (lim : Int32) : Int32 := (if am < (-1000000 : Int32) then f_P_isTrade_23_5 σ dn am lim else f_P_isTrade_10_6 σ dn am lim)
def k_P_isTrade_4_3 (σ : g_S) (dn : Int32) (am : Int32) (lim : Int32) : Prop := (if am < (-1000000 : Int32) then k_P_isTrade_23_5 σ dn am lim else k_P_isTrade_10_6 σ dn am lim)
def f_P_isTrade (σ : g_S) (dn : Int32) (am : Int32) (lim : Int32) : Int32 := (if am = 0 then f_P_isTrade_23_2 σ dn am lim else f_P_isTrade_4_3 σ dn am lim)
def k_P_isTrade (σ : g_S) (dn : Int32) (am : Int32) (lim : Int32) : Prop := (if am = 0 then k_P_isTrade_23_2 σ dn am lim else k_P_isTrade_4_3 σ dn am lim)
set_option maxHeartbeats 4000000 in
set_option maxRecDepth 100000 in
theorem c_P_isTrade (l : Launch) (dC : Nat → ClassId) (dI : Nat → Nat → Nat) (dA : Nat → ClassId) (ad : Nat → Nat) (tb : Nat) (σ : g_S) (dn : Int32) (am : Int32) (lim : Int32) (hQ : k_P_isTrade σ dn am lim) : Met l y_P_isTrade w_P_isTrade ({ frames := 1, cells := 0, slots := 0, locals := 20 }) (va_Pc [.ref (ad 0), .int dn, .int am, .int lim] (g_R (dC, dI) cls (x_tys dA) (g_w x_sh dA ad σ) (x_Z tb))) (vp_Si (fun r => r = f_P_isTrade σ dn am lim)) 0 0 (fun _ => False) := by
  refine Met.ofW (cc := b_P_isTrade) (maxL := 4) (ret := (some .boolean)) (by decide) rfl ?_
  intro p e s m args below meth c s₁ B hml hv
  obtain ⟨rfl, hP, hK, hz⟩ := hv
  have hx := B.exec
  have hb := B.bytes
  have hr := B.returns
  have hts := atoms_spec (ws := w_P_isTrade) B.pre
  have ht := fun (w : Cond) (h : w ∈ gA) => hts w (List.mem_cons_of_mem _ h)
  have hown : s.vm.findClass "RangedPool" = some m.cls := findClass_of_methodNamed B.named
  have hlocks := B.notSynchronized
  have hS : va_S (fun _ => False) s.heap s.heap [] := va_S.rf
  have hl := lv_entry ([.ref (ad 0), .int dn, .int am, .int lim]) (n := 4) (Nat.le_of_ble_eq_true rfl)
  rw [lg_entry_eq]
  generalize (lg_sl ([.ref (ad 0), .int dn, .int am, .int lim]) ++ List.replicate (4 - (lg_sl ([.ref (ad 0), .int dn, .int am, .int lim])).length) Slot.unset).toArray = ls at hl ⊢
  have hl : lv_has ls 4 [(0, .ref (ad 0)), (1, .int dn), (2, .int am), (3, .int lim)] := hl
  have hF : f_P_isTrade σ dn am lim = f_P_isTrade σ dn am lim := rfl
  refine lv_iload_n hx hb d_P_isTrade_0 rfl (lv_at hl 2 rfl) ?_
  refine lv_if_eq (tgt := 23) hx hb d_P_isTrade_1 (by decide) (fun c1 => ?_) (fun c1 => ?_)
  ·
    have c1 : am = 0 := c1
    have hF : f_P_isTrade σ dn am lim = f_P_isTrade_23_2 σ dn am lim := hF.trans (if_pos c1)
    have hQ : k_P_isTrade_23_2 σ dn am lim := Eq.mp (if_pos c1) hQ
    refine lv_iconst (v := (0 : Int32)) hx hb d_P_isTrade_23 (by decide) ?_
    exact W.zret (ty := .boolean) (v := (0 : Int32)) hx hb hr (g_zr (by decide)) (fun t hh hW => ⟨_, rfl, hF.symm, hh⟩) (fun _ h => by cases h) d_P_isTrade_24
  ·
    have c1 : ¬ (am = 0) := c1
    have hF : f_P_isTrade σ dn am lim = f_P_isTrade_4_3 σ dn am lim := hF.trans (if_neg c1)
    have hQ : k_P_isTrade_4_3 σ dn am lim := Eq.mp (if_neg c1) hQ
    refine lv_iload_n hx hb d_P_isTrade_4 rfl (lv_at hl 2 rfl) ?_
    refine lv_ldc (v := (-1000000 : Int32)) hx hb hown (ht _ kw287) d_P_isTrade_5 ?_
    refine lv_icmp_lt (tgt := 23) hx hb d_P_isTrade_7 (by decide) (fun c4 => ?_) (fun c4 => ?_)
    ·
      have c4 : am < (-1000000 : Int32) := c4
      have hF : f_P_isTrade σ dn am lim = f_P_isTrade_23_5 σ dn am lim := hF.trans (if_pos c4)
      have hQ : k_P_isTrade_23_5 σ dn am lim := Eq.mp (if_pos c4) hQ
      refine lv_iconst (v := (0 : Int32)) hx hb d_P_isTrade_23 (by decide) ?_
      exact W.zret (ty := .boolean) (v := (0 : Int32)) hx hb hr (g_zr (by decide)) (fun t hh hW => ⟨_, rfl, hF.symm, hh⟩) (fun _ h => by cases h) d_P_isTrade_24
    ·
      have c4 : ¬ (am < (-1000000 : Int32)) := c4
      have hF : f_P_isTrade σ dn am lim = f_P_isTrade_10_6 σ dn am lim := hF.trans (if_neg c4)
      have hQ : k_P_isTrade_10_6 σ dn am lim := Eq.mp (if_neg c4) hQ
      refine lv_iload_n hx hb d_P_isTrade_10 rfl (lv_at hl 2 rfl) ?_
      refine lv_ldc (v := (1000000 : Int32)) hx hb hown (ht _ kw200) d_P_isTrade_11 ?_
      refine lv_icmp_gt (tgt := 23) hx hb d_P_isTrade_13 (by decide) (fun c7 => ?_) (fun c7 => ?_)
      ·
        have c7 : (1000000 : Int32) < am := c7
        have hF : f_P_isTrade σ dn am lim = f_P_isTrade_23_8 σ dn am lim := hF.trans (if_pos c7)
        have hQ : k_P_isTrade_23_8 σ dn am lim := Eq.mp (if_pos c7) hQ
        refine lv_iconst (v := (0 : Int32)) hx hb d_P_isTrade_23 (by decide) ?_
        exact W.zret (ty := .boolean) (v := (0 : Int32)) hx hb hr (g_zr (by decide)) (fun t hh hW => ⟨_, rfl, hF.symm, hh⟩) (fun _ h => by cases h) d_P_isTrade_24
      ·
        have c7 : ¬ ((1000000 : Int32) < am) := c7
        have hF : f_P_isTrade σ dn am lim = f_P_isTrade_16_9 σ dn am lim := hF.trans (if_neg c7)
        have hQ : k_P_isTrade_16_9 σ dn am lim := Eq.mp (if_neg c7) hQ
        refine lv_iload_n hx hb d_P_isTrade_16 rfl (lv_at hl 3 rfl) ?_
        refine g_cSi (va_runS (As := [.int lim]) (rest := []) ⟨hx, hb, hml, hown, ht⟩ (c_P_isStep l lim) (va_cwS 1 ht gc_P_56 rfl rfl rfl (by decide +kernel) ⟨Nat.le_of_ble_eq_true rfl, Nat.le_of_ble_eq_true rfl⟩) (g_pr0 _) rfl rfl hl.1 rfl (lv_room (Nat.le_of_ble_eq_true rfl)) d_P_isTrade_17 ⟨Nat.le_of_ble_eq_true rfl, Nat.le_of_ble_eq_true rfl⟩) (fun r10 e11 => ?_)
        have hF : f_P_isTrade σ dn am lim = f_P_isTrade_17_12 σ dn am lim r10 := hF.trans (by rw [e11]; try rfl)
        have hQ : k_P_isTrade_17_12 σ dn am lim r10 := by rw [e11]; exact hQ
        refine lv_if_ne (tgt := 25) hx hb d_P_isTrade_20 (by decide) (fun c13 => ?_) (fun c13 => ?_)
        ·
          have c13 : ¬ (r10 = 0) := c13
          have hF : f_P_isTrade σ dn am lim = f_P_isTrade_25_14 σ dn am lim r10 := hF.trans (if_neg c13)
          have hQ : k_P_isTrade_25_14 σ dn am lim r10 := Eq.mp (if_neg c13) hQ
          refine lv_iload_n hx hb d_P_isTrade_25 rfl (lv_at hl 1 rfl) ?_
          refine lv_if_eq (tgt := 48) hx hb d_P_isTrade_26 (by decide) (fun c15 => ?_) (fun c15 => ?_)
          ·
            have c15 : dn = 0 := c15
            have hF : f_P_isTrade σ dn am lim = f_P_isTrade_48_16 σ dn am lim r10 := hF.trans (if_pos c15)
            have hQ : k_P_isTrade_48_16 σ dn am lim r10 := Eq.mp (if_pos c15) hQ
            refine lv_iload_n hx hb d_P_isTrade_48 rfl (lv_at hl 3 rfl) ?_
            obtain ⟨hs17, hQ⟩ := hQ
            refine g_cSi (va_runS (As := [.int lim]) (rest := []) ⟨hx, hb, hml, hown, ht⟩ (c_P_priceOf l tb lim hs17) (va_cwS 1 ht gc_P_59 rfl rfl rfl (by decide +kernel) ⟨Nat.le_of_ble_eq_true rfl, Nat.le_of_ble_eq_true rfl⟩) (g_prZ x_Zok hS hz _) rfl rfl hl.1 rfl (lv_room (Nat.le_of_ble_eq_true rfl)) d_P_isTrade_49 ⟨Nat.le_of_ble_eq_true rfl, Nat.le_of_ble_eq_true rfl⟩) (fun r18 e19 => ?_)
            have hF : f_P_isTrade σ dn am lim = f_P_isTrade_49_20 σ dn am lim r10 r18 := hF.trans (by rw [e19]; try rfl)
            have hQ : k_P_isTrade_49_20 σ dn am lim r10 r18 := by rw [e19]; exact hQ
            refine lv_aload_n hx hb d_P_isTrade_52 rfl (lv_at hl 0 rfl) ?_
            refine g_get hx hb ht in_P hown hK hP (0) x_at0 rfl 8 (by decide) rfl (ht _ kw137) (fun _ h9 => h9) (v := .int (σ.1 0 8)) rfl d_P_isTrade_53 ?_
            refine lv_icmp_le (tgt := 63) hx hb d_P_isTrade_56 (by decide) (fun c21 => ?_) (fun c21 => ?_)
            ·
              have c21 : r18 ≤ (σ.1 0 8) := c21
              have hF : f_P_isTrade σ dn am lim = f_P_isTrade_63_22 σ dn am lim r10 r18 := hF.trans (if_pos c21)
              have hQ : k_P_isTrade_63_22 σ dn am lim r10 r18 := Eq.mp (if_pos c21) hQ
              refine lv_iconst (v := (0 : Int32)) hx hb d_P_isTrade_63 (by decide) ?_
              exact W.zret (ty := .boolean) (v := (0 : Int32)) hx hb hr (g_zr (by decide)) (fun t hh hW => ⟨_, rfl, hF.symm, hh⟩) (fun _ h => by cases h) d_P_isTrade_64
            ·
              have c21 : ¬ (r18 ≤ (σ.1 0 8)) := c21
              have hF : f_P_isTrade σ dn am lim = f_P_isTrade_59_23 σ dn am lim r10 r18 := hF.trans (if_neg c21)
              have hQ : k_P_isTrade_59_23 σ dn am lim r10 r18 := Eq.mp (if_neg c21) hQ
              refine lv_iconst (v := (1 : Int32)) hx hb d_P_isTrade_59 (by decide) ?_
              refine lv_goto (tgt := 64) hx hb d_P_isTrade_60 (by decide) ?_
              exact W.zret (ty := .boolean) (v := (1 : Int32)) hx hb hr (g_zr (by decide)) (fun t hh hW => ⟨_, rfl, hF.symm, hh⟩) (fun _ h => by cases h) d_P_isTrade_64
          ·
            have c15 : ¬ (dn = 0) := c15
            have hF : f_P_isTrade σ dn am lim = f_P_isTrade_29_24 σ dn am lim r10 := hF.trans (if_neg c15)
            have hQ : k_P_isTrade_29_24 σ dn am lim r10 := Eq.mp (if_neg c15) hQ
            refine lv_iload_n hx hb d_P_isTrade_29 rfl (lv_at hl 3 rfl) ?_
            obtain ⟨hs25, hQ⟩ := hQ
            refine g_cSi (va_runS (As := [.int lim]) (rest := []) ⟨hx, hb, hml, hown, ht⟩ (c_P_priceOf l tb lim hs25) (va_cwS 1 ht gc_P_59 rfl rfl rfl (by decide +kernel) ⟨Nat.le_of_ble_eq_true rfl, Nat.le_of_ble_eq_true rfl⟩) (g_prZ x_Zok hS hz _) rfl rfl hl.1 rfl (lv_room (Nat.le_of_ble_eq_true rfl)) d_P_isTrade_30 ⟨Nat.le_of_ble_eq_true rfl, Nat.le_of_ble_eq_true rfl⟩) (fun r26 e27 => ?_)
            have hF : f_P_isTrade σ dn am lim = f_P_isTrade_30_28 σ dn am lim r10 r26 := hF.trans (by rw [e27]; try rfl)
            have hQ : k_P_isTrade_30_28 σ dn am lim r10 r26 := by rw [e27]; exact hQ
            refine lv_aload_n hx hb d_P_isTrade_33 rfl (lv_at hl 0 rfl) ?_
            refine g_get hx hb ht in_P hown hK hP (0) x_at0 rfl 8 (by decide) rfl (ht _ kw137) (fun _ h9 => h9) (v := .int (σ.1 0 8)) rfl d_P_isTrade_34 ?_
            refine lv_icmp_ge (tgt := 44) hx hb d_P_isTrade_37 (by decide) (fun c29 => ?_) (fun c29 => ?_)
            ·
              have c29 : (σ.1 0 8) ≤ r26 := c29
              have hF : f_P_isTrade σ dn am lim = f_P_isTrade_44_30 σ dn am lim r10 r26 := hF.trans (if_pos c29)
              have hQ : k_P_isTrade_44_30 σ dn am lim r10 r26 := Eq.mp (if_pos c29) hQ
              refine lv_iconst (v := (0 : Int32)) hx hb d_P_isTrade_44 (by decide) ?_
              refine lv_goto (tgt := 64) hx hb d_P_isTrade_45 (by decide) ?_
              exact W.zret (ty := .boolean) (v := (0 : Int32)) hx hb hr (g_zr (by decide)) (fun t hh hW => ⟨_, rfl, hF.symm, hh⟩) (fun _ h => by cases h) d_P_isTrade_64
            ·
              have c29 : ¬ ((σ.1 0 8) ≤ r26) := c29
              have hF : f_P_isTrade σ dn am lim = f_P_isTrade_40_31 σ dn am lim r10 r26 := hF.trans (if_neg c29)
              have hQ : k_P_isTrade_40_31 σ dn am lim r10 r26 := Eq.mp (if_neg c29) hQ
              refine lv_iconst (v := (1 : Int32)) hx hb d_P_isTrade_40 (by decide) ?_
              refine lv_goto (tgt := 64) hx hb d_P_isTrade_41 (by decide) ?_
              exact W.zret (ty := .boolean) (v := (1 : Int32)) hx hb hr (g_zr (by decide)) (fun t hh hW => ⟨_, rfl, hF.symm, hh⟩) (fun _ h => by cases h) d_P_isTrade_64
        ·
          have c13 : r10 = 0 := c13
          have hF : f_P_isTrade σ dn am lim = f_P_isTrade_23_32 σ dn am lim r10 := hF.trans (if_pos c13)
          have hQ : k_P_isTrade_23_32 σ dn am lim r10 := Eq.mp (if_pos c13) hQ
          refine lv_iconst (v := (0 : Int32)) hx hb d_P_isTrade_23 (by decide) ?_
          exact W.zret (ty := .boolean) (v := (0 : Int32)) hx hb hr (g_zr (by decide)) (fun t hh hW => ⟨_, rfl, hF.symm, hh⟩) (fun _ h => by cases h) d_P_isTrade_24
def f_P_zeroOfRange_35_11 (σ : g_S) (lo : Int32) (hi : Int32) (w : Int64) (up : Int32) (x3 : Int32) (r9 : Int32) : Int64 := f_P_zeroBetween x3.toInt64 r9.toInt64 w up
def k_P_zeroOfRange_35_11 (σ : g_S) (lo : Int32) (hi : Int32) (w : Int64) (up : Int32) (x3 : Int32) (r9 : Int32) : Prop := (k_P_zeroBetween x3.toInt64 r9.toInt64 w up) ∧ True
def f_P_zeroOfRange_29_7 (σ : g_S) (lo : Int32) (hi : Int32) (w : Int64) (up : Int32) (x3 : Int32) : Int64 := (f_P_zeroOfRange_35_11 σ lo hi w up x3 (f_P_priceOf hi))
def k_P_zeroOfRange_29_7 (σ : g_S) (lo : Int32) (hi : Int32) (w : Int64) (up : Int32) (x3 : Int32) : Prop := (k_P_priceOf hi) ∧ (k_P_zeroOfRange_35_11 σ lo hi w up x3 (f_P_priceOf hi))
def f_P_zeroOfRange_10_2 (σ : g_S) (lo : Int32) (hi : Int32) (w : Int64) (up : Int32) : Int64 := (f_P_zeroOfRange_29_7 σ lo hi w up (if lo ≤ (σ.1 0 9) then σ.1 0 8 else f_P_priceOf lo))
def k_P_zeroOfRange_10_2 (σ : g_S) (lo : Int32) (hi : Int32) (w : Int64) (up : Int32) : Prop := (if lo ≤ (σ.1 0 9) then True else (k_P_priceOf lo) ∧ True) ∧ (k_P_zeroOfRange_29_7 σ lo hi w up (if lo ≤ (σ.1 0 9) then σ.1 0 8 else f_P_priceOf lo))
def f_P_zeroOfRange_8_19 (σ : g_S) (lo : Int32) (hi : Int32) (w : Int64) (up : Int32) : Int64 := (0 : Int64)
def k_P_zeroOfRange_8_19 (σ : g_S) (lo : Int32) (hi : Int32) (w : Int64) (up : Int32) : Prop := True
def f_P_zeroOfRange (σ : g_S) (lo : Int32) (hi : Int32) (w : Int64) (up : Int32) : Int64 := (if (σ.1 0 9) < hi then f_P_zeroOfRange_10_2 σ lo hi w up else f_P_zeroOfRange_8_19 σ lo hi w up)
def k_P_zeroOfRange (σ : g_S) (lo : Int32) (hi : Int32) (w : Int64) (up : Int32) : Prop := (if (σ.1 0 9) < hi then k_P_zeroOfRange_10_2 σ lo hi w up else k_P_zeroOfRange_8_19 σ lo hi w up)
set_option maxHeartbeats 4000000 in
set_option maxRecDepth 100000 in
theorem c_P_zeroOfRange (l : Launch) (dC : Nat → ClassId) (dI : Nat → Nat → Nat) (dA : Nat → ClassId) (ad : Nat → Nat) (tb : Nat) (σ : g_S) (lo : Int32) (hi : Int32) (w : Int64) (up : Int32) (hQ : k_P_zeroOfRange σ lo hi w up) : Met l y_P_zeroOfRange w_P_zeroOfRange ({ frames := 2, cells := 0, slots := 0, locals := 52 }) (va_Pc [.ref (ad 0), .int lo, .int hi, .long w, .int up] (g_R (dC, dI) cls (x_tys dA) (g_w x_sh dA ad σ) (x_Z tb))) (vp_Sl (fun r => r = f_P_zeroOfRange σ lo hi w up)) 0 0 (fun _ => False) := by
  refine Met.ofW (cc := b_P_zeroOfRange) (maxL := 7) (ret := (some .long)) (by decide) rfl ?_
  intro p e s m args below meth c s₁ B hml hv
  obtain ⟨rfl, hP, hK, hz⟩ := hv
  have hx := B.exec
  have hb := B.bytes
  have hr := B.returns
  have hts := atoms_spec (ws := w_P_zeroOfRange) B.pre
  have ht := fun (w : Cond) (h : w ∈ gA) => hts w (List.mem_cons_of_mem _ h)
  have hown : s.vm.findClass "RangedPool" = some m.cls := findClass_of_methodNamed B.named
  have hlocks := B.notSynchronized
  have hS : va_S (fun _ => False) s.heap s.heap [] := va_S.rf
  have hl := lv_entry ([.ref (ad 0), .int lo, .int hi, .long w, .int up]) (n := 7) (Nat.le_of_ble_eq_true rfl)
  rw [lg_entry_eq]
  generalize (lg_sl ([.ref (ad 0), .int lo, .int hi, .long w, .int up]) ++ List.replicate (7 - (lg_sl ([.ref (ad 0), .int lo, .int hi, .long w, .int up])).length) Slot.unset).toArray = ls at hl ⊢
  have hl : lv_has ls 7 [(0, .ref (ad 0)), (1, .int lo), (2, .int hi), (3, .long w), (5, .int up)] := hl
  have hF : f_P_zeroOfRange σ lo hi w up = f_P_zeroOfRange σ lo hi w up := rfl
  refine lv_aload_n hx hb d_P_zeroOfRange_0 rfl (lv_at hl 0 rfl) ?_
  refine g_get hx hb ht in_P hown hK hP (0) x_at0 rfl 9 (by decide) rfl (ht _ kw138) (fun _ h9 => h9) (v := .int (σ.1 0 9)) rfl d_P_zeroOfRange_1 ?_
  refine lv_iload_n hx hb d_P_zeroOfRange_4 rfl (lv_at hl 2 rfl) ?_
  refine lv_icmp_lt (tgt := 10) hx hb d_P_zeroOfRange_5 (by decide) (fun c1 => ?_) (fun c1 => ?_)
  ·
    have c1 : (σ.1 0 9) < hi := c1
    have hF : f_P_zeroOfRange σ lo hi w up = f_P_zeroOfRange_10_2 σ lo hi w up := hF.trans (if_pos c1)
    have hQ : k_P_zeroOfRange_10_2 σ lo hi w up := Eq.mp (if_pos c1) hQ
    refine lv_aload_n hx hb d_P_zeroOfRange_10 rfl (lv_at hl 0 rfl) ?_
    refine g_get hx hb ht in_P hown hK hP (0) x_at0 rfl 9 (by decide) rfl (ht _ kw138) (fun _ h9 => h9) (v := .int (σ.1 0 9)) rfl d_P_zeroOfRange_11 ?_
    refine lv_iload_n hx hb d_P_zeroOfRange_14 rfl (lv_at hl 1 rfl) ?_
    obtain ⟨hT6, hQ⟩ := hQ
    have J29_4 : ∀ (x3 : Int32) (ls : Array Slot), x3 = (if lo ≤ (σ.1 0 9) then σ.1 0 8 else f_P_priceOf lo) → lv_has ls 7 [(2, .int hi), (3, .long w), (5, .int up)] → W p l e (headSpec w_P_zeroOfRange ({ frames := 2, cells := 0, slots := 0, locals := 52 })).room s m ([.ref (ad 0), .int lo, .int hi, .long w, .int up] : List Value).toArray below meth c s.heap [] 0 0 (MQ below (vp_Sl (fun r => r = f_P_zeroOfRange σ lo hi w up)) ([.ref (ad 0), .int lo, .int hi, .long w, .int up] : List Value).toArray s 0 0 (fun _ => False)) (F0 m 29 ls [.int x3]) := by
      intro x3 ls e5 hl
      have hF : f_P_zeroOfRange σ lo hi w up = f_P_zeroOfRange_29_7 σ lo hi w up x3 := hF.trans (by rw [e5]; try rfl)
      have hQ : k_P_zeroOfRange_29_7 σ lo hi w up x3 := by rw [e5]; exact hQ
      refine lv_istore (lv' := [(6, .int x3), (2, .int hi), (3, .long w), (5, .int up)]) hx hb d_P_zeroOfRange_29 hl (by decide) rfl (fun ls hl => ?_)
      refine lv_iload hx hb d_P_zeroOfRange_31 (lv_at hl 0 rfl) ?_
      refine lv_i2l (v := x3.toInt64) hx hb d_P_zeroOfRange_33 rfl ?_
      refine lv_iload_n hx hb d_P_zeroOfRange_34 rfl (lv_at hl 1 rfl) ?_
      obtain ⟨hs8, hQ⟩ := hQ
      refine g_cSi (va_runS (As := [.int hi]) (rest := [.long x3.toInt64]) ⟨hx, hb, hml, hown, ht⟩ (c_P_priceOf l tb hi hs8) (va_cwS 1 ht gc_P_59 rfl rfl rfl (by decide +kernel) ⟨Nat.le_of_ble_eq_true rfl, Nat.le_of_ble_eq_true rfl⟩) (g_prZ x_Zok hS hz _) rfl rfl hl.1 rfl (lv_room (Nat.le_of_ble_eq_true rfl)) d_P_zeroOfRange_35 ⟨Nat.le_of_ble_eq_true rfl, Nat.le_of_ble_eq_true rfl⟩) (fun r9 e10 => ?_)
      have hF : f_P_zeroOfRange σ lo hi w up = f_P_zeroOfRange_35_11 σ lo hi w up x3 r9 := hF.trans (by rw [e10]; try rfl)
      have hQ : k_P_zeroOfRange_35_11 σ lo hi w up x3 r9 := by rw [e10]; exact hQ
      refine lv_i2l (v := r9.toInt64) hx hb d_P_zeroOfRange_38 rfl ?_
      refine lv_lload_n hx hb d_P_zeroOfRange_39 rfl (lv_at hl 2 rfl) ?_
      refine lv_iload hx hb d_P_zeroOfRange_40 (lv_at hl 3 rfl) ?_
      obtain ⟨hs12, hQ⟩ := hQ
      refine g_cSlE (va_runS (As := [.long x3.toInt64, .long r9.toInt64, .long w, .int up]) (rest := []) ⟨hx, hb, hml, hown, ht⟩ (c_P_zeroBetween l x3.toInt64 r9.toInt64 w up hs12) (va_cwS 4 ht gc_P_224 rfl rfl rfl (by decide +kernel) ⟨Nat.le_of_ble_eq_true rfl, Nat.le_of_ble_eq_true rfl⟩) (g_pr0 _) rfl rfl hl.1 rfl (lv_room (Nat.le_of_ble_eq_true rfl)) d_P_zeroOfRange_42 ⟨Nat.le_of_ble_eq_true rfl, Nat.le_of_ble_eq_true rfl⟩) ?_
      exact W.lret (v := f_P_zeroBetween x3.toInt64 r9.toInt64 w up) hx hb hr (fun t hh hW => ⟨_, rfl, hF.symm, hh⟩) (fun _ h => by cases h) d_P_zeroOfRange_45
    refine lv_icmp_ge (tgt := 25) hx hb d_P_zeroOfRange_15 (by decide) (fun c15 => ?_) (fun c15 => ?_)
    ·
      have c15 : lo ≤ (σ.1 0 9) := c15
      have hT6 := Eq.mp (if_pos c15) hT6
      refine lv_aload_n hx hb d_P_zeroOfRange_25 rfl (lv_at hl 0 rfl) ?_
      refine g_get hx hb ht in_P hown hK hP (0) x_at0 rfl 8 (by decide) rfl (ht _ kw137) (fun _ h9 => h9) (v := .int (σ.1 0 8)) rfl d_P_zeroOfRange_26 ?_
      exact J29_4 (σ.1 0 8) ls (if_pos c15).symm (lv_sub hl [2, 3, 4] rfl)
    ·
      have c15 : ¬ (lo ≤ (σ.1 0 9)) := c15
      have hT6 := Eq.mp (if_neg c15) hT6
      refine lv_iload_n hx hb d_P_zeroOfRange_18 rfl (lv_at hl 1 rfl) ?_
      obtain ⟨hs16, hT6⟩ := hT6
      refine g_cSiE (va_runS (As := [.int lo]) (rest := []) ⟨hx, hb, hml, hown, ht⟩ (c_P_priceOf l tb lo hs16) (va_cwS 1 ht gc_P_59 rfl rfl rfl (by decide +kernel) ⟨Nat.le_of_ble_eq_true rfl, Nat.le_of_ble_eq_true rfl⟩) (g_prZ x_Zok hS hz _) rfl rfl hl.1 rfl (lv_room (Nat.le_of_ble_eq_true rfl)) d_P_zeroOfRange_19 ⟨Nat.le_of_ble_eq_true rfl, Nat.le_of_ble_eq_true rfl⟩) ?_
      refine lv_goto (tgt := 29) hx hb d_P_zeroOfRange_22 (by decide) ?_
      exact J29_4 (f_P_priceOf lo) ls (if_neg c15).symm (lv_sub hl [2, 3, 4] rfl)
  ·
    have c1 : ¬ ((σ.1 0 9) < hi) := c1
    have hF : f_P_zeroOfRange σ lo hi w up = f_P_zeroOfRange_8_19 σ lo hi w up := hF.trans (if_neg c1)
    have hQ : k_P_zeroOfRange_8_19 σ lo hi w up := Eq.mp (if_neg c1) hQ
    refine lv_lconst (v := (0 : Int64)) hx hb d_P_zeroOfRange_8 (by decide) ?_
    exact W.lret (v := (0 : Int64)) hx hb hr (fun t hh hW => ⟨_, rfl, hF.symm, hh⟩) (fun _ h => by cases h) d_P_zeroOfRange_9
def f_P_oneOfRange_32_11 (σ : g_S) (lo : Int32) (hi : Int32) (w : Int64) (up : Int32) (x3 : Int32) (r9 : Int32) : Int64 := f_P_oneBetween r9.toInt64 x3.toInt64 w up
def k_P_oneOfRange_32_11 (σ : g_S) (lo : Int32) (hi : Int32) (w : Int64) (up : Int32) (x3 : Int32) (r9 : Int32) : Prop := (k_P_oneBetween r9.toInt64 x3.toInt64 w up) ∧ True
def f_P_oneOfRange_29_7 (σ : g_S) (lo : Int32) (hi : Int32) (w : Int64) (up : Int32) (x3 : Int32) : Int64 := (f_P_oneOfRange_32_11 σ lo hi w up x3 (f_P_priceOf lo))
def k_P_oneOfRange_29_7 (σ : g_S) (lo : Int32) (hi : Int32) (w : Int64) (up : Int32) (x3 : Int32) : Prop := (k_P_priceOf lo) ∧ (k_P_oneOfRange_32_11 σ lo hi w up x3 (f_P_priceOf lo))
def f_P_oneOfRange_10_2 (σ : g_S) (lo : Int32) (hi : Int32) (w : Int64) (up : Int32) : Int64 := (f_P_oneOfRange_29_7 σ lo hi w up (if (σ.1 0 9) < hi then σ.1 0 8 else f_P_priceOf hi))
def k_P_oneOfRange_10_2 (σ : g_S) (lo : Int32) (hi : Int32) (w : Int64) (up : Int32) : Prop := (if (σ.1 0 9) < hi then True else (k_P_priceOf hi) ∧ True) ∧ (k_P_oneOfRange_29_7 σ lo hi w up (if (σ.1 0 9) < hi then σ.1 0 8 else f_P_priceOf hi))
def f_P_oneOfRange_8_19 (σ : g_S) (lo : Int32) (hi : Int32) (w : Int64) (up : Int32) : Int64 := (0 : Int64)
def k_P_oneOfRange_8_19 (σ : g_S) (lo : Int32) (hi : Int32) (w : Int64) (up : Int32) : Prop := True
def f_P_oneOfRange (σ : g_S) (lo : Int32) (hi : Int32) (w : Int64) (up : Int32) : Int64 := (if lo ≤ (σ.1 0 9) then f_P_oneOfRange_10_2 σ lo hi w up else f_P_oneOfRange_8_19 σ lo hi w up)
def k_P_oneOfRange (σ : g_S) (lo : Int32) (hi : Int32) (w : Int64) (up : Int32) : Prop := (if lo ≤ (σ.1 0 9) then k_P_oneOfRange_10_2 σ lo hi w up else k_P_oneOfRange_8_19 σ lo hi w up)
set_option maxHeartbeats 4000000 in
set_option maxRecDepth 100000 in
theorem c_P_oneOfRange (l : Launch) (dC : Nat → ClassId) (dI : Nat → Nat → Nat) (dA : Nat → ClassId) (ad : Nat → Nat) (tb : Nat) (σ : g_S) (lo : Int32) (hi : Int32) (w : Int64) (up : Int32) (hQ : k_P_oneOfRange σ lo hi w up) : Met l y_P_oneOfRange w_P_oneOfRange ({ frames := 2, cells := 0, slots := 0, locals := 52 }) (va_Pc [.ref (ad 0), .int lo, .int hi, .long w, .int up] (g_R (dC, dI) cls (x_tys dA) (g_w x_sh dA ad σ) (x_Z tb))) (vp_Sl (fun r => r = f_P_oneOfRange σ lo hi w up)) 0 0 (fun _ => False) := by
  refine Met.ofW (cc := b_P_oneOfRange) (maxL := 7) (ret := (some .long)) (by decide) rfl ?_
  intro p e s m args below meth c s₁ B hml hv
  obtain ⟨rfl, hP, hK, hz⟩ := hv
  have hx := B.exec
  have hb := B.bytes
  have hr := B.returns
  have hts := atoms_spec (ws := w_P_oneOfRange) B.pre
  have ht := fun (w : Cond) (h : w ∈ gA) => hts w (List.mem_cons_of_mem _ h)
  have hown : s.vm.findClass "RangedPool" = some m.cls := findClass_of_methodNamed B.named
  have hlocks := B.notSynchronized
  have hS : va_S (fun _ => False) s.heap s.heap [] := va_S.rf
  have hl := lv_entry ([.ref (ad 0), .int lo, .int hi, .long w, .int up]) (n := 7) (Nat.le_of_ble_eq_true rfl)
  rw [lg_entry_eq]
  generalize (lg_sl ([.ref (ad 0), .int lo, .int hi, .long w, .int up]) ++ List.replicate (7 - (lg_sl ([.ref (ad 0), .int lo, .int hi, .long w, .int up])).length) Slot.unset).toArray = ls at hl ⊢
  have hl : lv_has ls 7 [(0, .ref (ad 0)), (1, .int lo), (2, .int hi), (3, .long w), (5, .int up)] := hl
  have hF : f_P_oneOfRange σ lo hi w up = f_P_oneOfRange σ lo hi w up := rfl
  refine lv_aload_n hx hb d_P_oneOfRange_0 rfl (lv_at hl 0 rfl) ?_
  refine g_get hx hb ht in_P hown hK hP (0) x_at0 rfl 9 (by decide) rfl (ht _ kw138) (fun _ h9 => h9) (v := .int (σ.1 0 9)) rfl d_P_oneOfRange_1 ?_
  refine lv_iload_n hx hb d_P_oneOfRange_4 rfl (lv_at hl 1 rfl) ?_
  refine lv_icmp_ge (tgt := 10) hx hb d_P_oneOfRange_5 (by decide) (fun c1 => ?_) (fun c1 => ?_)
  ·
    have c1 : lo ≤ (σ.1 0 9) := c1
    have hF : f_P_oneOfRange σ lo hi w up = f_P_oneOfRange_10_2 σ lo hi w up := hF.trans (if_pos c1)
    have hQ : k_P_oneOfRange_10_2 σ lo hi w up := Eq.mp (if_pos c1) hQ
    refine lv_aload_n hx hb d_P_oneOfRange_10 rfl (lv_at hl 0 rfl) ?_
    refine g_get hx hb ht in_P hown hK hP (0) x_at0 rfl 9 (by decide) rfl (ht _ kw138) (fun _ h9 => h9) (v := .int (σ.1 0 9)) rfl d_P_oneOfRange_11 ?_
    refine lv_iload_n hx hb d_P_oneOfRange_14 rfl (lv_at hl 2 rfl) ?_
    obtain ⟨hT6, hQ⟩ := hQ
    have J29_4 : ∀ (x3 : Int32) (ls : Array Slot), x3 = (if (σ.1 0 9) < hi then σ.1 0 8 else f_P_priceOf hi) → lv_has ls 7 [(1, .int lo), (3, .long w), (5, .int up)] → W p l e (headSpec w_P_oneOfRange ({ frames := 2, cells := 0, slots := 0, locals := 52 })).room s m ([.ref (ad 0), .int lo, .int hi, .long w, .int up] : List Value).toArray below meth c s.heap [] 0 0 (MQ below (vp_Sl (fun r => r = f_P_oneOfRange σ lo hi w up)) ([.ref (ad 0), .int lo, .int hi, .long w, .int up] : List Value).toArray s 0 0 (fun _ => False)) (F0 m 29 ls [.int x3]) := by
      intro x3 ls e5 hl
      have hF : f_P_oneOfRange σ lo hi w up = f_P_oneOfRange_29_7 σ lo hi w up x3 := hF.trans (by rw [e5]; try rfl)
      have hQ : k_P_oneOfRange_29_7 σ lo hi w up x3 := by rw [e5]; exact hQ
      refine lv_istore (lv' := [(6, .int x3), (1, .int lo), (3, .long w), (5, .int up)]) hx hb d_P_oneOfRange_29 hl (by decide) rfl (fun ls hl => ?_)
      refine lv_iload_n hx hb d_P_oneOfRange_31 rfl (lv_at hl 1 rfl) ?_
      obtain ⟨hs8, hQ⟩ := hQ
      refine g_cSi (va_runS (As := [.int lo]) (rest := []) ⟨hx, hb, hml, hown, ht⟩ (c_P_priceOf l tb lo hs8) (va_cwS 1 ht gc_P_59 rfl rfl rfl (by decide +kernel) ⟨Nat.le_of_ble_eq_true rfl, Nat.le_of_ble_eq_true rfl⟩) (g_prZ x_Zok hS hz _) rfl rfl hl.1 rfl (lv_room (Nat.le_of_ble_eq_true rfl)) d_P_oneOfRange_32 ⟨Nat.le_of_ble_eq_true rfl, Nat.le_of_ble_eq_true rfl⟩) (fun r9 e10 => ?_)
      have hF : f_P_oneOfRange σ lo hi w up = f_P_oneOfRange_32_11 σ lo hi w up x3 r9 := hF.trans (by rw [e10]; try rfl)
      have hQ : k_P_oneOfRange_32_11 σ lo hi w up x3 r9 := by rw [e10]; exact hQ
      refine lv_i2l (v := r9.toInt64) hx hb d_P_oneOfRange_35 rfl ?_
      refine lv_iload hx hb d_P_oneOfRange_36 (lv_at hl 0 rfl) ?_
      refine lv_i2l (v := x3.toInt64) hx hb d_P_oneOfRange_38 rfl ?_
      refine lv_lload_n hx hb d_P_oneOfRange_39 rfl (lv_at hl 2 rfl) ?_
      refine lv_iload hx hb d_P_oneOfRange_40 (lv_at hl 3 rfl) ?_
      obtain ⟨hs12, hQ⟩ := hQ
      refine g_cSlE (va_runS (As := [.long r9.toInt64, .long x3.toInt64, .long w, .int up]) (rest := []) ⟨hx, hb, hml, hown, ht⟩ (c_P_oneBetween l r9.toInt64 x3.toInt64 w up hs12) (va_cwS 4 ht gc_P_228 rfl rfl rfl (by decide +kernel) ⟨Nat.le_of_ble_eq_true rfl, Nat.le_of_ble_eq_true rfl⟩) (g_pr0 _) rfl rfl hl.1 rfl (lv_room (Nat.le_of_ble_eq_true rfl)) d_P_oneOfRange_42 ⟨Nat.le_of_ble_eq_true rfl, Nat.le_of_ble_eq_true rfl⟩) ?_
      exact W.lret (v := f_P_oneBetween r9.toInt64 x3.toInt64 w up) hx hb hr (fun t hh hW => ⟨_, rfl, hF.symm, hh⟩) (fun _ h => by cases h) d_P_oneOfRange_45
    refine lv_icmp_lt (tgt := 25) hx hb d_P_oneOfRange_15 (by decide) (fun c15 => ?_) (fun c15 => ?_)
    ·
      have c15 : (σ.1 0 9) < hi := c15
      have hT6 := Eq.mp (if_pos c15) hT6
      refine lv_aload_n hx hb d_P_oneOfRange_25 rfl (lv_at hl 0 rfl) ?_
      refine g_get hx hb ht in_P hown hK hP (0) x_at0 rfl 8 (by decide) rfl (ht _ kw137) (fun _ h9 => h9) (v := .int (σ.1 0 8)) rfl d_P_oneOfRange_26 ?_
      exact J29_4 (σ.1 0 8) ls (if_pos c15).symm (lv_sub hl [1, 3, 4] rfl)
    ·
      have c15 : ¬ ((σ.1 0 9) < hi) := c15
      have hT6 := Eq.mp (if_neg c15) hT6
      refine lv_iload_n hx hb d_P_oneOfRange_18 rfl (lv_at hl 2 rfl) ?_
      obtain ⟨hs16, hT6⟩ := hT6
      refine g_cSiE (va_runS (As := [.int hi]) (rest := []) ⟨hx, hb, hml, hown, ht⟩ (c_P_priceOf l tb hi hs16) (va_cwS 1 ht gc_P_59 rfl rfl rfl (by decide +kernel) ⟨Nat.le_of_ble_eq_true rfl, Nat.le_of_ble_eq_true rfl⟩) (g_prZ x_Zok hS hz _) rfl rfl hl.1 rfl (lv_room (Nat.le_of_ble_eq_true rfl)) d_P_oneOfRange_19 ⟨Nat.le_of_ble_eq_true rfl, Nat.le_of_ble_eq_true rfl⟩) ?_
      refine lv_goto (tgt := 29) hx hb d_P_oneOfRange_22 (by decide) ?_
      exact J29_4 (f_P_priceOf hi) ls (if_neg c15).symm (lv_sub hl [1, 3, 4] rfl)
  ·
    have c1 : ¬ (lo ≤ (σ.1 0 9)) := c1
    have hF : f_P_oneOfRange σ lo hi w up = f_P_oneOfRange_8_19 σ lo hi w up := hF.trans (if_neg c1)
    have hQ : k_P_oneOfRange_8_19 σ lo hi w up := Eq.mp (if_neg c1) hQ
    refine lv_lconst (v := (0 : Int64)) hx hb d_P_oneOfRange_8 (by decide) ?_
    exact W.lret (v := (0 : Int64)) hx hb hr (fun t hh hW => ⟨_, rfl, hF.symm, hh⟩) (fun _ h => by cases h) d_P_oneOfRange_9
def f_H_reaches_22_2 (σ : g_S) (tm : Int64) : Int32 := (0 : Int32)
def f_H_reaches_22_5 (σ : g_S) (tm : Int64) : Int32 := (0 : Int32)
def f_H_reaches_18_6 (σ : g_S) (tm : Int64) : Int32 := (1 : Int32)
def f_H_reaches_7_3 (σ : g_S) (tm : Int64) : Int32 := (if tm < (σ.2 6 0) then f_H_reaches_22_5 σ tm else f_H_reaches_18_6 σ tm)
def f_H_reaches (σ : g_S) (tm : Int64) : Int32 := (if (σ.1 5 2) ≤ 0 then f_H_reaches_22_2 σ tm else f_H_reaches_7_3 σ tm)
set_option maxHeartbeats 4000000 in
set_option maxRecDepth 100000 in
theorem c_H_reaches (l : Launch) (dC : Nat → ClassId) (dI : Nat → Nat → Nat) (dA : Nat → ClassId) (ad : Nat → Nat) (tb : Nat) (σ : g_S) (tm : Int64) : Met l y_H_reaches w_H_reaches ({ frames := 0, cells := 0, slots := 0, locals := 0 }) (va_Pc [.ref (ad 5), .long tm] (g_R (dC, dI) cls (x_tys dA) (g_w x_sh dA ad σ) (x_Z tb))) (vp_Si (fun r => r = f_H_reaches σ tm)) 0 0 (fun _ => False) := by
  refine Met.ofW (cc := b_H_reaches) (maxL := 3) (ret := (some .boolean)) (by decide) rfl ?_
  intro p e s m args below meth c s₁ B hml hv
  obtain ⟨rfl, hP, hK, hz⟩ := hv
  have hx := B.exec
  have hb := B.bytes
  have hr := B.returns
  have hts := atoms_spec (ws := w_H_reaches) B.pre
  have ht := fun (w : Cond) (h : w ∈ gA) => hts w (List.mem_cons_of_mem _ h)
  have hown : s.vm.findClass "RangedPool$History" = some m.cls := findClass_of_methodNamed B.named
  have hlocks := B.notSynchronized
  have hS : va_S (fun _ => False) s.heap s.heap [] := va_S.rf
  have hl := lv_entry ([.ref (ad 5), .long tm]) (n := 3) (Nat.le_of_ble_eq_true rfl)
  rw [lg_entry_eq]
  generalize (lg_sl ([.ref (ad 5), .long tm]) ++ List.replicate (3 - (lg_sl ([.ref (ad 5), .long tm])).length) Slot.unset).toArray = ls at hl ⊢
  have hl : lv_has ls 3 [(0, .ref (ad 5)), (1, .long tm)] := hl
  have hF : f_H_reaches σ tm = f_H_reaches σ tm := rfl
  refine lv_aload_n hx hb d_H_reaches_0 rfl (lv_at hl 0 rfl) ?_
  refine g_get hx hb ht in_H hown hK hP (5) x_at5 rfl 2 (by decide) rfl (ht _ kw73) (fun _ h9 => h9) (v := .int (σ.1 5 2)) rfl d_H_reaches_1 ?_
  refine lv_if_le (tgt := 22) hx hb d_H_reaches_4 (by decide) (fun c1 => ?_) (fun c1 => ?_)
  ·
    have c1 : (σ.1 5 2) ≤ 0 := c1
    have hF : f_H_reaches σ tm = f_H_reaches_22_2 σ tm := hF.trans (if_pos c1)
    refine lv_iconst (v := (0 : Int32)) hx hb d_H_reaches_22 (by decide) ?_
    exact W.zret (ty := .boolean) (v := (0 : Int32)) hx hb hr (g_zr (by decide)) (fun t hh hW => ⟨_, rfl, hF.symm, hh⟩) (fun _ h => by cases h) d_H_reaches_23
  ·
    have c1 : ¬ ((σ.1 5 2) ≤ 0) := c1
    have hF : f_H_reaches σ tm = f_H_reaches_7_3 σ tm := hF.trans (if_neg c1)
    refine lv_lload_n hx hb d_H_reaches_7 rfl (lv_at hl 1 rfl) ?_
    refine lv_aload_n hx hb d_H_reaches_8 rfl (lv_at hl 0 rfl) ?_
    refine g_get hx hb ht in_H hown hK hP (5) x_at5 rfl 3 (by decide) rfl (ht _ kw74) (fun _ h9 => h9) (v := .ref (ad 6)) rfl d_H_reaches_9 ?_
    refine lv_iconst (v := (0 : Int32)) hx hb d_H_reaches_12 (by decide) ?_
    refine g_lald hx hb hK hP (6) x_at6 rfl (by unfold vp_in; decide) (j := 0) (by decide) d_H_reaches_13 ?_
    refine W.lcmp hx hb d_H_reaches_14 ?_
    refine lv_if_lt (tgt := 22) hx hb d_H_reaches_15 (by decide) (fun c4 => ?_) (fun c4 => ?_)
    ·
      have c4 : tm < (σ.2 6 0) := (lg_cmp_lt _ _).mp c4
      have hF : f_H_reaches σ tm = f_H_reaches_22_5 σ tm := hF.trans (if_pos c4)
      refine lv_iconst (v := (0 : Int32)) hx hb d_H_reaches_22 (by decide) ?_
      exact W.zret (ty := .boolean) (v := (0 : Int32)) hx hb hr (g_zr (by decide)) (fun t hh hW => ⟨_, rfl, hF.symm, hh⟩) (fun _ h => by cases h) d_H_reaches_23
    ·
      have c4 : ¬ (tm < (σ.2 6 0)) := mt (lg_cmp_lt _ _).mpr c4
      have hF : f_H_reaches σ tm = f_H_reaches_18_6 σ tm := hF.trans (if_neg c4)
      refine lv_iconst (v := (1 : Int32)) hx hb d_H_reaches_18 (by decide) ?_
      refine lv_goto (tgt := 23) hx hb d_H_reaches_19 (by decide) ?_
      exact W.zret (ty := .boolean) (v := (1 : Int32)) hx hb hr (g_zr (by decide)) (fun t hh hW => ⟨_, rfl, hF.symm, hh⟩) (fun _ h => by cases h) d_H_reaches_23
def f_H_sumAt_73_12 (σ : g_S) (tm : Int64) (now : Int32) (b5 : Int32) (b6 : Int64) (b7 : Int64) : Int64 := b6 - (b5.toInt64 * (b7 - tm))
def k_H_sumAt_73_12 (σ : g_S) (tm : Int64) (now : Int32) (b5 : Int32) (b6 : Int64) (b7 : Int64) : Prop := True
def f_H_sumAt_L23 (σ : g_S) (tm : Int64) (now : Int32) : Nat → Int32 → Int64 → Int64 → Int32 × Int64 × Int64
  | 0, a1, a2, a3 => (a1, a2, a3)
  | jn + 1, a1, a2, a3 => (if (σ.2 6 jn) ≤ tm then (a1, a2, a3) else f_H_sumAt_L23 σ tm now jn (σ.1 8 jn) (σ.2 7 jn) (σ.2 6 jn))
def f_H_sumAt (σ : g_S) (tm : Int64) (now : Int32) : Int64 := (f_H_sumAt_73_12 σ tm now ((f_H_sumAt_L23 σ tm now ((σ.1 5 2).toNatClampNeg) now (σ.2 5 1) (σ.2 5 0)).1) ((f_H_sumAt_L23 σ tm now ((σ.1 5 2).toNatClampNeg) now (σ.2 5 1) (σ.2 5 0)).2.1) ((f_H_sumAt_L23 σ tm now ((σ.1 5 2).toNatClampNeg) now (σ.2 5 1) (σ.2 5 0)).2.2))
def k_H_sumAt (σ : g_S) (tm : Int64) (now : Int32) : Prop := (Int32.ofNat (σ.1 5 2).toNatClampNeg + (-1 : Int32) = σ.1 5 2 - (1 : Int32) ∧ (σ.1 5 2).toNatClampNeg ≤ 8) ∧ (k_H_sumAt_73_12 σ tm now ((f_H_sumAt_L23 σ tm now ((σ.1 5 2).toNatClampNeg) now (σ.2 5 1) (σ.2 5 0)).1) ((f_H_sumAt_L23 σ tm now ((σ.1 5 2).toNatClampNeg) now (σ.2 5 1) (σ.2 5 0)).2.1) ((f_H_sumAt_L23 σ tm now ((σ.1 5 2).toNatClampNeg) now (σ.2 5 1) (σ.2 5 0)).2.2))
set_option maxHeartbeats 4000000 in
set_option maxRecDepth 100000 in
theorem c_H_sumAt (l : Launch) (dC : Nat → ClassId) (dI : Nat → Nat → Nat) (dA : Nat → ClassId) (ad : Nat → Nat) (tb : Nat) (σ : g_S) (tm : Int64) (now : Int32) (hQ : k_H_sumAt σ tm now) : Met l y_H_sumAt w_H_sumAt ({ frames := 0, cells := 0, slots := 0, locals := 0 }) (va_Pc [.ref (ad 5), .long tm, .int now] (g_R (dC, dI) cls (x_tys dA) (g_w x_sh dA ad σ) (x_Z tb))) (vp_Sl (fun r => r = f_H_sumAt σ tm now)) 0 0 (fun _ => False) := by
  refine Met.ofW (cc := b_H_sumAt) (maxL := 10) (ret := (some .long)) (by decide) rfl ?_
  intro p e s m args below meth c s₁ B hml hv
  obtain ⟨rfl, hP, hK, hz⟩ := hv
  have hx := B.exec
  have hb := B.bytes
  have hr := B.returns
  have hts := atoms_spec (ws := w_H_sumAt) B.pre
  have ht := fun (w : Cond) (h : w ∈ gA) => hts w (List.mem_cons_of_mem _ h)
  have hown : s.vm.findClass "RangedPool$History" = some m.cls := findClass_of_methodNamed B.named
  have hlocks := B.notSynchronized
  have hS : va_S (fun _ => False) s.heap s.heap [] := va_S.rf
  have hl := lv_entry ([.ref (ad 5), .long tm, .int now]) (n := 10) (Nat.le_of_ble_eq_true rfl)
  rw [lg_entry_eq]
  generalize (lg_sl ([.ref (ad 5), .long tm, .int now]) ++ List.replicate (10 - (lg_sl ([.ref (ad 5), .long tm, .int now])).length) Slot.unset).toArray = ls at hl ⊢
  have hl : lv_has ls 10 [(0, .ref (ad 5)), (1, .long tm), (3, .int now)] := hl
  have hF : f_H_sumAt σ tm now = f_H_sumAt σ tm now := rfl
  refine lv_aload_n hx hb d_H_sumAt_0 rfl (lv_at hl 0 rfl) ?_
  refine g_get hx hb ht in_H hown hK hP (5) x_at5 rfl 0 (by decide) rfl (ht _ kw70) (fun _ h9 => h9) (v := .long (σ.2 5 0)) rfl d_H_sumAt_1 ?_
  refine lv_lstore (lv' := [(4, .long (σ.2 5 0)), (0, .ref (ad 5)), (1, .long tm), (3, .int now)]) hx hb d_H_sumAt_4 hl (by decide) rfl (fun ls hl => ?_)
  refine lv_aload_n hx hb d_H_sumAt_6 rfl (lv_at hl 1 rfl) ?_
  refine g_get hx hb ht in_H hown hK hP (5) x_at5 rfl 1 (by decide) rfl (ht _ kw72) (fun _ h9 => h9) (v := .long (σ.2 5 1)) rfl d_H_sumAt_7 ?_
  refine lv_lstore (lv' := [(6, .long (σ.2 5 1)), (4, .long (σ.2 5 0)), (0, .ref (ad 5)), (1, .long tm), (3, .int now)]) hx hb d_H_sumAt_10 hl (by decide) rfl (fun ls hl => ?_)
  refine lv_iload_n hx hb d_H_sumAt_12 rfl (lv_at hl 4 rfl) ?_
  refine lv_istore (lv' := [(8, .int now), (6, .long (σ.2 5 1)), (4, .long (σ.2 5 0)), (0, .ref (ad 5)), (1, .long tm), (3, .int now)]) hx hb d_H_sumAt_13 hl (by decide) rfl (fun ls hl => ?_)
  refine lv_aload_n hx hb d_H_sumAt_15 rfl (lv_at hl 3 rfl) ?_
  refine g_get hx hb ht in_H hown hK hP (5) x_at5 rfl 2 (by decide) rfl (ht _ kw73) (fun _ h9 => h9) (v := .int (σ.1 5 2)) rfl d_H_sumAt_16 ?_
  refine lv_iconst (v := (1 : Int32)) hx hb d_H_sumAt_19 (by decide) ?_
  refine lv_isub hx hb d_H_sumAt_20 ?_
  refine lv_istore (lv' := [(9, .int ((σ.1 5 2) - (1 : Int32))), (8, .int now), (6, .long (σ.2 5 1)), (4, .long (σ.2 5 0)), (0, .ref (ad 5)), (1, .long tm), (3, .int now)]) hx hb d_H_sumAt_21 hl (by decide) rfl (fun ls hl => ?_)
  obtain ⟨hs4, hQ⟩ := hQ
  have hen := hs4
  rw [← hen.1] at hl
  have J73_8 : ∀ (b5 : Int32) (b6 : Int64) (b7 : Int64) (ls : Array Slot), b5 = (f_H_sumAt_L23 σ tm now ((σ.1 5 2).toNatClampNeg) now (σ.2 5 1) (σ.2 5 0)).1 → b6 = (f_H_sumAt_L23 σ tm now ((σ.1 5 2).toNatClampNeg) now (σ.2 5 1) (σ.2 5 0)).2.1 → b7 = (f_H_sumAt_L23 σ tm now ((σ.1 5 2).toNatClampNeg) now (σ.2 5 1) (σ.2 5 0)).2.2 → lv_has ls 10 [(8, .int b5), (6, .long b6), (4, .long b7), (1, .long tm)] → W p l e (headSpec w_H_sumAt ({ frames := 0, cells := 0, slots := 0, locals := 0 })).room s m ([.ref (ad 5), .long tm, .int now] : List Value).toArray below meth c s.heap [] 0 0 (MQ below (vp_Sl (fun r => r = f_H_sumAt σ tm now)) ([.ref (ad 5), .long tm, .int now] : List Value).toArray s 0 0 (fun _ => False)) (F0 m 73 ls []) := by
    intro b5 b6 b7 ls e9 e10 e11 hl
    have hF : f_H_sumAt σ tm now = f_H_sumAt_73_12 σ tm now b5 b6 b7 := hF.trans (by rw [e9, e10, e11]; try rfl)
    have hQ : k_H_sumAt_73_12 σ tm now b5 b6 b7 := by rw [e9, e10, e11]; exact hQ
    refine lv_lload hx hb d_H_sumAt_73 (lv_at hl 1 rfl) ?_
    refine lv_iload hx hb d_H_sumAt_75 (lv_at hl 0 rfl) ?_
    refine lv_i2l (v := b5.toInt64) hx hb d_H_sumAt_77 rfl ?_
    refine lv_lload hx hb d_H_sumAt_78 (lv_at hl 2 rfl) ?_
    refine lv_lload_n hx hb d_H_sumAt_80 rfl (lv_at hl 3 rfl) ?_
    refine lv_lsub hx hb d_H_sumAt_81 ?_
    refine lv_lmul hx hb d_H_sumAt_82 ?_
    refine lv_lsub hx hb d_H_sumAt_83 ?_
    exact W.lret (v := b6 - (b5.toInt64 * (b7 - tm))) hx hb hr (fun t hh hW => ⟨_, rfl, hF.symm, hh⟩) (fun _ h => by cases h) d_H_sumAt_84
  have LL23_13 : ∀ (jn : Nat) (a1 : Int32) (a2 : Int64) (a3 : Int64) (ls : Array Slot), jn ≤ (σ.1 5 2).toNatClampNeg → f_H_sumAt_L23 σ tm now ((σ.1 5 2).toNatClampNeg) now (σ.2 5 1) (σ.2 5 0) = f_H_sumAt_L23 σ tm now jn a1 a2 a3 → lv_has ls 10 [(9, .int (Int32.ofNat jn + (-1 : Int32))), (8, .int a1), (6, .long a2), (4, .long a3), (0, .ref (ad 5)), (1, .long tm)] → W p l e (headSpec w_H_sumAt ({ frames := 0, cells := 0, slots := 0, locals := 0 })).room s m ([.ref (ad 5), .long tm, .int now] : List Value).toArray below meth c s.heap [] 0 0 (MQ below (vp_Sl (fun r => r = f_H_sumAt σ tm now)) ([.ref (ad 5), .long tm, .int now] : List Value).toArray s 0 0 (fun _ => False)) (F0 m 23 ls []) := by
    intro jn
    induction jn with
    | zero =>
      intro a1 a2 a3 ls hkn hF hl
      have hF : f_H_sumAt_L23 σ tm now ((σ.1 5 2).toNatClampNeg) now (σ.2 5 1) (σ.2 5 0) = (a1, a2, a3) := hF
      skip
      refine lv_iload hx hb d_H_sumAt_23 (lv_at hl 0 rfl) ?_
      refine lv_if_lt (tgt := 73) hx hb d_H_sumAt_25 (by decide) (fun _ => ?_) (fun c14 => absurd (by decide) c14)
      exact J73_8 a1 a2 a3 ls (congrArg (fun z => z.1) hF).symm (congrArg (fun z => z.2.1) hF).symm (congrArg (fun z => z.2.2) hF).symm (lv_sub hl [1, 2, 3, 5] rfl)
    | succ jn ih =>
      intro a1 a2 a3 ls hkn hF hl
      have hen2 := hen.2
      have hF : f_H_sumAt_L23 σ tm now ((σ.1 5 2).toNatClampNeg) now (σ.2 5 1) (σ.2 5 0) = (if (σ.2 6 jn) ≤ tm then (a1, a2, a3) else f_H_sumAt_L23 σ tm now jn (σ.1 8 jn) (σ.2 7 jn) (σ.2 6 jn)) := hF
      skip
      rw [g_dn] at hl
      refine lv_iload hx hb d_H_sumAt_23 (lv_at hl 0 rfl) ?_
      refine lv_if_lt (tgt := 73) hx hb d_H_sumAt_25 (by decide) (fun c15 => absurd c15 (g_nneg (by omega))) (fun _ => ?_)
      refine lv_aload_n hx hb d_H_sumAt_28 rfl (lv_at hl 4 rfl) ?_
      refine g_get hx hb ht in_H hown hK hP (5) x_at5 rfl 3 (by decide) rfl (ht _ kw74) (fun _ h9 => h9) (v := .ref (ad 6)) rfl d_H_sumAt_29 ?_
      refine lv_iload hx hb d_H_sumAt_32 (lv_at hl 0 rfl) ?_
      refine g_lald hx hb hK hP (6) x_at6 rfl (g_eix rfl (by omega) (by omega)) (j := jn) (g_ena rfl (by omega)) d_H_sumAt_34 ?_
      refine lv_lload_n hx hb d_H_sumAt_35 rfl (lv_at hl 5 rfl) ?_
      refine W.lcmp hx hb d_H_sumAt_36 ?_
      refine lv_if_le (tgt := 73) hx hb d_H_sumAt_37 (by decide) (fun c16 => ?_) (fun c16 => ?_)
      ·
        have c16 : (σ.2 6 jn) ≤ tm := (lg_cmp_le _ _).mp c16
        have hF := hF.trans (if_pos c16)
        exact J73_8 a1 a2 a3 ls (congrArg (fun z => z.1) hF).symm (congrArg (fun z => z.2.1) hF).symm (congrArg (fun z => z.2.2) hF).symm (lv_sub hl [1, 2, 3, 5] rfl)
      ·
        have c16 : ¬ ((σ.2 6 jn) ≤ tm) := mt (lg_cmp_le _ _).mpr c16
        have hF := hF.trans (if_neg c16)
        refine lv_aload_n hx hb d_H_sumAt_40 rfl (lv_at hl 4 rfl) ?_
        refine g_get hx hb ht in_H hown hK hP (5) x_at5 rfl 3 (by decide) rfl (ht _ kw74) (fun _ h9 => h9) (v := .ref (ad 6)) rfl d_H_sumAt_41 ?_
        refine lv_iload hx hb d_H_sumAt_44 (lv_at hl 0 rfl) ?_
        refine g_lald hx hb hK hP (6) x_at6 rfl (g_eix rfl (by omega) (by omega)) (j := jn) (g_ena rfl (by omega)) d_H_sumAt_46 ?_
        refine lv_lstore (lv' := [(4, .long (σ.2 6 jn)), (9, .int (Int32.ofNat jn)), (8, .int a1), (6, .long a2), (0, .ref (ad 5)), (1, .long tm)]) hx hb d_H_sumAt_47 hl (by decide) rfl (fun ls hl => ?_)
        refine lv_aload_n hx hb d_H_sumAt_49 rfl (lv_at hl 4 rfl) ?_
        refine g_get hx hb ht in_H hown hK hP (5) x_at5 rfl 4 (by decide) rfl (ht _ kw75) (fun _ h9 => h9) (v := .ref (ad 7)) rfl d_H_sumAt_50 ?_
        refine lv_iload hx hb d_H_sumAt_53 (lv_at hl 1 rfl) ?_
        refine g_lald hx hb hK hP (7) x_at7 rfl (g_eix rfl (by omega) (by omega)) (j := jn) (g_ena rfl (by omega)) d_H_sumAt_55 ?_
        refine lv_lstore (lv' := [(6, .long (σ.2 7 jn)), (4, .long (σ.2 6 jn)), (9, .int (Int32.ofNat jn)), (8, .int a1), (0, .ref (ad 5)), (1, .long tm)]) hx hb d_H_sumAt_56 hl (by decide) rfl (fun ls hl => ?_)
        refine lv_aload_n hx hb d_H_sumAt_58 rfl (lv_at hl 4 rfl) ?_
        refine g_get hx hb ht in_H hown hK hP (5) x_at5 rfl 5 (by decide) rfl (ht _ kw76) (fun _ h9 => h9) (v := .ref (ad 8)) rfl d_H_sumAt_59 ?_
        refine lv_iload hx hb d_H_sumAt_62 (lv_at hl 2 rfl) ?_
        refine g_iald hx hb hK hP (8) x_at8 rfl (g_eix rfl (by omega) (by omega)) (j := jn) (g_ena rfl (by omega)) d_H_sumAt_64 ?_
        refine lv_istore (lv' := [(8, .int (σ.1 8 jn)), (6, .long (σ.2 7 jn)), (4, .long (σ.2 6 jn)), (9, .int (Int32.ofNat jn)), (0, .ref (ad 5)), (1, .long tm)]) hx hb d_H_sumAt_65 hl (by decide) rfl (fun ls hl => ?_)
        refine lv_iinc (v := Int32.ofNat jn + (-1 : Int32)) (lv' := [(9, .int (Int32.ofNat jn + (-1 : Int32))), (8, .int (σ.1 8 jn)), (6, .long (σ.2 7 jn)), (4, .long (σ.2 6 jn)), (0, .ref (ad 5)), (1, .long tm)]) hx hb d_H_sumAt_67 hl (k := 3) rfl (rfl) (by decide) rfl (fun ls hl => ?_)
        refine lv_goto (tgt := 23) hx hb d_H_sumAt_70 (by decide) ?_
        exact ih (σ.1 8 jn) (σ.2 7 jn) (σ.2 6 jn) ls (by omega) hF (lv_sub hl [0, 1, 2, 3, 4, 5] rfl)
  exact LL23_13 ((σ.1 5 2).toNatClampNeg) now (σ.2 5 1) (σ.2 5 0) ls (Nat.le_refl _) rfl  (lv_sub hl [0, 1, 2, 3, 4, 5] rfl)
