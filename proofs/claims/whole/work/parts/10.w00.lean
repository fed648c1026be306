def f_P_isSpacing_26_2 (n : Int32) : Int32 := (0 : Int32)
def f_P_isSpacing_26_5 (n : Int32) : Int32 := (0 : Int32)
def f_P_isSpacing_26_8 (n : Int32) : Int32 := (0 : Int32)
def f_P_isSpacing_26_11 (n : Int32) : Int32 := (0 : Int32)
def f_P_isSpacing_22_12 (n : Int32) : Int32 := (1 : Int32)
def f_P_isSpacing_16_9 (n : Int32) : Int32 := (if n = (7 : Int32) then f_P_isSpacing_26_11 n else f_P_isSpacing_22_12 n)
def f_P_isSpacing_11_6 (n : Int32) : Int32 := (if n = (5 : Int32) then f_P_isSpacing_26_8 n else f_P_isSpacing_16_9 n)
def f_P_isSpacing_5_3 (n : Int32) : Int32 := (if (8 : Int32) < n then f_P_isSpacing_26_5 n else f_P_isSpacing_11_6 n)
def f_P_isSpacing (n : Int32) : Int32 := (if n < (1 : Int32) then f_P_isSpacing_26_2 n else f_P_isSpacing_5_3 n)
set_option maxHeartbeats 4000000 in
set_option maxRecDepth 100000 in
theorem c_P_isSpacing (l : Launch) (n : Int32) : Met l y_P_isSpacing w_P_isSpacing ({ frames := 0, cells := 0, slots := 0, locals := 0 }) (va_Pc [.int n] (fun _ => True)) (vp_Si (fun r => r = f_P_isSpacing n)) 0 0 (fun _ => False) := by
  refine Met.ofW (cc := b_P_isSpacing) (maxL := 1) (ret := (some .boolean)) (by decide) rfl ?_
  intro p e s m args below meth c s₁ B hml hv
  obtain ⟨rfl, -⟩ := hv
  have hx := B.exec
  have hb := B.bytes
  have hr := B.returns
  have hts := atoms_spec (ws := w_P_isSpacing) B.pre
  have ht := fun (w : Cond) (h : w ∈ gA) => hts w (List.mem_cons_of_mem _ h)
  have hown : s.vm.findClass "RangedPool" = some m.cls := findClass_of_methodNamed B.named
  have hlocks := B.notSynchronized
  have hl := lv_entry ([.int n]) (n := 1) (Nat.le_of_ble_eq_true rfl)
  rw [lg_entry_eq]
  generalize (lg_sl ([.int n]) ++ List.replicate (1 - (lg_sl ([.int n])).length) Slot.unset).toArray = ls at hl ⊢
  have hl : lv_has ls 1 [(0, .int n)] := hl
  have hF : f_P_isSpacing n = f_P_isSpacing n := rfl
  refine lv_iload_n hx hb d_P_isSpacing_0 rfl (lv_at hl 0 rfl) ?_
  refine lv_iconst (v := (1 : Int32)) hx hb d_P_isSpacing_1 (by decide) ?_
  refine lv_icmp_lt (tgt := 26) hx hb d_P_isSpacing_2 (by decide) (fun c1 => ?_) (fun c1 => ?_)
  ·
    have c1 : n < (1 : Int32) := c1
    have hF : f_P_isSpacing n = f_P_isSpacing_26_2 n := hF.trans (if_pos c1)
    refine lv_iconst (v := (0 : Int32)) hx hb d_P_isSpacing_26 (by decide) ?_
    exact W.zret (ty := .boolean) (v := (0 : Int32)) hx hb hr (g_zr (by decide)) (fun t hh hW => ⟨_, rfl, hF.symm, hh⟩) (fun _ h => by cases h) d_P_isSpacing_27
  ·
    have c1 : ¬ (n < (1 : Int32)) := c1
    have hF : f_P_isSpacing n = f_P_isSpacing_5_3 n := hF.trans (if_neg c1)
    refine lv_iload_n hx hb d_P_isSpacing_5 rfl (lv_at hl 0 rfl) ?_
    refine lv_bipush (v := (8 : Int32)) hx hb d_P_isSpacing_6 (by decide) ?_
    refine lv_icmp_gt (tgt := 26) hx hb d_P_isSpacing_8 (by decide) (fun c4 => ?_) (fun c4 => ?_)
    ·
      have c4 : (8 : Int32) < n := c4
      have hF : f_P_isSpacing n = f_P_isSpacing_26_5 n := hF.trans (if_pos c4)
      refine lv_iconst (v := (0 : Int32)) hx hb d_P_isSpacing_26 (by decide) ?_
      exact W.zret (ty := .boolean) (v := (0 : Int32)) hx hb hr (g_zr (by decide)) (fun t hh hW => ⟨_, rfl, hF.symm, hh⟩) (fun _ h => by cases h) d_P_isSpacing_27
    ·
      have c4 : ¬ ((8 : Int32) < n) := c4
      have hF : f_P_isSpacing n = f_P_isSpacing_11_6 n := hF.trans (if_neg c4)
      refine lv_iload_n hx hb d_P_isSpacing_11 rfl (lv_at hl 0 rfl) ?_
      refine lv_iconst (v := (5 : Int32)) hx hb d_P_isSpacing_12 (by decide) ?_
      refine lv_icmp_eq (tgt := 26) hx hb d_P_isSpacing_13 (by decide) (fun c7 => ?_) (fun c7 => ?_)
      ·
        have c7 : n = (5 : Int32) := c7
        have hF : f_P_isSpacing n = f_P_isSpacing_26_8 n := hF.trans (if_pos c7)
        refine lv_iconst (v := (0 : Int32)) hx hb d_P_isSpacing_26 (by decide) ?_
        exact W.zret (ty := .boolean) (v := (0 : Int32)) hx hb hr (g_zr (by decide)) (fun t hh hW => ⟨_, rfl, hF.symm, hh⟩) (fun _ h => by cases h) d_P_isSpacing_27
      ·
        have c7 : ¬ (n = (5 : Int32)) := c7
        have hF : f_P_isSpacing n = f_P_isSpacing_16_9 n := hF.trans (if_neg c7)
        refine lv_iload_n hx hb d_P_isSpacing_16 rfl (lv_at hl 0 rfl) ?_
        refine lv_bipush (v := (7 : Int32)) hx hb d_P_isSpacing_17 (by decide) ?_
        refine lv_icmp_eq (tgt := 26) hx hb d_P_isSpacing_19 (by decide) (fun c10 => ?_) (fun c10 => ?_)
        ·
          have c10 : n = (7 : Int32) := c10
          have hF : f_P_isSpacing n = f_P_isSpacing_26_11 n := hF.trans (if_pos c10)
          refine lv_iconst (v := (0 : Int32)) hx hb d_P_isSpacing_26 (by decide) ?_
          exact W.zret (ty := .boolean) (v := (0 : Int32)) hx hb hr (g_zr (by decide)) (fun t hh hW => ⟨_, rfl, hF.symm, hh⟩) (fun _ h => by cases h) d_P_isSpacing_27
        ·
          have c10 : ¬ (n = (7 : Int32)) := c10
          have hF : f_P_isSpacing n = f_P_isSpacing_22_12 n := hF.trans (if_neg c10)
          refine lv_iconst (v := (1 : Int32)) hx hb d_P_isSpacing_22 (by decide) ?_
          refine lv_goto (tgt := 27) hx hb d_P_isSpacing_23 (by decide) ?_
          exact W.zret (ty := .boolean) (v := (1 : Int32)) hx hb hr (g_zr (by decide)) (fun t hh hW => ⟨_, rfl, hF.symm, hh⟩) (fun _ h => by cases h) d_P_isSpacing_27
def f_P_isStep_16_2 (n : Int32) : Int32 := (0 : Int32)
def f_P_isStep_16_5 (n : Int32) : Int32 := (0 : Int32)
def f_P_isStep_12_6 (n : Int32) : Int32 := (1 : Int32)
def f_P_isStep_6_3 (n : Int32) : Int32 := (if (24 : Int32) < n then f_P_isStep_16_5 n else f_P_isStep_12_6 n)
def f_P_isStep (n : Int32) : Int32 := (if n < (-24 : Int32) then f_P_isStep_16_2 n else f_P_isStep_6_3 n)
set_option maxHeartbeats 4000000 in
set_option maxRecDepth 100000 in
theorem c_P_isStep (l : Launch) (n : Int32) : Met l y_P_isStep w_P_isStep ({ frames := 0, cells := 0, slots := 0, locals := 0 }) (va_Pc [.int n] (fun _ => True)) (vp_Si (fun r => r = f_P_isStep n)) 0 0 (fun _ => False) := by
  refine Met.ofW (cc := b_P_isStep) (maxL := 1) (ret := (some .boolean)) (by decide) rfl ?_
  intro p e s m args below meth c s₁ B hml hv
  obtain ⟨rfl, -⟩ := hv
  have hx := B.exec
  have hb := B.bytes
  have hr := B.returns
  have hts := atoms_spec (ws := w_P_isStep) B.pre
  have ht := fun (w : Cond) (h : w ∈ gA) => hts w (List.mem_cons_of_mem _ h)
  have hown : s.vm.findClass "RangedPool" = some m.cls := findClass_of_methodNamed B.named
  have hlocks := B.notSynchronized
  have hl := lv_entry ([.int n]) (n := 1) (Nat.le_of_ble_eq_true rfl)
  rw [lg_entry_eq]
  generalize (lg_sl ([.int n]) ++ List.replicate (1 - (lg_sl ([.int n])).length) Slot.unset).toArray = ls at hl ⊢
  have hl : lv_has ls 1 [(0, .int n)] := hl
  have hF : f_P_isStep n = f_P_isStep n := rfl
  refine lv_iload_n hx hb d_P_isStep_0 rfl (lv_at hl 0 rfl) ?_
  refine lv_bipush (v := (-24 : Int32)) hx hb d_P_isStep_1 (by decide) ?_
  refine lv_icmp_lt (tgt := 16) hx hb d_P_isStep_3 (by decide) (fun c1 => ?_) (fun c1 => ?_)
  ·
    have c1 : n < (-24 : Int32) := c1
    have hF : f_P_isStep n = f_P_isStep_16_2 n := hF.trans (if_pos c1)
    refine lv_iconst (v := (0 : Int32)) hx hb d_P_isStep_16 (by decide) ?_
    exact W.zret (ty := .boolean) (v := (0 : Int32)) hx hb hr (g_zr (by decide)) (fun t hh hW => ⟨_, rfl, hF.symm, hh⟩) (fun _ h => by cases h) d_P_isStep_17
  ·
    have c1 : ¬ (n < (-24 : Int32)) := c1
    have hF : f_P_isStep n = f_P_isStep_6_3 n := hF.trans (if_neg c1)
    refine lv_iload_n hx hb d_P_isStep_6 rfl (lv_at hl 0 rfl) ?_
    refine lv_bipush (v := (24 : Int32)) hx hb d_P_isStep_7 (by decide) ?_
    refine lv_icmp_gt (tgt := 16) hx hb d_P_isStep_9 (by decide) (fun c4 => ?_) (fun c4 => ?_)
    ·
      have c4 : (24 : Int32) < n := c4
      have hF : f_P_isStep n = f_P_isStep_16_5 n := hF.trans (if_pos c4)
      refine lv_iconst (v := (0 : Int32)) hx hb d_P_isStep_16 (by decide) ?_
      exact W.zret (ty := .boolean) (v := (0 : Int32)) hx hb hr (g_zr (by decide)) (fun t hh hW => ⟨_, rfl, hF.symm, hh⟩) (fun _ h => by cases h) d_P_isStep_17
    ·
      have c4 : ¬ ((24 : Int32) < n) := c4
      have hF : f_P_isStep n = f_P_isStep_12_6 n := hF.trans (if_neg c4)
      refine lv_iconst (v := (1 : Int32)) hx hb d_P_isStep_12 (by decide) ?_
      refine lv_goto (tgt := 17) hx hb d_P_isStep_13 (by decide) ?_
      exact W.zret (ty := .boolean) (v := (1 : Int32)) hx hb hr (g_zr (by decide)) (fun t hh hW => ⟨_, rfl, hF.symm, hh⟩) (fun _ h => by cases h) d_P_isStep_17
def f_P_isOwner_13_2 (o : Int32) : Int32 := (0 : Int32)
def f_P_isOwner_13_5 (o : Int32) : Int32 := (0 : Int32)
def f_P_isOwner_9_6 (o : Int32) : Int32 := (1 : Int32)
def f_P_isOwner_4_3 (o : Int32) : Int32 := (if (4 : Int32) ≤ o then f_P_isOwner_13_5 o else f_P_isOwner_9_6 o)
def f_P_isOwner (o : Int32) : Int32 := (if o < 0 then f_P_isOwner_13_2 o else f_P_isOwner_4_3 o)
set_option maxHeartbeats 4000000 in
set_option maxRecDepth 100000 in
theorem c_P_isOwner (l : Launch) (o : Int32) : Met l y_P_isOwner w_P_isOwner ({ frames := 0, cells := 0, slots := 0, locals := 0 }) (va_Pc [.int o] (fun _ => True)) (vp_Si (fun r => r = f_P_isOwner o)) 0 0 (fun _ => False) := by
  refine Met.ofW (cc := b_P_isOwner) (maxL := 1) (ret := (some .boolean)) (by decide) rfl ?_
  intro p e s m args below meth c s₁ B hml hv
  obtain ⟨rfl, -⟩ := hv
  have hx := B.exec
  have hb := B.bytes
  have hr := B.returns
  have hts := atoms_spec (ws := w_P_isOwner) B.pre
  have ht := fun (w : Cond) (h : w ∈ gA) => hts w (List.mem_cons_of_mem _ h)
  have hown : s.vm.findClass "RangedPool" = some m.cls := findClass_of_methodNamed B.named
  have hlocks := B.notSynchronized
  have hl := lv_entry ([.int o]) (n := 1) (Nat.le_of_ble_eq_true rfl)
  rw [lg_entry_eq]
  generalize (lg_sl ([.int o]) ++ List.replicate (1 - (lg_sl ([.int o])).length) Slot.unset).toArray = ls at hl ⊢
  have hl : lv_has ls 1 [(0, .int o)] := hl
  have hF : f_P_isOwner o = f_P_isOwner o := rfl
  refine lv_iload_n hx hb d_P_isOwner_0 rfl (lv_at hl 0 rfl) ?_
  refine lv_if_lt (tgt := 13) hx hb d_P_isOwner_1 (by decide) (fun c1 => ?_) (fun c1 => ?_)
  ·
    have c1 : o < 0 := c1
    have hF : f_P_isOwner o = f_P_isOwner_13_2 o := hF.trans (if_pos c1)
    refine lv_iconst (v := (0 : Int32)) hx hb d_P_isOwner_13 (by decide) ?_
    exact W.zret (ty := .boolean) (v := (0 : Int32)) hx hb hr (g_zr (by decide)) (fun t hh hW => ⟨_, rfl, hF.symm, hh⟩) (fun _ h => by cases h) d_P_isOwner_14
  ·
    have c1 : ¬ (o < 0) := c1
    have hF : f_P_isOwner o = f_P_isOwner_4_3 o := hF.trans (if_neg c1)
    refine lv_iload_n hx hb d_P_isOwner_4 rfl (lv_at hl 0 rfl) ?_
    refine lv_iconst (v := (4 : Int32)) hx hb d_P_isOwner_5 (by decide) ?_
    refine lv_icmp_ge (tgt := 13) hx hb d_P_isOwner_6 (by decide) (fun c4 => ?_) (fun c4 => ?_)
    ·
      have c4 : (4 : Int32) ≤ o := c4
      have hF : f_P_isOwner o = f_P_isOwner_13_5 o := hF.trans (if_pos c4)
      refine lv_iconst (v := (0 : Int32)) hx hb d_P_isOwner_13 (by decide) ?_
      exact W.zret (ty := .boolean) (v := (0 : Int32)) hx hb hr (g_zr (by decide)) (fun t hh hW => ⟨_, rfl, hF.symm, hh⟩) (fun _ h => by cases h) d_P_isOwner_14
    ·
      have c4 : ¬ ((4 : Int32) ≤ o) := c4
      have hF : f_P_isOwner o = f_P_isOwner_9_6 o := hF.trans (if_neg c4)
      refine lv_iconst (v := (1 : Int32)) hx hb d_P_isOwner_9 (by decide) ?_
      refine lv_goto (tgt := 14) hx hb d_P_isOwner_10 (by decide) ?_
      exact W.zret (ty := .boolean) (v := (1 : Int32)) hx hb hr (g_zr (by decide)) (fun t hh hW => ⟨_, rfl, hF.symm, hh⟩) (fun _ h => by cases h) d_P_isOwner_14
def f_P_isToken_13_2 (n : Int32) : Int32 := (0 : Int32)
def f_P_isToken_13_5 (n : Int32) : Int32 := (0 : Int32)
def f_P_isToken_9_6 (n : Int32) : Int32 := (1 : Int32)
def f_P_isToken_4_3 (n : Int32) : Int32 := (if (2 : Int32) ≤ n then f_P_isToken_13_5 n else f_P_isToken_9_6 n)
def f_P_isToken (n : Int32) : Int32 := (if n < 0 then f_P_isToken_13_2 n else f_P_isToken_4_3 n)
set_option maxHeartbeats 4000000 in
set_option maxRecDepth 100000 in
theorem c_P_isToken (l : Launch) (n : Int32) : Met l y_P_isToken w_P_isToken ({ frames := 0, cells := 0, slots := 0, locals := 0 }) (va_Pc [.int n] (fun _ => True)) (vp_Si (fun r => r = f_P_isToken n)) 0 0 (fun _ => False) := by
  refine Met.ofW (cc := b_P_isToken) (maxL := 1) (ret := (some .boolean)) (by decide) rfl ?_
  intro p e s m args below meth c s₁ B hml hv
  obtain ⟨rfl, -⟩ := hv
  have hx := B.exec
  have hb := B.bytes
  have hr := B.returns
  have hts := atoms_spec (ws := w_P_isToken) B.pre
  have ht := fun (w : Cond) (h : w ∈ gA) => hts w (List.mem_cons_of_mem _ h)
  have hown : s.vm.findClass "RangedPool" = some m.cls := findClass_of_methodNamed B.named
  have hlocks := B.notSynchronized
  have hl := lv_entry ([.int n]) (n := 1) (Nat.le_of_ble_eq_true rfl)
  rw [lg_entry_eq]
  generalize (lg_sl ([.int n]) ++ List.replicate (1 - (lg_sl ([.int n])).length) Slot.unset).toArray = ls at hl ⊢
  have hl : lv_has ls 1 [(0, .int n)] := hl
  have hF : f_P_isToken n = f_P_isToken n := rfl
  refine lv_iload_n hx hb d_P_isToken_0 rfl (lv_at hl 0 rfl) ?_
  refine lv_if_lt (tgt := 13) hx hb d_P_isToken_1 (by decide) (fun c1 => ?_) (fun c1 => ?_)
  ·
    have c1 : n < 0 := c1
    have hF : f_P_isToken n = f_P_isToken_13_2 n := hF.trans (if_pos c1)
    refine lv_iconst (v := (0 : Int32)) hx hb d_P_isToken_13 (by decide) ?_
    exact W.zret (ty := .boolean) (v := (0 : Int32)) hx hb hr (g_zr (by decide)) (fun t hh hW => ⟨_, rfl, hF.symm, hh⟩) (fun _ h => by cases h) d_P_isToken_14
  ·
    have c1 : ¬ (n < 0) := c1
    have hF : f_P_isToken n = f_P_isToken_4_3 n := hF.trans (if_neg c1)
    refine lv_iload_n hx hb d_P_isToken_4 rfl (lv_at hl 0 rfl) ?_
    refine lv_iconst (v := (2 : Int32)) hx hb d_P_isToken_5 (by decide) ?_
    refine lv_icmp_ge (tgt := 13) hx hb d_P_isToken_6 (by decide) (fun c4 => ?_) (fun c4 => ?_)
    ·
      have c4 : (2 : Int32) ≤ n := c4
      have hF : f_P_isToken n = f_P_isToken_13_5 n := hF.trans (if_pos c4)
      refine lv_iconst (v := (0 : Int32)) hx hb d_P_isToken_13 (by decide) ?_
      exact W.zret (ty := .boolean) (v := (0 : Int32)) hx hb hr (g_zr (by decide)) (fun t hh hW => ⟨_, rfl, hF.symm, hh⟩) (fun _ h => by cases h) d_P_isToken_14
    ·
      have c4 : ¬ ((2 : Int32) ≤ n) := c4
      have hF : f_P_isToken n = f_P_isToken_9_6 n := hF.trans (if_neg c4)
      refine lv_iconst (v := (1 : Int32)) hx hb d_P_isToken_9 (by decide) ?_
      refine lv_goto (tgt := 14) hx hb d_P_isToken_10 (by decide) ?_
      exact W.zret (ty := .boolean) (v := (1 : Int32)) hx hb hr (g_zr (by decide)) (fun t hh hW => ⟨_, rfl, hF.symm, hh⟩) (fun _ h => by cases h) d_P_isToken_14
def f_P_quotient_33_5 (a : Int64) (b : Int64) (up : Int32) : Int64 := a / b
def k_P_quotient_33_5 (a : Int64) (b : Int64) (up : Int32) : Prop := True
def f_P_quotient_33_9 (a : Int64) (b : Int64) (up : Int32) : Int64 := a / b
def k_P_quotient_33_9 (a : Int64) (b : Int64) (up : Int32) : Prop := True
def f_P_quotient_26_10 (a : Int64) (b : Int64) (up : Int32) : Int64 := (a / b) + (1 : Int64)
def k_P_quotient_26_10 (a : Int64) (b : Int64) (up : Int32) : Prop := True
def f_P_quotient_18_6 (a : Int64) (b : Int64) (up : Int32) : Int64 := (if (a - a / b * b) = (0 : Int64) then f_P_quotient_33_9 a b up else f_P_quotient_26_10 a b up)
def k_P_quotient_18_6 (a : Int64) (b : Int64) (up : Int32) : Prop := (¬ b = 0) ∧ (if (a - a / b * b) = (0 : Int64) then k_P_quotient_33_9 a b up else k_P_quotient_26_10 a b up)
def f_P_quotient_8_2 (a : Int64) (b : Int64) (up : Int32) : Int64 := (if up = 0 then f_P_quotient_33_5 a b up else f_P_quotient_18_6 a b up)
def k_P_quotient_8_2 (a : Int64) (b : Int64) (up : Int32) : Prop := (¬ b = 0) ∧ (if up = 0 then k_P_quotient_33_5 a b up else k_P_quotient_18_6 a b up)
def f_P_quotient_6_11 (a : Int64) (b : Int64) (up : Int32) : Int64 := (0 : Int64)
def k_P_quotient_6_11 (a : Int64) (b : Int64) (up : Int32) : Prop := True
def f_P_quotient (a : Int64) (b : Int64) (up : Int32) : Int64 := (if (1 : Int64) ≤ b then f_P_quotient_8_2 a b up else f_P_quotient_6_11 a b up)
def k_P_quotient (a : Int64) (b : Int64) (up : Int32) : Prop := (if (1 : Int64) ≤ b then k_P_quotient_8_2 a b up else k_P_quotient_6_11 a b up)
set_option maxHeartbeats 4000000 in
set_option maxRecDepth 100000 in
theorem c_P_quotient (l : Launch) (a : Int64) (b : Int64) (up : Int32) (hQ : k_P_quotient a b up) : Met l y_P_quotient w_P_quotient ({ frames := 0, cells := 0, slots := 0, locals := 0 }) (va_Pc [.long a, .long b, .int up] (fun _ => True)) (vp_Sl (fun r => r = f_P_quotient a b up)) 0 0 (fun _ => False) := by
  refine Met.ofW (cc := b_P_quotient) (maxL := 7) (ret := (some .long)) (by decide) rfl ?_
  intro p e s m args below meth c s₁ B hml hv
  obtain ⟨rfl, -⟩ := hv
  have hx := B.exec
  have hb := B.bytes
  have hr := B.returns
  have hts := atoms_spec (ws := w_P_quotient) B.pre
  have ht := fun (w : Cond) (h : w ∈ gA) => hts w (List.mem_cons_of_mem _ h)
  have hown : s.vm.findClass "RangedPool" = some m.cls := findClass_of_methodNamed B.named
  have hlocks := B.notSynchronized
  have hl := lv_entry ([.long a, .long b, .int up]) (n := 7) (Nat.le_of_ble_eq_true rfl)
  rw [lg_entry_eq]
  generalize (lg_sl ([.long a, .long b, .int up]) ++ List.replicate (7 - (lg_sl ([.long a, .long b, .int up])).length) Slot.unset).toArray = ls at hl ⊢
  have hl : lv_has ls 7 [(0, .long a), (2, .long b), (4, .int up)] := hl
  have hF : f_P_quotient a b up = f_P_quotient a b up := rfl
  refine lv_lload_n hx hb d_P_quotient_0 rfl (lv_at hl 1 rfl) ?_
  refine lv_lconst (v := (1 : Int64)) hx hb d_P_quotient_1 (by decide) ?_
  refine W.lcmp hx hb d_P_quotient_2 ?_
  refine lv_if_ge (tgt := 8) hx hb d_P_quotient_3 (by decide) (fun c1 => ?_) (fun c1 => ?_)
  ·
    have c1 : (1 : Int64) ≤ b := (lg_cmp_ge _ _).mp c1
    have hF : f_P_quotient a b up = f_P_quotient_8_2 a b up := hF.trans (if_pos c1)
    have hQ : k_P_quotient_8_2 a b up := Eq.mp (if_pos c1) hQ
    refine lv_lload_n hx hb d_P_quotient_8 rfl (lv_at hl 0 rfl) ?_
    refine lv_lload_n hx hb d_P_quotient_9 rfl (lv_at hl 1 rfl) ?_
    obtain ⟨hs3, hQ⟩ := hQ
    refine lv_ldiv hx hb d_P_quotient_10 (hs3) ?_
    refine lv_lstore (lv' := [(5, .long (a / b)), (0, .long a), (2, .long b), (4, .int up)]) hx hb d_P_quotient_11 hl (by decide) rfl (fun ls hl => ?_)
    refine lv_iload hx hb d_P_quotient_13 (lv_at hl 3 rfl) ?_
    refine lv_if_eq (tgt := 33) hx hb d_P_quotient_15 (by decide) (fun c4 => ?_) (fun c4 => ?_)
    ·
      have c4 : up = 0 := c4
      have hF : f_P_quotient a b up = f_P_quotient_33_5 a b up := hF.trans (if_pos c4)
      have hQ : k_P_quotient_33_5 a b up := Eq.mp (if_pos c4) hQ
      refine lv_lload hx hb d_P_quotient_33 (lv_at hl 0 rfl) ?_
      exact W.lret (v := a / b) hx hb hr (fun t hh hW => ⟨_, rfl, hF.symm, hh⟩) (fun _ h => by cases h) d_P_quotient_35
    ·
      have c4 : ¬ (up = 0) := c4
      have hF : f_P_quotient a b up = f_P_quotient_18_6 a b up := hF.trans (if_neg c4)
      have hQ : k_P_quotient_18_6 a b up := Eq.mp (if_neg c4) hQ
      refine lv_lload_n hx hb d_P_quotient_18 rfl (lv_at hl 1 rfl) ?_
      refine lv_lload_n hx hb d_P_quotient_19 rfl (lv_at hl 2 rfl) ?_
      obtain ⟨hs7, hQ⟩ := hQ
      refine lv_lrem hx hb d_P_quotient_20 (hs7) ?_
      refine lv_lconst (v := (0 : Int64)) hx hb d_P_quotient_21 (by decide) ?_
      refine W.lcmp hx hb d_P_quotient_22 ?_
      refine lv_if_eq (tgt := 33) hx hb d_P_quotient_23 (by decide) (fun c8 => ?_) (fun c8 => ?_)
      ·
        have c8 : (a - a / b * b) = (0 : Int64) := (lg_cmp_eq _ _).mp c8
        have hF : f_P_quotient a b up = f_P_quotient_33_9 a b up := hF.trans (if_pos c8)
        have hQ : k_P_quotient_33_9 a b up := Eq.mp (if_pos c8) hQ
        refine lv_lload hx hb d_P_quotient_33 (lv_at hl 0 rfl) ?_
        exact W.lret (v := a / b) hx hb hr (fun t hh hW => ⟨_, rfl, hF.symm, hh⟩) (fun _ h => by cases h) d_P_quotient_35
      ·
        have c8 : ¬ ((a - a / b * b) = (0 : Int64)) := mt (lg_cmp_eq _ _).mpr c8
        have hF : f_P_quotient a b up = f_P_quotient_26_10 a b up := hF.trans (if_neg c8)
        have hQ : k_P_quotient_26_10 a b up := Eq.mp (if_neg c8) hQ
        refine lv_lload hx hb d_P_quotient_26 (lv_at hl 0 rfl) ?_
        refine lv_lconst (v := (1 : Int64)) hx hb d_P_quotient_28 (by decide) ?_
        refine lv_ladd hx hb d_P_quotient_29 ?_
        refine lv_goto (tgt := 35) hx hb d_P_quotient_30 (by decide) ?_
        exact W.lret (v := (a / b) + (1 : Int64)) hx hb hr (fun t hh hW => ⟨_, rfl, hF.symm, hh⟩) (fun _ h => by cases h) d_P_quotient_35
  ·
    have c1 : ¬ ((1 : Int64) ≤ b) := mt (lg_cmp_ge _ _).mpr c1
    have hF : f_P_quotient a b up = f_P_quotient_6_11 a b up := hF.trans (if_neg c1)
    have hQ : k_P_quotient_6_11 a b up := Eq.mp (if_neg c1) hQ
    refine lv_lconst (v := (0 : Int64)) hx hb d_P_quotient_6 (by decide) ?_
    exact W.lret (v := (0 : Int64)) hx hb hr (fun t hh hW => ⟨_, rfl, hF.symm, hh⟩) (fun _ h => by cases h) d_P_quotient_7
def f_P_zeroBetween (a : Int64) (b : Int64) (w : Int64) (up : Int32) : Int64 := f_P_quotient ((w * (65536 : Int64)) * (b - a)) (a * b) up
def k_P_zeroBetween (a : Int64) (b : Int64) (w : Int64) (up : Int32) : Prop := (k_P_quotient ((w * (65536 : Int64)) * (b - a)) (a * b) up) ∧ True
set_option maxHeartbeats 4000000 in
set_option maxRecDepth 100000 in
theorem c_P_zeroBetween (l : Launch) (a : Int64) (b : Int64) (w : Int64) (up : Int32) (hQ : k_P_zeroBetween a b w up) : Met l y_P_zeroBetween w_P_zeroBetween ({ frames := 1, cells := 0, slots := 0, locals := 26 }) (va_Pc [.long a, .long b, .long w, .int up] (fun _ => True)) (vp_Sl (fun r => r = f_P_zeroBetween a b w up)) 0 0 (fun _ => False) := by
  refine Met.ofW (cc := b_P_zeroBetween) (maxL := 7) (ret := (some .long)) (by decide) rfl ?_
  intro p e s m args below meth c s₁ B hml hv
  obtain ⟨rfl, -⟩ := hv
  have hx := B.exec
  have hb := B.bytes
  have hr := B.returns
  have hts := atoms_spec (ws := w_P_zeroBetween) B.pre
  have ht := fun (w : Cond) (h : w ∈ gA) => hts w (List.mem_cons_of_mem _ h)
  have hown : s.vm.findClass "RangedPool" = some m.cls := findClass_of_methodNamed B.named
  have hlocks := B.notSynchronized
  have hl := lv_entry ([.long a, .long b, .long w, .int up]) (n := 7) (Nat.le_of_ble_eq_true rfl)
  rw [lg_entry_eq]
  generalize (lg_sl ([.long a, .long b, .long w, .int up]) ++ List.replicate (7 - (lg_sl ([.long a, .long b, .long w, .int up])).length) Slot.unset).toArray = ls at hl ⊢
  have hl : lv_has ls 7 [(0, .long a), (2, .long b), (4, .long w), (6, .int up)] := hl
  have hF : f_P_zeroBetween a b w up = f_P_zeroBetween a b w up := rfl
  refine lv_lload hx hb d_P_zeroBetween_0 (lv_at hl 2 rfl) ?_
  refine lv_ldc2 (v := (65536 : Int64)) hx hb hown (ht _ kw231) d_P_zeroBetween_2 ?_
  refine lv_lmul hx hb d_P_zeroBetween_5 ?_
  refine lv_lload_n hx hb d_P_zeroBetween_6 rfl (lv_at hl 1 rfl) ?_
  refine lv_lload_n hx hb d_P_zeroBetween_7 rfl (lv_at hl 0 rfl) ?_
  refine lv_lsub hx hb d_P_zeroBetween_8 ?_
  refine lv_lmul hx hb d_P_zeroBetween_9 ?_
  refine lv_lload_n hx hb d_P_zeroBetween_10 rfl (lv_at hl 0 rfl) ?_
  refine lv_lload_n hx hb d_P_zeroBetween_11 rfl (lv_at hl 1 rfl) ?_
  refine lv_lmul hx hb d_P_zeroBetween_12 ?_
  refine lv_iload hx hb d_P_zeroBetween_13 (lv_at hl 3 rfl) ?_
  obtain ⟨hs1, hQ⟩ := hQ
  refine g_cSlE (va_runS (As := [.long ((w * (65536 : Int64)) * (b - a)), .long (a * b), .int up]) (rest := []) ⟨hx, hb, hml, hown, ht⟩ (c_P_quotient l ((w * (65536 : Int64)) * (b - a)) (a * b) up hs1) (va_cwS 3 ht gc_P_190 rfl rfl rfl (by decide +kernel) ⟨Nat.le_of_ble_eq_true rfl, Nat.le_of_ble_eq_true rfl⟩) (g_pr0 _) rfl rfl hl.1 rfl (lv_room (Nat.le_of_ble_eq_true rfl)) d_P_zeroBetween_15 ⟨Nat.le_of_ble_eq_true rfl, Nat.le_of_ble_eq_true rfl⟩) ?_
  exact W.lret (v := f_P_quotient ((w * (65536 : Int64)) * (b - a)) (a * b) up) hx hb hr (fun t hh hW => ⟨_, rfl, hF.symm, hh⟩) (fun _ h => by cases h) d_P_zeroBetween_18
def f_P_oneBetween (a : Int64) (b : Int64) (w : Int64) (up : Int32) : Int64 := f_P_quotient (w * (b - a)) (65536 : Int64) up
def k_P_oneBetween (a : Int64) (b : Int64) (w : Int64) (up : Int32) : Prop := (k_P_quotient (w * (b - a)) (65536 : Int64) up) ∧ True
set_option maxHeartbeats 4000000 in
set_option maxRecDepth 100000 in
theorem c_P_oneBetween (l : Launch) (a : Int64) (b : Int64) (w : Int64) (up : Int32) (hQ : k_P_oneBetween a b w up) : Met l y_P_oneBetween w_P_oneBetween ({ frames := 1, cells := 0, slots := 0, locals := 26 }) (va_Pc [.long a, .long b, .long w, .int up] (fun _ => True)) (vp_Sl (fun r => r = f_P_oneBetween a b w up)) 0 0 (fun _ => False) := by
  refine Met.ofW (cc := b_P_oneBetween) (maxL := 7) (ret := (some .long)) (by decide) rfl ?_
  intro p e s m args below meth c s₁ B hml hv
  obtain ⟨rfl, -⟩ := hv
  have hx := B.exec
  have hb := B.bytes
  have hr := B.returns
  have hts := atoms_spec (ws := w_P_oneBetween) B.pre
  have ht := fun (w : Cond) (h : w ∈ gA) => hts w (List.mem_cons_of_mem _ h)
  have hown : s.vm.findClass "RangedPool" = some m.cls := findClass_of_methodNamed B.named
  have hlocks := B.notSynchronized
  have hl := lv_entry ([.long a, .long b, .long w, .int up]) (n := 7) (Nat.le_of_ble_eq_true rfl)
  rw [lg_entry_eq]
  generalize (lg_sl ([.long a, .long b, .long w, .int up]) ++ List.replicate (7 - (lg_sl ([.long a, .long b, .long w, .int up])).length) Slot.unset).toArray = ls at hl ⊢
  have hl : lv_has ls 7 [(0, .long a), (2, .long b), (4, .long w), (6, .int up)] := hl
  have hF : f_P_oneBetween a b w up = f_P_oneBetween a b w up := rfl
  refine lv_lload hx hb d_P_oneBetween_0 (lv_at hl 2 rfl) ?_
  refine lv_lload_n hx hb d_P_oneBetween_2 rfl (lv_at hl 1 rfl) ?_
  refine lv_lload_n hx hb d_P_oneBetween_3 rfl (lv_at hl 0 rfl) ?_
  refine lv_lsub hx hb d_P_oneBetween_4 ?_
  refine lv_lmul hx hb d_P_oneBetween_5 ?_
  refine lv_ldc2 (v := (65536 : Int64)) hx hb hown (ht _ kw231) d_P_oneBetween_6 ?_
  refine lv_iload hx hb d_P_oneBetween_9 (lv_at hl 3 rfl) ?_
  obtain ⟨hs1, hQ⟩ := hQ
  refine g_cSlE (va_runS (As := [.long (w * (b - a)), .long (65536 : Int64), .int up]) (rest := []) ⟨hx, hb, hml, hown, ht⟩ (c_P_quotient l (w * (b - a)) (65536 : Int64) up hs1) (va_cwS 3 ht gc_P_190 rfl rfl rfl (by decide +kernel) ⟨Nat.le_of_ble_eq_true rfl, Nat.le_of_ble_eq_true rfl⟩) (g_pr0 _) rfl rfl hl.1 rfl (lv_room (Nat.le_of_ble_eq_true rfl)) d_P_oneBetween_11 ⟨Nat.le_of_ble_eq_true rfl, Nat.le_of_ble_eq_true rfl⟩) ?_
  exact W.lret (v := f_P_quotient (w * (b - a)) (65536 : Int64) up) hx hb hr (fun t hh hW => ⟨_, rfl, hF.symm, hh⟩) (fun _ h => by cases h) d_P_oneBetween_14
def f_P_pair (a : Int64) (b : Int64) : Int64 := (a * (4294967296 : Int64)) + b
set_option maxHeartbeats 4000000 in
set_option maxRecDepth 100000 in
theorem c_P_pair (l : Launch) (a : Int64) (b : Int64) : Met l y_P_pair w_P_pair ({ frames := 0, cells := 0, slots := 0, locals := 0 }) (va_Pc [.long a, .long b] (fun _ => True)) (vp_Sl (fun r => r = f_P_pair a b)) 0 0 (fun _ => False) := by
  refine Met.ofW (cc := b_P_pair) (maxL := 4) (ret := (some .long)) (by decide) rfl ?_
  intro p e s m args below meth c s₁ B hml hv
  obtain ⟨rfl, -⟩ := hv
  have hx := B.exec
  have hb := B.bytes
  have hr := B.returns
  have hts := atoms_spec (ws := w_P_pair) B.pre
  have ht := fun (w : Cond) (h : w ∈ gA) => hts w (List.mem_cons_of_mem _ h)
  have hown : s.vm.findClass "RangedPool" = some m.cls := findClass_of_methodNamed B.named
  have hlocks := B.notSynchronized
  have hl := lv_entry ([.long a, .long b]) (n := 4) (Nat.le_of_ble_eq_true rfl)
  rw [lg_entry_eq]
  generalize (lg_sl ([.long a, .long b]) ++ List.replicate (4 - (lg_sl ([.long a, .long b])).length) Slot.unset).toArray = ls at hl ⊢
  have hl : lv_has ls 4 [(0, .long a), (2, .long b)] := hl
  have hF : f_P_pair a b = f_P_pair a b := rfl
  refine lv_lload_n hx hb d_P_pair_0 rfl (lv_at hl 0 rfl) ?_
  refine lv_ldc2 (v := (4294967296 : Int64)) hx hb hown (ht _ kw268) d_P_pair_1 ?_
  refine lv_lmul hx hb d_P_pair_4 ?_
  refine lv_lload_n hx hb d_P_pair_5 rfl (lv_at hl 1 rfl) ?_
  refine lv_ladd hx hb d_P_pair_6 ?_
  exact W.lret (v := (a * (4294967296 : Int64)) + b) hx hb hr (fun t hh hW => ⟨_, rfl, hF.symm, hh⟩) (fun _ h => by cases h) d_P_pair_7
def f_P_priceOf (n : Int32) : Int32 := x_tab ((n - (-24 : Int32)).toNatClampNeg)
def k_P_priceOf (n : Int32) : Prop := (vp_in (n - (-24 : Int32)) 49) ∧ True
set_option maxHeartbeats 4000000 in
set_option maxRecDepth 100000 in
theorem c_P_priceOf (l : Launch) (tb : Nat) (n : Int32) (hQ : k_P_priceOf n) : Met l y_P_priceOf w_P_priceOf ({ frames := 0, cells := 0, slots := 0, locals := 0 }) (va_Pc [.int n] ((x_Z tb) (fun _ => False))) (vp_Si (fun r => r = f_P_priceOf n)) 0 0 (fun _ => False) := by
  refine Met.ofW (cc := b_P_priceOf) (maxL := 1) (ret := (some .int)) (by decide) rfl ?_
  intro p e s m args below meth c s₁ B hml hv
  obtain ⟨rfl, hz⟩ := hv
  have hx := B.exec
  have hb := B.bytes
  have hr := B.returns
  have hts := atoms_spec (ws := w_P_priceOf) B.pre
  have ht := fun (w : Cond) (h : w ∈ gA) => hts w (List.mem_cons_of_mem _ h)
  have hown : s.vm.findClass "RangedPool" = some m.cls := findClass_of_methodNamed B.named
  have hlocks := B.notSynchronized
  have hS : va_S (fun _ => False) s.heap s.heap [] := va_S.rf
  have hl := lv_entry ([.int n]) (n := 1) (Nat.le_of_ble_eq_true rfl)
  rw [lg_entry_eq]
  generalize (lg_sl ([.int n]) ++ List.replicate (1 - (lg_sl ([.int n])).length) Slot.unset).toArray = ls at hl ⊢
  have hl : lv_has ls 1 [(0, .int n)] := hl
  have hF : f_P_priceOf n = f_P_priceOf n := rfl
  refine va_gets (C := "RangedPool") hx hb hz.2.1 hS hown (ht _ kw170) (fun _ h9 => h9) d_P_priceOf_0 ?_
  refine lv_iload_n hx hb d_P_priceOf_3 rfl (lv_at hl 0 rfl) ?_
  refine lv_bipush (v := (-24 : Int32)) hx hb d_P_priceOf_4 (by decide) ?_
  refine lv_isub hx hb d_P_priceOf_6 ?_
  obtain ⟨hs1, hQ⟩ := hQ
  refine va_ti hx hb hz.2.2 hS (v := .int (x_tab ((n - (-24 : Int32)).toNatClampNeg))) (hs1) rfl d_P_priceOf_7 ?_
  exact W.iret (v := x_tab ((n - (-24 : Int32)).toNatClampNeg)) hx hb hr (fun t hh hW => ⟨_, rfl, hF.symm, hh⟩) (fun _ h => by cases h) d_P_priceOf_8
def f_P_greatestStepAt_23_5 (q : Int32) (b1 : Int32) : Int32 := b1
def k_P_greatestStepAt_23_5 (q : Int32) (b1 : Int32) : Prop := True
def f_P_greatestStepAt_L3 (q : Int32) : Nat → Int32
  | 0 => (Int32.ofNat 0 + (-1 : Int32) + (-24 : Int32))
  | jn + 1 => (if (f_P_priceOf (Int32.ofNat jn + (-24 : Int32))) ≤ q then (Int32.ofNat jn + (-24 : Int32)) else f_P_greatestStepAt_L3 q jn )
def k_P_greatestStepAt_L3 (q : Int32) : Nat → Prop
  | 0 => True
  | jn + 1 => (k_P_priceOf (Int32.ofNat jn + (-24 : Int32))) ∧ (if (f_P_priceOf (Int32.ofNat jn + (-24 : Int32))) ≤ q then True else k_P_greatestStepAt_L3 q jn )
def f_P_greatestStepAt (q : Int32) : Int32 := (f_P_greatestStepAt_23_5 q (f_P_greatestStepAt_L3 q 49))
def k_P_greatestStepAt (q : Int32) : Prop := (k_P_greatestStepAt_L3 q 49) ∧ (k_P_greatestStepAt_23_5 q (f_P_greatestStepAt_L3 q 49))
set_option maxHeartbeats 4000000 in
set_option maxRecDepth 100000 in
theorem c_P_greatestStepAt (l : Launch) (tb : Nat) (q : Int32) (hQ : k_P_greatestStepAt q) : Met l y_P_greatestStepAt w_P_greatestStepAt ({ frames := 1, cells := 0, slots := 0, locals := 20 }) (va_Pc [.int q] ((x_Z tb) (fun _ => False))) (vp_Si (fun r => r = f_P_greatestStepAt q)) 0 0 (fun _ => False) := by
  refine Met.ofW (cc := b_P_greatestStepAt) (maxL := 2) (ret := (some .int)) (by decide) rfl ?_
  intro p e s m args below meth c s₁ B hml hv
  obtain ⟨rfl, hz⟩ := hv
  have hx := B.exec
  have hb := B.bytes
  have hr := B.returns
  have hts := atoms_spec (ws := w_P_greatestStepAt) B.pre
  have ht := fun (w : Cond) (h : w ∈ gA) => hts w (List.mem_cons_of_mem _ h)
  have hown : s.vm.findClass "RangedPool" = some m.cls := findClass_of_methodNamed B.named
  have hlocks := B.notSynchronized
  have hS : va_S (fun _ => False) s.heap s.heap [] := va_S.rf
  have hl := lv_entry ([.int q]) (n := 2) (Nat.le_of_ble_eq_true rfl)
  rw [lg_entry_eq]
  generalize (lg_sl ([.int q]) ++ List.replicate (2 - (lg_sl ([.int q])).length) Slot.unset).toArray = ls at hl ⊢
  have hl : lv_has ls 2 [(0, .int q)] := hl
  have hF : f_P_greatestStepAt q = f_P_greatestStepAt q := rfl
  refine lv_bipush (v := (24 : Int32)) hx hb d_P_greatestStepAt_0 (by decide) ?_
  refine lv_istore_n (lv' := [(1, .int (24 : Int32)), (0, .int q)]) hx hb d_P_greatestStepAt_2 rfl hl (by decide) rfl (fun ls hl => ?_)
  obtain ⟨hT2, hQ⟩ := hQ
  have J23_3 : ∀ (b1 : Int32) (ls : Array Slot), b1 = (f_P_greatestStepAt_L3 q 49) → lv_has ls 2 [(1, .int b1)] → W p l e (headSpec w_P_greatestStepAt ({ frames := 1, cells := 0, slots := 0, locals := 20 })).room s m ([.int q] : List Value).toArray below meth c s.heap [] 0 0 (MQ below (vp_Si (fun r => r = f_P_greatestStepAt q)) ([.int q] : List Value).toArray s 0 0 (fun _ => False)) (F0 m 23 ls []) := by
    intro b1 ls e4 hl
    have hF : f_P_greatestStepAt q = f_P_greatestStepAt_23_5 q b1 := hF.trans (by rw [e4]; try rfl)
    have hQ : k_P_greatestStepAt_23_5 q b1 := by rw [e4]; exact hQ
    refine lv_iload_n hx hb d_P_greatestStepAt_23 rfl (lv_at hl 0 rfl) ?_
    exact W.iret (v := b1) hx hb hr (fun t hh hW => ⟨_, rfl, hF.symm, hh⟩) (fun _ h => by cases h) d_P_greatestStepAt_24
  have LL3_6 : ∀ (jn : Nat) (ls : Array Slot), jn ≤ 49 → f_P_greatestStepAt_L3 q 49  = f_P_greatestStepAt_L3 q jn  → k_P_greatestStepAt_L3 q jn  → lv_has ls 2 [(1, .int (Int32.ofNat jn + (-1 : Int32) + (-24 : Int32))), (0, .int q)] → W p l e (headSpec w_P_greatestStepAt ({ frames := 1, cells := 0, slots := 0, locals := 20 })).room s m ([.int q] : List Value).toArray below meth c s.heap [] 0 0 (MQ below (vp_Si (fun r => r = f_P_greatestStepAt q)) ([.int q] : List Value).toArray s 0 0 (fun _ => False)) (F0 m 3 ls []) := by
    intro jn
    induction jn with
    | zero =>
      intro ls hkn hF hQ hl
      have hF : f_P_greatestStepAt_L3 q 49  = (Int32.ofNat 0 + (-1 : Int32) + (-24 : Int32)) := hF
      have hQ : True := hQ
      refine lv_iload_n hx hb d_P_greatestStepAt_3 rfl (lv_at hl 0 rfl) ?_
      refine lv_bipush (v := (-24 : Int32)) hx hb d_P_greatestStepAt_4 (by decide) ?_
      refine lv_icmp_lt (tgt := 23) hx hb d_P_greatestStepAt_6 (by decide) (fun _ => ?_) (fun c7 => absurd (by decide) c7)
      exact J23_3 (Int32.ofNat 0 + (-1 : Int32) + (-24 : Int32)) ls hF.symm (lv_sub hl [0] rfl)
    | succ jn ih =>
      intro ls hkn hF hQ hl
      have hF : f_P_greatestStepAt_L3 q 49  = (if (f_P_priceOf (Int32.ofNat jn + (-24 : Int32))) ≤ q then (Int32.ofNat jn + (-24 : Int32)) else f_P_greatestStepAt_L3 q jn ) := hF
      have hQ : (k_P_priceOf (Int32.ofNat jn + (-24 : Int32))) ∧ (if (f_P_priceOf (Int32.ofNat jn + (-24 : Int32))) ≤ q then True else k_P_greatestStepAt_L3 q jn ) := hQ
      rw [g_dn] at hl
      refine lv_iload_n hx hb d_P_greatestStepAt_3 rfl (lv_at hl 0 rfl) ?_
      refine lv_bipush (v := (-24 : Int32)) hx hb d_P_greatestStepAt_4 (by decide) ?_
      refine lv_icmp_lt (tgt := 23) hx hb d_P_greatestStepAt_6 (by decide) (fun c8 => absurd c8 (g_c49a (by omega))) (fun _ => ?_)
      refine lv_iload_n hx hb d_P_greatestStepAt_9 rfl (lv_at hl 0 rfl) ?_
      obtain ⟨hs9, hQ⟩ := hQ
      refine g_cSiE (va_runS (As := [.int (Int32.ofNat jn + (-24 : Int32))]) (rest := []) ⟨hx, hb, hml, hown, ht⟩ (c_P_priceOf l tb (Int32.ofNat jn + (-24 : Int32)) hs9) (va_cwS 1 ht gc_P_59 rfl rfl rfl (by decide +kernel) ⟨Nat.le_of_ble_eq_true rfl, Nat.le_of_ble_eq_true rfl⟩) (g_prZ x_Zok hS hz _) rfl rfl hl.1 rfl (lv_room (Nat.le_of_ble_eq_true rfl)) d_P_greatestStepAt_10 ⟨Nat.le_of_ble_eq_true rfl, Nat.le_of_ble_eq_true rfl⟩) ?_
      refine lv_iload_n hx hb d_P_greatestStepAt_13 rfl (lv_at hl 1 rfl) ?_
      refine lv_icmp_le (tgt := 23) hx hb d_P_greatestStepAt_14 (by decide) (fun c12 => ?_) (fun c12 => ?_)
      ·
        have c12 : (f_P_priceOf (Int32.ofNat jn + (-24 : Int32))) ≤ q := c12
        have hF := hF.trans (if_pos c12)
        have hQ := Eq.mp (if_pos c12) hQ
        exact J23_3 (Int32.ofNat jn + (-24 : Int32)) ls hF.symm (lv_sub hl [0] rfl)
      ·
        have c12 : ¬ ((f_P_priceOf (Int32.ofNat jn + (-24 : Int32))) ≤ q) := c12
        have hF := hF.trans (if_neg c12)
        have hQ := Eq.mp (if_neg c12) hQ
        refine lv_iinc (v := Int32.ofNat jn + (-1 : Int32) + (-24 : Int32)) (lv' := [(1, .int (Int32.ofNat jn + (-1 : Int32) + (-24 : Int32))), (0, .int q)]) hx hb d_P_greatestStepAt_17 hl (k := 0) rfl (g_dno jn) (by decide) rfl (fun ls hl => ?_)
        refine lv_goto (tgt := 3) hx hb d_P_greatestStepAt_20 (by decide) ?_
        exact ih  ls (by omega) hF hQ (lv_sub hl [0, 1] rfl)
  exact LL3_6 49  ls (by omega) rfl hT2 (lv_sub hl [0, 1] rfl)
def f_P_canLend_26_2 (σ : g_S) (n : Int32) (am : Int32) : Int32 := (0 : Int32)
def k_P_canLend_26_2 (σ : g_S) (n : Int32) (am : Int32) : Prop := True
def f_P_canLend_26_5 (σ : g_S) (n : Int32) (am : Int32) : Int32 := (0 : Int32)
def k_P_canLend_26_5 (σ : g_S) (n : Int32) (am : Int32) : Prop := True
def f_P_canLend_26_9 (σ : g_S) (n : Int32) (am : Int32) : Int32 := (0 : Int32)
def k_P_canLend_26_9 (σ : g_S) (n : Int32) (am : Int32) : Prop := True
def f_P_canLend_22_10 (σ : g_S) (n : Int32) (am : Int32) : Int32 := (1 : Int32)
def k_P_canLend_22_10 (σ : g_S) (n : Int32) (am : Int32) : Prop := True
def f_P_canLend_10_6 (σ : g_S) (n : Int32) (am : Int32) : Int32 := (if (σ.2 2 n.toNatClampNeg) < am.toInt64 then f_P_canLend_26_9 σ n am else f_P_canLend_22_10 σ n am)
def k_P_canLend_10_6 (σ : g_S) (n : Int32) (am : Int32) : Prop := (vp_in n 2) ∧ (if (σ.2 2 n.toNatClampNeg) < am.toInt64 then k_P_canLend_26_9 σ n am else k_P_canLend_22_10 σ n am)
def f_P_canLend_4_3 (σ : g_S) (n : Int32) (am : Int32) : Int32 := (if (1000000 : Int32) < am then f_P_canLend_26_5 σ n am else f_P_canLend_10_6 σ n am)
def k_P_canLend_4_3 (σ : g_S) (n : Int32) (am : Int32) : Prop := (if (1000000 : Int32) < am then k_P_canLend_26_5 σ n am else k_P_canLend_10_6 σ n am)
def f_P_canLend (σ : g_S) (n : Int32) (am : Int32) : Int32 := (if am < 0 then f_P_canLend_26_2 σ n am else f_P_canLend_4_3 σ n am)
def k_P_canLend (σ : g_S) (n : Int32) (am : Int32) : Prop := (if am < 0 then k_P_canLend_26_2 σ n am else k_P_canLend_4_3 σ n am)
set_option maxHeartbeats 4000000 in
set_option maxRecDepth 100000 in
theorem c_P_canLend (l : Launch) (dC : Nat → ClassId) (dI : Nat → Nat → Nat) (dA : Nat → ClassId) (ad : Nat → Nat) (tb : Nat) (σ : g_S) (n : Int32) (am : Int32) (hQ : k_P_canLend σ n am) : Met l y_P_canLend w_P_canLend ({ frames := 0, cells := 0, slots := 0, locals := 0 }) (va_Pc [.ref (ad 0), .int n, .int am] (g_R (dC, dI) cls (x_tys dA) (g_w x_sh dA ad σ) (x_Z tb))) (vp_Si (fun r => r = f_P_canLend σ n am)) 0 0 (fun _ => False) := by
  refine Met.ofW (cc := b_P_canLend) (maxL := 3) (ret := (some .boolean)) (by decide) rfl ?_
  intro p e s m args below meth c s₁ B hml hv
  obtain ⟨rfl, hP, hK, hz⟩ := hv
  have hx := B.exec
  have hb := B.bytes
  have hr := B.returns
  have hts := atoms_spec (ws := w_P_canLend) B.pre
  have ht := fun (w : Cond) (h : w ∈ gA) => hts w (List.mem_cons_of_mem _ h)
  have hown : s.vm.findClass "RangedPool" = some m.cls := findClass_of_methodNamed B.named
  have hlocks := B.notSynchronized
  have hS : va_S (fun _ => False) s.heap s.heap [] := va_S.rf
  have hl := lv_entry ([.ref (ad 0), .int n, .int am]) (n := 3) (Nat.le_of_ble_eq_true rfl)
  rw [lg_entry_eq]
  generalize (lg_sl ([.ref (ad 0), .int n, .int am]) ++ List.replicate (3 - (lg_sl ([.ref (ad 0), .int n, .int am])).length) Slot.unset).toArray = ls at hl ⊢
  have hl : lv_has ls 3 [(0, .ref (ad 0)), (1, .int n), (2, .int am)] := hl
  have hF : f_P_canLend σ n am = f_P_canLend σ n am := rfl
  refine lv_iload_n hx hb d_P_canLend_0 rfl (lv_at hl 2 rfl) ?_
  refine lv_if_lt (tgt := 26) hx hb d_P_canLend_1 (by decide) (fun c1 => ?_) (fun c1 => ?_)
  ·
    have c1 : am < 0 := c1
    have hF : f_P_canLend σ n am = f_P_canLend_26_2 σ n am := hF.trans (if_pos c1)
    have hQ : k_P_canLend_26_2 σ n am := Eq.mp (if_pos c1) hQ
    refine lv_iconst (v := (0 : Int32)) hx hb d_P_canLend_26 (by decide) ?_
    exact W.zret (ty := .boolean) (v := (0 : Int32)) hx hb hr (g_zr (by decide)) (fun t hh hW => ⟨_, rfl, hF.symm, hh⟩) (fun _ h => by cases h) d_P_canLend_27
  ·
    have c1 : ¬ (am < 0) := c1
    have hF : f_P_canLend σ n am = f_P_canLend_4_3 σ n am := hF.trans (if_neg c1)
    have hQ : k_P_canLend_4_3 σ n am := Eq.mp (if_neg c1) hQ
    refine lv_iload_n hx hb d_P_canLend_4 rfl (lv_at hl 2 rfl) ?_
    refine lv_ldc (v := (1000000 : Int32)) hx hb hown (ht _ kw200) d_P_canLend_5 ?_
    refine lv_icmp_gt (tgt := 26) hx hb d_P_canLend_7 (by decide) (fun c4 => ?_) (fun c4 => ?_)
    ·
      have c4 : (1000000 : Int32) < am := c4
      have hF : f_P_canLend σ n am = f_P_canLend_26_5 σ n am := hF.trans (if_pos c4)
      have hQ : k_P_canLend_26_5 σ n am := Eq.mp (if_pos c4) hQ
      refine lv_iconst (v := (0 : Int32)) hx hb d_P_canLend_26 (by decide) ?_
      exact W.zret (ty := .boolean) (v := (0 : Int32)) hx hb hr (g_zr (by decide)) (fun t hh hW => ⟨_, rfl, hF.symm, hh⟩) (fun _ h => by cases h) d_P_canLend_27
    ·
      have c4 : ¬ ((1000000 : Int32) < am) := c4
      have hF : f_P_canLend σ n am = f_P_canLend_10_6 σ n am := hF.trans (if_neg c4)
      have hQ : k_P_canLend_10_6 σ n am := Eq.mp (if_neg c4) hQ
      refine lv_iload_n hx hb d_P_canLend_10 rfl (lv_at hl 2 rfl) ?_
      refine lv_i2l (v := am.toInt64) hx hb d_P_canLend_11 rfl ?_
      refine lv_aload_n hx hb d_P_canLend_12 rfl (lv_at hl 0 rfl) ?_
      refine g_get hx hb ht in_P hown hK hP (0) x_at0 rfl 3 (by decide) rfl (ht _ kw132) (fun _ h9 => h9) (v := .ref (ad 2)) rfl d_P_canLend_13 ?_
      refine lv_iload_n hx hb d_P_canLend_16 rfl (lv_at hl 1 rfl) ?_
      obtain ⟨hs7, hQ⟩ := hQ
      refine g_lald hx hb hK hP (2) x_at2 rfl (hs7) (j := n.toNatClampNeg) (rfl) d_P_canLend_17 ?_
      refine W.lcmp hx hb d_P_canLend_18 ?_
      refine lv_if_gt (tgt := 26) hx hb d_P_canLend_19 (by decide) (fun c8 => ?_) (fun c8 => ?_)
      ·
        have c8 : (σ.2 2 n.toNatClampNeg) < am.toInt64 := (lg_cmp_gt _ _).mp c8
        have hF : f_P_canLend σ n am = f_P_canLend_26_9 σ n am := hF.trans (if_pos c8)
        have hQ : k_P_canLend_26_9 σ n am := Eq.mp (if_pos c8) hQ
        refine lv_iconst (v := (0 : Int32)) hx hb d_P_canLend_26 (by decide) ?_
        exact W.zret (ty := .boolean) (v := (0 : Int32)) hx hb hr (g_zr (by decide)) (fun t hh hW => ⟨_, rfl, hF.symm, hh⟩) (fun _ h => by cases h) d_P_canLend_27
      ·
        have c8 : ¬ ((σ.2 2 n.toNatClampNeg) < am.toInt64) := mt (lg_cmp_gt _ _).mpr c8
        have hF : f_P_canLend σ n am = f_P_canLend_22_10 σ n am := hF.trans (if_neg c8)
        have hQ : k_P_canLend_22_10 σ n am := Eq.mp (if_neg c8) hQ
        refine lv_iconst (v := (1 : Int32)) hx hb d_P_canLend_22 (by decide) ?_
        refine lv_goto (tgt := 27) hx hb d_P_canLend_23 (by decide) ?_
        exact W.zret (ty := .boolean) (v := (1 : Int32)) hx hb hr (g_zr (by decide)) (fun t hh hW => ⟨_, rfl, hF.symm, hh⟩) (fun _ h => by cases h) d_P_canLend_27
def f_P_canPay_31_3 (σ : g_S) (o : Int32) (z : Int64) (y : Int64) : Int32 := (0 : Int32)
def k_P_canPay_31_3 (σ : g_S) (o : Int32) (z : Int64) (y : Int64) : Prop := True
def f_P_canPay_31_7 (σ : g_S) (o : Int32) (z : Int64) (y : Int64) : Int32 := (0 : Int32)
def k_P_canPay_31_7 (σ : g_S) (o : Int32) (z : Int64) (y : Int64) : Prop := True
def f_P_canPay_27_8 (σ : g_S) (o : Int32) (z : Int64) (y : Int64) : Int32 := (1 : Int32)
def k_P_canPay_27_8 (σ : g_S) (o : Int32) (z : Int64) (y : Int64) : Prop := True
def f_P_canPay_13_4 (σ : g_S) (o : Int32) (z : Int64) (y : Int64) : Int32 := (if (σ.2 (o.toNatClampNeg + 10) 1) < y then f_P_canPay_31_7 σ o z y else f_P_canPay_27_8 σ o z y)
def k_P_canPay_13_4 (σ : g_S) (o : Int32) (z : Int64) (y : Int64) : Prop := (vp_in o 4) ∧ (if (σ.2 (o.toNatClampNeg + 10) 1) < y then k_P_canPay_31_7 σ o z y else k_P_canPay_27_8 σ o z y)
def f_P_canPay (σ : g_S) (o : Int32) (z : Int64) (y : Int64) : Int32 := (if (σ.2 (o.toNatClampNeg + 10) 0) < z then f_P_canPay_31_3 σ o z y else f_P_canPay_13_4 σ o z y)
def k_P_canPay (σ : g_S) (o : Int32) (z : Int64) (y : Int64) : Prop := (vp_in o 4) ∧ (if (σ.2 (o.toNatClampNeg + 10) 0) < z then k_P_canPay_31_3 σ o z y else k_P_canPay_13_4 σ o z y)
set_option maxHeartbeats 4000000 in
set_option maxRecDepth 100000 in
theorem c_P_canPay (l : Launch) (dC : Nat → ClassId) (dI : Nat → Nat → Nat) (dA : Nat → ClassId) (ad : Nat → Nat) (tb : Nat) (σ : g_S) (o : Int32) (z : Int64) (y : Int64) (hQ : k_P_canPay σ o z y) : Met l y_P_canPay w_P_canPay ({ frames := 0, cells := 0, slots := 0, locals := 0 }) (va_Pc [.ref (ad 0), .int o, .long z, .long y] (g_R (dC, dI) cls (x_tys dA) (g_w x_sh dA ad σ) (x_Z tb))) (vp_Si (fun r => r = f_P_canPay σ o z y)) 0 0 (fun _ => False) := by
  refine Met.ofW (cc := b_P_canPay) (maxL := 6) (ret := (some .boolean)) (by decide) rfl ?_
  intro p e s m args below meth c s₁ B hml hv
  obtain ⟨rfl, hP, hK, hz⟩ := hv
  have hx := B.exec
  have hb := B.bytes
  have hr := B.returns
  have hts := atoms_spec (ws := w_P_canPay) B.pre
  have ht := fun (w : Cond) (h : w ∈ gA) => hts w (List.mem_cons_of_mem _ h)
  have hown : s.vm.findClass "RangedPool" = some m.cls := findClass_of_methodNamed B.named
  have hlocks := B.notSynchronized
  have hS : va_S (fun _ => False) s.heap s.heap [] := va_S.rf
  have hl := lv_entry ([.ref (ad 0), .int o, .long z, .long y]) (n := 6) (Nat.le_of_ble_eq_true rfl)
  rw [lg_entry_eq]
  generalize (lg_sl ([.ref (ad 0), .int o, .long z, .long y]) ++ List.replicate (6 - (lg_sl ([.ref (ad 0), .int o, .long z, .long y])).length) Slot.unset).toArray = ls at hl ⊢
  have hl : lv_has ls 6 [(0, .ref (ad 0)), (1, .int o), (2, .long z), (4, .long y)] := hl
  have hF : f_P_canPay σ o z y = f_P_canPay σ o z y := rfl
  refine lv_aload_n hx hb d_P_canPay_0 rfl (lv_at hl 0 rfl) ?_
  refine g_get hx hb ht in_P hown hK hP (0) x_at0 rfl 2 (by decide) rfl (ht _ kw131) (fun _ h9 => h9) (v := .ref (ad 1)) rfl d_P_canPay_1 ?_
  refine lv_iload_n hx hb d_P_canPay_4 rfl (lv_at hl 1 rfl) ?_
  obtain ⟨hs1, hQ⟩ := hQ
  refine g_aald hx hb hK hP 1 x_at1 rfl rfl (hs1) (z := o.toNatClampNeg + 10) (x_el1 (rfl) (g_nlt hs1)) d_P_canPay_5 ?_
  refine lv_iconst (v := (0 : Int32)) hx hb d_P_canPay_6 (by decide) ?_
  refine g_lald hx hb hK hP (o.toNatClampNeg + 10) (x_at10 (g_nlt hs1)) rfl (by unfold vp_in; decide) (j := 0) (by decide) d_P_canPay_7 ?_
  refine lv_lload_n hx hb d_P_canPay_8 rfl (lv_at hl 2 rfl) ?_
  refine W.lcmp hx hb d_P_canPay_9 ?_
  refine lv_if_lt (tgt := 31) hx hb d_P_canPay_10 (by decide) (fun c2 => ?_) (fun c2 => ?_)
  ·
    have c2 : (σ.2 (o.toNatClampNeg + 10) 0) < z := (lg_cmp_lt _ _).mp c2
    have hF : f_P_canPay σ o z y = f_P_canPay_31_3 σ o z y := hF.trans (if_pos c2)
    have hQ : k_P_canPay_31_3 σ o z y := Eq.mp (if_pos c2) hQ
    refine lv_iconst (v := (0 : Int32)) hx hb d_P_canPay_31 (by decide) ?_
    exact W.zret (ty := .boolean) (v := (0 : Int32)) hx hb hr (g_zr (by decide)) (fun t hh hW => ⟨_, rfl, hF.symm, hh⟩) (fun _ h => by cases h) d_P_canPay_32
  ·
    have c2 : ¬ ((σ.2 (o.toNatClampNeg + 10) 0) < z) := mt (lg_cmp_lt _ _).mpr c2
    have hF : f_P_canPay σ o z y = f_P_canPay_13_4 σ o z y := hF.trans (if_neg c2)
    have hQ : k_P_canPay_13_4 σ o z y := Eq.mp (if_neg c2) hQ
    refine lv_aload_n hx hb d_P_canPay_13 rfl (lv_at hl 0 rfl) ?_
    refine g_get hx hb ht in_P hown hK hP (0) x_at0 rfl 2 (by decide) rfl (ht _ kw131) (fun _ h9 => h9) (v := .ref (ad 1)) rfl d_P_canPay_14 ?_
    refine lv_iload_n hx hb d_P_canPay_17 rfl (lv_at hl 1 rfl) ?_
    obtain ⟨hs5, hQ⟩ := hQ
    refine g_aald hx hb hK hP 1 x_at1 rfl rfl (hs5) (z := o.toNatClampNeg + 10) (x_el1 (rfl) (g_nlt hs5)) d_P_canPay_18 ?_
    refine lv_iconst (v := (1 : Int32)) hx hb d_P_canPay_19 (by decide) ?_
    refine g_lald hx hb hK hP (o.toNatClampNeg + 10) (x_at10 (g_nlt hs5)) rfl (by unfold vp_in; decide) (j := 1) (by decide) d_P_canPay_20 ?_
    refine lv_lload hx hb d_P_canPay_21 (lv_at hl 3 rfl) ?_
    refine W.lcmp hx hb d_P_canPay_23 ?_
    refine lv_if_lt (tgt := 31) hx hb d_P_canPay_24 (by decide) (fun c6 => ?_) (fun c6 => ?_)
    ·
      have c6 : (σ.2 (o.toNatClampNeg + 10) 1) < y := (lg_cmp_lt _ _).mp c6
      have hF : f_P_canPay σ o z y = f_P_canPay_31_7 σ o z y := hF.trans (if_pos c6)
      have hQ : k_P_canPay_31_7 σ o z y := Eq.mp (if_pos c6) hQ
      refine lv_iconst (v := (0 : Int32)) hx hb d_P_canPay_31 (by decide) ?_
      exact W.zret (ty := .boolean) (v := (0 : Int32)) hx hb hr (g_zr (by decide)) (fun t hh hW => ⟨_, rfl, hF.symm, hh⟩) (fun _ h => by cases h) d_P_canPay_32
    ·
      have c6 : ¬ ((σ.2 (o.toNatClampNeg + 10) 1) < y) := mt (lg_cmp_lt _ _).mpr c6
      have hF : f_P_canPay σ o z y = f_P_canPay_27_8 σ o z y := hF.trans (if_neg c6)
      have hQ : k_P_canPay_27_8 σ o z y := Eq.mp (if_neg c6) hQ
      refine lv_iconst (v := (1 : Int32)) hx hb d_P_canPay_27 (by decide) ?_
      refine lv_goto (tgt := 32) hx hb d_P_canPay_28 (by decide) ?_
      exact W.zret (ty := .boolean) (v := (1 : Int32)) hx hb hr (g_zr (by decide)) (fun t hh hW => ⟨_, rfl, hF.symm, hh⟩) (fun _ h => by cases h) d_P_canPay_32
