set_option maxHeartbeats 4000000 in
set_option maxRecDepth 100000 in
theorem c_T_init (l : Launch) (dC : Nat → ClassId) (dI : Nat → Nat → Nat) (q0 sz : Nat) (cL : ClassId) : Met l y_T_init w_T_init ({ frames := 1, cells := 2, slots := 4, locals := 12 }) (va_Pc [.ref q0] (fun U => U.heap.size = sz ∧ va_P (dC, dI) cls [(q0, .inr (1, [.int 0, .int 0, .int 0, .long 0, .null, .null, .long 0]))] U.heap ∧ va_K (dC, dI) cls [(cL, .long)] U ∧ va_D (fun _ => True) [(q0, .inr (1, [.int 0, .int 0, .int 0, .long 0, .null, .null, .long 0]))])) (va_Qv (fun _ : Nat × Nat => True) (fun (u : Nat × Nat) t => va_P (dC, dI) cls [(q0, .inr (1, [.int 0, .int 0, .int 0, .long 0, .ref u.1, .ref u.2, .long 0])), (u.1, .inl (cL, 2, .inr (.inl (fun _ => 0)))), (u.2, .inl (cL, 2, .inr (.inl (fun _ => 0))))] t.heap ∧ va_D (va_A [(q0, .inr (1, [.int 0, .int 0, .int 0, .long 0, .null, .null, .long 0]))] sz) [(q0, .inr (1, [.int 0, .int 0, .int 0, .long 0, .ref u.1, .ref u.2, .long 0])), (u.1, .inl (cL, 2, .inr (.inl (fun _ => 0)))), (u.2, .inl (cL, 2, .inr (.inl (fun _ => 0))))]) (va_A [(q0, .inr (1, [.int 0, .int 0, .int 0, .long 0, .null, .null, .long 0]))] sz)) 2 4 (va_A [(q0, .inr (1, [.int 0, .int 0, .int 0, .long 0, .null, .null, .long 0]))] sz) := by
  refine Met.ofW (cc := b_T_init) (maxL := 1) (ret := none) (by decide) rfl ?_
  intro p e s m args below meth c s₁ B hml hv
  obtain ⟨rfl, hsz, hP, hK, hD0⟩ := hv
  have hx := B.exec
  have hb := B.bytes
  have hr := B.returns
  have hts := atoms_spec (ws := w_T_init) B.pre
  have ht := fun (w : Cond) (h : w ∈ gA) => hts w (List.mem_cons_of_mem _ h)
  have hown : s.vm.findClass "RangedPool$Lot" = some m.cls := findClass_of_methodNamed B.named
  have hlocks := B.notSynchronized
  have hin : meth.name = "<init>" := (name_of_methodNamed B.named B.method).1
  subst hsz
  have hD := hD0.self (sz := s.heap.size)
  generalize hAe : va_A [(q0, .inr (1, [.int 0, .int 0, .int 0, .long 0, .null, .null, .long 0]))] s.heap.size = A at hD ⊢
  have hA : ∀ q : Nat, s.heap.size ≤ q → A q := fun q h => by rw [← hAe]; exact Or.inr h
  have hS : va_S A s.heap s.heap [] := va_S.rf
  have hP : va_P (dC, dI) cls [(q0, .inr (1, [.int 0, .int 0, .int 0, .long 0, .null, .null, .long 0]))] s.heap := hP
  have hD : va_D A [(q0, .inr (1, [.int 0, .int 0, .int 0, .long 0, .null, .null, .long 0]))] := hD
  have hl := lv_entry ([.ref q0]) (n := 1) (Nat.le_of_ble_eq_true rfl)
  rw [lg_entry_eq]
  generalize (lg_sl ([.ref q0]) ++ List.replicate (1 - (lg_sl ([.ref q0])).length) Slot.unset).toArray = ls at hl ⊢
  have hl : lv_has ls 1 [(0, .ref q0)] := hl
  refine lv_aload_n hx hb d_T_init_0 rfl (lv_at hl 0 rfl) ?_
  refine W.objInit hx hb hown (ht _ kw30) (ht _ kw14) (ht _ kw15) rfl (by rw [hml]; exact hl.1) rfl d_T_init_1 (Nat.le_of_ble_eq_true rfl) (Nat.le_of_ble_eq_true rfl) ?_
  refine W.eq (g2 := F0 m 4 ls []) rfl ?_
  refine lv_aload_n hx hb d_T_init_4 rfl (lv_at hl 0 rfl) ?_
  refine lv_iconst (v := (2 : Int32)) hx hb d_T_init_5 (by decide) ?_
  refine va_newa (atype := .long) (ty := .long) (a0 := (2, .inr (.inl (fun _ => 0)))) hx hb (ht _ kw59) rfl hK hP hD hS hA (fun _ => rfl) (by decide) rfl (by decide) (Nat.le_of_ble_eq_true rfl) (Nat.le_of_ble_eq_true rfl) d_T_init_6 (fun q1 cA2 H hK hP hD hS => ?_)
  have hK : va_K (dC, dI) cls [(cL, .long), (cA2, .long)] s := hK
  have eA3 : cL = cA2 := g_KA hK (i := 0) (j := 1) rfl rfl
  subst eA3
  have hK : va_K (dC, dI) cls [(cL, .long)] s := hK.sub [0] rfl
  have hP : va_P (dC, dI) cls [(q0, .inr (1, [.int 0, .int 0, .int 0, .long 0, .null, .null, .long 0])), (q1, .inl (cL, 2, .inr (.inl (fun _ => 0))))] H := hP
  have hD : va_D A [(q0, .inr (1, [.int 0, .int 0, .int 0, .long 0, .null, .null, .long 0])), (q1, .inl (cL, 2, .inr (.inl (fun _ => 0))))] := hD
  refine va_putF (D := (dC, dI)) (ci := 1) (v := .ref q1) (ty := (.array .long)) (C := "RangedPool$Lot") (T := F_T) (N := 7) hx hb ht in_T yt_T yt_T_ok n_T hown hK hP hD hS 0 rfl rfl 4 (by decide) (ht _ kw39) (fun _ h9 => h9) rfl hin rfl (by decide +kernel) rfl rfl (Nat.le_of_ble_eq_true rfl) d_T_init_8 (fun H locs hP hD hS => ?_)
  have hP : va_P (dC, dI) cls [(q0, .inr (1, [.int 0, .int 0, .int 0, .long 0, .ref q1, .null, .long 0])), (q1, .inl (cL, 2, .inr (.inl (fun _ => 0))))] H := hP
  have hD : va_D A [(q0, .inr (1, [.int 0, .int 0, .int 0, .long 0, .ref q1, .null, .long 0])), (q1, .inl (cL, 2, .inr (.inl (fun _ => 0))))] := hD
  refine lv_aload_n hx hb d_T_init_11 rfl (lv_at hl 0 rfl) ?_
  refine lv_iconst (v := (2 : Int32)) hx hb d_T_init_12 (by decide) ?_
  refine va_newa (atype := .long) (ty := .long) (a0 := (2, .inr (.inl (fun _ => 0)))) hx hb (ht _ kw59) rfl hK hP hD hS hA (fun _ => rfl) (by decide) rfl (by decide) (Nat.le_of_ble_eq_true rfl) (Nat.le_of_ble_eq_true rfl) d_T_init_13 (fun q4 cA5 H hK hP hD hS => ?_)
  have hK : va_K (dC, dI) cls [(cL, .long), (cA5, .long)] s := hK
  have eA6 : cL = cA5 := g_KA hK (i := 0) (j := 1) rfl rfl
  subst eA6
  have hK : va_K (dC, dI) cls [(cL, .long)] s := hK.sub [0] rfl
  have hP : va_P (dC, dI) cls [(q0, .inr (1, [.int 0, .int 0, .int 0, .long 0, .ref q1, .null, .long 0])), (q1, .inl (cL, 2, .inr (.inl (fun _ => 0)))), (q4, .inl (cL, 2, .inr (.inl (fun _ => 0))))] H := hP
  have hD : va_D A [(q0, .inr (1, [.int 0, .int 0, .int 0, .long 0, .ref q1, .null, .long 0])), (q1, .inl (cL, 2, .inr (.inl (fun _ => 0)))), (q4, .inl (cL, 2, .inr (.inl (fun _ => 0))))] := hD
  refine va_putF (D := (dC, dI)) (ci := 1) (v := .ref q4) (ty := (.array .long)) (C := "RangedPool$Lot") (T := F_T) (N := 7) hx hb ht in_T yt_T yt_T_ok n_T hown hK hP hD hS 0 rfl rfl 5 (by decide) (ht _ kw41) (fun _ h9 => h9) rfl hin rfl (by decide +kernel) rfl rfl (Nat.le_of_ble_eq_true rfl) d_T_init_15 (fun H locs hP hD hS => ?_)
  have hP : va_P (dC, dI) cls [(q0, .inr (1, [.int 0, .int 0, .int 0, .long 0, .ref q1, .ref q4, .long 0])), (q1, .inl (cL, 2, .inr (.inl (fun _ => 0)))), (q4, .inl (cL, 2, .inr (.inl (fun _ => 0))))] H := hP
  have hD : va_D A [(q0, .inr (1, [.int 0, .int 0, .int 0, .long 0, .ref q1, .ref q4, .long 0])), (q1, .inl (cL, 2, .inr (.inl (fun _ => 0)))), (q4, .inl (cL, 2, .inr (.inl (fun _ => 0))))] := hD
  exact W.vret hx hb hr (fun t ht hW => ⟨⟨(q1, q4), rfl, trivial, by rw [ht]; exact hP, hD⟩, hS.F ht⟩) hS.2.2 d_T_init_18
set_option maxHeartbeats 4000000 in
set_option maxRecDepth 100000 in
theorem c_H_init (l : Launch) (dC : Nat → ClassId) (dI : Nat → Nat → Nat) (q0 sz : Nat) (cL : ClassId) : Met l y_H_init w_H_init ({ frames := 1, cells := 3, slots := 24, locals := 12 }) (va_Pc [.ref q0] (fun U => U.heap.size = sz ∧ va_P (dC, dI) cls [(q0, .inr (0, [.long 0, .long 0, .int 0, .null, .null, .null]))] U.heap ∧ va_K (dC, dI) cls [(cL, .long)] U ∧ va_D (fun _ => True) [(q0, .inr (0, [.long 0, .long 0, .int 0, .null, .null, .null]))])) (va_Qv (fun _ : Nat × Nat × Nat × ClassId => True) (fun (u : Nat × Nat × Nat × ClassId) t => va_P (dC, dI) cls [(q0, .inr (0, [.long 0, .long 0, .int 0, .ref u.1, .ref u.2.1, .ref u.2.2.1])), (u.1, .inl (cL, 8, .inr (.inl (fun _ => 0)))), (u.2.1, .inl (cL, 8, .inr (.inl (fun _ => 0)))), (u.2.2.1, .inl (u.2.2.2, 8, .inl (fun _ => 0)))] t.heap ∧ va_K (dC, dI) cls [(u.2.2.2, .int)] t ∧ va_D (va_A [(q0, .inr (0, [.long 0, .long 0, .int 0, .null, .null, .null]))] sz) [(q0, .inr (0, [.long 0, .long 0, .int 0, .ref u.1, .ref u.2.1, .ref u.2.2.1])), (u.1, .inl (cL, 8, .inr (.inl (fun _ => 0)))), (u.2.1, .inl (cL, 8, .inr (.inl (fun _ => 0)))), (u.2.2.1, .inl (u.2.2.2, 8, .inl (fun _ => 0)))]) (va_A [(q0, .inr (0, [.long 0, .long 0, .int 0, .null, .null, .null]))] sz)) 3 24 (va_A [(q0, .inr (0, [.long 0, .long 0, .int 0, .null, .null, .null]))] sz) := by
  refine Met.ofW (cc := b_H_init) (maxL := 1) (ret := none) (by decide) rfl ?_
  intro p e s m args below meth c s₁ B hml hv
  obtain ⟨rfl, hsz, hP, hK, hD0⟩ := hv
  have hx := B.exec
  have hb := B.bytes
  have hr := B.returns
  have hts := atoms_spec (ws := w_H_init) B.pre
  have ht := fun (w : Cond) (h : w ∈ gA) => hts w (List.mem_cons_of_mem _ h)
  have hown : s.vm.findClass "RangedPool$History" = some m.cls := findClass_of_methodNamed B.named
  have hlocks := B.notSynchronized
  have hin : meth.name = "<init>" := (name_of_methodNamed B.named B.method).1
  subst hsz
  have hD := hD0.self (sz := s.heap.size)
  generalize hAe : va_A [(q0, .inr (0, [.long 0, .long 0, .int 0, .null, .null, .null]))] s.heap.size = A at hD ⊢
  have hA : ∀ q : Nat, s.heap.size ≤ q → A q := fun q h => by rw [← hAe]; exact Or.inr h
  have hS : va_S A s.heap s.heap [] := va_S.rf
  have hP : va_P (dC, dI) cls [(q0, .inr (0, [.long 0, .long 0, .int 0, .null, .null, .null]))] s.heap := hP
  have hD : va_D A [(q0, .inr (0, [.long 0, .long 0, .int 0, .null, .null, .null]))] := hD
  have hl := lv_entry ([.ref q0]) (n := 1) (Nat.le_of_ble_eq_true rfl)
  rw [lg_entry_eq]
  generalize (lg_sl ([.ref q0]) ++ List.replicate (1 - (lg_sl ([.ref q0])).length) Slot.unset).toArray = ls at hl ⊢
  have hl : lv_has ls 1 [(0, .ref q0)] := hl
  refine lv_aload_n hx hb d_H_init_0 rfl (lv_at hl 0 rfl) ?_
  refine W.objInit hx hb hown (ht _ kw69) (ht _ kw14) (ht _ kw15) rfl (by rw [hml]; exact hl.1) rfl d_H_init_1 (Nat.le_of_ble_eq_true rfl) (Nat.le_of_ble_eq_true rfl) ?_
  refine W.eq (g2 := F0 m 4 ls []) rfl ?_
  refine lv_aload_n hx hb d_H_init_4 rfl (lv_at hl 0 rfl) ?_
  refine lv_bipush (v := (8 : Int32)) hx hb d_H_init_5 (by decide) ?_
  refine va_newa (atype := .long) (ty := .long) (a0 := (8, .inr (.inl (fun _ => 0)))) hx hb (ht _ kw59) rfl hK hP hD hS hA (fun _ => rfl) (by decide) rfl (by decide) (Nat.le_of_ble_eq_true rfl) (Nat.le_of_ble_eq_true rfl) d_H_init_7 (fun q1 cA2 H hK hP hD hS => ?_)
  have hK : va_K (dC, dI) cls [(cL, .long), (cA2, .long)] s := hK
  have eA3 : cL = cA2 := g_KA hK (i := 0) (j := 1) rfl rfl
  subst eA3
  have hK : va_K (dC, dI) cls [(cL, .long)] s := hK.sub [0] rfl
  have hP : va_P (dC, dI) cls [(q0, .inr (0, [.long 0, .long 0, .int 0, .null, .null, .null])), (q1, .inl (cL, 8, .inr (.inl (fun _ => 0))))] H := hP
  have hD : va_D A [(q0, .inr (0, [.long 0, .long 0, .int 0, .null, .null, .null])), (q1, .inl (cL, 8, .inr (.inl (fun _ => 0))))] := hD
  refine va_putF (D := (dC, dI)) (ci := 0) (v := .ref q1) (ty := (.array .long)) (C := "RangedPool$History") (T := F_H) (N := 6) hx hb ht in_H yt_H yt_H_ok n_H hown hK hP hD hS 0 rfl rfl 3 (by decide) (ht _ kw74) (fun _ h9 => h9) rfl hin rfl (by decide +kernel) rfl rfl (Nat.le_of_ble_eq_true rfl) d_H_init_9 (fun H locs hP hD hS => ?_)
  have hP : va_P (dC, dI) cls [(q0, .inr (0, [.long 0, .long 0, .int 0, .ref q1, .null, .null])), (q1, .inl (cL, 8, .inr (.inl (fun _ => 0))))] H := hP
  have hD : va_D A [(q0, .inr (0, [.long 0, .long 0, .int 0, .ref q1, .null, .null])), (q1, .inl (cL, 8, .inr (.inl (fun _ => 0))))] := hD
  refine lv_aload_n hx hb d_H_init_12 rfl (lv_at hl 0 rfl) ?_
  refine lv_bipush (v := (8 : Int32)) hx hb d_H_init_13 (by decide) ?_
  refine va_newa (atype := .long) (ty := .long) (a0 := (8, .inr (.inl (fun _ => 0)))) hx hb (ht _ kw59) rfl hK hP hD hS hA (fun _ => rfl) (by decide) rfl (by decide) (Nat.le_of_ble_eq_true rfl) (Nat.le_of_ble_eq_true rfl) d_H_init_15 (fun q4 cA5 H hK hP hD hS => ?_)
  have hK : va_K (dC, dI) cls [(cL, .long), (cA5, .long)] s := hK
  have eA6 : cL = cA5 := g_KA hK (i := 0) (j := 1) rfl rfl
  subst eA6
  have hK : va_K (dC, dI) cls [(cL, .long)] s := hK.sub [0] rfl
  have hP : va_P (dC, dI) cls [(q0, .inr (0, [.long 0, .long 0, .int 0, .ref q1, .null, .null])), (q1, .inl (cL, 8, .inr (.inl (fun _ => 0)))), (q4, .inl (cL, 8, .inr (.inl (fun _ => 0))))] H := hP
  have hD : va_D A [(q0, .inr (0, [.long 0, .long 0, .int 0, .ref q1, .null, .null])), (q1, .inl (cL, 8, .inr (.inl (fun _ => 0)))), (q4, .inl (cL, 8, .inr (.inl (fun _ => 0))))] := hD
  refine va_putF (D := (dC, dI)) (ci := 0) (v := .ref q4) (ty := (.array .long)) (C := "RangedPool$History") (T := F_H) (N := 6) hx hb ht in_H yt_H yt_H_ok n_H hown hK hP hD hS 0 rfl rfl 4 (by decide) (ht _ kw75) (fun _ h9 => h9) rfl hin rfl (by decide +kernel) rfl rfl (Nat.le_of_ble_eq_true rfl) d_H_init_17 (fun H locs hP hD hS => ?_)
  have hP : va_P (dC, dI) cls [(q0, .inr (0, [.long 0, .long 0, .int 0, .ref q1, .ref q4, .null])), (q1, .inl (cL, 8, .inr (.inl (fun _ => 0)))), (q4, .inl (cL, 8, .inr (.inl (fun _ => 0))))] H := hP
  have hD : va_D A [(q0, .inr (0, [.long 0, .long 0, .int 0, .ref q1, .ref q4, .null])), (q1, .inl (cL, 8, .inr (.inl (fun _ => 0)))), (q4, .inl (cL, 8, .inr (.inl (fun _ => 0))))] := hD
  refine lv_aload_n hx hb d_H_init_20 rfl (lv_at hl 0 rfl) ?_
  refine lv_bipush (v := (8 : Int32)) hx hb d_H_init_21 (by decide) ?_
  refine va_newa (atype := .int) (ty := .int) (a0 := (8, .inl (fun _ => 0))) hx hb (ht _ kw90) rfl hK hP hD hS hA (fun _ => rfl) (by decide) rfl (by decide) (Nat.le_of_ble_eq_true rfl) (Nat.le_of_ble_eq_true rfl) d_H_init_23 (fun q7 cA8 H hK hP hD hS => ?_)
  have hK : va_K (dC, dI) cls [(cL, .long), (cA8, .int)] s := hK
  have hP : va_P (dC, dI) cls [(q0, .inr (0, [.long 0, .long 0, .int 0, .ref q1, .ref q4, .null])), (q1, .inl (cL, 8, .inr (.inl (fun _ => 0)))), (q4, .inl (cL, 8, .inr (.inl (fun _ => 0)))), (q7, .inl (cA8, 8, .inl (fun _ => 0)))] H := hP
  have hD : va_D A [(q0, .inr (0, [.long 0, .long 0, .int 0, .ref q1, .ref q4, .null])), (q1, .inl (cL, 8, .inr (.inl (fun _ => 0)))), (q4, .inl (cL, 8, .inr (.inl (fun _ => 0)))), (q7, .inl (cA8, 8, .inl (fun _ => 0)))] := hD
  refine va_putF (D := (dC, dI)) (ci := 0) (v := .ref q7) (ty := (.array .int)) (C := "RangedPool$History") (T := F_H) (N := 6) hx hb ht in_H yt_H yt_H_ok n_H hown hK hP hD hS 0 rfl rfl 5 (by decide) (ht _ kw76) (fun _ h9 => h9) rfl hin rfl (by decide +kernel) rfl rfl (Nat.le_of_ble_eq_true rfl) d_H_init_25 (fun H locs hP hD hS => ?_)
  have hP : va_P (dC, dI) cls [(q0, .inr (0, [.long 0, .long 0, .int 0, .ref q1, .ref q4, .ref q7])), (q1, .inl (cL, 8, .inr (.inl (fun _ => 0)))), (q4, .inl (cL, 8, .inr (.inl (fun _ => 0)))), (q7, .inl (cA8, 8, .inl (fun _ => 0)))] H := hP
  have hD : va_D A [(q0, .inr (0, [.long 0, .long 0, .int 0, .ref q1, .ref q4, .ref q7])), (q1, .inl (cL, 8, .inr (.inl (fun _ => 0)))), (q4, .inl (cL, 8, .inr (.inl (fun _ => 0)))), (q7, .inl (cA8, 8, .inl (fun _ => 0)))] := hD
  exact W.vret hx hb hr (fun t ht hW => ⟨⟨(q1, q4, q7, cA8), rfl, trivial, by rw [ht]; exact hP, va_K.moved hW.alike (hK.sub [1] rfl), hD⟩, hS.F ht⟩) hS.2.2 d_H_init_28
set_option maxHeartbeats 4000000 in
set_option maxRecDepth 100000 in
theorem c_D_init (l : Launch) (dC : Nat → ClassId) (dI : Nat → Nat → Nat) (q0 sz : Nat) (fe : Int32) : Met l y_D_init w_D_init ({ frames := 1, cells := 0, slots := 0, locals := 12 }) (va_Pc [.ref q0, .int fe] (fun U => U.heap.size = sz ∧ va_P (dC, dI) cls [(q0, .inr (3, [.int 0, .int 0, .int 0, .long 0, .int 0, .int 0, .long 0, .long 0]))] U.heap ∧ va_K (dC, dI) cls [] U ∧ va_D (fun _ => True) [(q0, .inr (3, [.int 0, .int 0, .int 0, .long 0, .int 0, .int 0, .long 0, .long 0]))])) (va_Qv (fun _ : Unit => True) (fun (u : Unit) t => va_P (dC, dI) cls [(q0, .inr (3, [.int fe, .int 0, .int 0, .long 0, .int 0, .int 0, .long 0, .long 0]))] t.heap ∧ va_D (va_A [(q0, .inr (3, [.int 0, .int 0, .int 0, .long 0, .int 0, .int 0, .long 0, .long 0]))] sz) [(q0, .inr (3, [.int fe, .int 0, .int 0, .long 0, .int 0, .int 0, .long 0, .long 0]))]) (va_A [(q0, .inr (3, [.int 0, .int 0, .int 0, .long 0, .int 0, .int 0, .long 0, .long 0]))] sz)) 0 0 (va_A [(q0, .inr (3, [.int 0, .int 0, .int 0, .long 0, .int 0, .int 0, .long 0, .long 0]))] sz) := by
  refine Met.ofW (cc := b_D_init) (maxL := 2) (ret := none) (by decide) rfl ?_
  intro p e s m args below meth c s₁ B hml hv
  obtain ⟨rfl, hsz, hP, hK, hD0⟩ := hv
  have hx := B.exec
  have hb := B.bytes
  have hr := B.returns
  have hts := atoms_spec (ws := w_D_init) B.pre
  have ht := fun (w : Cond) (h : w ∈ gA) => hts w (List.mem_cons_of_mem _ h)
  have hown : s.vm.findClass "RangedPool$Trade" = some m.cls := findClass_of_methodNamed B.named
  have hlocks := B.notSynchronized
  have hin : meth.name = "<init>" := (name_of_methodNamed B.named B.method).1
  subst hsz
  have hD := hD0.self (sz := s.heap.size)
  generalize hAe : va_A [(q0, .inr (3, [.int 0, .int 0, .int 0, .long 0, .int 0, .int 0, .long 0, .long 0]))] s.heap.size = A at hD ⊢
  have hA : ∀ q : Nat, s.heap.size ≤ q → A q := fun q h => by rw [← hAe]; exact Or.inr h
  have hS : va_S A s.heap s.heap [] := va_S.rf
  have hP : va_P (dC, dI) cls [(q0, .inr (3, [.int 0, .int 0, .int 0, .long 0, .int 0, .int 0, .long 0, .long 0]))] s.heap := hP
  have hD : va_D A [(q0, .inr (3, [.int 0, .int 0, .int 0, .long 0, .int 0, .int 0, .long 0, .long 0]))] := hD
  have hl := lv_entry ([.ref q0, .int fe]) (n := 2) (Nat.le_of_ble_eq_true rfl)
  rw [lg_entry_eq]
  generalize (lg_sl ([.ref q0, .int fe]) ++ List.replicate (2 - (lg_sl ([.ref q0, .int fe])).length) Slot.unset).toArray = ls at hl ⊢
  have hl : lv_has ls 2 [(0, .ref q0), (1, .int fe)] := hl
  refine lv_aload_n hx hb d_D_init_0 rfl (lv_at hl 0 rfl) ?_
  refine W.objInit hx hb hown (ht _ kw99) (ht _ kw14) (ht _ kw15) rfl (by rw [hml]; exact hl.1) rfl d_D_init_1 (Nat.le_of_ble_eq_true rfl) (Nat.le_of_ble_eq_true rfl) ?_
  refine W.eq (g2 := F0 m 4 ls []) rfl ?_
  refine lv_aload_n hx hb d_D_init_4 rfl (lv_at hl 0 rfl) ?_
  refine lv_iload_n hx hb d_D_init_5 rfl (lv_at hl 1 rfl) ?_
  refine va_putF (D := (dC, dI)) (ci := 3) (v := .int fe) (ty := .int) (C := "RangedPool$Trade") (T := F_D) (N := 8) hx hb ht in_D yt_D yt_D_ok n_D hown hK hP hD hS 0 rfl rfl 0 (by decide) (ht _ kw100) (fun _ h9 => h9) rfl hin rfl (by decide +kernel) rfl rfl (Nat.le_of_ble_eq_true rfl) d_D_init_6 (fun H locs hP hD hS => ?_)
  have hP : va_P (dC, dI) cls [(q0, .inr (3, [.int fe, .int 0, .int 0, .long 0, .int 0, .int 0, .long 0, .long 0]))] H := hP
  have hD : va_D A [(q0, .inr (3, [.int fe, .int 0, .int 0, .long 0, .int 0, .int 0, .long 0, .long 0]))] := hD
  exact W.vret hx hb hr (fun t ht hW => ⟨⟨(), rfl, trivial, by rw [ht]; exact hP, hD⟩, hS.F ht⟩) hS.2.2 d_D_init_9
