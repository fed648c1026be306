def f_M_init_259_517 (a : Int32) (b : Int32) (x501 : Int32) (x505 : Int32) (x509 : Int32) (τ514 : g_S) : g_S := τ514
def f_M_init_L190 (a : Int32) (b : Int32) (x501 : Int32) (x505 : Int32) (x509 : Int32) : Nat → Nat → g_S → g_S
  | 0, jk, τ513 => (τ513)
  | jn + 1, jk, τ513 => f_M_init_L190 a b x501 x505 x509 jn (jk + 1) (g_L (g_L τ513 1 (24 + (jk + 1)) (((τ513.2 1 (23 + (jk + 1))) * (1025 : Int64)) / (1000 : Int64))) 1 (24 - (jk + 1)) ((((g_L τ513 1 (24 + (jk + 1)) (((τ513.2 1 (23 + (jk + 1))) * (1025 : Int64)) / (1000 : Int64))).2 1 (25 - (jk + 1))) * (1000 : Int64)) / (1025 : Int64)))
def f_M_init_174_512 (a : Int32) (b : Int32) (x501 : Int32) (x505 : Int32) (x509 : Int32) : g_S := (f_M_init_259_517 a b x501 x505 x509 (f_M_init_L190 a b x501 x505 x509 24 0 (g_L (g_I (g_I r_00 0 0 x505) 0 1 x509) 1 24 (65536 : Int64))))
def f_M_init_155_508 (a : Int32) (b : Int32) (x501 : Int32) (x505 : Int32) : g_S := (f_M_init_174_512 a b x501 x505 (if b < 0 then (3 : Int32) else (if (100 : Int32) < b then (3 : Int32) else b)))
def f_M_init_144_504 (a : Int32) (b : Int32) (x501 : Int32) : g_S := (f_M_init_155_508 a b x501 (if x501 = 0 then (1 : Int32) else a))
def f_M_init (a : Int32) (b : Int32) : g_S := (f_M_init_144_504 a b (if a = (1 : Int32) then (1 : Int32) else (if a = (2 : Int32) then (1 : Int32) else (if a = (3 : Int32) then (1 : Int32) else (if a = (4 : Int32) then (1 : Int32) else (if a = (6 : Int32) then (1 : Int32) else (if a = (8 : Int32) then (1 : Int32) else (0 : Int32))))))))
set_option maxHeartbeats 4000000 in
set_option maxRecDepth 100000 in
theorem c_M_init (l : Launch) (dC : Nat → ClassId) (dI : Nat → Nat → Nat) (q0 sz : Nat) (a b : Int32) : Met l y_M_init w_M_init ({ frames := 1, cells := 13, slots := 175, locals := 12 }) (va_Pc [.ref q0, .int a, .int b] (fun U => U.heap.size = sz ∧ va_P (dC, dI) cls [(q0, .inr (5, [.int 0, .int 0, .null, .int 0, .long 0, .int 0, .null, .null, .null, .null, .null, .null, .null, .null, .null, .long 0, .long 0, .int 0, .null, .null, .long 0, .int 0, .long 0, .long 0, .long 0, .null]))] U.heap ∧ va_K (dC, dI) cls [] U ∧ va_D (fun _ => True) [(q0, .inr (5, [.int 0, .int 0, .null, .int 0, .long 0, .int 0, .null, .null, .null, .null, .null, .null, .null, .null, .null, .long 0, .long 0, .int 0, .null, .null, .long 0, .int 0, .long 0, .long 0, .long 0, .null]))])) (va_Qv (fun u : (Nat → Nat) × (Nat → ClassId) => u.1 0 = q0) (fun (u : (Nat → Nat) × (Nat → ClassId)) t => va_P (dC, dI) cls (g_w r_sh u.2 u.1 (f_M_init a b)) t.heap ∧ va_K (dC, dI) cls (r_tys u.2) t ∧ va_D (va_A [(q0, .inr (5, [.int 0, .int 0, .null, .int 0, .long 0, .int 0, .null, .null, .null, .null, .null, .null, .null, .null, .null, .long 0, .long 0, .int 0, .null, .null, .long 0, .int 0, .long 0, .long 0, .long 0, .null]))] sz) (g_w r_sh u.2 u.1 (f_M_init a b))) (va_A [(q0, .inr (5, [.int 0, .int 0, .null, .int 0, .long 0, .int 0, .null, .null, .null, .null, .null, .null, .null, .null, .null, .long 0, .long 0, .int 0, .null, .null, .long 0, .int 0, .long 0, .long 0, .long 0, .null]))] sz)) 13 175 (va_A [(q0, .inr (5, [.int 0, .int 0, .null, .int 0, .long 0, .int 0, .null, .null, .null, .null, .null, .null, .null, .null, .null, .long 0, .long 0, .int 0, .null, .null, .long 0, .int 0, .long 0, .long 0, .long 0, .null]))] sz) := by
  refine Met.ofW (cc := b_M_init) (maxL := 5) (ret := none) (by decide) rfl ?_
  intro p e s m args below meth c s₁ B hml hv
  obtain ⟨rfl, hsz, hP, hK, hD0⟩ := hv
  have hx := B.exec
  have hb := B.bytes
  have hr := B.returns
  have hts := atoms_spec (ws := w_M_init) B.pre
  have ht := fun (w : Cond) (h : w ∈ gA) => hts w (List.mem_cons_of_mem _ h)
  have hown : s.vm.findClass "RangedPoolModel" = some m.cls := findClass_of_methodNamed B.named
  have hlocks := B.notSynchronized
  have hin : meth.name = "<init>" := (name_of_methodNamed B.named B.method).1
  subst hsz
  have hD := hD0.self (sz := s.heap.size)
  generalize hAe : va_A [(q0, .inr (5, [.int 0, .int 0, .null, .int 0, .long 0, .int 0, .null, .null, .null, .null, .null, .null, .null, .null, .null, .long 0, .long 0, .int 0, .null, .null, .long 0, .int 0, .long 0, .long 0, .long 0, .null]))] s.heap.size = A at hD ⊢
  have hA : ∀ q : Nat, s.heap.size ≤ q → A q := fun q h => by rw [← hAe]; exact Or.inr h
  have hS : va_S A s.heap s.heap [] := va_S.rf
  have hP : va_P (dC, dI) cls [(q0, .inr (5, [.int 0, .int 0, .null, .int 0, .long 0, .int 0, .null, .null, .null, .null, .null, .null, .null, .null, .null, .long 0, .long 0, .int 0, .null, .null, .long 0, .int 0, .long 0, .long 0, .long 0, .null]))] s.heap := hP
  have hD : va_D A [(q0, .inr (5, [.int 0, .int 0, .null, .int 0, .long 0, .int 0, .null, .null, .null, .null, .null, .null, .null, .null, .null, .long 0, .long 0, .int 0, .null, .null, .long 0, .int 0, .long 0, .long 0, .long 0, .null]))] := hD
  have hl := lv_entry ([.ref q0, .int a, .int b]) (n := 5) (Nat.le_of_ble_eq_true rfl)
  rw [lg_entry_eq]
  generalize (lg_sl ([.ref q0, .int a, .int b]) ++ List.replicate (5 - (lg_sl ([.ref q0, .int a, .int b])).length) Slot.unset).toArray = ls at hl ⊢
  have hl : lv_has ls 5 [(0, .ref q0), (1, .int a), (2, .int b)] := hl
  refine lv_aload_n hx hb d_M_init_0 rfl (lv_at hl 0 rfl) ?_
  refine W.objInit hx hb hown (ht _ kw457) (ht _ kw14) (ht _ kw15) rfl (by rw [hml]; exact hl.1) rfl d_M_init_1 (Nat.le_of_ble_eq_true rfl) (Nat.le_of_ble_eq_true rfl) ?_
  refine W.eq (g2 := F0 m 4 ls []) rfl ?_
  refine lv_aload_n hx hb d_M_init_4 rfl (lv_at hl 0 rfl) ?_
  refine lv_bipush (v := (49 : Int32)) hx hb d_M_init_5 (by decide) ?_
  refine va_newa (atype := .long) (ty := .long) (a0 := (49, .inr (.inl (fun _ => 0)))) hx hb (ht _ kw59) rfl hK hP hD hS hA (fun _ => rfl) (by decide) rfl (by decide) (Nat.le_of_ble_eq_true rfl) (Nat.le_of_ble_eq_true rfl) d_M_init_7 (fun q1 cA2 H hK hP hD hS => ?_)
  have hK : va_K (dC, dI) cls [(cA2, .long)] s := hK
  have hP : va_P (dC, dI) cls [(q0, .inr (5, [.int 0, .int 0, .null, .int 0, .long 0, .int 0, .null, .null, .null, .null, .null, .null, .null, .null, .null, .long 0, .long 0, .int 0, .null, .null, .long 0, .int 0, .long 0, .long 0, .long 0, .null])), (q1, .inl (cA2, 49, .inr (.inl (fun _ => 0))))] H := hP
  have hD : va_D A [(q0, .inr (5, [.int 0, .int 0, .null, .int 0, .long 0, .int 0, .null, .null, .null, .null, .null, .null, .null, .null, .null, .long 0, .long 0, .int 0, .null, .null, .long 0, .int 0, .long 0, .long 0, .long 0, .null])), (q1, .inl (cA2, 49, .inr (.inl (fun _ => 0))))] := hD
  refine va_putF (D := (dC, dI)) (ci := 5) (v := .ref q1) (ty := (.array .long)) (C := "RangedPoolModel") (T := F_M) (N := 26) hx hb ht in_M yt_M yt_M_ok n_M hown hK hP hD hS 0 rfl rfl 2 (by decide) (ht _ kw463) (fun _ h9 => h9) rfl hin rfl (by decide +kernel) rfl rfl (Nat.le_of_ble_eq_true rfl) d_M_init_9 (fun H locs hP hD hS => ?_)
  have hP : va_P (dC, dI) cls [(q0, .inr (5, [.int 0, .int 0, .ref q1, .int 0, .long 0, .int 0, .null, .null, .null, .null, .null, .null, .null, .null, .null, .long 0, .long 0, .int 0, .null, .null, .long 0, .int 0, .long 0, .long 0, .long 0, .null])), (q1, .inl (cA2, 49, .inr (.inl (fun _ => 0))))] H := hP
  have hD : va_D A [(q0, .inr (5, [.int 0, .int 0, .ref q1, .int 0, .long 0, .int 0, .null, .null, .null, .null, .null, .null, .null, .null, .null, .long 0, .long 0, .int 0, .null, .null, .long 0, .int 0, .long 0, .long 0, .long 0, .null])), (q1, .inl (cA2, 49, .inr (.inl (fun _ => 0))))] := hD
  refine lv_aload_n hx hb d_M_init_12 rfl (lv_at hl 0 rfl) ?_
  refine lv_bipush (v := (8 : Int32)) hx hb d_M_init_13 (by decide) ?_
  refine va_newa (atype := .long) (ty := .long) (a0 := (8, .inr (.inl (fun _ => 0)))) hx hb (ht _ kw59) rfl hK hP hD hS hA (fun _ => rfl) (by decide) rfl (by decide) (Nat.le_of_ble_eq_true rfl) (Nat.le_of_ble_eq_true rfl) d_M_init_15 (fun q3 cA4 H hK hP hD hS => ?_)
  have hK : va_K (dC, dI) cls [(cA2, .long), (cA4, .long)] s := hK
  have eA5 : cA2 = cA4 := g_KA hK (i := 0) (j := 1) rfl rfl
  subst eA5
  have hK : va_K (dC, dI) cls [(cA2, .long)] s := hK.sub [0] rfl
  have hP : va_P (dC, dI) cls [(q0, .inr (5, [.int 0, .int 0, .ref q1, .int 0, .long 0, .int 0, .null, .null, .null, .null, .null, .null, .null, .null, .null, .long 0, .long 0, .int 0, .null, .null, .long 0, .int 0, .long 0, .long 0, .long 0, .null])), (q1, .inl (cA2, 49, .inr (.inl (fun _ => 0)))), (q3, .inl (cA2, 8, .inr (.inl (fun _ => 0))))] H := hP
  have hD : va_D A [(q0, .inr (5, [.int 0, .int 0, .ref q1, .int 0, .long 0, .int 0, .null, .null, .null, .null, .null, .null, .null, .null, .null, .long 0, .long 0, .int 0, .null, .null, .long 0, .int 0, .long 0, .long 0, .long 0, .null])), (q1, .inl (cA2, 49, .inr (.inl (fun _ => 0)))), (q3, .inl (cA2, 8, .inr (.inl (fun _ => 0))))] := hD
  refine va_putF (D := (dC, dI)) (ci := 5) (v := .ref q3) (ty := (.array .long)) (C := "RangedPoolModel") (T := F_M) (N := 26) hx hb ht in_M yt_M yt_M_ok n_M hown hK hP hD hS 0 rfl rfl 6 (by decide) (ht _ kw467) (fun _ h9 => h9) rfl hin rfl (by decide +kernel) rfl rfl (Nat.le_of_ble_eq_true rfl) d_M_init_17 (fun H locs hP hD hS => ?_)
  have hP : va_P (dC, dI) cls [(q0, .inr (5, [.int 0, .int 0, .ref q1, .int 0, .long 0, .int 0, .ref q3, .null, .null, .null, .null, .null, .null, .null, .null, .long 0, .long 0, .int 0, .null, .null, .long 0, .int 0, .long 0, .long 0, .long 0, .null])), (q1, .inl (cA2, 49, .inr (.inl (fun _ => 0)))), (q3, .inl (cA2, 8, .inr (.inl (fun _ => 0))))] H := hP
  have hD : va_D A [(q0, .inr (5, [.int 0, .int 0, .ref q1, .int 0, .long 0, .int 0, .ref q3, .null, .null, .null, .null, .null, .null, .null, .null, .long 0, .long 0, .int 0, .null, .null, .long 0, .int 0, .long 0, .long 0, .long 0, .null])), (q1, .inl (cA2, 49, .inr (.inl (fun _ => 0)))), (q3, .inl (cA2, 8, .inr (.inl (fun _ => 0))))] := hD
  refine lv_aload_n hx hb d_M_init_20 rfl (lv_at hl 0 rfl) ?_
  refine lv_iconst (v := (2 : Int32)) hx hb d_M_init_21 (by decide) ?_
  refine va_newa (atype := .long) (ty := .long) (a0 := (2, .inr (.inl (fun _ => 0)))) hx hb (ht _ kw59) rfl hK hP hD hS hA (fun _ => rfl) (by decide) rfl (by decide) (Nat.le_of_ble_eq_true rfl) (Nat.le_of_ble_eq_true rfl) d_M_init_22 (fun q6 cA7 H hK hP hD hS => ?_)
  have hK : va_K (dC, dI) cls [(cA2, .long), (cA7, .long)] s := hK
  have eA8 : cA2 = cA7 := g_KA hK (i := 0) (j := 1) rfl rfl
  subst eA8
  have hK : va_K (dC, dI) cls [(cA2, .long)] s := hK.sub [0] rfl
  have hP : va_P (dC, dI) cls [(q0, .inr (5, [.int 0, .int 0, .ref q1, .int 0, .long 0, .int 0, .ref q3, .null, .null, .null, .null, .null, .null, .null, .null, .long 0, .long 0, .int 0, .null, .null, .long 0, .int 0, .long 0, .long 0, .long 0, .null])), (q1, .inl (cA2, 49, .inr (.inl (fun _ => 0)))), (q3, .inl (cA2, 8, .inr (.inl (fun _ => 0)))), (q6, .inl (cA2, 2, .inr (.inl (fun _ => 0))))] H := hP
  have hD : va_D A [(q0, .inr (5, [.int 0, .int 0, .ref q1, .int 0, .long 0, .int 0, .ref q3, .null, .null, .null, .null, .null, .null, .null, .null, .long 0, .long 0, .int 0, .null, .null, .long 0, .int 0, .long 0, .long 0, .long 0, .null])), (q1, .inl (cA2, 49, .inr (.inl (fun _ => 0)))), (q3, .inl (cA2, 8, .inr (.inl (fun _ => 0)))), (q6, .inl (cA2, 2, .inr (.inl (fun _ => 0))))] := hD
  refine va_putF (D := (dC, dI)) (ci := 5) (v := .ref q6) (ty := (.array .long)) (C := "RangedPoolModel") (T := F_M) (N := 26) hx hb ht in_M yt_M yt_M_ok n_M hown hK hP hD hS 0 rfl rfl 7 (by decide) (ht _ kw468) (fun _ h9 => h9) rfl hin rfl (by decide +kernel) rfl rfl (Nat.le_of_ble_eq_true rfl) d_M_init_24 (fun H locs hP hD hS => ?_)
  have hP : va_P (dC, dI) cls [(q0, .inr (5, [.int 0, .int 0, .ref q1, .int 0, .long 0, .int 0, .ref q3, .ref q6, .null, .null, .null, .null, .null, .null, .null, .long 0, .long 0, .int 0, .null, .null, .long 0, .int 0, .long 0, .long 0, .long 0, .null])), (q1, .inl (cA2, 49, .inr (.inl (fun _ => 0)))), (q3, .inl (cA2, 8, .inr (.inl (fun _ => 0)))), (q6, .inl (cA2, 2, .inr (.inl (fun _ => 0))))] H := hP
  have hD : va_D A [(q0, .inr (5, [.int 0, .int 0, .ref q1, .int 0, .long 0, .int 0, .ref q3, .ref q6, .null, .null, .null, .null, .null, .null, .null, .long 0, .long 0, .int 0, .null, .null, .long 0, .int 0, .long 0, .long 0, .long 0, .null])), (q1, .inl (cA2, 49, .inr (.inl (fun _ => 0)))), (q3, .inl (cA2, 8, .inr (.inl (fun _ => 0)))), (q6, .inl (cA2, 2, .inr (.inl (fun _ => 0))))] := hD
  refine lv_aload_n hx hb d_M_init_27 rfl (lv_at hl 0 rfl) ?_
  refine lv_bipush (v := (10 : Int32)) hx hb d_M_init_28 (by decide) ?_
  refine va_newa (atype := .boolean) (ty := .boolean) (a0 := (10, .inl (fun _ => 0))) hx hb (ht _ kw540) rfl hK hP hD hS hA (fun _ => rfl) (by decide) rfl (by decide) (Nat.le_of_ble_eq_true rfl) (Nat.le_of_ble_eq_true rfl) d_M_init_30 (fun q9 cA10 H hK hP hD hS => ?_)
  have hK : va_K (dC, dI) cls [(cA2, .long), (cA10, .boolean)] s := hK
  have hP : va_P (dC, dI) cls [(q0, .inr (5, [.int 0, .int 0, .ref q1, .int 0, .long 0, .int 0, .ref q3, .ref q6, .null, .null, .null, .null, .null, .null, .null, .long 0, .long 0, .int 0, .null, .null, .long 0, .int 0, .long 0, .long 0, .long 0, .null])), (q1, .inl (cA2, 49, .inr (.inl (fun _ => 0)))), (q3, .inl (cA2, 8, .inr (.inl (fun _ => 0)))), (q6, .inl (cA2, 2, .inr (.inl (fun _ => 0)))), (q9, .inl (cA10, 10, .inl (fun _ => 0)))] H := hP
  have hD : va_D A [(q0, .inr (5, [.int 0, .int 0, .ref q1, .int 0, .long 0, .int 0, .ref q3, .ref q6, .null, .null, .null, .null, .null, .null, .null, .long 0, .long 0, .int 0, .null, .null, .long 0, .int 0, .long 0, .long 0, .long 0, .null])), (q1, .inl (cA2, 49, .inr (.inl (fun _ => 0)))), (q3, .inl (cA2, 8, .inr (.inl (fun _ => 0)))), (q6, .inl (cA2, 2, .inr (.inl (fun _ => 0)))), (q9, .inl (cA10, 10, .inl (fun _ => 0)))] := hD
  refine va_putF (D := (dC, dI)) (ci := 5) (v := .ref q9) (ty := (.array .boolean)) (C := "RangedPoolModel") (T := F_M) (N := 26) hx hb ht in_M yt_M yt_M_ok n_M hown hK hP hD hS 0 rfl rfl 8 (by decide) (ht _ kw469) (fun _ h9 => h9) rfl hin rfl (by decide +kernel) rfl rfl (Nat.le_of_ble_eq_true rfl) d_M_init_32 (fun H locs hP hD hS => ?_)
  have hP : va_P (dC, dI) cls [(q0, .inr (5, [.int 0, .int 0, .ref q1, .int 0, .long 0, .int 0, .ref q3, .ref q6, .ref q9, .null, .null, .null, .null, .null, .null, .long 0, .long 0, .int 0, .null, .null, .long 0, .int 0, .long 0, .long 0, .long 0, .null])), (q1, .inl (cA2, 49, .inr (.inl (fun _ => 0)))), (q3, .inl (cA2, 8, .inr (.inl (fun _ => 0)))), (q6, .inl (cA2, 2, .inr (.inl (fun _ => 0)))), (q9, .inl (cA10, 10, .inl (fun _ => 0)))] H := hP
  have hD : va_D A [(q0, .inr (5, [.int 0, .int 0, .ref q1, .int 0, .long 0, .int 0, .ref q3, .ref q6, .ref q9, .null, .null, .null, .null, .null, .null, .long 0, .long 0, .int 0, .null, .null, .long 0, .int 0, .long 0, .long 0, .long 0, .null])), (q1, .inl (cA2, 49, .inr (.inl (fun _ => 0)))), (q3, .inl (cA2, 8, .inr (.inl (fun _ => 0)))), (q6, .inl (cA2, 2, .inr (.inl (fun _ => 0)))), (q9, .inl (cA10, 10, .inl (fun _ => 0)))] := hD
  refine lv_aload_n hx hb d_M_init_35 rfl (lv_at hl 0 rfl) ?_
  refine lv_bipush (v := (10 : Int32)) hx hb d_M_init_36 (by decide) ?_
  refine va_newa (atype := .int) (ty := .int) (a0 := (10, .inl (fun _ => 0))) hx hb (ht _ kw90) rfl hK hP hD hS hA (fun _ => rfl) (by decide) rfl (by decide) (Nat.le_of_ble_eq_true rfl) (Nat.le_of_ble_eq_true rfl) d_M_init_38 (fun q11 cA12 H hK hP hD hS => ?_)
  have hK : va_K (dC, dI) cls [(cA2, .long), (cA10, .boolean), (cA12, .int)] s := hK
  have hP : va_P (dC, dI) cls [(q0, .inr (5, [.int 0, .int 0, .ref q1, .int 0, .long 0, .int 0, .ref q3, .ref q6, .ref q9, .null, .null, .null, .null, .null, .null, .long 0, .long 0, .int 0, .null, .null, .long 0, .int 0, .long 0, .long 0, .long 0, .null])), (q1, .inl (cA2, 49, .inr (.inl (fun _ => 0)))), (q3, .inl (cA2, 8, .inr (.inl (fun _ => 0)))), (q6, .inl (cA2, 2, .inr (.inl (fun _ => 0)))), (q9, .inl (cA10, 10, .inl (fun _ => 0))), (q11, .inl (cA12, 10, .inl (fun _ => 0)))] H := hP
  have hD : va_D A [(q0, .inr (5, [.int 0, .int 0, .ref q1, .int 0, .long 0, .int 0, .ref q3, .ref q6, .ref q9, .null, .null, .null, .null, .null, .null, .long 0, .long 0, .int 0, .null, .null, .long 0, .int 0, .long 0, .long 0, .long 0, .null])), (q1, .inl (cA2, 49, .inr (.inl (fun _ => 0)))), (q3, .inl (cA2, 8, .inr (.inl (fun _ => 0)))), (q6, .inl (cA2, 2, .inr (.inl (fun _ => 0)))), (q9, .inl (cA10, 10, .inl (fun _ => 0))), (q11, .inl (cA12, 10, .inl (fun _ => 0)))] := hD
  refine va_putF (D := (dC, dI)) (ci := 5) (v := .ref q11) (ty := (.array .int)) (C := "RangedPoolModel") (T := F_M) (N := 26) hx hb ht in_M yt_M yt_M_ok n_M hown hK hP hD hS 0 rfl rfl 9 (by decide) (ht _ kw470) (fun _ h9 => h9) rfl hin rfl (by decide +kernel) rfl rfl (Nat.le_of_ble_eq_true rfl) d_M_init_40 (fun H locs hP hD hS => ?_)
  have hP : va_P (dC, dI) cls [(q0, .inr (5, [.int 0, .int 0, .ref q1, .int 0, .long 0, .int 0, .ref q3, .ref q6, .ref q9, .ref q11, .null, .null, .null, .null, .null, .long 0, .long 0, .int 0, .null, .null, .long 0, .int 0, .long 0, .long 0, .long 0, .null])), (q1, .inl (cA2, 49, .inr (.inl (fun _ => 0)))), (q3, .inl (cA2, 8, .inr (.inl (fun _ => 0)))), (q6, .inl (cA2, 2, .inr (.inl (fun _ => 0)))), (q9, .inl (cA10, 10, .inl (fun _ => 0))), (q11, .inl (cA12, 10, .inl (fun _ => 0)))] H := hP
  have hD : va_D A [(q0, .inr (5, [.int 0, .int 0, .ref q1, .int 0, .long 0, .int 0, .ref q3, .ref q6, .ref q9, .ref q11, .null, .null, .null, .null, .null, .long 0, .long 0, .int 0, .null, .null, .long 0, .int 0, .long 0, .long 0, .long 0, .null])), (q1, .inl (cA2, 49, .inr (.inl (fun _ => 0)))), (q3, .inl (cA2, 8, .inr (.inl (fun _ => 0)))), (q6, .inl (cA2, 2, .inr (.inl (fun _ => 0)))), (q9, .inl (cA10, 10, .inl (fun _ => 0))), (q11, .inl (cA12, 10, .inl (fun _ => 0)))] := hD
  refine lv_aload_n hx hb d_M_init_43 rfl (lv_at hl 0 rfl) ?_
  refine lv_bipush (v := (10 : Int32)) hx hb d_M_init_44 (by decide) ?_
  refine va_newa (atype := .int) (ty := .int) (a0 := (10, .inl (fun _ => 0))) hx hb (ht _ kw90) rfl hK hP hD hS hA (fun _ => rfl) (by decide) rfl (by decide) (Nat.le_of_ble_eq_true rfl) (Nat.le_of_ble_eq_true rfl) d_M_init_46 (fun q13 cA14 H hK hP hD hS => ?_)
  have hK : va_K (dC, dI) cls [(cA2, .long), (cA10, .boolean), (cA12, .int), (cA14, .int)] s := hK
  have eA15 : cA12 = cA14 := g_KA hK (i := 2) (j := 3) rfl rfl
  subst eA15
  have hK : va_K (dC, dI) cls [(cA2, .long), (cA10, .boolean), (cA12, .int)] s := hK.sub [0, 1, 2] rfl
  have hP : va_P (dC, dI) cls [(q0, .inr (5, [.int 0, .int 0, .ref q1, .int 0, .long 0, .int 0, .ref q3, .ref q6, .ref q9, .ref q11, .null, .null, .null, .null, .null, .long 0, .long 0, .int 0, .null, .null, .long 0, .int 0, .long 0, .long 0, .long 0, .null])), (q1, .inl (cA2, 49, .inr (.inl (fun _ => 0)))), (q3, .inl (cA2, 8, .inr (.inl (fun _ => 0)))), (q6, .inl (cA2, 2, .inr (.inl (fun _ => 0)))), (q9, .inl (cA10, 10, .inl (fun _ => 0))), (q11, .inl (cA12, 10, .inl (fun _ => 0))), (q13, .inl (cA12, 10, .inl (fun _ => 0)))] H := hP
  have hD : va_D A [(q0, .inr (5, [.int 0, .int 0, .ref q1, .int 0, .long 0, .int 0, .ref q3, .ref q6, .ref q9, .ref q11, .null, .null, .null, .null, .null, .long 0, .long 0, .int 0, .null, .null, .long 0, .int 0, .long 0, .long 0, .long 0, .null])), (q1, .inl (cA2, 49, .inr (.inl (fun _ => 0)))), (q3, .inl (cA2, 8, .inr (.inl (fun _ => 0)))), (q6, .inl (cA2, 2, .inr (.inl (fun _ => 0)))), (q9, .inl (cA10, 10, .inl (fun _ => 0))), (q11, .inl (cA12, 10, .inl (fun _ => 0))), (q13, .inl (cA12, 10, .inl (fun _ => 0)))] := hD
  refine va_putF (D := (dC, dI)) (ci := 5) (v := .ref q13) (ty := (.array .int)) (C := "RangedPoolModel") (T := F_M) (N := 26) hx hb ht in_M yt_M yt_M_ok n_M hown hK hP hD hS 0 rfl rfl 10 (by decide) (ht _ kw471) (fun _ h9 => h9) rfl hin rfl (by decide +kernel) rfl rfl (Nat.le_of_ble_eq_true rfl) d_M_init_48 (fun H locs hP hD hS => ?_)
  have hP : va_P (dC, dI) cls [(q0, .inr (5, [.int 0, .int 0, .ref q1, .int 0, .long 0, .int 0, .ref q3, .ref q6, .ref q9, .ref q11, .ref q13, .null, .null, .null, .null, .long 0, .long 0, .int 0, .null, .null, .long 0, .int 0, .long 0, .long 0, .long 0, .null])), (q1, .inl (cA2, 49, .inr (.inl (fun _ => 0)))), (q3, .inl (cA2, 8, .inr (.inl (fun _ => 0)))), (q6, .inl (cA2, 2, .inr (.inl (fun _ => 0)))), (q9, .inl (cA10, 10, .inl (fun _ => 0))), (q11, .inl (cA12, 10, .inl (fun _ => 0))), (q13, .inl (cA12, 10, .inl (fun _ => 0)))] H := hP
  have hD : va_D A [(q0, .inr (5, [.int 0, .int 0, .ref q1, .int 0, .long 0, .int 0, .ref q3, .ref q6, .ref q9, .ref q11, .ref q13, .null, .null, .null, .null, .long 0, .long 0, .int 0, .null, .null, .long 0, .int 0, .long 0, .long 0, .long 0, .null])), (q1, .inl (cA2, 49, .inr (.inl (fun _ => 0)))), (q3, .inl (cA2, 8, .inr (.inl (fun _ => 0)))), (q6, .inl (cA2, 2, .inr (.inl (fun _ => 0)))), (q9, .inl (cA10, 10, .inl (fun _ => 0))), (q11, .inl (cA12, 10, .inl (fun _ => 0))), (q13, .inl (cA12, 10, .inl (fun _ => 0)))] := hD
  refine lv_aload_n hx hb d_M_init_51 rfl (lv_at hl 0 rfl) ?_
  refine lv_bipush (v := (10 : Int32)) hx hb d_M_init_52 (by decide) ?_
  refine va_newa (atype := .int) (ty := .int) (a0 := (10, .inl (fun _ => 0))) hx hb (ht _ kw90) rfl hK hP hD hS hA (fun _ => rfl) (by decide) rfl (by decide) (Nat.le_of_ble_eq_true rfl) (Nat.le_of_ble_eq_true rfl) d_M_init_54 (fun q16 cA17 H hK hP hD hS => ?_)
  have hK : va_K (dC, dI) cls [(cA2, .long), (cA10, .boolean), (cA12, .int), (cA17, .int)] s := hK
  have eA18 : cA12 = cA17 := g_KA hK (i := 2) (j := 3) rfl rfl
  subst eA18
  have hK : va_K (dC, dI) cls [(cA2, .long), (cA10, .boolean), (cA12, .int)] s := hK.sub [0, 1, 2] rfl
  have hP : va_P (dC, dI) cls [(q0, .inr (5, [.int 0, .int 0, .ref q1, .int 0, .long 0, .int 0, .ref q3, .ref q6, .ref q9, .ref q11, .ref q13, .null, .null, .null, .null, .long 0, .long 0, .int 0, .null, .null, .long 0, .int 0, .long 0, .long 0, .long 0, .null])), (q1, .inl (cA2, 49, .inr (.inl (fun _ => 0)))), (q3, .inl (cA2, 8, .inr (.inl (fun _ => 0)))), (q6, .inl (cA2, 2, .inr (.inl (fun _ => 0)))), (q9, .inl (cA10, 10, .inl (fun _ => 0))), (q11, .inl (cA12, 10, .inl (fun _ => 0))), (q13, .inl (cA12, 10, .inl (fun _ => 0))), (q16, .inl (cA12, 10, .inl (fun _ => 0)))] H := hP
  have hD : va_D A [(q0, .inr (5, [.int 0, .int 0, .ref q1, .int 0, .long 0, .int 0, .ref q3, .ref q6, .ref q9, .ref q11, .ref q13, .null, .null, .null, .null, .long 0, .long 0, .int 0, .null, .null, .long 0, .int 0, .long 0, .long 0, .long 0, .null])), (q1, .inl (cA2, 49, .inr (.inl (fun _ => 0)))), (q3, .inl (cA2, 8, .inr (.inl (fun _ => 0)))), (q6, .inl (cA2, 2, .inr (.inl (fun _ => 0)))), (q9, .inl (cA10, 10, .inl (fun _ => 0))), (q11, .inl (cA12, 10, .inl (fun _ => 0))), (q13, .inl (cA12, 10, .inl (fun _ => 0))), (q16, .inl (cA12, 10, .inl (fun _ => 0)))] := hD
  refine va_putF (D := (dC, dI)) (ci := 5) (v := .ref q16) (ty := (.array .int)) (C := "RangedPoolModel") (T := F_M) (N := 26) hx hb ht in_M yt_M yt_M_ok n_M hown hK hP hD hS 0 rfl rfl 11 (by decide) (ht _ kw472) (fun _ h9 => h9) rfl hin rfl (by decide +kernel) rfl rfl (Nat.le_of_ble_eq_true rfl) d_M_init_56 (fun H locs hP hD hS => ?_)
  have hP : va_P (dC, dI) cls [(q0, .inr (5, [.int 0, .int 0, .ref q1, .int 0, .long 0, .int 0, .ref q3, .ref q6, .ref q9, .ref q11, .ref q13, .ref q16, .null, .null, .null, .long 0, .long 0, .int 0, .null, .null, .long 0, .int 0, .long 0, .long 0, .long 0, .null])), (q1, .inl (cA2, 49, .inr (.inl (fun _ => 0)))), (q3, .inl (cA2, 8, .inr (.inl (fun _ => 0)))), (q6, .inl (cA2, 2, .inr (.inl (fun _ => 0)))), (q9, .inl (cA10, 10, .inl (fun _ => 0))), (q11, .inl (cA12, 10, .inl (fun _ => 0))), (q13, .inl (cA12, 10, .inl (fun _ => 0))), (q16, .inl (cA12, 10, .inl (fun _ => 0)))] H := hP
  have hD : va_D A [(q0, .inr (5, [.int 0, .int 0, .ref q1, .int 0, .long 0, .int 0, .ref q3, .ref q6, .ref q9, .ref q11, .ref q13, .ref q16, .null, .null, .null, .long 0, .long 0, .int 0, .null, .null, .long 0, .int 0, .long 0, .long 0, .long 0, .null])), (q1, .inl (cA2, 49, .inr (.inl (fun _ => 0)))), (q3, .inl (cA2, 8, .inr (.inl (fun _ => 0)))), (q6, .inl (cA2, 2, .inr (.inl (fun _ => 0)))), (q9, .inl (cA10, 10, .inl (fun _ => 0))), (q11, .inl (cA12, 10, .inl (fun _ => 0))), (q13, .inl (cA12, 10, .inl (fun _ => 0))), (q16, .inl (cA12, 10, .inl (fun _ => 0)))] := hD
  refine lv_aload_n hx hb d_M_init_59 rfl (lv_at hl 0 rfl) ?_
  refine lv_bipush (v := (10 : Int32)) hx hb d_M_init_60 (by decide) ?_
  refine va_newa (atype := .long) (ty := .long) (a0 := (10, .inr (.inl (fun _ => 0)))) hx hb (ht _ kw59) rfl hK hP hD hS hA (fun _ => rfl) (by decide) rfl (by decide) (Nat.le_of_ble_eq_true rfl) (Nat.le_of_ble_eq_true rfl) d_M_init_62 (fun q19 cA20 H hK hP hD hS => ?_)
  have hK : va_K (dC, dI) cls [(cA2, .long), (cA10, .boolean), (cA12, .int), (cA20, .long)] s := hK
  have eA21 : cA2 = cA20 := g_KA hK (i := 0) (j := 3) rfl rfl
  subst eA21
  have hK : va_K (dC, dI) cls [(cA2, .long), (cA10, .boolean), (cA12, .int)] s := hK.sub [0, 1, 2] rfl
  have hP : va_P (dC, dI) cls [(q0, .inr (5, [.int 0, .int 0, .ref q1, .int 0, .long 0, .int 0, .ref q3, .ref q6, .ref q9, .ref q11, .ref q13, .ref q16, .null, .null, .null, .long 0, .long 0, .int 0, .null, .null, .long 0, .int 0, .long 0, .long 0, .long 0, .null])), (q1, .inl (cA2, 49, .inr (.inl (fun _ => 0)))), (q3, .inl (cA2, 8, .inr (.inl (fun _ => 0)))), (q6, .inl (cA2, 2, .inr (.inl (fun _ => 0)))), (q9, .inl (cA10, 10, .inl (fun _ => 0))), (q11, .inl (cA12, 10, .inl (fun _ => 0))), (q13, .inl (cA12, 10, .inl (fun _ => 0))), (q16, .inl (cA12, 10, .inl (fun _ => 0))), (q19, .inl (cA2, 10, .inr (.inl (fun _ => 0))))] H := hP
  have hD : va_D A [(q0, .inr (5, [.int 0, .int 0, .ref q1, .int 0, .long 0, .int 0, .ref q3, .ref q6, .ref q9, .ref q11, .ref q13, .ref q16, .null, .null, .null, .long 0, .long 0, .int 0, .null, .null, .long 0, .int 0, .long 0, .long 0, .long 0, .null])), (q1, .inl (cA2, 49, .inr (.inl (fun _ => 0)))), (q3, .inl (cA2, 8, .inr (.inl (fun _ => 0)))), (q6, .inl (cA2, 2, .inr (.inl (fun _ => 0)))), (q9, .inl (cA10, 10, .inl (fun _ => 0))), (q11, .inl (cA12, 10, .inl (fun _ => 0))), (q13, .inl (cA12, 10, .inl (fun _ => 0))), (q16, .inl (cA12, 10, .inl (fun _ => 0))), (q19, .inl (cA2, 10, .inr (.inl (fun _ => 0))))] := hD
  refine va_putF (D := (dC, dI)) (ci := 5) (v := .ref q19) (ty := (.array .long)) (C := "RangedPoolModel") (T := F_M) (N := 26) hx hb ht in_M yt_M yt_M_ok n_M hown hK hP hD hS 0 rfl rfl 12 (by decide) (ht _ kw473) (fun _ h9 => h9) rfl hin rfl (by decide +kernel) rfl rfl (Nat.le_of_ble_eq_true rfl) d_M_init_64 (fun H locs hP hD hS => ?_)
  have hP : va_P (dC, dI) cls [(q0, .inr (5, [.int 0, .int 0, .ref q1, .int 0, .long 0, .int 0, .ref q3, .ref q6, .ref q9, .ref q11, .ref q13, .ref q16, .ref q19, .null, .null, .long 0, .long 0, .int 0, .null, .null, .long 0, .int 0, .long 0, .long 0, .long 0, .null])), (q1, .inl (cA2, 49, .inr (.inl (fun _ => 0)))), (q3, .inl (cA2, 8, .inr (.inl (fun _ => 0)))), (q6, .inl (cA2, 2, .inr (.inl (fun _ => 0)))), (q9, .inl (cA10, 10, .inl (fun _ => 0))), (q11, .inl (cA12, 10, .inl (fun _ => 0))), (q13, .inl (cA12, 10, .inl (fun _ => 0))), (q16, .inl (cA12, 10, .inl (fun _ => 0))), (q19, .inl (cA2, 10, .inr (.inl (fun _ => 0))))] H := hP
  have hD : va_D A [(q0, .inr (5, [.int 0, .int 0, .ref q1, .int 0, .long 0, .int 0, .ref q3, .ref q6, .ref q9, .ref q11, .ref q13, .ref q16, .ref q19, .null, .null, .long 0, .long 0, .int 0, .null, .null, .long 0, .int 0, .long 0, .long 0, .long 0, .null])), (q1, .inl (cA2, 49, .inr (.inl (fun _ => 0)))), (q3, .inl (cA2, 8, .inr (.inl (fun _ => 0)))), (q6, .inl (cA2, 2, .inr (.inl (fun _ => 0)))), (q9, .inl (cA10, 10, .inl (fun _ => 0))), (q11, .inl (cA12, 10, .inl (fun _ => 0))), (q13, .inl (cA12, 10, .inl (fun _ => 0))), (q16, .inl (cA12, 10, .inl (fun _ => 0))), (q19, .inl (cA2, 10, .inr (.inl (fun _ => 0))))] := hD
  refine lv_aload_n hx hb d_M_init_67 rfl (lv_at hl 0 rfl) ?_
  refine lv_bipush (v := (20 : Int32)) hx hb d_M_init_68 (by decide) ?_
  refine va_newa (atype := .long) (ty := .long) (a0 := (20, .inr (.inl (fun _ => 0)))) hx hb (ht _ kw59) rfl hK hP hD hS hA (fun _ => rfl) (by decide) rfl (by decide) (Nat.le_of_ble_eq_true rfl) (Nat.le_of_ble_eq_true rfl) d_M_init_70 (fun q22 cA23 H hK hP hD hS => ?_)
  have hK : va_K (dC, dI) cls [(cA2, .long), (cA10, .boolean), (cA12, .int), (cA23, .long)] s := hK
  have eA24 : cA2 = cA23 := g_KA hK (i := 0) (j := 3) rfl rfl
  subst eA24
  have hK : va_K (dC, dI) cls [(cA2, .long), (cA10, .boolean), (cA12, .int)] s := hK.sub [0, 1, 2] rfl
  have hP : va_P (dC, dI) cls [(q0, .inr (5, [.int 0, .int 0, .ref q1, .int 0, .long 0, .int 0, .ref q3, .ref q6, .ref q9, .ref q11, .ref q13, .ref q16, .ref q19, .null, .null, .long 0, .long 0, .int 0, .null, .null, .long 0, .int 0, .long 0, .long 0, .long 0, .null])), (q1, .inl (cA2, 49, .inr (.inl (fun _ => 0)))), (q3, .inl (cA2, 8, .inr (.inl (fun _ => 0)))), (q6, .inl (cA2, 2, .inr (.inl (fun _ => 0)))), (q9, .inl (cA10, 10, .inl (fun _ => 0))), (q11, .inl (cA12, 10, .inl (fun _ => 0))), (q13, .inl (cA12, 10, .inl (fun _ => 0))), (q16, .inl (cA12, 10, .inl (fun _ => 0))), (q19, .inl (cA2, 10, .inr (.inl (fun _ => 0)))), (q22, .inl (cA2, 20, .inr (.inl (fun _ => 0))))] H := hP
  have hD : va_D A [(q0, .inr (5, [.int 0, .int 0, .ref q1, .int 0, .long 0, .int 0, .ref q3, .ref q6, .ref q9, .ref q11, .ref q13, .ref q16, .ref q19, .null, .null, .long 0, .long 0, .int 0, .null, .null, .long 0, .int 0, .long 0, .long 0, .long 0, .null])), (q1, .inl (cA2, 49, .inr (.inl (fun _ => 0)))), (q3, .inl (cA2, 8, .inr (.inl (fun _ => 0)))), (q6, .inl (cA2, 2, .inr (.inl (fun _ => 0)))), (q9, .inl (cA10, 10, .inl (fun _ => 0))), (q11, .inl (cA12, 10, .inl (fun _ => 0))), (q13, .inl (cA12, 10, .inl (fun _ => 0))), (q16, .inl (cA12, 10, .inl (fun _ => 0))), (q19, .inl (cA2, 10, .inr (.inl (fun _ => 0)))), (q22, .inl (cA2, 20, .inr (.inl (fun _ => 0))))] := hD
  refine va_putF (D := (dC, dI)) (ci := 5) (v := .ref q22) (ty := (.array .long)) (C := "RangedPoolModel") (T := F_M) (N := 26) hx hb ht in_M yt_M yt_M_ok n_M hown hK hP hD hS 0 rfl rfl 13 (by decide) (ht _ kw474) (fun _ h9 => h9) rfl hin rfl (by decide +kernel) rfl rfl (Nat.le_of_ble_eq_true rfl) d_M_init_72 (fun H locs hP hD hS => ?_)
  have hP : va_P (dC, dI) cls [(q0, .inr (5, [.int 0, .int 0, .ref q1, .int 0, .long 0, .int 0, .ref q3, .ref q6, .ref q9, .ref q11, .ref q13, .ref q16, .ref q19, .ref q22, .null, .long 0, .long 0, .int 0, .null, .null, .long 0, .int 0, .long 0, .long 0, .long 0, .null])), (q1, .inl (cA2, 49, .inr (.inl (fun _ => 0)))), (q3, .inl (cA2, 8, .inr (.inl (fun _ => 0)))), (q6, .inl (cA2, 2, .inr (.inl (fun _ => 0)))), (q9, .inl (cA10, 10, .inl (fun _ => 0))), (q11, .inl (cA12, 10, .inl (fun _ => 0))), (q13, .inl (cA12, 10, .inl (fun _ => 0))), (q16, .inl (cA12, 10, .inl (fun _ => 0))), (q19, .inl (cA2, 10, .inr (.inl (fun _ => 0)))), (q22, .inl (cA2, 20, .inr (.inl (fun _ => 0))))] H := hP
  have hD : va_D A [(q0, .inr (5, [.int 0, .int 0, .ref q1, .int 0, .long 0, .int 0, .ref q3, .ref q6, .ref q9, .ref q11, .ref q13, .ref q16, .ref q19, .ref q22, .null, .long 0, .long 0, .int 0, .null, .null, .long 0, .int 0, .long 0, .long 0, .long 0, .null])), (q1, .inl (cA2, 49, .inr (.inl (fun _ => 0)))), (q3, .inl (cA2, 8, .inr (.inl (fun _ => 0)))), (q6, .inl (cA2, 2, .inr (.inl (fun _ => 0)))), (q9, .inl (cA10, 10, .inl (fun _ => 0))), (q11, .inl (cA12, 10, .inl (fun _ => 0))), (q13, .inl (cA12, 10, .inl (fun _ => 0))), (q16, .inl (cA12, 10, .inl (fun _ => 0))), (q19, .inl (cA2, 10, .inr (.inl (fun _ => 0)))), (q22, .inl (cA2, 20, .inr (.inl (fun _ => 0))))] := hD
  refine lv_aload_n hx hb d_M_init_75 rfl (lv_at hl 0 rfl) ?_
  refine lv_bipush (v := (20 : Int32)) hx hb d_M_init_76 (by decide) ?_
  refine va_newa (atype := .long) (ty := .long) (a0 := (20, .inr (.inl (fun _ => 0)))) hx hb (ht _ kw59) rfl hK hP hD hS hA (fun _ => rfl) (by decide) rfl (by decide) (Nat.le_of_ble_eq_true rfl) (Nat.le_of_ble_eq_true rfl) d_M_init_78 (fun q25 cA26 H hK hP hD hS => ?_)
  have hK : va_K (dC, dI) cls [(cA2, .long), (cA10, .boolean), (cA12, .int), (cA26, .long)] s := hK
  have eA27 : cA2 = cA26 := g_KA hK (i := 0) (j := 3) rfl rfl
  subst eA27
  have hK : va_K (dC, dI) cls [(cA2, .long), (cA10, .boolean), (cA12, .int)] s := hK.sub [0, 1, 2] rfl
  have hP : va_P (dC, dI) cls [(q0, .inr (5, [.int 0, .int 0, .ref q1, .int 0, .long 0, .int 0, .ref q3, .ref q6, .ref q9, .ref q11, .ref q13, .ref q16, .ref q19, .ref q22, .null, .long 0, .long 0, .int 0, .null, .null, .long 0, .int 0, .long 0, .long 0, .long 0, .null])), (q1, .inl (cA2, 49, .inr (.inl (fun _ => 0)))), (q3, .inl (cA2, 8, .inr (.inl (fun _ => 0)))), (q6, .inl (cA2, 2, .inr (.inl (fun _ => 0)))), (q9, .inl (cA10, 10, .inl (fun _ => 0))), (q11, .inl (cA12, 10, .inl (fun _ => 0))), (q13, .inl (cA12, 10, .inl (fun _ => 0))), (q16, .inl (cA12, 10, .inl (fun _ => 0))), (q19, .inl (cA2, 10, .inr (.inl (fun _ => 0)))), (q22, .inl (cA2, 20, .inr (.inl (fun _ => 0)))), (q25, .inl (cA2, 20, .inr (.inl (fun _ => 0))))] H := hP
  have hD : va_D A [(q0, .inr (5, [.int 0, .int 0, .ref q1, .int 0, .long 0, .int 0, .ref q3, .ref q6, .ref q9, .ref q11, .ref q13, .ref q16, .ref q19, .ref q22, .null, .long 0, .long 0, .int 0, .null, .null, .long 0, .int 0, .long 0, .long 0, .long 0, .null])), (q1, .inl (cA2, 49, .inr (.inl (fun _ => 0)))), (q3, .inl (cA2, 8, .inr (.inl (fun _ => 0)))), (q6, .inl (cA2, 2, .inr (.inl (fun _ => 0)))), (q9, .inl (cA10, 10, .inl (fun _ => 0))), (q11, .inl (cA12, 10, .inl (fun _ => 0))), (q13, .inl (cA12, 10, .inl (fun _ => 0))), (q16, .inl (cA12, 10, .inl (fun _ => 0))), (q19, .inl (cA2, 10, .inr (.inl (fun _ => 0)))), (q22, .inl (cA2, 20, .inr (.inl (fun _ => 0)))), (q25, .inl (cA2, 20, .inr (.inl (fun _ => 0))))] := hD
  refine va_putF (D := (dC, dI)) (ci := 5) (v := .ref q25) (ty := (.array .long)) (C := "RangedPoolModel") (T := F_M) (N := 26) hx hb ht in_M yt_M yt_M_ok n_M hown hK hP hD hS 0 rfl rfl 14 (by decide) (ht _ kw475) (fun _ h9 => h9) rfl hin rfl (by decide +kernel) rfl rfl (Nat.le_of_ble_eq_true rfl) d_M_init_80 (fun H locs hP hD hS => ?_)
  have hP : va_P (dC, dI) cls [(q0, .inr (5, [.int 0, .int 0, .ref q1, .int 0, .long 0, .int 0, .ref q3, .ref q6, .ref q9, .ref q11, .ref q13, .ref q16, .ref q19, .ref q22, .ref q25, .long 0, .long 0, .int 0, .null, .null, .long 0, .int 0, .long 0, .long 0, .long 0, .null])), (q1, .inl (cA2, 49, .inr (.inl (fun _ => 0)))), (q3, .inl (cA2, 8, .inr (.inl (fun _ => 0)))), (q6, .inl (cA2, 2, .inr (.inl (fun _ => 0)))), (q9, .inl (cA10, 10, .inl (fun _ => 0))), (q11, .inl (cA12, 10, .inl (fun _ => 0))), (q13, .inl (cA12, 10, .inl (fun _ => 0))), (q16, .inl (cA12, 10, .inl (fun _ => 0))), (q19, .inl (cA2, 10, .inr (.inl (fun _ => 0)))), (q22, .inl (cA2, 20, .inr (.inl (fun _ => 0)))), (q25, .inl (cA2, 20, .inr (.inl (fun _ => 0))))] H := hP
  have hD : va_D A [(q0, .inr (5, [.int 0, .int 0, .ref q1, .int 0, .long 0, .int 0, .ref q3, .ref q6, .ref q9, .ref q11, .ref q13, .ref q16, .ref q19, .ref q22, .ref q25, .long 0, .long 0, .int 0, .null, .null, .long 0, .int 0, .long 0, .long 0, .long 0, .null])), (q1, .inl (cA2, 49, .inr (.inl (fun _ => 0)))), (q3, .inl (cA2, 8, .inr (.inl (fun _ => 0)))), (q6, .inl (cA2, 2, .inr (.inl (fun _ => 0)))), (q9, .inl (cA10, 10, .inl (fun _ => 0))), (q11, .inl (cA12, 10, .inl (fun _ => 0))), (q13, .inl (cA12, 10, .inl (fun _ => 0))), (q16, .inl (cA12, 10, .inl (fun _ => 0))), (q19, .inl (cA2, 10, .inr (.inl (fun _ => 0)))), (q22, .inl (cA2, 20, .inr (.inl (fun _ => 0)))), (q25, .inl (cA2, 20, .inr (.inl (fun _ => 0))))] := hD
  refine lv_aload_n hx hb d_M_init_83 rfl (lv_at hl 0 rfl) ?_
  refine lv_bipush (v := (8 : Int32)) hx hb d_M_init_84 (by decide) ?_
  refine va_newa (atype := .long) (ty := .long) (a0 := (8, .inr (.inl (fun _ => 0)))) hx hb (ht _ kw59) rfl hK hP hD hS hA (fun _ => rfl) (by decide) rfl (by decide) (Nat.le_of_ble_eq_true rfl) (Nat.le_of_ble_eq_true rfl) d_M_init_86 (fun q28 cA29 H hK hP hD hS => ?_)
  have hK : va_K (dC, dI) cls [(cA2, .long), (cA10, .boolean), (cA12, .int), (cA29, .long)] s := hK
  have eA30 : cA2 = cA29 := g_KA hK (i := 0) (j := 3) rfl rfl
  subst eA30
  have hK : va_K (dC, dI) cls [(cA2, .long), (cA10, .boolean), (cA12, .int)] s := hK.sub [0, 1, 2] rfl
  have hP : va_P (dC, dI) cls [(q0, .inr (5, [.int 0, .int 0, .ref q1, .int 0, .long 0, .int 0, .ref q3, .ref q6, .ref q9, .ref q11, .ref q13, .ref q16, .ref q19, .ref q22, .ref q25, .long 0, .long 0, .int 0, .null, .null, .long 0, .int 0, .long 0, .long 0, .long 0, .null])), (q1, .inl (cA2, 49, .inr (.inl (fun _ => 0)))), (q3, .inl (cA2, 8, .inr (.inl (fun _ => 0)))), (q6, .inl (cA2, 2, .inr (.inl (fun _ => 0)))), (q9, .inl (cA10, 10, .inl (fun _ => 0))), (q11, .inl (cA12, 10, .inl (fun _ => 0))), (q13, .inl (cA12, 10, .inl (fun _ => 0))), (q16, .inl (cA12, 10, .inl (fun _ => 0))), (q19, .inl (cA2, 10, .inr (.inl (fun _ => 0)))), (q22, .inl (cA2, 20, .inr (.inl (fun _ => 0)))), (q25, .inl (cA2, 20, .inr (.inl (fun _ => 0)))), (q28, .inl (cA2, 8, .inr (.inl (fun _ => 0))))] H := hP
  have hD : va_D A [(q0, .inr (5, [.int 0, .int 0, .ref q1, .int 0, .long 0, .int 0, .ref q3, .ref q6, .ref q9, .ref q11, .ref q13, .ref q16, .ref q19, .ref q22, .ref q25, .long 0, .long 0, .int 0, .null, .null, .long 0, .int 0, .long 0, .long 0, .long 0, .null])), (q1, .inl (cA2, 49, .inr (.inl (fun _ => 0)))), (q3, .inl (cA2, 8, .inr (.inl (fun _ => 0)))), (q6, .inl (cA2, 2, .inr (.inl (fun _ => 0)))), (q9, .inl (cA10, 10, .inl (fun _ => 0))), (q11, .inl (cA12, 10, .inl (fun _ => 0))), (q13, .inl (cA12, 10, .inl (fun _ => 0))), (q16, .inl (cA12, 10, .inl (fun _ => 0))), (q19, .inl (cA2, 10, .inr (.inl (fun _ => 0)))), (q22, .inl (cA2, 20, .inr (.inl (fun _ => 0)))), (q25, .inl (cA2, 20, .inr (.inl (fun _ => 0)))), (q28, .inl (cA2, 8, .inr (.inl (fun _ => 0))))] := hD
  refine va_putF (D := (dC, dI)) (ci := 5) (v := .ref q28) (ty := (.array .long)) (C := "RangedPoolModel") (T := F_M) (N := 26) hx hb ht in_M yt_M yt_M_ok n_M hown hK hP hD hS 0 rfl rfl 18 (by decide) (ht _ kw479) (fun _ h9 => h9) rfl hin rfl (by decide +kernel) rfl rfl (Nat.le_of_ble_eq_true rfl) d_M_init_88 (fun H locs hP hD hS => ?_)
  have hP : va_P (dC, dI) cls [(q0, .inr (5, [.int 0, .int 0, .ref q1, .int 0, .long 0, .int 0, .ref q3, .ref q6, .ref q9, .ref q11, .ref q13, .ref q16, .ref q19, .ref q22, .ref q25, .long 0, .long 0, .int 0, .ref q28, .null, .long 0, .int 0, .long 0, .long 0, .long 0, .null])), (q1, .inl (cA2, 49, .inr (.inl (fun _ => 0)))), (q3, .inl (cA2, 8, .inr (.inl (fun _ => 0)))), (q6, .inl (cA2, 2, .inr (.inl (fun _ => 0)))), (q9, .inl (cA10, 10, .inl (fun _ => 0))), (q11, .inl (cA12, 10, .inl (fun _ => 0))), (q13, .inl (cA12, 10, .inl (fun _ => 0))), (q16, .inl (cA12, 10, .inl (fun _ => 0))), (q19, .inl (cA2, 10, .inr (.inl (fun _ => 0)))), (q22, .inl (cA2, 20, .inr (.inl (fun _ => 0)))), (q25, .inl (cA2, 20, .inr (.inl (fun _ => 0)))), (q28, .inl (cA2, 8, .inr (.inl (fun _ => 0))))] H := hP
  have hD : va_D A [(q0, .inr (5, [.int 0, .int 0, .ref q1, .int 0, .long 0, .int 0, .ref q3, .ref q6, .ref q9, .ref q11, .ref q13, .ref q16, .ref q19, .ref q22, .ref q25, .long 0, .long 0, .int 0, .ref q28, .null, .long 0, .int 0, .long 0, .long 0, .long 0, .null])), (q1, .inl (cA2, 49, .inr (.inl (fun _ => 0)))), (q3, .inl (cA2, 8, .inr (.inl (fun _ => 0)))), (q6, .inl (cA2, 2, .inr (.inl (fun _ => 0)))), (q9, .inl (cA10, 10, .inl (fun _ => 0))), (q11, .inl (cA12, 10, .inl (fun _ => 0))), (q13, .inl (cA12, 10, .inl (fun _ => 0))), (q16, .inl (cA12, 10, .inl (fun _ => 0))), (q19, .inl (cA2, 10, .inr (.inl (fun _ => 0)))), (q22, .inl (cA2, 20, .inr (.inl (fun _ => 0)))), (q25, .inl (cA2, 20, .inr (.inl (fun _ => 0)))), (q28, .inl (cA2, 8, .inr (.inl (fun _ => 0))))] := hD
  refine lv_aload_n hx hb d_M_init_91 rfl (lv_at hl 0 rfl) ?_
  refine lv_bipush (v := (8 : Int32)) hx hb d_M_init_92 (by decide) ?_
  refine va_newa (atype := .long) (ty := .long) (a0 := (8, .inr (.inl (fun _ => 0)))) hx hb (ht _ kw59) rfl hK hP hD hS hA (fun _ => rfl) (by decide) rfl (by decide) (Nat.le_of_ble_eq_true rfl) (Nat.le_of_ble_eq_true rfl) d_M_init_94 (fun q31 cA32 H hK hP hD hS => ?_)
  have hK : va_K (dC, dI) cls [(cA2, .long), (cA10, .boolean), (cA12, .int), (cA32, .long)] s := hK
  have eA33 : cA2 = cA32 := g_KA hK (i := 0) (j := 3) rfl rfl
  subst eA33
  have hK : va_K (dC, dI) cls [(cA2, .long), (cA10, .boolean), (cA12, .int)] s := hK.sub [0, 1, 2] rfl
  have hP : va_P (dC, dI) cls [(q0, .inr (5, [.int 0, .int 0, .ref q1, .int 0, .long 0, .int 0, .ref q3, .ref q6, .ref q9, .ref q11, .ref q13, .ref q16, .ref q19, .ref q22, .ref q25, .long 0, .long 0, .int 0, .ref q28, .null, .long 0, .int 0, .long 0, .long 0, .long 0, .null])), (q1, .inl (cA2, 49, .inr (.inl (fun _ => 0)))), (q3, .inl (cA2, 8, .inr (.inl (fun _ => 0)))), (q6, .inl (cA2, 2, .inr (.inl (fun _ => 0)))), (q9, .inl (cA10, 10, .inl (fun _ => 0))), (q11, .inl (cA12, 10, .inl (fun _ => 0))), (q13, .inl (cA12, 10, .inl (fun _ => 0))), (q16, .inl (cA12, 10, .inl (fun _ => 0))), (q19, .inl (cA2, 10, .inr (.inl (fun _ => 0)))), (q22, .inl (cA2, 20, .inr (.inl (fun _ => 0)))), (q25, .inl (cA2, 20, .inr (.inl (fun _ => 0)))), (q28, .inl (cA2, 8, .inr (.inl (fun _ => 0)))), (q31, .inl (cA2, 8, .inr (.inl (fun _ => 0))))] H := hP
  have hD : va_D A [(q0, .inr (5, [.int 0, .int 0, .ref q1, .int 0, .long 0, .int 0, .ref q3, .ref q6, .ref q9, .ref q11, .ref q13, .ref q16, .ref q19, .ref q22, .ref q25, .long 0, .long 0, .int 0, .ref q28, .null, .long 0, .int 0, .long 0, .long 0, .long 0, .null])), (q1, .inl (cA2, 49, .inr (.inl (fun _ => 0)))), (q3, .inl (cA2, 8, .inr (.inl (fun _ => 0)))), (q6, .inl (cA2, 2, .inr (.inl (fun _ => 0)))), (q9, .inl (cA10, 10, .inl (fun _ => 0))), (q11, .inl (cA12, 10, .inl (fun _ => 0))), (q13, .inl (cA12, 10, .inl (fun _ => 0))), (q16, .inl (cA12, 10, .inl (fun _ => 0))), (q19, .inl (cA2, 10, .inr (.inl (fun _ => 0)))), (q22, .inl (cA2, 20, .inr (.inl (fun _ => 0)))), (q25, .inl (cA2, 20, .inr (.inl (fun _ => 0)))), (q28, .inl (cA2, 8, .inr (.inl (fun _ => 0)))), (q31, .inl (cA2, 8, .inr (.inl (fun _ => 0))))] := hD
  refine va_putF (D := (dC, dI)) (ci := 5) (v := .ref q31) (ty := (.array .long)) (C := "RangedPoolModel") (T := F_M) (N := 26) hx hb ht in_M yt_M yt_M_ok n_M hown hK hP hD hS 0 rfl rfl 19 (by decide) (ht _ kw480) (fun _ h9 => h9) rfl hin rfl (by decide +kernel) rfl rfl (Nat.le_of_ble_eq_true rfl) d_M_init_96 (fun H locs hP hD hS => ?_)
  have hP : va_P (dC, dI) cls [(q0, .inr (5, [.int 0, .int 0, .ref q1, .int 0, .long 0, .int 0, .ref q3, .ref q6, .ref q9, .ref q11, .ref q13, .ref q16, .ref q19, .ref q22, .ref q25, .long 0, .long 0, .int 0, .ref q28, .ref q31, .long 0, .int 0, .long 0, .long 0, .long 0, .null])), (q1, .inl (cA2, 49, .inr (.inl (fun _ => 0)))), (q3, .inl (cA2, 8, .inr (.inl (fun _ => 0)))), (q6, .inl (cA2, 2, .inr (.inl (fun _ => 0)))), (q9, .inl (cA10, 10, .inl (fun _ => 0))), (q11, .inl (cA12, 10, .inl (fun _ => 0))), (q13, .inl (cA12, 10, .inl (fun _ => 0))), (q16, .inl (cA12, 10, .inl (fun _ => 0))), (q19, .inl (cA2, 10, .inr (.inl (fun _ => 0)))), (q22, .inl (cA2, 20, .inr (.inl (fun _ => 0)))), (q25, .inl (cA2, 20, .inr (.inl (fun _ => 0)))), (q28, .inl (cA2, 8, .inr (.inl (fun _ => 0)))), (q31, .inl (cA2, 8, .inr (.inl (fun _ => 0))))] H := hP
  have hD : va_D A [(q0, .inr (5, [.int 0, .int 0, .ref q1, .int 0, .long 0, .int 0, .ref q3, .ref q6, .ref q9, .ref q11, .ref q13, .ref q16, .ref q19, .ref q22, .ref q25, .long 0, .long 0, .int 0, .ref q28, .ref q31, .long 0, .int 0, .long 0, .long 0, .long 0, .null])), (q1, .inl (cA2, 49, .inr (.inl (fun _ => 0)))), (q3, .inl (cA2, 8, .inr (.inl (fun _ => 0)))), (q6, .inl (cA2, 2, .inr (.inl (fun _ => 0)))), (q9, .inl (cA10, 10, .inl (fun _ => 0))), (q11, .inl (cA12, 10, .inl (fun _ => 0))), (q13, .inl (cA12, 10, .inl (fun _ => 0))), (q16, .inl (cA12, 10, .inl (fun _ => 0))), (q19, .inl (cA2, 10, .inr (.inl (fun _ => 0)))), (q22, .inl (cA2, 20, .inr (.inl (fun _ => 0)))), (q25, .inl (cA2, 20, .inr (.inl (fun _ => 0)))), (q28, .inl (cA2, 8, .inr (.inl (fun _ => 0)))), (q31, .inl (cA2, 8, .inr (.inl (fun _ => 0))))] := hD
  refine lv_aload_n hx hb d_M_init_99 rfl (lv_at hl 0 rfl) ?_
  refine lv_bipush (v := (10 : Int32)) hx hb d_M_init_100 (by decide) ?_
  refine va_newa (atype := .long) (ty := .long) (a0 := (10, .inr (.inl (fun _ => 0)))) hx hb (ht _ kw59) rfl hK hP hD hS hA (fun _ => rfl) (by decide) rfl (by decide) (Nat.le_of_ble_eq_true rfl) (Nat.le_of_ble_eq_true rfl) d_M_init_102 (fun q34 cA35 H hK hP hD hS => ?_)
  have hK : va_K (dC, dI) cls [(cA2, .long), (cA10, .boolean), (cA12, .int), (cA35, .long)] s := hK
  have eA36 : cA2 = cA35 := g_KA hK (i := 0) (j := 3) rfl rfl
  subst eA36
  have hK : va_K (dC, dI) cls [(cA2, .long), (cA10, .boolean), (cA12, .int)] s := hK.sub [0, 1, 2] rfl
  have hP : va_P (dC, dI) cls [(q0, .inr (5, [.int 0, .int 0, .ref q1, .int 0, .long 0, .int 0, .ref q3, .ref q6, .ref q9, .ref q11, .ref q13, .ref q16, .ref q19, .ref q22, .ref q25, .long 0, .long 0, .int 0, .ref q28, .ref q31, .long 0, .int 0, .long 0, .long 0, .long 0, .null])), (q1, .inl (cA2, 49, .inr (.inl (fun _ => 0)))), (q3, .inl (cA2, 8, .inr (.inl (fun _ => 0)))), (q6, .inl (cA2, 2, .inr (.inl (fun _ => 0)))), (q9, .inl (cA10, 10, .inl (fun _ => 0))), (q11, .inl (cA12, 10, .inl (fun _ => 0))), (q13, .inl (cA12, 10, .inl (fun _ => 0))), (q16, .inl (cA12, 10, .inl (fun _ => 0))), (q19, .inl (cA2, 10, .inr (.inl (fun _ => 0)))), (q22, .inl (cA2, 20, .inr (.inl (fun _ => 0)))), (q25, .inl (cA2, 20, .inr (.inl (fun _ => 0)))), (q28, .inl (cA2, 8, .inr (.inl (fun _ => 0)))), (q31, .inl (cA2, 8, .inr (.inl (fun _ => 0)))), (q34, .inl (cA2, 10, .inr (.inl (fun _ => 0))))] H := hP
  have hD : va_D A [(q0, .inr (5, [.int 0, .int 0, .ref q1, .int 0, .long 0, .int 0, .ref q3, .ref q6, .ref q9, .ref q11, .ref q13, .ref q16, .ref q19, .ref q22, .ref q25, .long 0, .long 0, .int 0, .ref q28, .ref q31, .long 0, .int 0, .long 0, .long 0, .long 0, .null])), (q1, .inl (cA2, 49, .inr (.inl (fun _ => 0)))), (q3, .inl (cA2, 8, .inr (.inl (fun _ => 0)))), (q6, .inl (cA2, 2, .inr (.inl (fun _ => 0)))), (q9, .inl (cA10, 10, .inl (fun _ => 0))), (q11, .inl (cA12, 10, .inl (fun _ => 0))), (q13, .inl (cA12, 10, .inl (fun _ => 0))), (q16, .inl (cA12, 10, .inl (fun _ => 0))), (q19, .inl (cA2, 10, .inr (.inl (fun _ => 0)))), (q22, .inl (cA2, 20, .inr (.inl (fun _ => 0)))), (q25, .inl (cA2, 20, .inr (.inl (fun _ => 0)))), (q28, .inl (cA2, 8, .inr (.inl (fun _ => 0)))), (q31, .inl (cA2, 8, .inr (.inl (fun _ => 0)))), (q34, .inl (cA2, 10, .inr (.inl (fun _ => 0))))] := hD
  refine va_putF (D := (dC, dI)) (ci := 5) (v := .ref q34) (ty := (.array .long)) (C := "RangedPoolModel") (T := F_M) (N := 26) hx hb ht in_M yt_M yt_M_ok n_M hown hK hP hD hS 0 rfl rfl 25 (by decide) (ht _ kw486) (fun _ h9 => h9) rfl hin rfl (by decide +kernel) rfl rfl (Nat.le_of_ble_eq_true rfl) d_M_init_104 (fun H locs hP hD hS => ?_)
  have hP : va_P (dC, dI) cls [(q0, .inr (5, [.int 0, .int 0, .ref q1, .int 0, .long 0, .int 0, .ref q3, .ref q6, .ref q9, .ref q11, .ref q13, .ref q16, .ref q19, .ref q22, .ref q25, .long 0, .long 0, .int 0, .ref q28, .ref q31, .long 0, .int 0, .long 0, .long 0, .long 0, .ref q34])), (q1, .inl (cA2, 49, .inr (.inl (fun _ => 0)))), (q3, .inl (cA2, 8, .inr (.inl (fun _ => 0)))), (q6, .inl (cA2, 2, .inr (.inl (fun _ => 0)))), (q9, .inl (cA10, 10, .inl (fun _ => 0))), (q11, .inl (cA12, 10, .inl (fun _ => 0))), (q13, .inl (cA12, 10, .inl (fun _ => 0))), (q16, .inl (cA12, 10, .inl (fun _ => 0))), (q19, .inl (cA2, 10, .inr (.inl (fun _ => 0)))), (q22, .inl (cA2, 20, .inr (.inl (fun _ => 0)))), (q25, .inl (cA2, 20, .inr (.inl (fun _ => 0)))), (q28, .inl (cA2, 8, .inr (.inl (fun _ => 0)))), (q31, .inl (cA2, 8, .inr (.inl (fun _ => 0)))), (q34, .inl (cA2, 10, .inr (.inl (fun _ => 0))))] H := hP
  have hD : va_D A [(q0, .inr (5, [.int 0, .int 0, .ref q1, .int 0, .long 0, .int 0, .ref q3, .ref q6, .ref q9, .ref q11, .ref q13, .ref q16, .ref q19, .ref q22, .ref q25, .long 0, .long 0, .int 0, .ref q28, .ref q31, .long 0, .int 0, .long 0, .long 0, .long 0, .ref q34])), (q1, .inl (cA2, 49, .inr (.inl (fun _ => 0)))), (q3, .inl (cA2, 8, .inr (.inl (fun _ => 0)))), (q6, .inl (cA2, 2, .inr (.inl (fun _ => 0)))), (q9, .inl (cA10, 10, .inl (fun _ => 0))), (q11, .inl (cA12, 10, .inl (fun _ => 0))), (q13, .inl (cA12, 10, .inl (fun _ => 0))), (q16, .inl (cA12, 10, .inl (fun _ => 0))), (q19, .inl (cA2, 10, .inr (.inl (fun _ => 0)))), (q22, .inl (cA2, 20, .inr (.inl (fun _ => 0)))), (q25, .inl (cA2, 20, .inr (.inl (fun _ => 0)))), (q28, .inl (cA2, 8, .inr (.inl (fun _ => 0)))), (q31, .inl (cA2, 8, .inr (.inl (fun _ => 0)))), (q34, .inl (cA2, 10, .inr (.inl (fun _ => 0))))] := hD
  obtain ⟨ad, had⟩ : ∃ z : Nat → Nat, z = fun p => ([q0, q1, q3, q6, q9, q11, q13, q16, q19, q22, q25, q28, q31, q34] : List Nat).getD p 0 := ⟨_, rfl⟩
  obtain ⟨dA, hdA⟩ : ∃ z : Nat → ClassId, z = fun j => ([cA12, cA10, cA2] : List ClassId).getD j cA12 := ⟨_, rfl⟩
  have hP : va_P (dC, dI) cls (g_w r_sh dA ad r_00) H := by subst had hdA; rw [r_w0]; exact hP.sub [0, 1, 2, 3, 4, 5, 6, 7, 8, 9, 10, 11, 12, 13] rfl
  have hD : va_D A (g_w r_sh dA ad r_00) := by subst had hdA; rw [r_w0]; exact hD.sub [0, 1, 2, 3, 4, 5, 6, 7, 8, 9, 10, 11, 12, 13] (by decide) rfl
  have hK : va_K (dC, dI) cls (r_tys dA) s := by subst hdA; exact hK.sub [2, 1, 0] rfl
  have hl : lv_has ls 5 [(0, .ref (ad 0)), (1, .int a), (2, .int b)] := by subst had; exact lv_sub hl [0, 1, 2] rfl
  have hF : f_M_init a b = f_M_init a b := rfl
  have hz : r_Z A s := trivial
  refine lv_iload_n hx hb d_M_init_107 rfl (lv_at hl 1 rfl) ?_
  refine lv_iconst (v := (1 : Int32)) hx hb d_M_init_108 (by decide) ?_
  have J144_502 : ∀ (x501 : Int32) (ls : Array Slot), x501 = (if a = (1 : Int32) then (1 : Int32) else (if a = (2 : Int32) then (1 : Int32) else (if a = (3 : Int32) then (1 : Int32) else (if a = (4 : Int32) then (1 : Int32) else (if a = (6 : Int32) then (1 : Int32) else (if a = (8 : Int32) then (1 : Int32) else (0 : Int32))))))) → lv_has ls 5 [(0, .ref (ad 0)), (1, .int a), (2, .int b)] → W p l e (headSpec w_M_init ({ frames := 1, cells := 13, slots := 175, locals := 12 })).room s m ([.ref q0, .int a, .int b] : List Value).toArray below meth c H locs 13 175 (MQ below (va_Qv (fun u : (Nat → Nat) × (Nat → ClassId) => u.1 0 = q0) (fun (u : (Nat → Nat) × (Nat → ClassId)) t => va_P (dC, dI) cls (g_w r_sh u.2 u.1 (f_M_init a b)) t.heap ∧ va_K (dC, dI) cls (r_tys u.2) t ∧ va_D A (g_w r_sh u.2 u.1 (f_M_init a b))) A) ([.ref q0, .int a, .int b] : List Value).toArray s 13 175 A) (F0 m 144 ls [.int x501]) := by
    intro x501 ls e503 hl
    have hF : f_M_init a b = f_M_init_144_504 a b x501 := hF.trans (by rw [e503]; try rfl)
    refine lv_istore_n (lv' := [(3, .int x501), (0, .ref (ad 0)), (1, .int a), (2, .int b)]) hx hb d_M_init_144 rfl hl (by decide) rfl (fun ls hl => ?_)
    refine lv_aload_n hx hb d_M_init_145 rfl (lv_at hl 1 rfl) ?_
    refine lv_iload_n hx hb d_M_init_146 rfl (lv_at hl 0 rfl) ?_
    have J155_506 : ∀ (x505 : Int32) (ls : Array Slot), x505 = (if x501 = 0 then (1 : Int32) else a) → lv_has ls 5 [(0, .ref (ad 0)), (2, .int b)] → W p l e (headSpec w_M_init ({ frames := 1, cells := 13, slots := 175, locals := 12 })).room s m ([.ref q0, .int a, .int b] : List Value).toArray below meth c H locs 13 175 (MQ below (va_Qv (fun u : (Nat → Nat) × (Nat → ClassId) => u.1 0 = q0) (fun (u : (Nat → Nat) × (Nat → ClassId)) t => va_P (dC, dI) cls (g_w r_sh u.2 u.1 (f_M_init a b)) t.heap ∧ va_K (dC, dI) cls (r_tys u.2) t ∧ va_D A (g_w r_sh u.2 u.1 (f_M_init a b))) A) ([.ref q0, .int a, .int b] : List Value).toArray s 13 175 A) (F0 m 155 ls [.int x505, .ref (ad 0)]) := by
      intro x505 ls e507 hl
      have hF : f_M_init a b = f_M_init_155_508 a b x501 x505 := hF.trans (by rw [e507]; try rfl)
      refine g_putIF (v := x505) (ty := .int) hx hb ht in_M yt_M yt_M_ok n_M hown hK hP hD hS (0) r_at0 rfl 0 (by decide) rfl (ht _ kw461) (fun _ h9 => h9) rfl hin rfl (by decide +kernel) (rfl) (rfl) d_M_init_155 (fun H locs hP hD hS => ?_)
      refine lv_aload_n hx hb d_M_init_158 rfl (lv_at hl 0 rfl) ?_
      refine lv_iload_n hx hb d_M_init_159 rfl (lv_at hl 1 rfl) ?_
      have J174_510 : ∀ (x509 : Int32) (ls : Array Slot), x509 = (if b < 0 then (3 : Int32) else (if (100 : Int32) < b then (3 : Int32) else b)) → lv_has ls 5 [(0, .ref (ad 0))] → W p l e (headSpec w_M_init ({ frames := 1, cells := 13, slots := 175, locals := 12 })).room s m ([.ref q0, .int a, .int b] : List Value).toArray below meth c H locs 13 175 (MQ below (va_Qv (fun u : (Nat → Nat) × (Nat → ClassId) => u.1 0 = q0) (fun (u : (Nat → Nat) × (Nat → ClassId)) t => va_P (dC, dI) cls (g_w r_sh u.2 u.1 (f_M_init a b)) t.heap ∧ va_K (dC, dI) cls (r_tys u.2) t ∧ va_D A (g_w r_sh u.2 u.1 (f_M_init a b))) A) ([.ref q0, .int a, .int b] : List Value).toArray s 13 175 A) (F0 m 174 ls [.int x509, .ref (ad 0)]) := by
        intro x509 ls e511 hl
        have hF : f_M_init a b = f_M_init_174_512 a b x501 x505 x509 := hF.trans (by rw [e511]; try rfl)
        refine g_putIF (v := x509) (ty := .int) hx hb ht in_M yt_M yt_M_ok n_M hown hK hP hD hS (0) r_at0 rfl 1 (by decide) rfl (ht _ kw462) (fun _ h9 => h9) rfl hin rfl (by decide +kernel) (rfl) (rfl) d_M_init_174 (fun H locs hP hD hS => ?_)
        refine lv_aload_n hx hb d_M_init_177 rfl (lv_at hl 0 rfl) ?_
        refine g_get hx hb ht in_M hown hK hP (0) r_at0 rfl 2 (by decide) rfl (ht _ kw463) (fun _ h9 => h9) (v := .ref (ad 1)) rfl d_M_init_178 ?_
        refine lv_bipush (v := (24 : Int32)) hx hb d_M_init_181 (by decide) ?_
        refine lv_ldc2 (v := (65536 : Int64)) hx hb hown (ht _ kw458) d_M_init_183 ?_
        refine g_last (x := (65536 : Int64)) hx hb hK hP hD hS (1) r_at1 rfl (by unfold vp_in; decide) (j := 24) (by decide) d_M_init_186 (fun H locs hP hD hS => ?_)
        refine lv_iconst (v := (1 : Int32)) hx hb d_M_init_187 (by decide) ?_
        refine lv_istore (lv' := [(4, .int (1 : Int32)), (0, .ref (ad 0))]) hx hb d_M_init_188 hl (by decide) rfl (fun ls hl => ?_)
        have J259_515 : ∀ (τ514 : g_S) (ls : Array Slot) (H : Heap) (locs : List Loc), τ514 = (f_M_init_L190 a b x501 x505 x509 24 0 (g_L (g_I (g_I r_00 0 0 x505) 0 1 x509) 1 24 (65536 : Int64))) → lv_has ls 5 [] → va_P (dC, dI) cls (g_w r_sh dA ad τ514) H → va_D A (g_w r_sh dA ad τ514) → va_S A s.heap H locs → W p l e (headSpec w_M_init ({ frames := 1, cells := 13, slots := 175, locals := 12 })).room s m ([.ref q0, .int a, .int b] : List Value).toArray below meth c H locs 13 175 (MQ below (va_Qv (fun u : (Nat → Nat) × (Nat → ClassId) => u.1 0 = q0) (fun (u : (Nat → Nat) × (Nat → ClassId)) t => va_P (dC, dI) cls (g_w r_sh u.2 u.1 (f_M_init a b)) t.heap ∧ va_K (dC, dI) cls (r_tys u.2) t ∧ va_D A (g_w r_sh u.2 u.1 (f_M_init a b))) A) ([.ref q0, .int a, .int b] : List Value).toArray s 13 175 A) (F0 m 259 ls []) := by
          intro τ514 ls H locs e516 hl hP hD hS
          have hF : f_M_init a b = f_M_init_259_517 a b x501 x505 x509 τ514 := hF.trans (by rw [e516]; try rfl)
          exact W.vret hx hb hr (fun t hh hW => ⟨⟨(ad, dA), rfl, (by rw [had]; rfl), by show va_P (dC, dI) cls (g_w r_sh dA ad (f_M_init a b)) t.heap; rw [hh, hF]; exact hP, va_K.moved hW.alike hK, by show va_D A (g_w r_sh dA ad (f_M_init a b)); rw [hF]; exact hD⟩, hS.F hh⟩) hS.2.2 d_M_init_259
        have LL190_518 : ∀ (jn : Nat) (jk : Nat) (τ513 : g_S) (ls : Array Slot) (H : Heap) (locs : List Loc), jk + jn = 24 → f_M_init_L190 a b x501 x505 x509 24 0 (g_L (g_I (g_I r_00 0 0 x505) 0 1 x509) 1 24 (65536 : Int64)) = f_M_init_L190 a b x501 x505 x509 jn jk τ513 → lv_has ls 5 [(4, .int (Int32.ofNat (jk + 1))), (0, .ref (ad 0))] → va_P (dC, dI) cls (g_w r_sh dA ad τ513) H → va_D A (g_w r_sh dA ad τ513) → va_S A s.heap H locs → W p l e (headSpec w_M_init ({ frames := 1, cells := 13, slots := 175, locals := 12 })).room s m ([.ref q0, .int a, .int b] : List Value).toArray below meth c H locs 13 175 (MQ below (va_Qv (fun u : (Nat → Nat) × (Nat → ClassId) => u.1 0 = q0) (fun (u : (Nat → Nat) × (Nat → ClassId)) t => va_P (dC, dI) cls (g_w r_sh u.2 u.1 (f_M_init a b)) t.heap ∧ va_K (dC, dI) cls (r_tys u.2) t ∧ va_D A (g_w r_sh u.2 u.1 (f_M_init a b))) A) ([.ref q0, .int a, .int b] : List Value).toArray s 13 175 A) (F0 m 190 ls []) := by
          intro jn
          induction jn with
          | zero =>
            intro jk τ513 ls H locs hkn hF hl hP hD hS
            have hF : f_M_init_L190 a b x501 x505 x509 24 0 (g_L (g_I (g_I r_00 0 0 x505) 0 1 x509) 1 24 (65536 : Int64)) = (τ513) := hF
            skip
            refine lv_iload hx hb d_M_init_190 (lv_at hl 0 rfl) ?_
            refine lv_bipush (v := (24 : Int32)) hx hb d_M_init_192 (by decide) ?_
            refine lv_icmp_gt (tgt := 259) hx hb d_M_init_194 (by decide) (fun _ => ?_) (fun c519 => absurd (g_c25e (by omega)) c519)
            exact J259_515 τ513 ls H locs hF.symm (lv_sub hl [] rfl) hP hD hS
          | succ jn ih =>
            intro jk τ513 ls H locs hkn hF hl hP hD hS
            have hF : f_M_init_L190 a b x501 x505 x509 24 0 (g_L (g_I (g_I r_00 0 0 x505) 0 1 x509) 1 24 (65536 : Int64)) = f_M_init_L190 a b x501 x505 x509 jn (jk + 1) (g_L (g_L τ513 1 (24 + (jk + 1)) (((τ513.2 1 (23 + (jk + 1))) * (1025 : Int64)) / (1000 : Int64))) 1 (24 - (jk + 1)) ((((g_L τ513 1 (24 + (jk + 1)) (((τ513.2 1 (23 + (jk + 1))) * (1025 : Int64)) / (1000 : Int64))).2 1 (25 - (jk + 1))) * (1000 : Int64)) / (1025 : Int64))) := hF
            skip
            refine lv_iload hx hb d_M_init_190 (lv_at hl 0 rfl) ?_
            refine lv_bipush (v := (24 : Int32)) hx hb d_M_init_192 (by decide) ?_
            refine lv_icmp_gt (tgt := 259) hx hb d_M_init_194 (by decide) (fun c520 => absurd c520 (g_gtN (N := 24) (by omega) (by decide))) (fun _ => ?_)
            refine lv_aload_n hx hb d_M_init_197 rfl (lv_at hl 1 rfl) ?_
            refine g_get hx hb ht in_M hown hK hP (0) r_at0 rfl 2 (by decide) rfl (ht _ kw463) (fun _ h9 => h9) (v := .ref (ad 1)) rfl d_M_init_198 ?_
            refine lv_bipush (v := (24 : Int32)) hx hb d_M_init_201 (by decide) ?_
            refine lv_iload hx hb d_M_init_203 (lv_at hl 0 rfl) ?_
            refine lv_iadd hx hb d_M_init_205 ?_
            refine lv_aload_n hx hb d_M_init_206 rfl (lv_at hl 1 rfl) ?_
            refine g_get hx hb ht in_M hown hK hP (0) r_at0 rfl 2 (by decide) rfl (ht _ kw463) (fun _ h9 => h9) (v := .ref (ad 1)) rfl d_M_init_207 ?_
            refine lv_bipush (v := (23 : Int32)) hx hb d_M_init_210 (by decide) ?_
            refine lv_iload hx hb d_M_init_212 (lv_at hl 0 rfl) ?_
            refine lv_iadd hx hb d_M_init_214 ?_
            refine g_lald hx hb hK hP (1) r_at1 rfl (g_eix (g_eadd (a := 23) (b := (jk + 1)) rfl rfl) (by omega) (by omega)) (j := 23 + (jk + 1)) (g_ena (g_eadd (a := 23) (b := (jk + 1)) rfl rfl) (by omega)) d_M_init_215 ?_
            refine lv_ldc2 (v := (1025 : Int64)) hx hb hown (ht _ kw459) d_M_init_216 ?_
            refine lv_lmul hx hb d_M_init_219 ?_
            refine lv_ldc2 (v := (1000 : Int64)) hx hb hown (ht _ kw460) d_M_init_220 ?_
            refine lv_ldiv hx hb d_M_init_223 (by decide) ?_
            refine g_last (x := ((τ513.2 1 (23 + (jk + 1))) * (1025 : Int64)) / (1000 : Int64)) hx hb hK hP hD hS (1) r_at1 rfl (g_eix (g_eadd (a := 24) (b := (jk + 1)) rfl rfl) (by omega) (by omega)) (j := 24 + (jk + 1)) (g_ena (g_eadd (a := 24) (b := (jk + 1)) rfl rfl) (by omega)) d_M_init_224 (fun H locs hP hD hS => ?_)
            refine lv_aload_n hx hb d_M_init_225 rfl (lv_at hl 1 rfl) ?_
            refine g_get hx hb ht in_M hown hK hP (0) r_at0 rfl 2 (by decide) rfl (ht _ kw463) (fun _ h9 => h9) (v := .ref (ad 1)) rfl d_M_init_226 ?_
            refine lv_bipush (v := (24 : Int32)) hx hb d_M_init_229 (by decide) ?_
            refine lv_iload hx hb d_M_init_231 (lv_at hl 0 rfl) ?_
            refine lv_isub hx hb d_M_init_233 ?_
            refine lv_aload_n hx hb d_M_init_234 rfl (lv_at hl 1 rfl) ?_
            refine g_get hx hb ht in_M hown hK hP (0) r_at0 rfl 2 (by decide) rfl (ht _ kw463) (fun _ h9 => h9) (v := .ref (ad 1)) rfl d_M_init_235 ?_
            refine lv_bipush (v := (25 : Int32)) hx hb d_M_init_238 (by decide) ?_
            refine lv_iload hx hb d_M_init_240 (lv_at hl 0 rfl) ?_
            refine lv_isub hx hb d_M_init_242 ?_
            refine g_lald hx hb hK hP (1) r_at1 rfl (g_eix (g_esub (a := 25) (b := (jk + 1)) rfl rfl (by omega)) (by omega) (by omega)) (j := (25 - (jk + 1))) (g_ena (g_esub (a := 25) (b := (jk + 1)) rfl rfl (by omega)) (by omega)) d_M_init_243 ?_
            refine lv_ldc2 (v := (1000 : Int64)) hx hb hown (ht _ kw460) d_M_init_244 ?_
            refine lv_lmul hx hb d_M_init_247 ?_
            refine lv_ldc2 (v := (1025 : Int64)) hx hb hown (ht _ kw459) d_M_init_248 ?_
            refine lv_ldiv hx hb d_M_init_251 (by decide) ?_
            refine g_last (x := (((g_L τ513 1 (24 + (jk + 1)) (((τ513.2 1 (23 + (jk + 1))) * (1025 : Int64)) / (1000 : Int64))).2 1 (25 - (jk + 1))) * (1000 : Int64)) / (1025 : Int64)) hx hb hK hP hD hS (1) r_at1 rfl (g_eix (g_esub (a := 24) (b := (jk + 1)) rfl rfl (by omega)) (by omega) (by omega)) (j := (24 - (jk + 1))) (g_ena (g_esub (a := 24) (b := (jk + 1)) rfl rfl (by omega)) (by omega)) d_M_init_252 (fun H locs hP hD hS => ?_)
            refine lv_iinc (v := Int32.ofNat (jk + 1 + 1)) (lv' := [(4, .int (Int32.ofNat (jk + 1 + 1))), (0, .ref (ad 0))]) hx hb d_M_init_253 hl (k := 0) rfl (g_inc (jk + 1)) (by decide) rfl (fun ls hl => ?_)
            refine lv_goto (tgt := 190) hx hb d_M_init_256 (by decide) ?_
            exact ih (jk + 1) (g_L (g_L τ513 1 (24 + (jk + 1)) (((τ513.2 1 (23 + (jk + 1))) * (1025 : Int64)) / (1000 : Int64))) 1 (24 - (jk + 1)) ((((g_L τ513 1 (24 + (jk + 1)) (((τ513.2 1 (23 + (jk + 1))) * (1025 : Int64)) / (1000 : Int64))).2 1 (25 - (jk + 1))) * (1000 : Int64)) / (1025 : Int64))) ls H locs (by omega) hF (lv_sub hl [0, 1] rfl) hP hD hS
        exact LL190_518 24 0 (g_L (g_I (g_I r_00 0 0 x505) 0 1 x509) 1 24 (65536 : Int64)) ls H locs (by omega) rfl  (lv_sub hl [0, 1] rfl) hP hD hS
      refine lv_if_lt (tgt := 173) hx hb d_M_init_160 (by decide) (fun c521 => ?_) (fun c521 => ?_)
      ·
        have c521 : b < 0 := c521
        refine lv_iconst (v := (3 : Int32)) hx hb d_M_init_173 (by decide) ?_
        exact J174_510 (3 : Int32) ls (if_pos c521).symm (lv_sub hl [0] rfl)
      ·
        have c521 : ¬ (b < 0) := c521
        refine lv_iload_n hx hb d_M_init_163 rfl (lv_at hl 1 rfl) ?_
        refine lv_bipush (v := (100 : Int32)) hx hb d_M_init_164 (by decide) ?_
        refine lv_icmp_gt (tgt := 173) hx hb d_M_init_166 (by decide) (fun c522 => ?_) (fun c522 => ?_)
        ·
          have c522 : (100 : Int32) < b := c522
          refine lv_iconst (v := (3 : Int32)) hx hb d_M_init_173 (by decide) ?_
          exact J174_510 (3 : Int32) ls ((if_neg c521).trans (if_pos c522)).symm (lv_sub hl [0] rfl)
        ·
          have c522 : ¬ ((100 : Int32) < b) := c522
          refine lv_iload_n hx hb d_M_init_169 rfl (lv_at hl 1 rfl) ?_
          refine lv_goto (tgt := 174) hx hb d_M_init_170 (by decide) ?_
          exact J174_510 b ls ((if_neg c521).trans (if_neg c522)).symm (lv_sub hl [0] rfl)
    refine lv_if_eq (tgt := 154) hx hb d_M_init_147 (by decide) (fun c523 => ?_) (fun c523 => ?_)
    ·
      have c523 : x501 = 0 := c523
      refine lv_iconst (v := (1 : Int32)) hx hb d_M_init_154 (by decide) ?_
      exact J155_506 (1 : Int32) ls (if_pos c523).symm (lv_sub hl [1, 3] rfl)
    ·
      have c523 : ¬ (x501 = 0) := c523
      refine lv_iload_n hx hb d_M_init_150 rfl (lv_at hl 2 rfl) ?_
      refine lv_goto (tgt := 155) hx hb d_M_init_151 (by decide) ?_
      exact J155_506 a ls (if_neg c523).symm (lv_sub hl [1, 3] rfl)
  refine lv_icmp_eq (tgt := 139) hx hb d_M_init_109 (by decide) (fun c524 => ?_) (fun c524 => ?_)
  ·
    have c524 : a = (1 : Int32) := c524
    refine lv_iconst (v := (1 : Int32)) hx hb d_M_init_139 (by decide) ?_
    refine lv_goto (tgt := 144) hx hb d_M_init_140 (by decide) ?_
    exact J144_502 (1 : Int32) ls (if_pos c524).symm (lv_sub hl [0, 1, 2] rfl)
  ·
    have c524 : ¬ (a = (1 : Int32)) := c524
    refine lv_iload_n hx hb d_M_init_112 rfl (lv_at hl 1 rfl) ?_
    refine lv_iconst (v := (2 : Int32)) hx hb d_M_init_113 (by decide) ?_
    refine lv_icmp_eq (tgt := 139) hx hb d_M_init_114 (by decide) (fun c525 => ?_) (fun c525 => ?_)
    ·
      have c525 : a = (2 : Int32) := c525
      refine lv_iconst (v := (1 : Int32)) hx hb d_M_init_139 (by decide) ?_
      refine lv_goto (tgt := 144) hx hb d_M_init_140 (by decide) ?_
      exact J144_502 (1 : Int32) ls ((if_neg c524).trans (if_pos c525)).symm (lv_sub hl [0, 1, 2] rfl)
    ·
      have c525 : ¬ (a = (2 : Int32)) := c525
      refine lv_iload_n hx hb d_M_init_117 rfl (lv_at hl 1 rfl) ?_
      refine lv_iconst (v := (3 : Int32)) hx hb d_M_init_118 (by decide) ?_
      refine lv_icmp_eq (tgt := 139) hx hb d_M_init_119 (by decide) (fun c526 => ?_) (fun c526 => ?_)
      ·
        have c526 : a = (3 : Int32) := c526
        refine lv_iconst (v := (1 : Int32)) hx hb d_M_init_139 (by decide) ?_
        refine lv_goto (tgt := 144) hx hb d_M_init_140 (by decide) ?_
        exact J144_502 (1 : Int32) ls (((if_neg c524).trans (if_neg c525)).trans (if_pos c526)).symm (lv_sub hl [0, 1, 2] rfl)
      ·
        have c526 : ¬ (a = (3 : Int32)) := c526
        refine lv_iload_n hx hb d_M_init_122 rfl (lv_at hl 1 rfl) ?_
        refine lv_iconst (v := (4 : Int32)) hx hb d_M_init_123 (by decide) ?_
        refine lv_icmp_eq (tgt := 139) hx hb d_M_init_124 (by decide) (fun c527 => ?_) (fun c527 => ?_)
        ·
          have c527 : a = (4 : Int32) := c527
          refine lv_iconst (v := (1 : Int32)) hx hb d_M_init_139 (by decide) ?_
          refine lv_goto (tgt := 144) hx hb d_M_init_140 (by decide) ?_
          exact J144_502 (1 : Int32) ls ((((if_neg c524).trans (if_neg c525)).trans (if_neg c526)).trans (if_pos c527)).symm (lv_sub hl [0, 1, 2] rfl)
        ·
          have c527 : ¬ (a = (4 : Int32)) := c527
          refine lv_iload_n hx hb d_M_init_127 rfl (lv_at hl 1 rfl) ?_
          refine lv_bipush (v := (6 : Int32)) hx hb d_M_init_128 (by decide) ?_
          refine lv_icmp_eq (tgt := 139) hx hb d_M_init_130 (by decide) (fun c528 => ?_) (fun c528 => ?_)
          ·
            have c528 : a = (6 : Int32) := c528
            refine lv_iconst (v := (1 : Int32)) hx hb d_M_init_139 (by decide) ?_
            refine lv_goto (tgt := 144) hx hb d_M_init_140 (by decide) ?_
            exact J144_502 (1 : Int32) ls (((((if_neg c524).trans (if_neg c525)).trans (if_neg c526)).trans (if_neg c527)).trans (if_pos c528)).symm (lv_sub hl [0, 1, 2] rfl)
          ·
            have c528 : ¬ (a = (6 : Int32)) := c528
            refine lv_iload_n hx hb d_M_init_133 rfl (lv_at hl 1 rfl) ?_
            refine lv_bipush (v := (8 : Int32)) hx hb d_M_init_134 (by decide) ?_
            refine lv_icmp_ne (tgt := 143) hx hb d_M_init_136 (by decide) (fun c529 => ?_) (fun c529 => ?_)
            ·
              have c529 : ¬ (a = (8 : Int32)) := c529
              refine lv_iconst (v := (0 : Int32)) hx hb d_M_init_143 (by decide) ?_
              exact J144_502 (0 : Int32) ls ((((((if_neg c524).trans (if_neg c525)).trans (if_neg c526)).trans (if_neg c527)).trans (if_neg c528)).trans (if_neg c529)).symm (lv_sub hl [0, 1, 2] rfl)
            ·
              have c529 : a = (8 : Int32) := c529
              refine lv_iconst (v := (1 : Int32)) hx hb d_M_init_139 (by decide) ?_
              refine lv_goto (tgt := 144) hx hb d_M_init_140 (by decide) ?_
              exact J144_502 (1 : Int32) ls ((((((if_neg c524).trans (if_neg c525)).trans (if_neg c526)).trans (if_neg c527)).trans (if_neg c528)).trans (if_pos c529)).symm (lv_sub hl [0, 1, 2] rfl)
