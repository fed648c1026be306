def f_M_flash_91_14 (σ : g_S) (o : Int32) (z : Int32) (y : Int32) (x3 : Int32) (r7 : Int64) (r10 : Int32) : Int64 × g_S := ((-2 : Int64), σ)
def k_M_flash_91_14 (σ : g_S) (o : Int32) (z : Int32) (y : Int32) (x3 : Int32) (r7 : Int64) (r10 : Int32) : Prop := True
def f_M_flash_91_17 (σ : g_S) (o : Int32) (z : Int32) (y : Int32) (x3 : Int32) (r7 : Int64) (r10 : Int32) : Int64 × g_S := ((-2 : Int64), σ)
def k_M_flash_91_17 (σ : g_S) (o : Int32) (z : Int32) (y : Int32) (x3 : Int32) (r7 : Int64) (r10 : Int32) : Prop := True
def f_M_flash_91_20 (σ : g_S) (o : Int32) (z : Int32) (y : Int32) (x3 : Int32) (r7 : Int64) (r10 : Int32) : Int64 × g_S := ((-2 : Int64), σ)
def k_M_flash_91_20 (σ : g_S) (o : Int32) (z : Int32) (y : Int32) (x3 : Int32) (r7 : Int64) (r10 : Int32) : Prop := True
def f_M_flash_91_23 (σ : g_S) (o : Int32) (z : Int32) (y : Int32) (x3 : Int32) (r7 : Int64) (r10 : Int32) : Int64 × g_S := ((-2 : Int64), σ)
def k_M_flash_91_23 (σ : g_S) (o : Int32) (z : Int32) (y : Int32) (x3 : Int32) (r7 : Int64) (r10 : Int32) : Prop := True
def f_M_flash_159_37 (σ : g_S) (o : Int32) (z : Int32) (y : Int32) (x3 : Int32) (r7 : Int64) (r10 : Int32) (r28 : Int64) (r32 : Int64) : Int64 × g_S := ((-5 : Int64), σ)
def k_M_flash_159_37 (σ : g_S) (o : Int32) (z : Int32) (y : Int32) (x3 : Int32) (r7 : Int64) (r10 : Int32) (r28 : Int64) (r32 : Int64) : Prop := True
def f_M_flash_295_52 (σ : g_S) (o : Int32) (z : Int32) (y : Int32) (x3 : Int32) (r7 : Int64) (r10 : Int32) (r28 : Int64) (r32 : Int64) (τ45 : g_S) (τ48 : g_S) : Int64 × g_S := ((r28 * (4294967296 : Int64)) + r32, τ48)
def k_M_flash_295_52 (σ : g_S) (o : Int32) (z : Int32) (y : Int32) (x3 : Int32) (r7 : Int64) (r10 : Int32) (r28 : Int64) (r32 : Int64) (τ45 : g_S) (τ48 : g_S) : Prop := True
def f_M_flash_L175 (σ : g_S) (o : Int32) (z : Int32) (y : Int32) (x3 : Int32) (r7 : Int64) (r10 : Int32) (r28 : Int64) (r32 : Int64) (τ45 : g_S) : Nat → Nat → g_S → g_S
  | 0, jk, τ47 => (τ47)
  | jn + 1, jk, τ47 => f_M_flash_L175 σ o z y x3 r7 r10 r28 r32 τ45 jn (jk + 1) (g_L (g_L τ47 10 (2 * jk) ((τ47.2 10 (2 * jk)) + (if (if (τ47.1 4 jk) = 0 then (0 : Int32) else (if (τ47.1 0 5) < (τ47.1 6 jk) then (0 : Int32) else (if (τ47.1 7 jk) ≤ (τ47.1 0 5) then (0 : Int32) else (1 : Int32)))) = 0 then (0 : Int64) else (r28 * (4294967296 : Int64)) / r7))) 10 (2 * jk + 1) (((g_L τ47 10 (2 * jk) ((τ47.2 10 (2 * jk)) + (if (if (τ47.1 4 jk) = 0 then (0 : Int32) else (if (τ47.1 0 5) < (τ47.1 6 jk) then (0 : Int32) else (if (τ47.1 7 jk) ≤ (τ47.1 0 5) then (0 : Int32) else (1 : Int32)))) = 0 then (0 : Int64) else (r28 * (4294967296 : Int64)) / r7))).2 10 (2 * jk + 1)) + (if (if (τ47.1 4 jk) = 0 then (0 : Int32) else (if (τ47.1 0 5) < (τ47.1 6 jk) then (0 : Int32) else (if (τ47.1 7 jk) ≤ (τ47.1 0 5) then (0 : Int32) else (1 : Int32)))) = 0 then (0 : Int64) else (r32 * (4294967296 : Int64)) / r7)))
def k_M_flash_L175 (σ : g_S) (o : Int32) (z : Int32) (y : Int32) (x3 : Int32) (r7 : Int64) (r10 : Int32) (r28 : Int64) (r32 : Int64) (τ45 : g_S) : Nat → Nat → g_S → Prop
  | 0, jk, τ47 => True
  | jn + 1, jk, τ47 => (if (if (τ47.1 4 jk) = 0 then (0 : Int32) else (if (τ47.1 0 5) < (τ47.1 6 jk) then (0 : Int32) else (if (τ47.1 7 jk) ≤ (τ47.1 0 5) then (0 : Int32) else (1 : Int32)))) = 0 then True else (¬ r7 = 0) ∧ True) ∧ ((if (if (τ47.1 4 jk) = 0 then (0 : Int32) else (if (τ47.1 0 5) < (τ47.1 6 jk) then (0 : Int32) else (if (τ47.1 7 jk) ≤ (τ47.1 0 5) then (0 : Int32) else (1 : Int32)))) = 0 then True else (¬ r7 = 0) ∧ True) ∧ (k_M_flash_L175 σ o z y x3 r7 r10 r28 r32 τ45 jn (jk + 1) (g_L (g_L τ47 10 (2 * jk) ((τ47.2 10 (2 * jk)) + (if (if (τ47.1 4 jk) = 0 then (0 : Int32) else (if (τ47.1 0 5) < (τ47.1 6 jk) then (0 : Int32) else (if (τ47.1 7 jk) ≤ (τ47.1 0 5) then (0 : Int32) else (1 : Int32)))) = 0 then (0 : Int64) else (r28 * (4294967296 : Int64)) / r7))) 10 (2 * jk + 1) (((g_L τ47 10 (2 * jk) ((τ47.2 10 (2 * jk)) + (if (if (τ47.1 4 jk) = 0 then (0 : Int32) else (if (τ47.1 0 5) < (τ47.1 6 jk) then (0 : Int32) else (if (τ47.1 7 jk) ≤ (τ47.1 0 5) then (0 : Int32) else (1 : Int32)))) = 0 then (0 : Int64) else (r28 * (4294967296 : Int64)) / r7))).2 10 (2 * jk + 1)) + (if (if (τ47.1 4 jk) = 0 then (0 : Int32) else (if (τ47.1 0 5) < (τ47.1 6 jk) then (0 : Int32) else (if (τ47.1 7 jk) ≤ (τ47.1 0 5) then (0 : Int32) else (1 : Int32)))) = 0 then (0 : Int64) else (r32 * (4294967296 : Int64)) / r7)))))
def f_M_flash_169_46 (σ : g_S) (o : Int32) (z : Int32) (y : Int32) (x3 : Int32) (r7 : Int64) (r10 : Int32) (r28 : Int64) (r32 : Int64) (τ45 : g_S) : Int64 × g_S := (f_M_flash_295_52 σ o z y x3 r7 r10 r28 r32 τ45 (f_M_flash_L175 σ o z y x3 r7 r10 r28 r32 τ45 10 0 τ45))
def k_M_flash_169_46 (σ : g_S) (o : Int32) (z : Int32) (y : Int32) (x3 : Int32) (r7 : Int64) (r10 : Int32) (r28 : Int64) (r32 : Int64) (τ45 : g_S) : Prop := (k_M_flash_L175 σ o z y x3 r7 r10 r28 r32 τ45 10 0 τ45) ∧ (k_M_flash_295_52 σ o z y x3 r7 r10 r28 r32 τ45 (f_M_flash_L175 σ o z y x3 r7 r10 r28 r32 τ45 10 0 τ45))
def f_M_flash_163_41 (σ : g_S) (o : Int32) (z : Int32) (y : Int32) (x3 : Int32) (r7 : Int64) (r10 : Int32) (r28 : Int64) (r32 : Int64) : Int64 × g_S := (f_M_flash_169_46 σ o z y x3 r7 r10 r28 r32 (f_M_pay σ o r28 r32))
def k_M_flash_163_41 (σ : g_S) (o : Int32) (z : Int32) (y : Int32) (x3 : Int32) (r7 : Int64) (r10 : Int32) (r28 : Int64) (r32 : Int64) : Prop := (k_M_pay σ o r28 r32) ∧ (k_M_flash_169_46 σ o z y x3 r7 r10 r28 r32 (f_M_pay σ o r28 r32))
def f_M_flash_159_74 (σ : g_S) (o : Int32) (z : Int32) (y : Int32) (x3 : Int32) (r7 : Int64) (r10 : Int32) (r28 : Int64) (r32 : Int64) : Int64 × g_S := ((-5 : Int64), σ)
def k_M_flash_159_74 (σ : g_S) (o : Int32) (z : Int32) (y : Int32) (x3 : Int32) (r7 : Int64) (r10 : Int32) (r28 : Int64) (r32 : Int64) : Prop := True
def f_M_flash_143_38 (σ : g_S) (o : Int32) (z : Int32) (y : Int32) (x3 : Int32) (r7 : Int64) (r10 : Int32) (r28 : Int64) (r32 : Int64) : Int64 × g_S := (if r32 ≤ (σ.2 2 ((((2 : Int32) * o) + (1 : Int32)).toNatClampNeg)) then f_M_flash_163_41 σ o z y x3 r7 r10 r28 r32 else f_M_flash_159_74 σ o z y x3 r7 r10 r28 r32)
def k_M_flash_143_38 (σ : g_S) (o : Int32) (z : Int32) (y : Int32) (x3 : Int32) (r7 : Int64) (r10 : Int32) (r28 : Int64) (r32 : Int64) : Prop := (vp_in (((2 : Int32) * o) + (1 : Int32)) 8) ∧ (if r32 ≤ (σ.2 2 ((((2 : Int32) * o) + (1 : Int32)).toNatClampNeg)) then k_M_flash_163_41 σ o z y x3 r7 r10 r28 r32 else k_M_flash_159_74 σ o z y x3 r7 r10 r28 r32)
def f_M_flash_124_34 (σ : g_S) (o : Int32) (z : Int32) (y : Int32) (x3 : Int32) (r7 : Int64) (r10 : Int32) (r28 : Int64) (r32 : Int64) : Int64 × g_S := (if (σ.2 2 (((2 : Int32) * o).toNatClampNeg)) < r28 then f_M_flash_159_37 σ o z y x3 r7 r10 r28 r32 else f_M_flash_143_38 σ o z y x3 r7 r10 r28 r32)
def k_M_flash_124_34 (σ : g_S) (o : Int32) (z : Int32) (y : Int32) (x3 : Int32) (r7 : Int64) (r10 : Int32) (r28 : Int64) (r32 : Int64) : Prop := (vp_in ((2 : Int32) * o) 8) ∧ (if (σ.2 2 (((2 : Int32) * o).toNatClampNeg)) < r28 then k_M_flash_159_37 σ o z y x3 r7 r10 r28 r32 else k_M_flash_143_38 σ o z y x3 r7 r10 r28 r32)
def f_M_flash_107_30 (σ : g_S) (o : Int32) (z : Int32) (y : Int32) (x3 : Int32) (r7 : Int64) (r10 : Int32) (r28 : Int64) : Int64 × g_S := (f_M_flash_124_34 σ o z y x3 r7 r10 r28 (f_M_quotient (y.toInt64 * ((σ.1 0 1).toInt64)) (1000 : Int64) (1 : Int32)))
def k_M_flash_107_30 (σ : g_S) (o : Int32) (z : Int32) (y : Int32) (x3 : Int32) (r7 : Int64) (r10 : Int32) (r28 : Int64) : Prop := (k_M_quotient (y.toInt64 * ((σ.1 0 1).toInt64)) (1000 : Int64) (1 : Int32)) ∧ (k_M_flash_124_34 σ o z y x3 r7 r10 r28 (f_M_quotient (y.toInt64 * ((σ.1 0 1).toInt64)) (1000 : Int64) (1 : Int32)))
def f_M_flash_95_26 (σ : g_S) (o : Int32) (z : Int32) (y : Int32) (x3 : Int32) (r7 : Int64) (r10 : Int32) : Int64 × g_S := (f_M_flash_107_30 σ o z y x3 r7 r10 (f_M_quotient (z.toInt64 * ((σ.1 0 1).toInt64)) (1000 : Int64) (1 : Int32)))
def k_M_flash_95_26 (σ : g_S) (o : Int32) (z : Int32) (y : Int32) (x3 : Int32) (r7 : Int64) (r10 : Int32) : Prop := (k_M_quotient (z.toInt64 * ((σ.1 0 1).toInt64)) (1000 : Int64) (1 : Int32)) ∧ (k_M_flash_107_30 σ o z y x3 r7 r10 (f_M_quotient (z.toInt64 * ((σ.1 0 1).toInt64)) (1000 : Int64) (1 : Int32)))
def f_M_flash_91_75 (σ : g_S) (o : Int32) (z : Int32) (y : Int32) (x3 : Int32) (r7 : Int64) (r10 : Int32) : Int64 × g_S := ((-2 : Int64), σ)
def k_M_flash_91_75 (σ : g_S) (o : Int32) (z : Int32) (y : Int32) (x3 : Int32) (r7 : Int64) (r10 : Int32) : Prop := True
def f_M_flash_84_24 (σ : g_S) (o : Int32) (z : Int32) (y : Int32) (x3 : Int32) (r7 : Int64) (r10 : Int32) : Int64 × g_S := (if r7 = (0 : Int64) then f_M_flash_91_75 σ o z y x3 r7 r10 else f_M_flash_95_26 σ o z y x3 r7 r10)
def k_M_flash_84_24 (σ : g_S) (o : Int32) (z : Int32) (y : Int32) (x3 : Int32) (r7 : Int64) (r10 : Int32) : Prop := (if r7 = (0 : Int64) then k_M_flash_91_75 σ o z y x3 r7 r10 else k_M_flash_95_26 σ o z y x3 r7 r10)
def f_M_flash_72_21 (σ : g_S) (o : Int32) (z : Int32) (y : Int32) (x3 : Int32) (r7 : Int64) (r10 : Int32) : Int64 × g_S := (if (σ.2 3 1) < y.toInt64 then f_M_flash_91_23 σ o z y x3 r7 r10 else f_M_flash_84_24 σ o z y x3 r7 r10)
def k_M_flash_72_21 (σ : g_S) (o : Int32) (z : Int32) (y : Int32) (x3 : Int32) (r7 : Int64) (r10 : Int32) : Prop := (if (σ.2 3 1) < y.toInt64 then k_M_flash_91_23 σ o z y x3 r7 r10 else k_M_flash_84_24 σ o z y x3 r7 r10)
def f_M_flash_60_18 (σ : g_S) (o : Int32) (z : Int32) (y : Int32) (x3 : Int32) (r7 : Int64) (r10 : Int32) : Int64 × g_S := (if (σ.2 3 0) < z.toInt64 then f_M_flash_91_20 σ o z y x3 r7 r10 else f_M_flash_72_21 σ o z y x3 r7 r10)
def k_M_flash_60_18 (σ : g_S) (o : Int32) (z : Int32) (y : Int32) (x3 : Int32) (r7 : Int64) (r10 : Int32) : Prop := (if (σ.2 3 0) < z.toInt64 then k_M_flash_91_20 σ o z y x3 r7 r10 else k_M_flash_72_21 σ o z y x3 r7 r10)
def f_M_flash_55_15 (σ : g_S) (o : Int32) (z : Int32) (y : Int32) (x3 : Int32) (r7 : Int64) (r10 : Int32) : Int64 × g_S := (if x3 = 0 then f_M_flash_91_17 σ o z y x3 r7 r10 else f_M_flash_60_18 σ o z y x3 r7 r10)
def k_M_flash_55_15 (σ : g_S) (o : Int32) (z : Int32) (y : Int32) (x3 : Int32) (r7 : Int64) (r10 : Int32) : Prop := (if x3 = 0 then k_M_flash_91_17 σ o z y x3 r7 r10 else k_M_flash_60_18 σ o z y x3 r7 r10)
def f_M_flash_49_12 (σ : g_S) (o : Int32) (z : Int32) (y : Int32) (x3 : Int32) (r7 : Int64) (r10 : Int32) : Int64 × g_S := (if r10 = 0 then f_M_flash_91_14 σ o z y x3 r7 r10 else f_M_flash_55_15 σ o z y x3 r7 r10)
def k_M_flash_49_12 (σ : g_S) (o : Int32) (z : Int32) (y : Int32) (x3 : Int32) (r7 : Int64) (r10 : Int32) : Prop := (if r10 = 0 then k_M_flash_91_14 σ o z y x3 r7 r10 else k_M_flash_55_15 σ o z y x3 r7 r10)
def f_M_flash_43_9 (σ : g_S) (o : Int32) (z : Int32) (y : Int32) (x3 : Int32) (r7 : Int64) : Int64 × g_S := (f_M_flash_49_12 σ o z y x3 r7 (f_M_isOwner o))
def k_M_flash_43_9 (σ : g_S) (o : Int32) (z : Int32) (y : Int32) (x3 : Int32) (r7 : Int64) : Prop := (k_M_flash_49_12 σ o z y x3 r7 (f_M_isOwner o))
def f_M_flash_36_6 (σ : g_S) (o : Int32) (z : Int32) (y : Int32) (x3 : Int32) : Int64 × g_S := (f_M_flash_43_9 σ o z y x3 (f_M_depthAt σ (σ.1 0 5)))
def k_M_flash_36_6 (σ : g_S) (o : Int32) (z : Int32) (y : Int32) (x3 : Int32) : Prop := (k_M_flash_43_9 σ o z y x3 (f_M_depthAt σ (σ.1 0 5)))
def f_M_flash_11_2 (σ : g_S) (o : Int32) (z : Int32) (y : Int32) : Int64 × g_S := (f_M_flash_36_6 σ o z y (if z < 0 then (0 : Int32) else (if (1000000 : Int32) < z then (0 : Int32) else (if y < 0 then (0 : Int32) else (if (1000000 : Int32) < y then (0 : Int32) else (1 : Int32))))))
def k_M_flash_11_2 (σ : g_S) (o : Int32) (z : Int32) (y : Int32) : Prop := (k_M_flash_36_6 σ o z y (if z < 0 then (0 : Int32) else (if (1000000 : Int32) < z then (0 : Int32) else (if y < 0 then (0 : Int32) else (if (1000000 : Int32) < y then (0 : Int32) else (1 : Int32))))))
def f_M_flash_7_80 (σ : g_S) (o : Int32) (z : Int32) (y : Int32) : Int64 × g_S := ((-1 : Int64), σ)
def k_M_flash_7_80 (σ : g_S) (o : Int32) (z : Int32) (y : Int32) : Prop := True
def f_M_flash (σ : g_S) (o : Int32) (z : Int32) (y : Int32) : Int64 × g_S := (if (σ.1 0 3) = 0 then f_M_flash_7_80 σ o z y else f_M_flash_11_2 σ o z y)
def k_M_flash (σ : g_S) (o : Int32) (z : Int32) (y : Int32) : Prop := (if (σ.1 0 3) = 0 then k_M_flash_7_80 σ o z y else k_M_flash_11_2 σ o z y)
set_option maxHeartbeats 4000000 in
set_option maxRecDepth 100000 in
theorem c_M_flash (l : Launch) (dC : Nat → ClassId) (dI : Nat → Nat → Nat) (dA : Nat → ClassId) (ad : Nat → Nat) (sz : Nat) (σ : g_S) (o : Int32) (z : Int32) (y : Int32) (hQ : k_M_flash σ o z y) : Met l y_M_flash w_M_flash ({ frames := 1, cells := 0, slots := 0, locals := 25 }) (va_Pc [.ref (ad 0), .int o, .int z, .int y] (g_W (dC, dI) cls (r_tys dA) (g_w r_sh dA ad σ) sz r_Z)) (va_Ql (fun r τ => (r, τ) = f_M_flash σ o z y) (fun τ t => va_P (dC, dI) cls (g_w r_sh dA ad τ) t.heap) (va_A (g_w r_sh dA ad σ) sz)) 0 0 (va_A (g_w r_sh dA ad σ) sz) := by
  refine Met.ofW (cc := b_M_flash) (maxL := 13) (ret := (some .long)) (by decide) rfl ?_
  intro p e s m args below meth c s₁ B hml hv
  obtain ⟨rfl, hsz, hP, hK, hD0, hz⟩ := hv
  have hx := B.exec
  have hb := B.bytes
  have hr := B.returns
  have hts := atoms_spec (ws := w_M_flash) B.pre
  have ht := fun (w : Cond) (h : w ∈ gA) => hts w (List.mem_cons_of_mem _ h)
  have hown : s.vm.findClass "RangedPoolModel" = some m.cls := findClass_of_methodNamed B.named
  have hlocks := B.notSynchronized
  subst hsz
  have hD := hD0.self (sz := s.heap.size)
  have hA : ∀ q : Nat, s.heap.size ≤ q → va_A (g_w r_sh dA ad σ) s.heap.size q := fun q h => Or.inr h
  generalize hAe : va_A (g_w r_sh dA ad σ) s.heap.size = A at hD hA hz ⊢
  have hS : va_S A s.heap s.heap [] := va_S.rf
  have hl := lv_entry ([.ref (ad 0), .int o, .int z, .int y]) (n := 13) (Nat.le_of_ble_eq_true rfl)
  rw [lg_entry_eq]
  generalize (lg_sl ([.ref (ad 0), .int o, .int z, .int y]) ++ List.replicate (13 - (lg_sl ([.ref (ad 0), .int o, .int z, .int y])).length) Slot.unset).toArray = ls at hl ⊢
  have hl : lv_has ls 13 [(0, .ref (ad 0)), (1, .int o), (2, .int z), (3, .int y)] := hl
  have hF : f_M_flash σ o z y = f_M_flash σ o z y := rfl
  refine lv_aload_n hx hb d_M_flash_0 rfl (lv_at hl 0 rfl) ?_
  refine g_get hx hb ht in_M hown hK hP (0) r_at0 rfl 3 (by decide) rfl (ht _ kw464) (fun _ h9 => h9) (v := .int (σ.1 0 3)) rfl d_M_flash_1 ?_
  refine lv_if_ne (tgt := 11) hx hb d_M_flash_4 (by decide) (fun c1 => ?_) (fun c1 => ?_)
  ·
    have c1 : ¬ ((σ.1 0 3) = 0) := c1
    have hF : f_M_flash σ o z y = f_M_flash_11_2 σ o z y := hF.trans (if_neg c1)
    have hQ : k_M_flash_11_2 σ o z y := Eq.mp (if_neg c1) hQ
    refine lv_iload_n hx hb d_M_flash_11 rfl (lv_at hl 2 rfl) ?_
    have J36_4 : ∀ (x3 : Int32) (ls : Array Slot), x3 = (if z < 0 then (0 : Int32) else (if (1000000 : Int32) < z then (0 : Int32) else (if y < 0 then (0 : Int32) else (if (1000000 : Int32) < y then (0 : Int32) else (1 : Int32))))) → lv_has ls 13 [(0, .ref (ad 0)), (1, .int o), (2, .int z), (3, .int y)] → W p l e (headSpec w_M_flash ({ frames := 1, cells := 0, slots := 0, locals := 25 })).room s m ([.ref (ad 0), .int o, .int z, .int y] : List Value).toArray below meth c s.heap [] 0 0 (MQ below (va_Ql (fun r τ => (r, τ) = f_M_flash σ o z y) (fun τ t => va_P (dC, dI) cls (g_w r_sh dA ad τ) t.heap) A) ([.ref (ad 0), .int o, .int z, .int y] : List Value).toArray s 0 0 A) (F0 m 36 ls [.int x3]) := by
      intro x3 ls e5 hl
      have hF : f_M_flash σ o z y = f_M_flash_36_6 σ o z y x3 := hF.trans (by rw [e5]; try rfl)
      have hQ : k_M_flash_36_6 σ o z y x3 := by rw [e5]; exact hQ
      refine lv_istore (lv' := [(4, .int x3), (0, .ref (ad 0)), (1, .int o), (2, .int z), (3, .int y)]) hx hb d_M_flash_36 hl (by decide) rfl (fun ls hl => ?_)
      refine lv_aload_n hx hb d_M_flash_38 rfl (lv_at hl 1 rfl) ?_
      refine lv_aload_n hx hb d_M_flash_39 rfl (lv_at hl 1 rfl) ?_
      refine g_get hx hb ht in_M hown hK hP (0) r_at0 rfl 5 (by decide) rfl (ht _ kw466) (fun _ h9 => h9) (v := .int (σ.1 0 5)) rfl d_M_flash_40 ?_
      refine g_cSl (va_runV (As := [.int (σ.1 0 5)]) (rest := []) ⟨hx, hb, hml, hown, ht⟩ (c_M_depthAt l dC dI dA ad σ (σ.1 0 5)) (cwV 1 ht gc_M_167 rfl rfl rfl (by decide +kernel) ⟨Nat.le_of_ble_eq_true rfl, Nat.le_of_ble_eq_true rfl⟩) (g_pV (g_prR r_Zok hK hP hS hz _) (g_rc hK hP (0) r_at0 rfl)) rfl rfl hl.1 rfl (lv_room (Nat.le_of_ble_eq_true rfl)) d_M_flash_43 ⟨Nat.le_of_ble_eq_true rfl, Nat.le_of_ble_eq_true rfl⟩) (fun r7 e8 => ?_)
      have hF : f_M_flash σ o z y = f_M_flash_43_9 σ o z y x3 r7 := hF.trans (by rw [e8]; try rfl)
      have hQ : k_M_flash_43_9 σ o z y x3 r7 := by rw [e8]; exact hQ
      refine lv_lstore (lv' := [(5, .long r7), (4, .int x3), (0, .ref (ad 0)), (1, .int o), (2, .int z), (3, .int y)]) hx hb d_M_flash_46 hl (by decide) rfl (fun ls hl => ?_)
      refine lv_iload_n hx hb d_M_flash_48 rfl (lv_at hl 3 rfl) ?_
      refine g_cSi (va_runS (As := [.int o]) (rest := []) ⟨hx, hb, hml, hown, ht⟩ (c_M_isOwner l o) (va_cwS 1 ht gc_M_99 rfl rfl rfl (by decide +kernel) ⟨Nat.le_of_ble_eq_true rfl, Nat.le_of_ble_eq_true rfl⟩) (g_pr0 _) rfl rfl hl.1 rfl (lv_room (Nat.le_of_ble_eq_true rfl)) d_M_flash_49 ⟨Nat.le_of_ble_eq_true rfl, Nat.le_of_ble_eq_true rfl⟩) (fun r10 e11 => ?_)
      have hF : f_M_flash σ o z y = f_M_flash_49_12 σ o z y x3 r7 r10 := hF.trans (by rw [e11]; try rfl)
      have hQ : k_M_flash_49_12 σ o z y x3 r7 r10 := by rw [e11]; exact hQ
      refine lv_if_eq (tgt := 91) hx hb d_M_flash_52 (by decide) (fun c13 => ?_) (fun c13 => ?_)
      ·
        have c13 : r10 = 0 := c13
        have hF : f_M_flash σ o z y = f_M_flash_91_14 σ o z y x3 r7 r10 := hF.trans (if_pos c13)
        have hQ : k_M_flash_91_14 σ o z y x3 r7 r10 := Eq.mp (if_pos c13) hQ
        refine lv_ldc2 (v := (-2 : Int64)) hx hb hown (ht _ kw574) d_M_flash_91 ?_
        exact W.lret (v := (-2 : Int64)) hx hb hr (fun t hh hW => ⟨⟨(-2 : Int64), σ, rfl, hF.symm, by show va_P (dC, dI) cls (g_w r_sh dA ad σ) t.heap; rw [hh]; exact hP⟩, hS.F hh⟩) hS.2.2 d_M_flash_94
      ·
        have c13 : ¬ (r10 = 0) := c13
        have hF : f_M_flash σ o z y = f_M_flash_55_15 σ o z y x3 r7 r10 := hF.trans (if_neg c13)
        have hQ : k_M_flash_55_15 σ o z y x3 r7 r10 := Eq.mp (if_neg c13) hQ
        refine lv_iload hx hb d_M_flash_55 (lv_at hl 1 rfl) ?_
        refine lv_if_eq (tgt := 91) hx hb d_M_flash_57 (by decide) (fun c16 => ?_) (fun c16 => ?_)
        ·
          have c16 : x3 = 0 := c16
          have hF : f_M_flash σ o z y = f_M_flash_91_17 σ o z y x3 r7 r10 := hF.trans (if_pos c16)
          have hQ : k_M_flash_91_17 σ o z y x3 r7 r10 := Eq.mp (if_pos c16) hQ
          refine lv_ldc2 (v := (-2 : Int64)) hx hb hown (ht _ kw574) d_M_flash_91 ?_
          exact W.lret (v := (-2 : Int64)) hx hb hr (fun t hh hW => ⟨⟨(-2 : Int64), σ, rfl, hF.symm, by show va_P (dC, dI) cls (g_w r_sh dA ad σ) t.heap; rw [hh]; exact hP⟩, hS.F hh⟩) hS.2.2 d_M_flash_94
        ·
          have c16 : ¬ (x3 = 0) := c16
          have hF : f_M_flash σ o z y = f_M_flash_60_18 σ o z y x3 r7 r10 := hF.trans (if_neg c16)
          have hQ : k_M_flash_60_18 σ o z y x3 r7 r10 := Eq.mp (if_neg c16) hQ
          refine lv_iload_n hx hb d_M_flash_60 rfl (lv_at hl 4 rfl) ?_
          refine lv_i2l (v := z.toInt64) hx hb d_M_flash_61 rfl ?_
          refine lv_aload_n hx hb d_M_flash_62 rfl (lv_at hl 2 rfl) ?_
          refine g_get hx hb ht in_M hown hK hP (0) r_at0 rfl 7 (by decide) rfl (ht _ kw468) (fun _ h9 => h9) (v := .ref (ad 3)) rfl d_M_flash_63 ?_
          refine lv_iconst (v := (0 : Int32)) hx hb d_M_flash_66 (by decide) ?_
          refine g_lald hx hb hK hP (3) r_at3 rfl (by unfold vp_in; decide) (j := 0) (by decide) d_M_flash_67 ?_
          refine W.lcmp hx hb d_M_flash_68 ?_
          refine lv_if_gt (tgt := 91) hx hb d_M_flash_69 (by decide) (fun c19 => ?_) (fun c19 => ?_)
          ·
            have c19 : (σ.2 3 0) < z.toInt64 := (lg_cmp_gt _ _).mp c19
            have hF : f_M_flash σ o z y = f_M_flash_91_20 σ o z y x3 r7 r10 := hF.trans (if_pos c19)
            have hQ : k_M_flash_91_20 σ o z y x3 r7 r10 := Eq.mp (if_pos c19) hQ
            refine lv_ldc2 (v := (-2 : Int64)) hx hb hown (ht _ kw574) d_M_flash_91 ?_
            exact W.lret (v := (-2 : Int64)) hx hb hr (fun t hh hW => ⟨⟨(-2 : Int64), σ, rfl, hF.symm, by show va_P (dC, dI) cls (g_w r_sh dA ad σ) t.heap; rw [hh]; exact hP⟩, hS.F hh⟩) hS.2.2 d_M_flash_94
          ·
            have c19 : ¬ ((σ.2 3 0) < z.toInt64) := mt (lg_cmp_gt _ _).mpr c19
            have hF : f_M_flash σ o z y = f_M_flash_72_21 σ o z y x3 r7 r10 := hF.trans (if_neg c19)
            have hQ : k_M_flash_72_21 σ o z y x3 r7 r10 := Eq.mp (if_neg c19) hQ
            refine lv_iload_n hx hb d_M_flash_72 rfl (lv_at hl 5 rfl) ?_
            refine lv_i2l (v := y.toInt64) hx hb d_M_flash_73 rfl ?_
            refine lv_aload_n hx hb d_M_flash_74 rfl (lv_at hl 2 rfl) ?_
            refine g_get hx hb ht in_M hown hK hP (0) r_at0 rfl 7 (by decide) rfl (ht _ kw468) (fun _ h9 => h9) (v := .ref (ad 3)) rfl d_M_flash_75 ?_
            refine lv_iconst (v := (1 : Int32)) hx hb d_M_flash_78 (by decide) ?_
            refine g_lald hx hb hK hP (3) r_at3 rfl (by unfold vp_in; decide) (j := 1) (by decide) d_M_flash_79 ?_
            refine W.lcmp hx hb d_M_flash_80 ?_
            refine lv_if_gt (tgt := 91) hx hb d_M_flash_81 (by decide) (fun c22 => ?_) (fun c22 => ?_)
            ·
              have c22 : (σ.2 3 1) < y.toInt64 := (lg_cmp_gt _ _).mp c22
              have hF : f_M_flash σ o z y = f_M_flash_91_23 σ o z y x3 r7 r10 := hF.trans (if_pos c22)
              have hQ : k_M_flash_91_23 σ o z y x3 r7 r10 := Eq.mp (if_pos c22) hQ
              refine lv_ldc2 (v := (-2 : Int64)) hx hb hown (ht _ kw574) d_M_flash_91 ?_
              exact W.lret (v := (-2 : Int64)) hx hb hr (fun t hh hW => ⟨⟨(-2 : Int64), σ, rfl, hF.symm, by show va_P (dC, dI) cls (g_w r_sh dA ad σ) t.heap; rw [hh]; exact hP⟩, hS.F hh⟩) hS.2.2 d_M_flash_94
            ·
              have c22 : ¬ ((σ.2 3 1) < y.toInt64) := mt (lg_cmp_gt _ _).mpr c22
              have hF : f_M_flash σ o z y = f_M_flash_84_24 σ o z y x3 r7 r10 := hF.trans (if_neg c22)
              have hQ : k_M_flash_84_24 σ o z y x3 r7 r10 := Eq.mp (if_neg c22) hQ
              refine lv_lload hx hb d_M_flash_84 (lv_at hl 0 rfl) ?_
              refine lv_lconst (v := (0 : Int64)) hx hb d_M_flash_86 (by decide) ?_
              refine W.lcmp hx hb d_M_flash_87 ?_
              refine lv_if_ne (tgt := 95) hx hb d_M_flash_88 (by decide) (fun c25 => ?_) (fun c25 => ?_)
              ·
                have c25 : ¬ (r7 = (0 : Int64)) := mt (lg_cmp_eq _ _).mpr c25
                have hF : f_M_flash σ o z y = f_M_flash_95_26 σ o z y x3 r7 r10 := hF.trans (if_neg c25)
                have hQ : k_M_flash_95_26 σ o z y x3 r7 r10 := Eq.mp (if_neg c25) hQ
                refine lv_iload_n hx hb d_M_flash_95 rfl (lv_at hl 4 rfl) ?_
                refine lv_i2l (v := z.toInt64) hx hb d_M_flash_96 rfl ?_
                refine lv_aload_n hx hb d_M_flash_97 rfl (lv_at hl 2 rfl) ?_
                refine g_get hx hb ht in_M hown hK hP (0) r_at0 rfl 1 (by decide) rfl (ht _ kw462) (fun _ h9 => h9) (v := .int (σ.1 0 1)) rfl d_M_flash_98 ?_
                refine lv_i2l (v := (σ.1 0 1).toInt64) hx hb d_M_flash_101 rfl ?_
                refine lv_lmul hx hb d_M_flash_102 ?_
                refine lv_ldc2 (v := (1000 : Int64)) hx hb hown (ht _ kw460) d_M_flash_103 ?_
                refine lv_iconst (v := (1 : Int32)) hx hb d_M_flash_106 (by decide) ?_
                obtain ⟨hs27, hQ⟩ := hQ
                refine g_cSl (va_runS (As := [.long (z.toInt64 * ((σ.1 0 1).toInt64)), .long (1000 : Int64), .int (1 : Int32)]) (rest := []) ⟨hx, hb, hml, hown, ht⟩ (c_M_quotient l (z.toInt64 * ((σ.1 0 1).toInt64)) (1000 : Int64) (1 : Int32) hs27) (va_cwS 3 ht gc_M_64 rfl rfl rfl (by decide +kernel) ⟨Nat.le_of_ble_eq_true rfl, Nat.le_of_ble_eq_true rfl⟩) (g_pr0 _) rfl rfl hl.1 rfl (lv_room (Nat.le_of_ble_eq_true rfl)) d_M_flash_107 ⟨Nat.le_of_ble_eq_true rfl, Nat.le_of_ble_eq_true rfl⟩) (fun r28 e29 => ?_)
                have hF : f_M_flash σ o z y = f_M_flash_107_30 σ o z y x3 r7 r10 r28 := hF.trans (by rw [e29]; try rfl)
                have hQ : k_M_flash_107_30 σ o z y x3 r7 r10 r28 := by rw [e29]; exact hQ
                refine lv_lstore (lv' := [(7, .long r28), (5, .long r7), (4, .int x3), (0, .ref (ad 0)), (1, .int o), (2, .int z), (3, .int y)]) hx hb d_M_flash_110 hl (by decide) rfl (fun ls hl => ?_)
                refine lv_iload_n hx hb d_M_flash_112 rfl (lv_at hl 6 rfl) ?_
                refine lv_i2l (v := y.toInt64) hx hb d_M_flash_113 rfl ?_
                refine lv_aload_n hx hb d_M_flash_114 rfl (lv_at hl 3 rfl) ?_
                refine g_get hx hb ht in_M hown hK hP (0) r_at0 rfl 1 (by decide) rfl (ht _ kw462) (fun _ h9 => h9) (v := .int (σ.1 0 1)) rfl d_M_flash_115 ?_
                refine lv_i2l (v := (σ.1 0 1).toInt64) hx hb d_M_flash_118 rfl ?_
                refine lv_lmul hx hb d_M_flash_119 ?_
                refine lv_ldc2 (v := (1000 : Int64)) hx hb hown (ht _ kw460) d_M_flash_120 ?_
                refine lv_iconst (v := (1 : Int32)) hx hb d_M_flash_123 (by decide) ?_
                obtain ⟨hs31, hQ⟩ := hQ
                refine g_cSl (va_runS (As := [.long (y.toInt64 * ((σ.1 0 1).toInt64)), .long (1000 : Int64), .int (1 : Int32)]) (rest := []) ⟨hx, hb, hml, hown, ht⟩ (c_M_quotient l (y.toInt64 * ((σ.1 0 1).toInt64)) (1000 : Int64) (1 : Int32) hs31) (va_cwS 3 ht gc_M_64 rfl rfl rfl (by decide +kernel) ⟨Nat.le_of_ble_eq_true rfl, Nat.le_of_ble_eq_true rfl⟩) (g_pr0 _) rfl rfl hl.1 rfl (lv_room (Nat.le_of_ble_eq_true rfl)) d_M_flash_124 ⟨Nat.le_of_ble_eq_true rfl, Nat.le_of_ble_eq_true rfl⟩) (fun r32 e33 => ?_)
                have hF : f_M_flash σ o z y = f_M_flash_124_34 σ o z y x3 r7 r10 r28 r32 := hF.trans (by rw [e33]; try rfl)
                have hQ : k_M_flash_124_34 σ o z y x3 r7 r10 r28 r32 := by rw [e33]; exact hQ
                refine lv_lstore (lv' := [(9, .long r32), (7, .long r28), (5, .long r7), (4, .int x3), (0, .ref (ad 0)), (1, .int o), (2, .int z), (3, .int y)]) hx hb d_M_flash_127 hl (by decide) rfl (fun ls hl => ?_)
                refine lv_aload_n hx hb d_M_flash_129 rfl (lv_at hl 4 rfl) ?_
                refine g_get hx hb ht in_M hown hK hP (0) r_at0 rfl 6 (by decide) rfl (ht _ kw467) (fun _ h9 => h9) (v := .ref (ad 2)) rfl d_M_flash_130 ?_
                refine lv_iconst (v := (2 : Int32)) hx hb d_M_flash_133 (by decide) ?_
                refine lv_iload_n hx hb d_M_flash_134 rfl (lv_at hl 5 rfl) ?_
                refine lv_imul hx hb d_M_flash_135 ?_
                obtain ⟨hs35, hQ⟩ := hQ
                refine g_lald hx hb hK hP (2) r_at2 rfl (hs35) (j := ((2 : Int32) * o).toNatClampNeg) (rfl) d_M_flash_136 ?_
                refine lv_lload hx hb d_M_flash_137 (lv_at hl 1 rfl) ?_
                refine W.lcmp hx hb d_M_flash_139 ?_
                refine lv_if_lt (tgt := 159) hx hb d_M_flash_140 (by decide) (fun c36 => ?_) (fun c36 => ?_)
                ·
                  have c36 : (σ.2 2 (((2 : Int32) * o).toNatClampNeg)) < r28 := (lg_cmp_lt _ _).mp c36
                  have hF : f_M_flash σ o z y = f_M_flash_159_37 σ o z y x3 r7 r10 r28 r32 := hF.trans (if_pos c36)
                  have hQ : k_M_flash_159_37 σ o z y x3 r7 r10 r28 r32 := Eq.mp (if_pos c36) hQ
                  refine lv_ldc2 (v := (-5 : Int64)) hx hb hown (ht _ kw598) d_M_flash_159 ?_
                  exact W.lret (v := (-5 : Int64)) hx hb hr (fun t hh hW => ⟨⟨(-5 : Int64), σ, rfl, hF.symm, by show va_P (dC, dI) cls (g_w r_sh dA ad σ) t.heap; rw [hh]; exact hP⟩, hS.F hh⟩) hS.2.2 d_M_flash_162
                ·
                  have c36 : ¬ ((σ.2 2 (((2 : Int32) * o).toNatClampNeg)) < r28) := mt (lg_cmp_lt _ _).mpr c36
                  have hF : f_M_flash σ o z y = f_M_flash_143_38 σ o z y x3 r7 r10 r28 r32 := hF.trans (if_neg c36)
                  have hQ : k_M_flash_143_38 σ o z y x3 r7 r10 r28 r32 := Eq.mp (if_neg c36) hQ
                  refine lv_aload_n hx hb d_M_flash_143 rfl (lv_at hl 4 rfl) ?_
                  refine g_get hx hb ht in_M hown hK hP (0) r_at0 rfl 6 (by decide) rfl (ht _ kw467) (fun _ h9 => h9) (v := .ref (ad 2)) rfl d_M_flash_144 ?_
                  refine lv_iconst (v := (2 : Int32)) hx hb d_M_flash_147 (by decide) ?_
                  refine lv_iload_n hx hb d_M_flash_148 rfl (lv_at hl 5 rfl) ?_
                  refine lv_imul hx hb d_M_flash_149 ?_
                  refine lv_iconst (v := (1 : Int32)) hx hb d_M_flash_150 (by decide) ?_
                  refine lv_iadd hx hb d_M_flash_151 ?_
                  obtain ⟨hs39, hQ⟩ := hQ
                  refine g_lald hx hb hK hP (2) r_at2 rfl (hs39) (j := (((2 : Int32) * o) + (1 : Int32)).toNatClampNeg) (rfl) d_M_flash_152 ?_
                  refine lv_lload hx hb d_M_flash_153 (lv_at hl 0 rfl) ?_
                  refine W.lcmp hx hb d_M_flash_155 ?_
                  refine lv_if_ge (tgt := 163) hx hb d_M_flash_156 (by decide) (fun c40 => ?_) (fun c40 => ?_)
                  ·
                    have c40 : r32 ≤ (σ.2 2 ((((2 : Int32) * o) + (1 : Int32)).toNatClampNeg)) := (lg_cmp_ge _ _).mp c40
                    have hF : f_M_flash σ o z y = f_M_flash_163_41 σ o z y x3 r7 r10 r28 r32 := hF.trans (if_pos c40)
                    have hQ : k_M_flash_163_41 σ o z y x3 r7 r10 r28 r32 := Eq.mp (if_pos c40) hQ
                    refine lv_aload_n hx hb d_M_flash_163 rfl (lv_at hl 4 rfl) ?_
                    refine lv_iload_n hx hb d_M_flash_164 rfl (lv_at hl 5 rfl) ?_
                    refine lv_lload hx hb d_M_flash_165 (lv_at hl 1 rfl) ?_
                    refine lv_lload hx hb d_M_flash_167 (lv_at hl 0 rfl) ?_
                    obtain ⟨hs42, hQ⟩ := hQ
                    refine g_cWv (va_runV (As := [.int o, .long r28, .long r32]) (rest := []) ⟨hx, hb, hml, hown, ht⟩ (c_M_pay l dC dI dA ad s.heap.size σ o r28 r32 hs42) (cwV 3 ht gc_M_142 rfl rfl rfl (by decide +kernel) ⟨Nat.le_of_ble_eq_true rfl, Nat.le_of_ble_eq_true rfl⟩) (g_pV (g_prW r_Zok hK hP hD hS hA hz _) (g_rc hK hP (0) r_at0 rfl)) rfl rfl hl.1 rfl (lv_room (Nat.le_of_ble_eq_true rfl)) d_M_flash_169 ⟨Nat.le_of_ble_eq_true rfl, Nat.le_of_ble_eq_true rfl⟩) hD hS hA (fun τ45 H locs e44 hP hD hS => ?_)
                    have hF : f_M_flash σ o z y = f_M_flash_169_46 σ o z y x3 r7 r10 r28 r32 τ45 := hF.trans (by rw [e44]; try rfl)
                    have hQ : k_M_flash_169_46 σ o z y x3 r7 r10 r28 r32 τ45 := by rw [e44]; exact hQ
                    refine lv_iconst (v := (0 : Int32)) hx hb d_M_flash_172 (by decide) ?_
                    refine lv_istore (lv' := [(11, .int (0 : Int32)), (9, .long r32), (7, .long r28), (5, .long r7), (4, .int x3), (0, .ref (ad 0)), (1, .int o), (2, .int z), (3, .int y)]) hx hb d_M_flash_173 hl (by decide) rfl (fun ls hl => ?_)
                    obtain ⟨hT49, hQ⟩ := hQ
                    have J295_50 : ∀ (τ48 : g_S) (ls : Array Slot) (H : Heap) (locs : List Loc), τ48 = (f_M_flash_L175 σ o z y x3 r7 r10 r28 r32 τ45 10 0 τ45) → lv_has ls 13 [(9, .long r32), (7, .long r28)] → va_P (dC, dI) cls (g_w r_sh dA ad τ48) H → va_D A (g_w r_sh dA ad τ48) → va_S A s.heap H locs → W p l e (headSpec w_M_flash ({ frames := 1, cells := 0, slots := 0, locals := 25 })).room s m ([.ref (ad 0), .int o, .int z, .int y] : List Value).toArray below meth c H locs 0 0 (MQ below (va_Ql (fun r τ => (r, τ) = f_M_flash σ o z y) (fun τ t => va_P (dC, dI) cls (g_w r_sh dA ad τ) t.heap) A) ([.ref (ad 0), .int o, .int z, .int y] : List Value).toArray s 0 0 A) (F0 m 295 ls []) := by
                      intro τ48 ls H locs e51 hl hP hD hS
                      have hF : f_M_flash σ o z y = f_M_flash_295_52 σ o z y x3 r7 r10 r28 r32 τ45 τ48 := hF.trans (by rw [e51]; try rfl)
                      have hQ : k_M_flash_295_52 σ o z y x3 r7 r10 r28 r32 τ45 τ48 := by rw [e51]; exact hQ
                      refine lv_lload hx hb d_M_flash_295 (lv_at hl 1 rfl) ?_
                      refine lv_ldc2 (v := (4294967296 : Int64)) hx hb hown (ht _ kw603) d_M_flash_297 ?_
                      refine lv_lmul hx hb d_M_flash_300 ?_
                      refine lv_lload hx hb d_M_flash_301 (lv_at hl 0 rfl) ?_
                      refine lv_ladd hx hb d_M_flash_303 ?_
                      exact W.lret (v := (r28 * (4294967296 : Int64)) + r32) hx hb hr (fun t hh hW => ⟨⟨(r28 * (4294967296 : Int64)) + r32, τ48, rfl, hF.symm, by show va_P (dC, dI) cls (g_w r_sh dA ad τ48) t.heap; rw [hh]; exact hP⟩, hS.F hh⟩) hS.2.2 d_M_flash_304
                    have LL175_53 : ∀ (jn : Nat) (jk : Nat) (τ47 : g_S) (ls : Array Slot) (H : Heap) (locs : List Loc), jk + jn = 10 → f_M_flash_L175 σ o z y x3 r7 r10 r28 r32 τ45 10 0 τ45 = f_M_flash_L175 σ o z y x3 r7 r10 r28 r32 τ45 jn jk τ47 → k_M_flash_L175 σ o z y x3 r7 r10 r28 r32 τ45 jn jk τ47 → lv_has ls 13 [(11, .int (Int32.ofNat jk)), (9, .long r32), (7, .long r28), (5, .long r7), (0, .ref (ad 0))] → va_P (dC, dI) cls (g_w r_sh dA ad τ47) H → va_D A (g_w r_sh dA ad τ47) → va_S A s.heap H locs → W p l e (headSpec w_M_flash ({ frames := 1, cells := 0, slots := 0, locals := 25 })).room s m ([.ref (ad 0), .int o, .int z, .int y] : List Value).toArray below meth c H locs 0 0 (MQ below (va_Ql (fun r τ => (r, τ) = f_M_flash σ o z y) (fun τ t => va_P (dC, dI) cls (g_w r_sh dA ad τ) t.heap) A) ([.ref (ad 0), .int o, .int z, .int y] : List Value).toArray s 0 0 A) (F0 m 175 ls []) := by
                      intro jn
                      induction jn with
                      | zero =>
                        intro jk τ47 ls H locs hkn hF hQ hl hP hD hS
                        have hF : f_M_flash_L175 σ o z y x3 r7 r10 r28 r32 τ45 10 0 τ45 = (τ47) := hF
                        have hQ : True := hQ
                        refine lv_iload hx hb d_M_flash_175 (lv_at hl 0 rfl) ?_
                        refine lv_bipush (v := (10 : Int32)) hx hb d_M_flash_177 (by decide) ?_
                        refine lv_icmp_ge (tgt := 295) hx hb d_M_flash_179 (by decide) (fun _ => ?_) (fun c54 => absurd (g_geN (N := 10) (by omega)) c54)
                        exact J295_50 τ47 ls H locs hF.symm (lv_sub hl [1, 2] rfl) hP hD hS
                      | succ jn ih =>
                        intro jk τ47 ls H locs hkn hF hQ hl hP hD hS
                        have hF : f_M_flash_L175 σ o z y x3 r7 r10 r28 r32 τ45 10 0 τ45 = f_M_flash_L175 σ o z y x3 r7 r10 r28 r32 τ45 jn (jk + 1) (g_L (g_L τ47 10 (2 * jk) ((τ47.2 10 (2 * jk)) + (if (if (τ47.1 4 jk) = 0 then (0 : Int32) else (if (τ47.1 0 5) < (τ47.1 6 jk) then (0 : Int32) else (if (τ47.1 7 jk) ≤ (τ47.1 0 5) then (0 : Int32) else (1 : Int32)))) = 0 then (0 : Int64) else (r28 * (4294967296 : Int64)) / r7))) 10 (2 * jk + 1) (((g_L τ47 10 (2 * jk) ((τ47.2 10 (2 * jk)) + (if (if (τ47.1 4 jk) = 0 then (0 : Int32) else (if (τ47.1 0 5) < (τ47.1 6 jk) then (0 : Int32) else (if (τ47.1 7 jk) ≤ (τ47.1 0 5) then (0 : Int32) else (1 : Int32)))) = 0 then (0 : Int64) else (r28 * (4294967296 : Int64)) / r7))).2 10 (2 * jk + 1)) + (if (if (τ47.1 4 jk) = 0 then (0 : Int32) else (if (τ47.1 0 5) < (τ47.1 6 jk) then (0 : Int32) else (if (τ47.1 7 jk) ≤ (τ47.1 0 5) then (0 : Int32) else (1 : Int32)))) = 0 then (0 : Int64) else (r32 * (4294967296 : Int64)) / r7))) := hF
                        have hQ : (if (if (τ47.1 4 jk) = 0 then (0 : Int32) else (if (τ47.1 0 5) < (τ47.1 6 jk) then (0 : Int32) else (if (τ47.1 7 jk) ≤ (τ47.1 0 5) then (0 : Int32) else (1 : Int32)))) = 0 then True else (¬ r7 = 0) ∧ True) ∧ ((if (if (τ47.1 4 jk) = 0 then (0 : Int32) else (if (τ47.1 0 5) < (τ47.1 6 jk) then (0 : Int32) else (if (τ47.1 7 jk) ≤ (τ47.1 0 5) then (0 : Int32) else (1 : Int32)))) = 0 then True else (¬ r7 = 0) ∧ True) ∧ (k_M_flash_L175 σ o z y x3 r7 r10 r28 r32 τ45 jn (jk + 1) (g_L (g_L τ47 10 (2 * jk) ((τ47.2 10 (2 * jk)) + (if (if (τ47.1 4 jk) = 0 then (0 : Int32) else (if (τ47.1 0 5) < (τ47.1 6 jk) then (0 : Int32) else (if (τ47.1 7 jk) ≤ (τ47.1 0 5) then (0 : Int32) else (1 : Int32)))) = 0 then (0 : Int64) else (r28 * (4294967296 : Int64)) / r7))) 10 (2 * jk + 1) (((g_L τ47 10 (2 * jk) ((τ47.2 10 (2 * jk)) + (if (if (τ47.1 4 jk) = 0 then (0 : Int32) else (if (τ47.1 0 5) < (τ47.1 6 jk) then (0 : Int32) else (if (τ47.1 7 jk) ≤ (τ47.1 0 5) then (0 : Int32) else (1 : Int32)))) = 0 then (0 : Int64) else (r28 * (4294967296 : Int64)) / r7))).2 10 (2 * jk + 1)) + (if (if (τ47.1 4 jk) = 0 then (0 : Int32) else (if (τ47.1 0 5) < (τ47.1 6 jk) then (0 : Int32) else (if (τ47.1 7 jk) ≤ (τ47.1 0 5) then (0 : Int32) else (1 : Int32)))) = 0 then (0 : Int64) else (r32 * (4294967296 : Int64)) / r7))))) := hQ
                        refine lv_iload hx hb d_M_flash_175 (lv_at hl 0 rfl) ?_
                        refine lv_bipush (v := (10 : Int32)) hx hb d_M_flash_177 (by decide) ?_
                        refine lv_icmp_ge (tgt := 295) hx hb d_M_flash_179 (by decide) (fun c55 => absurd c55 (g_lt (N := 10) (by omega) (by decide))) (fun _ => ?_)
                        refine lv_aload_n hx hb d_M_flash_182 rfl (lv_at hl 4 rfl) ?_
                        refine g_get hx hb ht in_M hown hK hP (0) r_at0 rfl 8 (by decide) rfl (ht _ kw469) (fun _ h9 => h9) (v := .ref (ad 4)) rfl d_M_flash_183 ?_
                        refine lv_iload hx hb d_M_flash_186 (lv_at hl 0 rfl) ?_
                        refine g_zald hx hb hK hP (4) r_at4 rfl (g_eix rfl (by omega) (by omega)) (j := jk) (g_ena rfl (by omega)) d_M_flash_188 ?_
                        have J225_57 : ∀ (x56 : Int32) (ls : Array Slot), x56 = (if (τ47.1 4 jk) = 0 then (0 : Int32) else (if (τ47.1 0 5) < (τ47.1 6 jk) then (0 : Int32) else (if (τ47.1 7 jk) ≤ (τ47.1 0 5) then (0 : Int32) else (1 : Int32)))) → lv_has ls 13 [(11, .int (Int32.ofNat jk)), (9, .long r32), (7, .long r28), (5, .long r7), (0, .ref (ad 0))] → W p l e (headSpec w_M_flash ({ frames := 1, cells := 0, slots := 0, locals := 25 })).room s m ([.ref (ad 0), .int o, .int z, .int y] : List Value).toArray below meth c H locs 0 0 (MQ below (va_Ql (fun r τ => (r, τ) = f_M_flash σ o z y) (fun τ t => va_P (dC, dI) cls (g_w r_sh dA ad τ) t.heap) A) ([.ref (ad 0), .int o, .int z, .int y] : List Value).toArray s 0 0 A) (F0 m 225 ls [.int x56]) := by
                          intro x56 ls e58 hl
                          rw [e58]
                          refine lv_istore (lv' := [(12, .int (if (τ47.1 4 jk) = 0 then (0 : Int32) else (if (τ47.1 0 5) < (τ47.1 6 jk) then (0 : Int32) else (if (τ47.1 7 jk) ≤ (τ47.1 0 5) then (0 : Int32) else (1 : Int32))))), (11, .int (Int32.ofNat jk)), (9, .long r32), (7, .long r28), (5, .long r7), (0, .ref (ad 0))]) hx hb d_M_flash_225 hl (by decide) rfl (fun ls hl => ?_)
                          refine lv_aload_n hx hb d_M_flash_227 rfl (lv_at hl 5 rfl) ?_
                          refine g_get hx hb ht in_M hown hK hP (0) r_at0 rfl 14 (by decide) rfl (ht _ kw475) (fun _ h9 => h9) (v := .ref (ad 10)) rfl d_M_flash_228 ?_
                          refine lv_iconst (v := (2 : Int32)) hx hb d_M_flash_231 (by decide) ?_
                          refine lv_iload hx hb d_M_flash_232 (lv_at hl 1 rfl) ?_
                          refine lv_imul hx hb d_M_flash_234 ?_
                          refine lv_dup2_11 hx hb d_M_flash_235 rfl rfl ?_
                          refine g_lald hx hb hK hP (10) r_at10 rfl (g_eix (g_emul (a := 2) (b := jk) rfl rfl) (by omega) (by omega)) (j := 2 * jk) (g_ena (g_emul (a := 2) (b := jk) rfl rfl) (by omega)) d_M_flash_236 ?_
                          refine lv_iload hx hb d_M_flash_237 (lv_at hl 0 rfl) ?_
                          obtain ⟨hT62, hQ⟩ := hQ
                          have J255_60 : ∀ (x59 : Int64) (ls : Array Slot), x59 = (if (if (τ47.1 4 jk) = 0 then (0 : Int32) else (if (τ47.1 0 5) < (τ47.1 6 jk) then (0 : Int32) else (if (τ47.1 7 jk) ≤ (τ47.1 0 5) then (0 : Int32) else (1 : Int32)))) = 0 then (0 : Int64) else (r28 * (4294967296 : Int64)) / r7) → lv_has ls 13 [(12, .int (if (τ47.1 4 jk) = 0 then (0 : Int32) else (if (τ47.1 0 5) < (τ47.1 6 jk) then (0 : Int32) else (if (τ47.1 7 jk) ≤ (τ47.1 0 5) then (0 : Int32) else (1 : Int32))))), (11, .int (Int32.ofNat jk)), (9, .long r32), (7, .long r28), (5, .long r7), (0, .ref (ad 0))] → W p l e (headSpec w_M_flash ({ frames := 1, cells := 0, slots := 0, locals := 25 })).room s m ([.ref (ad 0), .int o, .int z, .int y] : List Value).toArray below meth c H locs 0 0 (MQ below (va_Ql (fun r τ => (r, τ) = f_M_flash σ o z y) (fun τ t => va_P (dC, dI) cls (g_w r_sh dA ad τ) t.heap) A) ([.ref (ad 0), .int o, .int z, .int y] : List Value).toArray s 0 0 A) (F0 m 255 ls [.long x59, .long (τ47.2 10 (2 * jk)), .int ((2 : Int32) * (Int32.ofNat jk)), .ref (ad 10)]) := by
                            intro x59 ls e61 hl
                            rw [e61]
                            refine lv_ladd hx hb d_M_flash_255 ?_
                            refine g_last (x := (τ47.2 10 (2 * jk)) + (if (if (τ47.1 4 jk) = 0 then (0 : Int32) else (if (τ47.1 0 5) < (τ47.1 6 jk) then (0 : Int32) else (if (τ47.1 7 jk) ≤ (τ47.1 0 5) then (0 : Int32) else (1 : Int32)))) = 0 then (0 : Int64) else (r28 * (4294967296 : Int64)) / r7)) hx hb hK hP hD hS (10) r_at10 rfl (g_eix (g_emul (a := 2) (b := jk) rfl rfl) (by omega) (by omega)) (j := 2 * jk) (g_ena (g_emul (a := 2) (b := jk) rfl rfl) (by omega)) d_M_flash_256 (fun H locs hP hD hS => ?_)
                            refine lv_aload_n hx hb d_M_flash_257 rfl (lv_at hl 5 rfl) ?_
                            refine g_get hx hb ht in_M hown hK hP (0) r_at0 rfl 14 (by decide) rfl (ht _ kw475) (fun _ h9 => h9) (v := .ref (ad 10)) rfl d_M_flash_258 ?_
                            refine lv_iconst (v := (2 : Int32)) hx hb d_M_flash_261 (by decide) ?_
                            refine lv_iload hx hb d_M_flash_262 (lv_at hl 1 rfl) ?_
                            refine lv_imul hx hb d_M_flash_264 ?_
                            refine lv_iconst (v := (1 : Int32)) hx hb d_M_flash_265 (by decide) ?_
                            refine lv_iadd hx hb d_M_flash_266 ?_
                            refine lv_dup2_11 hx hb d_M_flash_267 rfl rfl ?_
                            refine g_lald hx hb hK hP (10) r_at10 rfl (g_eix (g_eadd (a := 2 * jk) (b := 1) (g_emul (a := 2) (b := jk) rfl rfl) rfl) (by omega) (by omega)) (j := 2 * jk + 1) (g_ena (g_eadd (a := 2 * jk) (b := 1) (g_emul (a := 2) (b := jk) rfl rfl) rfl) (by omega)) d_M_flash_268 ?_
                            refine lv_iload hx hb d_M_flash_269 (lv_at hl 0 rfl) ?_
                            obtain ⟨hT66, hQ⟩ := hQ
                            have J287_64 : ∀ (x63 : Int64) (ls : Array Slot), x63 = (if (if (τ47.1 4 jk) = 0 then (0 : Int32) else (if (τ47.1 0 5) < (τ47.1 6 jk) then (0 : Int32) else (if (τ47.1 7 jk) ≤ (τ47.1 0 5) then (0 : Int32) else (1 : Int32)))) = 0 then (0 : Int64) else (r32 * (4294967296 : Int64)) / r7) → lv_has ls 13 [(11, .int (Int32.ofNat jk)), (9, .long r32), (7, .long r28), (5, .long r7), (0, .ref (ad 0))] → W p l e (headSpec w_M_flash ({ frames := 1, cells := 0, slots := 0, locals := 25 })).room s m ([.ref (ad 0), .int o, .int z, .int y] : List Value).toArray below meth c H locs 0 0 (MQ below (va_Ql (fun r τ => (r, τ) = f_M_flash σ o z y) (fun τ t => va_P (dC, dI) cls (g_w r_sh dA ad τ) t.heap) A) ([.ref (ad 0), .int o, .int z, .int y] : List Value).toArray s 0 0 A) (F0 m 287 ls [.long x63, .long ((g_L τ47 10 (2 * jk) ((τ47.2 10 (2 * jk)) + (if (if (τ47.1 4 jk) = 0 then (0 : Int32) else (if (τ47.1 0 5) < (τ47.1 6 jk) then (0 : Int32) else (if (τ47.1 7 jk) ≤ (τ47.1 0 5) then (0 : Int32) else (1 : Int32)))) = 0 then (0 : Int64) else (r28 * (4294967296 : Int64)) / r7))).2 10 (2 * jk + 1)), .int (((2 : Int32) * (Int32.ofNat jk)) + (1 : Int32)), .ref (ad 10)]) := by
                              intro x63 ls e65 hl
                              rw [e65]
                              refine lv_ladd hx hb d_M_flash_287 ?_
                              refine g_last (x := ((g_L τ47 10 (2 * jk) ((τ47.2 10 (2 * jk)) + (if (if (τ47.1 4 jk) = 0 then (0 : Int32) else (if (τ47.1 0 5) < (τ47.1 6 jk) then (0 : Int32) else (if (τ47.1 7 jk) ≤ (τ47.1 0 5) then (0 : Int32) else (1 : Int32)))) = 0 then (0 : Int64) else (r28 * (4294967296 : Int64)) / r7))).2 10 (2 * jk + 1)) + (if (if (τ47.1 4 jk) = 0 then (0 : Int32) else (if (τ47.1 0 5) < (τ47.1 6 jk) then (0 : Int32) else (if (τ47.1 7 jk) ≤ (τ47.1 0 5) then (0 : Int32) else (1 : Int32)))) = 0 then (0 : Int64) else (r32 * (4294967296 : Int64)) / r7)) hx hb hK hP hD hS (10) r_at10 rfl (g_eix (g_eadd (a := 2 * jk) (b := 1) (g_emul (a := 2) (b := jk) rfl rfl) rfl) (by omega) (by omega)) (j := 2 * jk + 1) (g_ena (g_eadd (a := 2 * jk) (b := 1) (g_emul (a := 2) (b := jk) rfl rfl) rfl) (by omega)) d_M_flash_288 (fun H locs hP hD hS => ?_)
                              refine lv_iinc (v := Int32.ofNat (jk + 1)) (lv' := [(11, .int (Int32.ofNat (jk + 1))), (9, .long r32), (7, .long r28), (5, .long r7), (0, .ref (ad 0))]) hx hb d_M_flash_289 hl (k := 0) rfl (g_inc jk) (by decide) rfl (fun ls hl => ?_)
                              refine lv_goto (tgt := 175) hx hb d_M_flash_292 (by decide) ?_
                              exact ih (jk + 1) (g_L (g_L τ47 10 (2 * jk) ((τ47.2 10 (2 * jk)) + (if (if (τ47.1 4 jk) = 0 then (0 : Int32) else (if (τ47.1 0 5) < (τ47.1 6 jk) then (0 : Int32) else (if (τ47.1 7 jk) ≤ (τ47.1 0 5) then (0 : Int32) else (1 : Int32)))) = 0 then (0 : Int64) else (r28 * (4294967296 : Int64)) / r7))) 10 (2 * jk + 1) (((g_L τ47 10 (2 * jk) ((τ47.2 10 (2 * jk)) + (if (if (τ47.1 4 jk) = 0 then (0 : Int32) else (if (τ47.1 0 5) < (τ47.1 6 jk) then (0 : Int32) else (if (τ47.1 7 jk) ≤ (τ47.1 0 5) then (0 : Int32) else (1 : Int32)))) = 0 then (0 : Int64) else (r28 * (4294967296 : Int64)) / r7))).2 10 (2 * jk + 1)) + (if (if (τ47.1 4 jk) = 0 then (0 : Int32) else (if (τ47.1 0 5) < (τ47.1 6 jk) then (0 : Int32) else (if (τ47.1 7 jk) ≤ (τ47.1 0 5) then (0 : Int32) else (1 : Int32)))) = 0 then (0 : Int64) else (r32 * (4294967296 : Int64)) / r7))) ls H locs (by omega) hF hQ (lv_sub hl [0, 1, 2, 3, 4] rfl) hP hD hS
                            refine lv_if_eq (tgt := 286) hx hb d_M_flash_271 (by decide) (fun c67 => ?_) (fun c67 => ?_)
                            ·
                              have c67 : (if (τ47.1 4 jk) = 0 then (0 : Int32) else (if (τ47.1 0 5) < (τ47.1 6 jk) then (0 : Int32) else (if (τ47.1 7 jk) ≤ (τ47.1 0 5) then (0 : Int32) else (1 : Int32)))) = 0 := c67
                              have hT66 := Eq.mp (if_pos c67) hT66
                              refine lv_lconst (v := (0 : Int64)) hx hb d_M_flash_286 (by decide) ?_
                              exact J287_64 (0 : Int64) ls (if_pos c67).symm (lv_sub hl [1, 2, 3, 4, 5] rfl)
                            ·
                              have c67 : ¬ ((if (τ47.1 4 jk) = 0 then (0 : Int32) else (if (τ47.1 0 5) < (τ47.1 6 jk) then (0 : Int32) else (if (τ47.1 7 jk) ≤ (τ47.1 0 5) then (0 : Int32) else (1 : Int32)))) = 0) := c67
                              have hT66 := Eq.mp (if_neg c67) hT66
                              refine lv_lload hx hb d_M_flash_274 (lv_at hl 2 rfl) ?_
                              refine lv_ldc2 (v := (4294967296 : Int64)) hx hb hown (ht _ kw603) d_M_flash_276 ?_
                              refine lv_lmul hx hb d_M_flash_279 ?_
                              refine lv_lload hx hb d_M_flash_280 (lv_at hl 4 rfl) ?_
                              obtain ⟨hs68, hT66⟩ := hT66
                              refine lv_ldiv hx hb d_M_flash_282 (hs68) ?_
                              refine lv_goto (tgt := 287) hx hb d_M_flash_283 (by decide) ?_
                              exact J287_64 ((r32 * (4294967296 : Int64)) / r7) ls (if_neg c67).symm (lv_sub hl [1, 2, 3, 4, 5] rfl)
                          refine lv_if_eq (tgt := 254) hx hb d_M_flash_239 (by decide) (fun c69 => ?_) (fun c69 => ?_)
                          ·
                            have c69 : (if (τ47.1 4 jk) = 0 then (0 : Int32) else (if (τ47.1 0 5) < (τ47.1 6 jk) then (0 : Int32) else (if (τ47.1 7 jk) ≤ (τ47.1 0 5) then (0 : Int32) else (1 : Int32)))) = 0 := c69
                            have hT62 := Eq.mp (if_pos c69) hT62
                            refine lv_lconst (v := (0 : Int64)) hx hb d_M_flash_254 (by decide) ?_
                            exact J255_60 (0 : Int64) ls (if_pos c69).symm (lv_sub hl [0, 1, 2, 3, 4, 5] rfl)
                          ·
                            have c69 : ¬ ((if (τ47.1 4 jk) = 0 then (0 : Int32) else (if (τ47.1 0 5) < (τ47.1 6 jk) then (0 : Int32) else (if (τ47.1 7 jk) ≤ (τ47.1 0 5) then (0 : Int32) else (1 : Int32)))) = 0) := c69
                            have hT62 := Eq.mp (if_neg c69) hT62
                            refine lv_lload hx hb d_M_flash_242 (lv_at hl 3 rfl) ?_
                            refine lv_ldc2 (v := (4294967296 : Int64)) hx hb hown (ht _ kw603) d_M_flash_244 ?_
                            refine lv_lmul hx hb d_M_flash_247 ?_
                            refine lv_lload hx hb d_M_flash_248 (lv_at hl 4 rfl) ?_
                            obtain ⟨hs70, hT62⟩ := hT62
                            refine lv_ldiv hx hb d_M_flash_250 (hs70) ?_
                            refine lv_goto (tgt := 255) hx hb d_M_flash_251 (by decide) ?_
                            exact J255_60 ((r28 * (4294967296 : Int64)) / r7) ls (if_neg c69).symm (lv_sub hl [0, 1, 2, 3, 4, 5] rfl)
                        refine lv_if_eq (tgt := 224) hx hb d_M_flash_189 (by decide) (fun c71 => ?_) (fun c71 => ?_)
                        ·
                          have c71 : (τ47.1 4 jk) = 0 := c71
                          refine lv_iconst (v := (0 : Int32)) hx hb d_M_flash_224 (by decide) ?_
                          exact J225_57 (0 : Int32) ls (if_pos c71).symm (lv_sub hl [0, 1, 2, 3, 4] rfl)
                        ·
                          have c71 : ¬ ((τ47.1 4 jk) = 0) := c71
                          refine lv_aload_n hx hb d_M_flash_192 rfl (lv_at hl 4 rfl) ?_
                          refine g_get hx hb ht in_M hown hK hP (0) r_at0 rfl 10 (by decide) rfl (ht _ kw471) (fun _ h9 => h9) (v := .ref (ad 6)) rfl d_M_flash_193 ?_
                          refine lv_iload hx hb d_M_flash_196 (lv_at hl 0 rfl) ?_
                          refine g_iald hx hb hK hP (6) r_at6 rfl (g_eix rfl (by omega) (by omega)) (j := jk) (g_ena rfl (by omega)) d_M_flash_198 ?_
                          refine lv_aload_n hx hb d_M_flash_199 rfl (lv_at hl 4 rfl) ?_
                          refine g_get hx hb ht in_M hown hK hP (0) r_at0 rfl 5 (by decide) rfl (ht _ kw466) (fun _ h9 => h9) (v := .int (τ47.1 0 5)) rfl d_M_flash_200 ?_
                          refine lv_icmp_gt (tgt := 224) hx hb d_M_flash_203 (by decide) (fun c72 => ?_) (fun c72 => ?_)
                          ·
                            have c72 : (τ47.1 0 5) < (τ47.1 6 jk) := c72
                            refine lv_iconst (v := (0 : Int32)) hx hb d_M_flash_224 (by decide) ?_
                            exact J225_57 (0 : Int32) ls ((if_neg c71).trans (if_pos c72)).symm (lv_sub hl [0, 1, 2, 3, 4] rfl)
                          ·
                            have c72 : ¬ ((τ47.1 0 5) < (τ47.1 6 jk)) := c72
                            refine lv_aload_n hx hb d_M_flash_206 rfl (lv_at hl 4 rfl) ?_
                            refine g_get hx hb ht in_M hown hK hP (0) r_at0 rfl 5 (by decide) rfl (ht _ kw466) (fun _ h9 => h9) (v := .int (τ47.1 0 5)) rfl d_M_flash_207 ?_
                            refine lv_aload_n hx hb d_M_flash_210 rfl (lv_at hl 4 rfl) ?_
                            refine g_get hx hb ht in_M hown hK hP (0) r_at0 rfl 11 (by decide) rfl (ht _ kw472) (fun _ h9 => h9) (v := .ref (ad 7)) rfl d_M_flash_211 ?_
                            refine lv_iload hx hb d_M_flash_214 (lv_at hl 0 rfl) ?_
                            refine g_iald hx hb hK hP (7) r_at7 rfl (g_eix rfl (by omega) (by omega)) (j := jk) (g_ena rfl (by omega)) d_M_flash_216 ?_
                            refine lv_icmp_ge (tgt := 224) hx hb d_M_flash_217 (by decide) (fun c73 => ?_) (fun c73 => ?_)
                            ·
                              have c73 : (τ47.1 7 jk) ≤ (τ47.1 0 5) := c73
                              refine lv_iconst (v := (0 : Int32)) hx hb d_M_flash_224 (by decide) ?_
                              exact J225_57 (0 : Int32) ls (((if_neg c71).trans (if_neg c72)).trans (if_pos c73)).symm (lv_sub hl [0, 1, 2, 3, 4] rfl)
                            ·
                              have c73 : ¬ ((τ47.1 7 jk) ≤ (τ47.1 0 5)) := c73
                              refine lv_iconst (v := (1 : Int32)) hx hb d_M_flash_220 (by decide) ?_
                              refine lv_goto (tgt := 225) hx hb d_M_flash_221 (by decide) ?_
                              exact J225_57 (1 : Int32) ls (((if_neg c71).trans (if_neg c72)).trans (if_neg c73)).symm (lv_sub hl [0, 1, 2, 3, 4] rfl)
                    exact LL175_53 10 0 τ45 ls H locs (by omega) rfl hT49 (lv_sub hl [0, 1, 2, 3, 5] rfl) hP hD hS
                  ·
                    have c40 : ¬ (r32 ≤ (σ.2 2 ((((2 : Int32) * o) + (1 : Int32)).toNatClampNeg))) := mt (lg_cmp_ge _ _).mpr c40
                    have hF : f_M_flash σ o z y = f_M_flash_159_74 σ o z y x3 r7 r10 r28 r32 := hF.trans (if_neg c40)
                    have hQ : k_M_flash_159_74 σ o z y x3 r7 r10 r28 r32 := Eq.mp (if_neg c40) hQ
                    refine lv_ldc2 (v := (-5 : Int64)) hx hb hown (ht _ kw598) d_M_flash_159 ?_
                    exact W.lret (v := (-5 : Int64)) hx hb hr (fun t hh hW => ⟨⟨(-5 : Int64), σ, rfl, hF.symm, by show va_P (dC, dI) cls (g_w r_sh dA ad σ) t.heap; rw [hh]; exact hP⟩, hS.F hh⟩) hS.2.2 d_M_flash_162
              ·
                have c25 : r7 = (0 : Int64) := (lg_cmp_eq _ _).mp c25
                have hF : f_M_flash σ o z y = f_M_flash_91_75 σ o z y x3 r7 r10 := hF.trans (if_pos c25)
                have hQ : k_M_flash_91_75 σ o z y x3 r7 r10 := Eq.mp (if_pos c25) hQ
                refine lv_ldc2 (v := (-2 : Int64)) hx hb hown (ht _ kw574) d_M_flash_91 ?_
                exact W.lret (v := (-2 : Int64)) hx hb hr (fun t hh hW => ⟨⟨(-2 : Int64), σ, rfl, hF.symm, by show va_P (dC, dI) cls (g_w r_sh dA ad σ) t.heap; rw [hh]; exact hP⟩, hS.F hh⟩) hS.2.2 d_M_flash_94
    refine lv_if_lt (tgt := 35) hx hb d_M_flash_12 (by decide) (fun c76 => ?_) (fun c76 => ?_)
    ·
      have c76 : z < 0 := c76
      refine lv_iconst (v := (0 : Int32)) hx hb d_M_flash_35 (by decide) ?_
      exact J36_4 (0 : Int32) ls (if_pos c76).symm (lv_sub hl [0, 1, 2, 3] rfl)
    ·
      have c76 : ¬ (z < 0) := c76
      refine lv_iload_n hx hb d_M_flash_15 rfl (lv_at hl 2 rfl) ?_
      refine lv_ldc (v := (1000000 : Int32)) hx hb hown (ht _ kw573) d_M_flash_16 ?_
      refine lv_icmp_gt (tgt := 35) hx hb d_M_flash_18 (by decide) (fun c77 => ?_) (fun c77 => ?_)
      ·
        have c77 : (1000000 : Int32) < z := c77
        refine lv_iconst (v := (0 : Int32)) hx hb d_M_flash_35 (by decide) ?_
        exact J36_4 (0 : Int32) ls ((if_neg c76).trans (if_pos c77)).symm (lv_sub hl [0, 1, 2, 3] rfl)
      ·
        have c77 : ¬ ((1000000 : Int32) < z) := c77
        refine lv_iload_n hx hb d_M_flash_21 rfl (lv_at hl 3 rfl) ?_
        refine lv_if_lt (tgt := 35) hx hb d_M_flash_22 (by decide) (fun c78 => ?_) (fun c78 => ?_)
        ·
          have c78 : y < 0 := c78
          refine lv_iconst (v := (0 : Int32)) hx hb d_M_flash_35 (by decide) ?_
          exact J36_4 (0 : Int32) ls (((if_neg c76).trans (if_neg c77)).trans (if_pos c78)).symm (lv_sub hl [0, 1, 2, 3] rfl)
        ·
          have c78 : ¬ (y < 0) := c78
          refine lv_iload_n hx hb d_M_flash_25 rfl (lv_at hl 3 rfl) ?_
          refine lv_ldc (v := (1000000 : Int32)) hx hb hown (ht _ kw573) d_M_flash_26 ?_
          refine lv_icmp_gt (tgt := 35) hx hb d_M_flash_28 (by decide) (fun c79 => ?_) (fun c79 => ?_)
          ·
            have c79 : (1000000 : Int32) < y := c79
            refine lv_iconst (v := (0 : Int32)) hx hb d_M_flash_35 (by decide) ?_
            exact J36_4 (0 : Int32) ls ((((if_neg c76).trans (if_neg c77)).trans (if_neg c78)).trans (if_pos c79)).symm (lv_sub hl [0, 1, 2, 3] rfl)
          ·
            have c79 : ¬ ((1000000 : Int32) < y) := c79
            refine lv_iconst (v := (1 : Int32)) hx hb d_M_flash_31 (by decide) ?_
            refine lv_goto (tgt := 36) hx hb d_M_flash_32 (by decide) ?_
            exact J36_4 (1 : Int32) ls ((((if_neg c76).trans (if_neg c77)).trans (if_neg c78)).trans (if_neg c79)).symm (lv_sub hl [0, 1, 2, 3] rfl)
  ·
    have c1 : (σ.1 0 3) = 0 := c1
    have hF : f_M_flash σ o z y = f_M_flash_7_80 σ o z y := hF.trans (if_pos c1)
    have hQ : k_M_flash_7_80 σ o z y := Eq.mp (if_pos c1) hQ
    refine lv_ldc2 (v := (-1 : Int64)) hx hb hown (ht _ kw568) d_M_flash_7 ?_
    exact W.lret (v := (-1 : Int64)) hx hb hr (fun t hh hW => ⟨⟨(-1 : Int64), σ, rfl, hF.symm, by show va_P (dC, dI) cls (g_w r_sh dA ad σ) t.heap; rw [hh]; exact hP⟩, hS.F hh⟩) hS.2.2 d_M_flash_10
