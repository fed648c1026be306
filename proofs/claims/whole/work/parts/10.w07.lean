def f_D_workOut_56_10 (σ : g_S) (am : Int32) (lim : Int32) (τ3 : g_S) (τ6 : g_S) : g_S := τ6
def k_D_workOut_56_10 (σ : g_S) (am : Int32) (lim : Int32) (τ3 : g_S) (τ6 : g_S) : Prop := True
def f_D_workOut_L18 (σ : g_S) (am : Int32) (lim : Int32) (τ3 : g_S) : Nat → Nat → g_S → g_S
  | 0, jk, τ5 => (τ5)
  | jn + 1, jk, τ5 => (if (τ5.2 9 3) = (0 : Int64) then (τ5) else (if (τ5.1 9 4) = (τ5.1 9 2) then (τ5) else f_D_workOut_L18 σ am lim τ3 jn (jk + 1) (f_D_goOneLeg τ5)))
def k_D_workOut_L18 (σ : g_S) (am : Int32) (lim : Int32) (τ3 : g_S) : Nat → Nat → g_S → Prop
  | 0, jk, τ5 => True
  | jn + 1, jk, τ5 => (if (τ5.2 9 3) = (0 : Int64) then True else (if (τ5.1 9 4) = (τ5.1 9 2) then True else (k_D_goOneLeg τ5) ∧ (k_D_workOut_L18 σ am lim τ3 jn (jk + 1) (f_D_goOneLeg τ5))))
def f_D_workOut_12_4 (σ : g_S) (am : Int32) (lim : Int32) (τ3 : g_S) : g_S := (f_D_workOut_56_10 σ am lim τ3 (f_D_workOut_L18 σ am lim τ3 64 0 τ3))
def k_D_workOut_12_4 (σ : g_S) (am : Int32) (lim : Int32) (τ3 : g_S) : Prop := (k_D_workOut_L18 σ am lim τ3 64 0 τ3) ∧ (k_D_workOut_56_10 σ am lim τ3 (f_D_workOut_L18 σ am lim τ3 64 0 τ3))
def f_D_workOut (σ : g_S) (am : Int32) (lim : Int32) : g_S := (f_D_workOut_12_4 σ am lim (f_B_clearPendingGrowth (g_I (g_L σ 9 3 am.toInt64) 9 2 lim)))
def k_D_workOut (σ : g_S) (am : Int32) (lim : Int32) : Prop := (k_D_workOut_12_4 σ am lim (f_B_clearPendingGrowth (g_I (g_L σ 9 3 am.toInt64) 9 2 lim)))
set_option maxHeartbeats 4000000 in
set_option maxRecDepth 100000 in
theorem c_D_workOut (l : Launch) (dC : Nat → ClassId) (dI : Nat → Nat → Nat) (dA : Nat → ClassId) (ad : Nat → Nat) (tb : Nat) (sz : Nat) (σ : g_S) (am : Int32) (lim : Int32) (hQ : k_D_workOut σ am lim) : Met l y_D_workOut w_D_workOut ({ frames := 5, cells := 0, slots := 0, locals := 133 }) (va_Pc [.ref (ad 9), .ref (ad 3), .int am, .int lim] (g_W (dC, dI) cls (x_tys dA) (g_w x_sh dA ad σ) sz (x_Z tb))) (va_Qv (fun τ => τ = f_D_workOut σ am lim) (fun τ t => va_P (dC, dI) cls (g_w x_sh dA ad τ) t.heap) (va_A (g_w x_sh dA ad σ) sz)) 0 0 (va_A (g_w x_sh dA ad σ) sz) := by
  refine Met.ofW (cc := b_D_workOut) (maxL := 5) (ret := none) (by decide) rfl ?_
  intro p e s m args below meth c s₁ B hml hv
  obtain ⟨rfl, hsz, hP, hK, hD0, hz⟩ := hv
  have hx := B.exec
  have hb := B.bytes
  have hr := B.returns
  have hts := atoms_spec (ws := w_D_workOut) B.pre
  have ht := fun (w : Cond) (h : w ∈ gA) => hts w (List.mem_cons_of_mem _ h)
  have hown : s.vm.findClass "RangedPool$Trade" = some m.cls := findClass_of_methodNamed B.named
  have hlocks := B.notSynchronized
  subst hsz
  have hD := hD0.self (sz := s.heap.size)
  have hA : ∀ q : Nat, s.heap.size ≤ q → va_A (g_w x_sh dA ad σ) s.heap.size q := fun q h => Or.inr h
  generalize hAe : va_A (g_w x_sh dA ad σ) s.heap.size = A at hD hA hz ⊢
  have hS : va_S A s.heap s.heap [] := va_S.rf
  have hl := lv_entry ([.ref (ad 9), .ref (ad 3), .int am, .int lim]) (n := 5) (Nat.le_of_ble_eq_true rfl)
  rw [lg_entry_eq]
  generalize (lg_sl ([.ref (ad 9), .ref (ad 3), .int am, .int lim]) ++ List.replicate (5 - (lg_sl ([.ref (ad 9), .ref (ad 3), .int am, .int lim])).length) Slot.unset).toArray = ls at hl ⊢
  have hl : lv_has ls 5 [(0, .ref (ad 9)), (1, .ref (ad 3)), (2, .int am), (3, .int lim)] := hl
  have hF : f_D_workOut σ am lim = f_D_workOut σ am lim := rfl
  refine lv_aload_n hx hb d_D_workOut_0 rfl (lv_at hl 0 rfl) ?_
  refine lv_iload_n hx hb d_D_workOut_1 rfl (lv_at hl 2 rfl) ?_
  refine lv_i2l (v := am.toInt64) hx hb d_D_workOut_2 rfl ?_
  refine g_putL (v := am.toInt64) (ty := .long) hx hb ht in_D yt_D yt_D_ok n_D hown hK hP hD hS (9) x_at9 rfl 3 (by decide) rfl (ht _ kw103) (fun _ h9 => h9) rfl (by decide +kernel) (rfl) (rfl) d_D_workOut_3 (fun H locs hP hD hS => ?_)
  refine lv_aload_n hx hb d_D_workOut_6 rfl (lv_at hl 0 rfl) ?_
  refine lv_iload_n hx hb d_D_workOut_7 rfl (lv_at hl 3 rfl) ?_
  refine g_putI (v := lim) (ty := .int) hx hb ht in_D yt_D yt_D_ok n_D hown hK hP hD hS (9) x_at9 rfl 2 (by decide) rfl (ht _ kw102) (fun _ h9 => h9) rfl (by decide +kernel) (rfl) (rfl) d_D_workOut_8 (fun H locs hP hD hS => ?_)
  refine lv_aload_n hx hb d_D_workOut_11 rfl (lv_at hl 1 rfl) ?_
  refine g_cWv (va_runVN (host := "RangedPool") (As := []) (rest := []) ⟨hx, hb, hml, hown, ht⟩ (c_B_clearPendingGrowth l dC dI dA ad tb H.size (g_I (g_L σ 9 3 am.toInt64) 9 2 lim)) ⟨va_cnB 0 ht gn_B_clearPendingGrowth rfl rfl rfl (hz.1 _ nk296) (ht _ kw2) (by decide +kernel) ⟨Nat.le_of_ble_eq_true rfl, Nat.le_of_ble_eq_true rfl⟩, ht _ kw298, ht _ ks18⟩ (g_pV (g_prW x_Zok hK hP hD hS hA hz _) (g_rc hK hP (3) x_at3 rfl)) rfl rfl hl.1 rfl (lv_room (Nat.le_of_ble_eq_true rfl)) d_D_workOut_12 ⟨Nat.le_of_ble_eq_true rfl, Nat.le_of_ble_eq_true rfl⟩) hD hS hA (fun τ3 H locs e2 hP hD hS => ?_)
  have hF : f_D_workOut σ am lim = f_D_workOut_12_4 σ am lim τ3 := hF.trans (by rw [e2]; try rfl)
  have hQ : k_D_workOut_12_4 σ am lim τ3 := by rw [e2]; exact hQ
  refine lv_iconst (v := (0 : Int32)) hx hb d_D_workOut_15 (by decide) ?_
  refine lv_istore (lv' := [(4, .int (0 : Int32)), (0, .ref (ad 9)), (1, .ref (ad 3)), (2, .int am), (3, .int lim)]) hx hb d_D_workOut_16 hl (by decide) rfl (fun ls hl => ?_)
  obtain ⟨hT7, hQ⟩ := hQ
  have J56_8 : ∀ (τ6 : g_S) (ls : Array Slot) (H : Heap) (locs : List Loc), τ6 = (f_D_workOut_L18 σ am lim τ3 64 0 τ3) → lv_has ls 5 [] → va_P (dC, dI) cls (g_w x_sh dA ad τ6) H → va_D A (g_w x_sh dA ad τ6) → va_S A s.heap H locs → W p l e (headSpec w_D_workOut ({ frames := 5, cells := 0, slots := 0, locals := 133 })).room s m ([.ref (ad 9), .ref (ad 3), .int am, .int lim] : List Value).toArray below meth c H locs 0 0 (MQ below (va_Qv (fun τ => τ = f_D_workOut σ am lim) (fun τ t => va_P (dC, dI) cls (g_w x_sh dA ad τ) t.heap) A) ([.ref (ad 9), .ref (ad 3), .int am, .int lim] : List Value).toArray s 0 0 A) (F0 m 56 ls []) := by
    intro τ6 ls H locs e9 hl hP hD hS
    have hF : f_D_workOut σ am lim = f_D_workOut_56_10 σ am lim τ3 τ6 := hF.trans (by rw [e9]; try rfl)
    have hQ : k_D_workOut_56_10 σ am lim τ3 τ6 := by rw [e9]; exact hQ
    exact W.vret hx hb hr (fun t hh hW => ⟨⟨τ6, rfl, hF.symm, by show va_P (dC, dI) cls (g_w x_sh dA ad τ6) t.heap; rw [hh]; exact hP⟩, hS.F hh⟩) hS.2.2 d_D_workOut_56
  have LL18_11 : ∀ (jn : Nat) (jk : Nat) (τ5 : g_S) (ls : Array Slot) (H : Heap) (locs : List Loc), jk + jn = 64 → f_D_workOut_L18 σ am lim τ3 64 0 τ3 = f_D_workOut_L18 σ am lim τ3 jn jk τ5 → k_D_workOut_L18 σ am lim τ3 jn jk τ5 → lv_has ls 5 [(4, .int (Int32.ofNat jk)), (0, .ref (ad 9)), (1, .ref (ad 3))] → va_P (dC, dI) cls (g_w x_sh dA ad τ5) H → va_D A (g_w x_sh dA ad τ5) → va_S A s.heap H locs → W p l e (headSpec w_D_workOut ({ frames := 5, cells := 0, slots := 0, locals := 133 })).room s m ([.ref (ad 9), .ref (ad 3), .int am, .int lim] : List Value).toArray below meth c H locs 0 0 (MQ below (va_Qv (fun τ => τ = f_D_workOut σ am lim) (fun τ t => va_P (dC, dI) cls (g_w x_sh dA ad τ) t.heap) A) ([.ref (ad 9), .ref (ad 3), .int am, .int lim] : List Value).toArray s 0 0 A) (F0 m 18 ls []) := by
    intro jn
    induction jn with
    | zero =>
      intro jk τ5 ls H locs hkn hF hQ hl hP hD hS
      have hF : f_D_workOut_L18 σ am lim τ3 64 0 τ3 = (τ5) := hF
      have hQ : True := hQ
      refine lv_iload hx hb d_D_workOut_18 (lv_at hl 0 rfl) ?_
      refine lv_bipush (v := (64 : Int32)) hx hb d_D_workOut_20 (by decide) ?_
      refine lv_icmp_ge (tgt := 56) hx hb d_D_workOut_22 (by decide) (fun _ => ?_) (fun c12 => absurd (g_geN (N := 64) (by omega)) c12)
      exact J56_8 τ5 ls H locs hF.symm (lv_sub hl [] rfl) hP hD hS
    | succ jn ih =>
      intro jk τ5 ls H locs hkn hF hQ hl hP hD hS
      have hF : f_D_workOut_L18 σ am lim τ3 64 0 τ3 = (if (τ5.2 9 3) = (0 : Int64) then (τ5) else (if (τ5.1 9 4) = (τ5.1 9 2) then (τ5) else f_D_workOut_L18 σ am lim τ3 jn (jk + 1) (f_D_goOneLeg τ5))) := hF
      have hQ : (if (τ5.2 9 3) = (0 : Int64) then True else (if (τ5.1 9 4) = (τ5.1 9 2) then True else (k_D_goOneLeg τ5) ∧ (k_D_workOut_L18 σ am lim τ3 jn (jk + 1) (f_D_goOneLeg τ5)))) := hQ
      refine lv_iload hx hb d_D_workOut_18 (lv_at hl 0 rfl) ?_
      refine lv_bipush (v := (64 : Int32)) hx hb d_D_workOut_20 (by decide) ?_
      refine lv_icmp_ge (tgt := 56) hx hb d_D_workOut_22 (by decide) (fun c13 => absurd c13 (g_lt (N := 64) (by omega) (by decide))) (fun _ => ?_)
      refine lv_aload_n hx hb d_D_workOut_25 rfl (lv_at hl 1 rfl) ?_
      refine g_get hx hb ht in_D hown hK hP (9) x_at9 rfl 3 (by decide) rfl (ht _ kw103) (fun _ h9 => h9) (v := .long (τ5.2 9 3)) rfl d_D_workOut_26 ?_
      refine lv_lconst (v := (0 : Int64)) hx hb d_D_workOut_29 (by decide) ?_
      refine W.lcmp hx hb d_D_workOut_30 ?_
      refine lv_if_eq (tgt := 56) hx hb d_D_workOut_31 (by decide) (fun c14 => ?_) (fun c14 => ?_)
      ·
        have c14 : (τ5.2 9 3) = (0 : Int64) := (lg_cmp_eq _ _).mp c14
        have hF := hF.trans (if_pos c14)
        have hQ := Eq.mp (if_pos c14) hQ
        exact J56_8 τ5 ls H locs hF.symm (lv_sub hl [] rfl) hP hD hS
      ·
        have c14 : ¬ ((τ5.2 9 3) = (0 : Int64)) := mt (lg_cmp_eq _ _).mpr c14
        have hF := hF.trans (if_neg c14)
        have hQ := Eq.mp (if_neg c14) hQ
        refine lv_aload_n hx hb d_D_workOut_34 rfl (lv_at hl 1 rfl) ?_
        refine g_get hx hb ht in_D hown hK hP (9) x_at9 rfl 4 (by decide) rfl (ht _ kw104) (fun _ h9 => h9) (v := .int (τ5.1 9 4)) rfl d_D_workOut_35 ?_
        refine lv_aload_n hx hb d_D_workOut_38 rfl (lv_at hl 1 rfl) ?_
        refine g_get hx hb ht in_D hown hK hP (9) x_at9 rfl 2 (by decide) rfl (ht _ kw102) (fun _ h9 => h9) (v := .int (τ5.1 9 2)) rfl d_D_workOut_39 ?_
        refine lv_icmp_eq (tgt := 56) hx hb d_D_workOut_42 (by decide) (fun c15 => ?_) (fun c15 => ?_)
        ·
          have c15 : (τ5.1 9 4) = (τ5.1 9 2) := c15
          have hF := hF.trans (if_pos c15)
          have hQ := Eq.mp (if_pos c15) hQ
          exact J56_8 τ5 ls H locs hF.symm (lv_sub hl [] rfl) hP hD hS
        ·
          have c15 : ¬ ((τ5.1 9 4) = (τ5.1 9 2)) := c15
          have hF := hF.trans (if_neg c15)
          have hQ := Eq.mp (if_neg c15) hQ
          refine lv_aload_n hx hb d_D_workOut_45 rfl (lv_at hl 1 rfl) ?_
          refine lv_aload_n hx hb d_D_workOut_46 rfl (lv_at hl 2 rfl) ?_
          obtain ⟨hs16, hQ⟩ := hQ
          refine g_cWvE (va_runV (As := [.ref (ad 3)]) (rest := []) ⟨hx, hb, hml, hown, ht⟩ (c_D_goOneLeg l dC dI dA ad tb H.size τ5 hs16) (cwV 1 ht gc_D_43 rfl rfl rfl (by decide +kernel) ⟨Nat.le_of_ble_eq_true rfl, Nat.le_of_ble_eq_true rfl⟩) (g_pV (g_prW x_Zok hK hP hD hS hA hz _) (g_rc hK hP (9) x_at9 rfl)) rfl rfl hl.1 rfl (lv_room (Nat.le_of_ble_eq_true rfl)) d_D_workOut_47 ⟨Nat.le_of_ble_eq_true rfl, Nat.le_of_ble_eq_true rfl⟩) hD hS hA (fun H locs hP hD hS => ?_)
          refine lv_iinc (v := Int32.ofNat (jk + 1)) (lv' := [(4, .int (Int32.ofNat (jk + 1))), (0, .ref (ad 9)), (1, .ref (ad 3))]) hx hb d_D_workOut_50 hl (k := 0) rfl (g_inc jk) (by decide) rfl (fun ls hl => ?_)
          refine lv_goto (tgt := 18) hx hb d_D_workOut_53 (by decide) ?_
          exact ih (jk + 1) (f_D_goOneLeg τ5) ls H locs (by omega) hF hQ (lv_sub hl [0, 1, 2] rfl) hP hD hS
  exact LL18_11 64 0 τ3 ls H locs (by omega) rfl hT7 (lv_sub hl [0, 1, 2] rfl) hP hD hS
def f_H_tick (σ : g_S) (n : Int32) (stp : Int32) : g_S := g_L (g_L σ 5 0 ((σ.2 5 0) + n.toInt64)) 5 1 ((σ.2 5 1) + (stp.toInt64 * n.toInt64))
set_option maxHeartbeats 4000000 in
set_option maxRecDepth 100000 in
theorem c_H_tick (l : Launch) (dC : Nat → ClassId) (dI : Nat → Nat → Nat) (dA : Nat → ClassId) (ad : Nat → Nat) (tb : Nat) (sz : Nat) (σ : g_S) (n : Int32) (stp : Int32) : Met l y_H_tick w_H_tick ({ frames := 0, cells := 0, slots := 0, locals := 0 }) (va_Pc [.ref (ad 5), .int n, .int stp] (g_W (dC, dI) cls (x_tys dA) (g_w x_sh dA ad σ) sz (x_Z tb))) (va_Qv (fun τ => τ = f_H_tick σ n stp) (fun τ t => va_P (dC, dI) cls (g_w x_sh dA ad τ) t.heap) (va_A (g_w x_sh dA ad σ) sz)) 0 0 (va_A (g_w x_sh dA ad σ) sz) := by
  refine Met.ofW (cc := b_H_tick) (maxL := 3) (ret := none) (by decide) rfl ?_
  intro p e s m args below meth c s₁ B hml hv
  obtain ⟨rfl, hsz, hP, hK, hD0, hz⟩ := hv
  have hx := B.exec
  have hb := B.bytes
  have hr := B.returns
  have hts := atoms_spec (ws := w_H_tick) B.pre
  have ht := fun (w : Cond) (h : w ∈ gA) => hts w (List.mem_cons_of_mem _ h)
  have hown : s.vm.findClass "RangedPool$History" = some m.cls := findClass_of_methodNamed B.named
  have hlocks := B.notSynchronized
  subst hsz
  have hD := hD0.self (sz := s.heap.size)
  have hA : ∀ q : Nat, s.heap.size ≤ q → va_A (g_w x_sh dA ad σ) s.heap.size q := fun q h => Or.inr h
  generalize hAe : va_A (g_w x_sh dA ad σ) s.heap.size = A at hD hA hz ⊢
  have hS : va_S A s.heap s.heap [] := va_S.rf
  have hl := lv_entry ([.ref (ad 5), .int n, .int stp]) (n := 3) (Nat.le_of_ble_eq_true rfl)
  rw [lg_entry_eq]
  generalize (lg_sl ([.ref (ad 5), .int n, .int stp]) ++ List.replicate (3 - (lg_sl ([.ref (ad 5), .int n, .int stp])).length) Slot.unset).toArray = ls at hl ⊢
  have hl : lv_has ls 3 [(0, .ref (ad 5)), (1, .int n), (2, .int stp)] := hl
  have hF : f_H_tick σ n stp = f_H_tick σ n stp := rfl
  refine lv_aload_n hx hb d_H_tick_0 rfl (lv_at hl 0 rfl) ?_
  refine lv_dup hx hb d_H_tick_1 rfl ?_
  refine g_get hx hb ht in_H hown hK hP (5) x_at5 rfl 0 (by decide) rfl (ht _ kw70) (fun _ h9 => h9) (v := .long (σ.2 5 0)) rfl d_H_tick_2 ?_
  refine lv_iload_n hx hb d_H_tick_5 rfl (lv_at hl 1 rfl) ?_
  refine lv_i2l (v := n.toInt64) hx hb d_H_tick_6 rfl ?_
  refine lv_ladd hx hb d_H_tick_7 ?_
  refine g_putL (v := (σ.2 5 0) + n.toInt64) (ty := .long) hx hb ht in_H yt_H yt_H_ok n_H hown hK hP hD hS (5) x_at5 rfl 0 (by decide) rfl (ht _ kw70) (fun _ h9 => h9) rfl (by decide +kernel) (rfl) (rfl) d_H_tick_8 (fun H locs hP hD hS => ?_)
  refine lv_aload_n hx hb d_H_tick_11 rfl (lv_at hl 0 rfl) ?_
  refine lv_dup hx hb d_H_tick_12 rfl ?_
  refine g_get hx hb ht in_H hown hK hP (5) x_at5 rfl 1 (by decide) rfl (ht _ kw72) (fun _ h9 => h9) (v := .long (σ.2 5 1)) rfl d_H_tick_13 ?_
  refine lv_iload_n hx hb d_H_tick_16 rfl (lv_at hl 2 rfl) ?_
  refine lv_i2l (v := stp.toInt64) hx hb d_H_tick_17 rfl ?_
  refine lv_iload_n hx hb d_H_tick_18 rfl (lv_at hl 1 rfl) ?_
  refine lv_i2l (v := n.toInt64) hx hb d_H_tick_19 rfl ?_
  refine lv_lmul hx hb d_H_tick_20 ?_
  refine lv_ladd hx hb d_H_tick_21 ?_
  refine g_putL (v := (σ.2 5 1) + (stp.toInt64 * n.toInt64)) (ty := .long) hx hb ht in_H yt_H yt_H_ok n_H hown hK hP hD hS (5) x_at5 rfl 1 (by decide) rfl (ht _ kw72) (fun _ h9 => h9) rfl (by decide +kernel) (rfl) (rfl) d_H_tick_22 (fun H locs hP hD hS => ?_)
  exact W.vret hx hb hr (fun t hh hW => ⟨⟨g_L (g_L σ 5 0 ((σ.2 5 0) + n.toInt64)) 5 1 ((σ.2 5 1) + (stp.toInt64 * n.toInt64)), rfl, hF.symm, by show va_P (dC, dI) cls (g_w x_sh dA ad (g_L (g_L σ 5 0 ((σ.2 5 0) + n.toInt64)) 5 1 ((σ.2 5 1) + (stp.toInt64 * n.toInt64)))) t.heap; rw [hh]; exact hP⟩, hS.F hh⟩) hS.2.2 d_H_tick_25
def f_H_dropOldest_56_5 (σ : g_S) (τ2 : g_S) : g_S := g_I τ2 5 2 ((τ2.1 5 2) - (1 : Int32))
def f_H_dropOldest_L2 (σ : g_S) : Nat → Nat → g_S → g_S
  | 0, jk, τ1 => (τ1)
  | jn + 1, jk, τ1 => f_H_dropOldest_L2 σ jn (jk + 1) (g_I (g_L (g_L τ1 6 ((jk + 1) - 1) (τ1.2 6 (jk + 1))) 7 ((jk + 1) - 1) (τ1.2 7 (jk + 1))) 8 ((jk + 1) - 1) (τ1.1 8 (jk + 1)))
def f_H_dropOldest (σ : g_S) : g_S := (f_H_dropOldest_56_5 σ (f_H_dropOldest_L2 σ 7 0 σ))
set_option maxHeartbeats 4000000 in
set_option maxRecDepth 100000 in
theorem c_H_dropOldest (l : Launch) (dC : Nat → ClassId) (dI : Nat → Nat → Nat) (dA : Nat → ClassId) (ad : Nat → Nat) (tb : Nat) (sz : Nat) (σ : g_S) : Met l y_H_dropOldest w_H_dropOldest ({ frames := 0, cells := 0, slots := 0, locals := 0 }) (va_Pc [.ref (ad 5)] (g_W (dC, dI) cls (x_tys dA) (g_w x_sh dA ad σ) sz (x_Z tb))) (va_Qv (fun τ => τ = f_H_dropOldest σ) (fun τ t => va_P (dC, dI) cls (g_w x_sh dA ad τ) t.heap) (va_A (g_w x_sh dA ad σ) sz)) 0 0 (va_A (g_w x_sh dA ad σ) sz) := by
  refine Met.ofW (cc := b_H_dropOldest) (maxL := 2) (ret := none) (by decide) rfl ?_
  intro p e s m args below meth c s₁ B hml hv
  obtain ⟨rfl, hsz, hP, hK, hD0, hz⟩ := hv
  have hx := B.exec
  have hb := B.bytes
  have hr := B.returns
  have hts := atoms_spec (ws := w_H_dropOldest) B.pre
  have ht := fun (w : Cond) (h : w ∈ gA) => hts w (List.mem_cons_of_mem _ h)
  have hown : s.vm.findClass "RangedPool$History" = some m.cls := findClass_of_methodNamed B.named
  have hlocks := B.notSynchronized
  subst hsz
  have hD := hD0.self (sz := s.heap.size)
  have hA : ∀ q : Nat, s.heap.size ≤ q → va_A (g_w x_sh dA ad σ) s.heap.size q := fun q h => Or.inr h
  generalize hAe : va_A (g_w x_sh dA ad σ) s.heap.size = A at hD hA hz ⊢
  have hS : va_S A s.heap s.heap [] := va_S.rf
  have hl := lv_entry ([.ref (ad 5)]) (n := 2) (Nat.le_of_ble_eq_true rfl)
  rw [lg_entry_eq]
  generalize (lg_sl ([.ref (ad 5)]) ++ List.replicate (2 - (lg_sl ([.ref (ad 5)])).length) Slot.unset).toArray = ls at hl ⊢
  have hl : lv_has ls 2 [(0, .ref (ad 5))] := hl
  have hF : f_H_dropOldest σ = f_H_dropOldest σ := rfl
  refine lv_iconst (v := (1 : Int32)) hx hb d_H_dropOldest_0 (by decide) ?_
  refine lv_istore_n (lv' := [(1, .int (1 : Int32)), (0, .ref (ad 5))]) hx hb d_H_dropOldest_1 rfl hl (by decide) rfl (fun ls hl => ?_)
  have J56_3 : ∀ (τ2 : g_S) (ls : Array Slot) (H : Heap) (locs : List Loc), τ2 = (f_H_dropOldest_L2 σ 7 0 σ) → lv_has ls 2 [(0, .ref (ad 5))] → va_P (dC, dI) cls (g_w x_sh dA ad τ2) H → va_D A (g_w x_sh dA ad τ2) → va_S A s.heap H locs → W p l e (headSpec w_H_dropOldest ({ frames := 0, cells := 0, slots := 0, locals := 0 })).room s m ([.ref (ad 5)] : List Value).toArray below meth c H locs 0 0 (MQ below (va_Qv (fun τ => τ = f_H_dropOldest σ) (fun τ t => va_P (dC, dI) cls (g_w x_sh dA ad τ) t.heap) A) ([.ref (ad 5)] : List Value).toArray s 0 0 A) (F0 m 56 ls []) := by
    intro τ2 ls H locs e4 hl hP hD hS
    have hF : f_H_dropOldest σ = f_H_dropOldest_56_5 σ τ2 := hF.trans (by rw [e4]; try rfl)
    refine lv_aload_n hx hb d_H_dropOldest_56 rfl (lv_at hl 0 rfl) ?_
    refine lv_dup hx hb d_H_dropOldest_57 rfl ?_
    refine g_get hx hb ht in_H hown hK hP (5) x_at5 rfl 2 (by decide) rfl (ht _ kw73) (fun _ h9 => h9) (v := .int (τ2.1 5 2)) rfl d_H_dropOldest_58 ?_
    refine lv_iconst (v := (1 : Int32)) hx hb d_H_dropOldest_61 (by decide) ?_
    refine lv_isub hx hb d_H_dropOldest_62 ?_
    refine g_putI (v := (τ2.1 5 2) - (1 : Int32)) (ty := .int) hx hb ht in_H yt_H yt_H_ok n_H hown hK hP hD hS (5) x_at5 rfl 2 (by decide) rfl (ht _ kw73) (fun _ h9 => h9) rfl (by decide +kernel) (rfl) (rfl) d_H_dropOldest_63 (fun H locs hP hD hS => ?_)
    exact W.vret hx hb hr (fun t hh hW => ⟨⟨g_I τ2 5 2 ((τ2.1 5 2) - (1 : Int32)), rfl, hF.symm, by show va_P (dC, dI) cls (g_w x_sh dA ad (g_I τ2 5 2 ((τ2.1 5 2) - (1 : Int32)))) t.heap; rw [hh]; exact hP⟩, hS.F hh⟩) hS.2.2 d_H_dropOldest_66
  have LL2_6 : ∀ (jn : Nat) (jk : Nat) (τ1 : g_S) (ls : Array Slot) (H : Heap) (locs : List Loc), jk + jn = 7 → f_H_dropOldest_L2 σ 7 0 σ = f_H_dropOldest_L2 σ jn jk τ1 → lv_has ls 2 [(1, .int (Int32.ofNat (jk + 1))), (0, .ref (ad 5))] → va_P (dC, dI) cls (g_w x_sh dA ad τ1) H → va_D A (g_w x_sh dA ad τ1) → va_S A s.heap H locs → W p l e (headSpec w_H_dropOldest ({ frames := 0, cells := 0, slots := 0, locals := 0 })).room s m ([.ref (ad 5)] : List Value).toArray below meth c H locs 0 0 (MQ below (va_Qv (fun τ => τ = f_H_dropOldest σ) (fun τ t => va_P (dC, dI) cls (g_w x_sh dA ad τ) t.heap) A) ([.ref (ad 5)] : List Value).toArray s 0 0 A) (F0 m 2 ls []) := by
    intro jn
    induction jn with
    | zero =>
      intro jk τ1 ls H locs hkn hF hl hP hD hS
      have hF : f_H_dropOldest_L2 σ 7 0 σ = (τ1) := hF
      skip
      refine lv_iload_n hx hb d_H_dropOldest_2 rfl (lv_at hl 0 rfl) ?_
      refine lv_bipush (v := (8 : Int32)) hx hb d_H_dropOldest_3 (by decide) ?_
      refine lv_icmp_ge (tgt := 56) hx hb d_H_dropOldest_5 (by decide) (fun _ => ?_) (fun c7 => absurd (g_geN (N := 8) (by omega)) c7)
      exact J56_3 τ1 ls H locs hF.symm (lv_sub hl [1] rfl) hP hD hS
    | succ jn ih =>
      intro jk τ1 ls H locs hkn hF hl hP hD hS
      have hF : f_H_dropOldest_L2 σ 7 0 σ = f_H_dropOldest_L2 σ jn (jk + 1) (g_I (g_L (g_L τ1 6 ((jk + 1) - 1) (τ1.2 6 (jk + 1))) 7 ((jk + 1) - 1) (τ1.2 7 (jk + 1))) 8 ((jk + 1) - 1) (τ1.1 8 (jk + 1))) := hF
      skip
      refine lv_iload_n hx hb d_H_dropOldest_2 rfl (lv_at hl 0 rfl) ?_
      refine lv_bipush (v := (8 : Int32)) hx hb d_H_dropOldest_3 (by decide) ?_
      refine lv_icmp_ge (tgt := 56) hx hb d_H_dropOldest_5 (by decide) (fun c8 => absurd c8 (g_lt (N := 8) (by omega) (by decide))) (fun _ => ?_)
      refine lv_aload_n hx hb d_H_dropOldest_8 rfl (lv_at hl 1 rfl) ?_
      refine g_get hx hb ht in_H hown hK hP (5) x_at5 rfl 3 (by decide) rfl (ht _ kw74) (fun _ h9 => h9) (v := .ref (ad 6)) rfl d_H_dropOldest_9 ?_
      refine lv_iload_n hx hb d_H_dropOldest_12 rfl (lv_at hl 0 rfl) ?_
      refine lv_iconst (v := (1 : Int32)) hx hb d_H_dropOldest_13 (by decide) ?_
      refine lv_isub hx hb d_H_dropOldest_14 ?_
      refine lv_aload_n hx hb d_H_dropOldest_15 rfl (lv_at hl 1 rfl) ?_
      refine g_get hx hb ht in_H hown hK hP (5) x_at5 rfl 3 (by decide) rfl (ht _ kw74) (fun _ h9 => h9) (v := .ref (ad 6)) rfl d_H_dropOldest_16 ?_
      refine lv_iload_n hx hb d_H_dropOldest_19 rfl (lv_at hl 0 rfl) ?_
      refine g_lald hx hb hK hP (6) x_at6 rfl (g_eix rfl (by omega) (by omega)) (j := (jk + 1)) (g_ena rfl (by omega)) d_H_dropOldest_20 ?_
      refine g_last (x := τ1.2 6 (jk + 1)) hx hb hK hP hD hS (6) x_at6 rfl (g_eix (g_esub (a := (jk + 1)) (b := 1) rfl rfl (by omega)) (by omega) (by omega)) (j := ((jk + 1) - 1)) (g_ena (g_esub (a := (jk + 1)) (b := 1) rfl rfl (by omega)) (by omega)) d_H_dropOldest_21 (fun H locs hP hD hS => ?_)
      refine lv_aload_n hx hb d_H_dropOldest_22 rfl (lv_at hl 1 rfl) ?_
      refine g_get hx hb ht in_H hown hK hP (5) x_at5 rfl 4 (by decide) rfl (ht _ kw75) (fun _ h9 => h9) (v := .ref (ad 7)) rfl d_H_dropOldest_23 ?_
      refine lv_iload_n hx hb d_H_dropOldest_26 rfl (lv_at hl 0 rfl) ?_
      refine lv_iconst (v := (1 : Int32)) hx hb d_H_dropOldest_27 (by decide) ?_
      refine lv_isub hx hb d_H_dropOldest_28 ?_
      refine lv_aload_n hx hb d_H_dropOldest_29 rfl (lv_at hl 1 rfl) ?_
      refine g_get hx hb ht in_H hown hK hP (5) x_at5 rfl 4 (by decide) rfl (ht _ kw75) (fun _ h9 => h9) (v := .ref (ad 7)) rfl d_H_dropOldest_30 ?_
      refine lv_iload_n hx hb d_H_dropOldest_33 rfl (lv_at hl 0 rfl) ?_
      refine g_lald hx hb hK hP (7) x_at7 rfl (g_eix rfl (by omega) (by omega)) (j := (jk + 1)) (g_ena rfl (by omega)) d_H_dropOldest_34 ?_
      show W _ _ _ _ _ _ _ _ _ _ _ _ _ _ _ (F0 _ _ _ (.long (τ1.2 7 (jk + 1)) :: _))
      refine g_last (x := τ1.2 7 (jk + 1)) hx hb hK hP hD hS (7) x_at7 rfl (g_eix (g_esub (a := (jk + 1)) (b := 1) rfl rfl (by omega)) (by omega) (by omega)) (j := ((jk + 1) - 1)) (g_ena (g_esub (a := (jk + 1)) (b := 1) rfl rfl (by omega)) (by omega)) d_H_dropOldest_35 (fun H locs hP hD hS => ?_)
      refine lv_aload_n hx hb d_H_dropOldest_36 rfl (lv_at hl 1 rfl) ?_
      refine g_get hx hb ht in_H hown hK hP (5) x_at5 rfl 5 (by decide) rfl (ht _ kw76) (fun _ h9 => h9) (v := .ref (ad 8)) rfl d_H_dropOldest_37 ?_
      refine lv_iload_n hx hb d_H_dropOldest_40 rfl (lv_at hl 0 rfl) ?_
      refine lv_iconst (v := (1 : Int32)) hx hb d_H_dropOldest_41 (by decide) ?_
      refine lv_isub hx hb d_H_dropOldest_42 ?_
      refine lv_aload_n hx hb d_H_dropOldest_43 rfl (lv_at hl 1 rfl) ?_
      refine g_get hx hb ht in_H hown hK hP (5) x_at5 rfl 5 (by decide) rfl (ht _ kw76) (fun _ h9 => h9) (v := .ref (ad 8)) rfl d_H_dropOldest_44 ?_
      refine lv_iload_n hx hb d_H_dropOldest_47 rfl (lv_at hl 0 rfl) ?_
      refine g_iald hx hb hK hP (8) x_at8 rfl (g_eix rfl (by omega) (by omega)) (j := (jk + 1)) (g_ena rfl (by omega)) d_H_dropOldest_48 ?_
      show W _ _ _ _ _ _ _ _ _ _ _ _ _ _ _ (F0 _ _ _ (.int (τ1.1 8 (jk + 1)) :: _))
      refine g_iast (x := τ1.1 8 (jk + 1)) hx hb hK hP hD hS (8) x_at8 rfl (g_eix (g_esub (a := (jk + 1)) (b := 1) rfl rfl (by omega)) (by omega) (by omega)) (j := ((jk + 1) - 1)) (g_ena (g_esub (a := (jk + 1)) (b := 1) rfl rfl (by omega)) (by omega)) d_H_dropOldest_49 (fun H locs hP hD hS => ?_)
      refine lv_iinc (v := Int32.ofNat (jk + 1 + 1)) (lv' := [(1, .int (Int32.ofNat (jk + 1 + 1))), (0, .ref (ad 5))]) hx hb d_H_dropOldest_50 hl (k := 0) rfl (g_inc (jk + 1)) (by decide) rfl (fun ls hl => ?_)
      refine lv_goto (tgt := 2) hx hb d_H_dropOldest_53 (by decide) ?_
      exact ih (jk + 1) (g_I (g_L (g_L τ1 6 ((jk + 1) - 1) (τ1.2 6 (jk + 1))) 7 ((jk + 1) - 1) (τ1.2 7 (jk + 1))) 8 ((jk + 1) - 1) (τ1.1 8 (jk + 1))) ls H locs (by omega) hF (lv_sub hl [0, 1] rfl) hP hD hS
  exact LL2_6 7 0 σ ls s.heap [] (by omega) rfl  (lv_sub hl [0, 1] rfl) hP hD hS
def f_H_mark_40_6 (σ : g_S) (stp : Int32) (τ3 : g_S) : g_S := g_I (g_I (g_L (g_L τ3 6 ((τ3.1 5 2).toNatClampNeg) (τ3.2 5 0)) 7 ((τ3.1 5 2).toNatClampNeg) (τ3.2 5 1)) 8 ((τ3.1 5 2).toNatClampNeg) stp) 5 2 ((τ3.1 5 2) + (1 : Int32))
def k_H_mark_40_6 (σ : g_S) (stp : Int32) (τ3 : g_S) : Prop := (vp_in (τ3.1 5 2) 8) ∧ (vp_in (τ3.1 5 2) 8) ∧ (vp_in (τ3.1 5 2) 8) ∧ True
def f_H_mark_27_2 (σ : g_S) (stp : Int32) : g_S := (f_H_mark_40_6 σ stp (if (σ.1 5 2) = (8 : Int32) then f_H_dropOldest σ else σ))
def k_H_mark_27_2 (σ : g_S) (stp : Int32) : Prop := (k_H_mark_40_6 σ stp (if (σ.1 5 2) = (8 : Int32) then f_H_dropOldest σ else σ))
def f_H_mark_40_21 (σ : g_S) (stp : Int32) (τ18 : g_S) : g_S := g_I (g_I (g_L (g_L τ18 6 ((τ18.1 5 2).toNatClampNeg) (τ18.2 5 0)) 7 ((τ18.1 5 2).toNatClampNeg) (τ18.2 5 1)) 8 ((τ18.1 5 2).toNatClampNeg) stp) 5 2 ((τ18.1 5 2) + (1 : Int32))
def k_H_mark_40_21 (σ : g_S) (stp : Int32) (τ18 : g_S) : Prop := (vp_in (τ18.1 5 2) 8) ∧ (vp_in (τ18.1 5 2) 8) ∧ (vp_in (τ18.1 5 2) 8) ∧ True
def f_H_mark_27_17 (σ : g_S) (stp : Int32) : g_S := (f_H_mark_40_21 σ stp (if (σ.1 5 2) = (8 : Int32) then f_H_dropOldest σ else σ))
def k_H_mark_27_17 (σ : g_S) (stp : Int32) : Prop := (k_H_mark_40_21 σ stp (if (σ.1 5 2) = (8 : Int32) then f_H_dropOldest σ else σ))
def f_H_mark_26_29 (σ : g_S) (stp : Int32) : g_S := σ
def k_H_mark_26_29 (σ : g_S) (stp : Int32) : Prop := True
def f_H_mark_7_14 (σ : g_S) (stp : Int32) : g_S := (if (σ.2 6 (((σ.1 5 2) - (1 : Int32)).toNatClampNeg)) = (σ.2 5 0) then f_H_mark_26_29 σ stp else f_H_mark_27_17 σ stp)
def k_H_mark_7_14 (σ : g_S) (stp : Int32) : Prop := (vp_in ((σ.1 5 2) - (1 : Int32)) 8) ∧ (if (σ.2 6 (((σ.1 5 2) - (1 : Int32)).toNatClampNeg)) = (σ.2 5 0) then k_H_mark_26_29 σ stp else k_H_mark_27_17 σ stp)
def f_H_mark (σ : g_S) (stp : Int32) : g_S := (if (σ.1 5 2) ≤ 0 then f_H_mark_27_2 σ stp else f_H_mark_7_14 σ stp)
def k_H_mark (σ : g_S) (stp : Int32) : Prop := (if (σ.1 5 2) ≤ 0 then k_H_mark_27_2 σ stp else k_H_mark_7_14 σ stp)
set_option maxHeartbeats 4000000 in
set_option maxRecDepth 100000 in
theorem c_H_mark (l : Launch) (dC : Nat → ClassId) (dI : Nat → Nat → Nat) (dA : Nat → ClassId) (ad : Nat → Nat) (tb : Nat) (sz : Nat) (σ : g_S) (stp : Int32) (hQ : k_H_mark σ stp) : Met l y_H_mark w_H_mark ({ frames := 1, cells := 0, slots := 0, locals := 21 }) (va_Pc [.ref (ad 5), .int stp] (g_W (dC, dI) cls (x_tys dA) (g_w x_sh dA ad σ) sz (x_Z tb))) (va_Qv (fun τ => τ = f_H_mark σ stp) (fun τ t => va_P (dC, dI) cls (g_w x_sh dA ad τ) t.heap) (va_A (g_w x_sh dA ad σ) sz)) 0 0 (va_A (g_w x_sh dA ad σ) sz) := by
  refine Met.ofW (cc := b_H_mark) (maxL := 2) (ret := none) (by decide) rfl ?_
  intro p e s m args below meth c s₁ B hml hv
  obtain ⟨rfl, hsz, hP, hK, hD0, hz⟩ := hv
  have hx := B.exec
  have hb := B.bytes
  have hr := B.returns
  have hts := atoms_spec (ws := w_H_mark) B.pre
  have ht := fun (w : Cond) (h : w ∈ gA) => hts w (List.mem_cons_of_mem _ h)
  have hown : s.vm.findClass "RangedPool$History" = some m.cls := findClass_of_methodNamed B.named
  have hlocks := B.notSynchronized
  subst hsz
  have hD := hD0.self (sz := s.heap.size)
  have hA : ∀ q : Nat, s.heap.size ≤ q → va_A (g_w x_sh dA ad σ) s.heap.size q := fun q h => Or.inr h
  generalize hAe : va_A (g_w x_sh dA ad σ) s.heap.size = A at hD hA hz ⊢
  have hS : va_S A s.heap s.heap [] := va_S.rf
  have hl := lv_entry ([.ref (ad 5), .int stp]) (n := 2) (Nat.le_of_ble_eq_true rfl)
  rw [lg_entry_eq]
  generalize (lg_sl ([.ref (ad 5), .int stp]) ++ List.replicate (2 - (lg_sl ([.ref (ad 5), .int stp])).length) Slot.unset).toArray = ls at hl ⊢
  have hl : lv_has ls 2 [(0, .ref (ad 5)), (1, .int stp)] := hl
  have hF : f_H_mark σ stp = f_H_mark σ stp := rfl
  refine lv_aload_n hx hb d_H_mark_0 rfl (lv_at hl 0 rfl) ?_
  refine g_get hx hb ht in_H hown hK hP (5) x_at5 rfl 2 (by decide) rfl (ht _ kw73) (fun _ h9 => h9) (v := .int (σ.1 5 2)) rfl d_H_mark_1 ?_
  refine lv_if_le (tgt := 27) hx hb d_H_mark_4 (by decide) (fun c1 => ?_) (fun c1 => ?_)
  ·
    have c1 : (σ.1 5 2) ≤ 0 := c1
    have hF : f_H_mark σ stp = f_H_mark_27_2 σ stp := hF.trans (if_pos c1)
    have hQ : k_H_mark_27_2 σ stp := Eq.mp (if_pos c1) hQ
    refine lv_aload_n hx hb d_H_mark_27 rfl (lv_at hl 0 rfl) ?_
    refine g_get hx hb ht in_H hown hK hP (5) x_at5 rfl 2 (by decide) rfl (ht _ kw73) (fun _ h9 => h9) (v := .int (σ.1 5 2)) rfl d_H_mark_28 ?_
    refine lv_bipush (v := (8 : Int32)) hx hb d_H_mark_31 (by decide) ?_
    have J40_4 : ∀ (τ3 : g_S) (ls : Array Slot) (H : Heap) (locs : List Loc), τ3 = (if (σ.1 5 2) = (8 : Int32) then f_H_dropOldest σ else σ) → lv_has ls 2 [(0, .ref (ad 5)), (1, .int stp)] → va_P (dC, dI) cls (g_w x_sh dA ad τ3) H → va_D A (g_w x_sh dA ad τ3) → va_S A s.heap H locs → W p l e (headSpec w_H_mark ({ frames := 1, cells := 0, slots := 0, locals := 21 })).room s m ([.ref (ad 5), .int stp] : List Value).toArray below meth c H locs 0 0 (MQ below (va_Qv (fun τ => τ = f_H_mark σ stp) (fun τ t => va_P (dC, dI) cls (g_w x_sh dA ad τ) t.heap) A) ([.ref (ad 5), .int stp] : List Value).toArray s 0 0 A) (F0 m 40 ls []) := by
      intro τ3 ls H locs e5 hl hP hD hS
      have hF : f_H_mark σ stp = f_H_mark_40_6 σ stp τ3 := hF.trans (by rw [e5]; try rfl)
      have hQ : k_H_mark_40_6 σ stp τ3 := by rw [e5]; exact hQ
      refine lv_aload_n hx hb d_H_mark_40 rfl (lv_at hl 0 rfl) ?_
      refine g_get hx hb ht in_H hown hK hP (5) x_at5 rfl 3 (by decide) rfl (ht _ kw74) (fun _ h9 => h9) (v := .ref (ad 6)) rfl d_H_mark_41 ?_
      refine lv_aload_n hx hb d_H_mark_44 rfl (lv_at hl 0 rfl) ?_
      refine g_get hx hb ht in_H hown hK hP (5) x_at5 rfl 2 (by decide) rfl (ht _ kw73) (fun _ h9 => h9) (v := .int (τ3.1 5 2)) rfl d_H_mark_45 ?_
      refine lv_aload_n hx hb d_H_mark_48 rfl (lv_at hl 0 rfl) ?_
      refine g_get hx hb ht in_H hown hK hP (5) x_at5 rfl 0 (by decide) rfl (ht _ kw70) (fun _ h9 => h9) (v := .long (τ3.2 5 0)) rfl d_H_mark_49 ?_
      obtain ⟨hs7, hQ⟩ := hQ
      refine g_last (x := τ3.2 5 0) hx hb hK hP hD hS (6) x_at6 rfl (hs7) (j := (τ3.1 5 2).toNatClampNeg) (rfl) d_H_mark_52 (fun H locs hP hD hS => ?_)
      refine lv_aload_n hx hb d_H_mark_53 rfl (lv_at hl 0 rfl) ?_
      refine g_get hx hb ht in_H hown hK hP (5) x_at5 rfl 4 (by decide) rfl (ht _ kw75) (fun _ h9 => h9) (v := .ref (ad 7)) rfl d_H_mark_54 ?_
      refine lv_aload_n hx hb d_H_mark_57 rfl (lv_at hl 0 rfl) ?_
      refine g_get hx hb ht in_H hown hK hP (5) x_at5 rfl 2 (by decide) rfl (ht _ kw73) (fun _ h9 => h9) (v := .int (τ3.1 5 2)) rfl d_H_mark_58 ?_
      refine lv_aload_n hx hb d_H_mark_61 rfl (lv_at hl 0 rfl) ?_
      refine g_get hx hb ht in_H hown hK hP (5) x_at5 rfl 1 (by decide) rfl (ht _ kw72) (fun _ h9 => h9) (v := .long (τ3.2 5 1)) rfl d_H_mark_62 ?_
      obtain ⟨hs8, hQ⟩ := hQ
      refine g_last (x := τ3.2 5 1) hx hb hK hP hD hS (7) x_at7 rfl (hs8) (j := (τ3.1 5 2).toNatClampNeg) (rfl) d_H_mark_65 (fun H locs hP hD hS => ?_)
      refine lv_aload_n hx hb d_H_mark_66 rfl (lv_at hl 0 rfl) ?_
      refine g_get hx hb ht in_H hown hK hP (5) x_at5 rfl 5 (by decide) rfl (ht _ kw76) (fun _ h9 => h9) (v := .ref (ad 8)) rfl d_H_mark_67 ?_
      refine lv_aload_n hx hb d_H_mark_70 rfl (lv_at hl 0 rfl) ?_
      refine g_get hx hb ht in_H hown hK hP (5) x_at5 rfl 2 (by decide) rfl (ht _ kw73) (fun _ h9 => h9) (v := .int (τ3.1 5 2)) rfl d_H_mark_71 ?_
      refine lv_iload_n hx hb d_H_mark_74 rfl (lv_at hl 1 rfl) ?_
      obtain ⟨hs9, hQ⟩ := hQ
      refine g_iast (x := stp) hx hb hK hP hD hS (8) x_at8 rfl (hs9) (j := (τ3.1 5 2).toNatClampNeg) (rfl) d_H_mark_75 (fun H locs hP hD hS => ?_)
      refine lv_aload_n hx hb d_H_mark_76 rfl (lv_at hl 0 rfl) ?_
      refine lv_dup hx hb d_H_mark_77 rfl ?_
      refine g_get hx hb ht in_H hown hK hP (5) x_at5 rfl 2 (by decide) rfl (ht _ kw73) (fun _ h9 => h9) (v := .int (τ3.1 5 2)) rfl d_H_mark_78 ?_
      refine lv_iconst (v := (1 : Int32)) hx hb d_H_mark_81 (by decide) ?_
      refine lv_iadd hx hb d_H_mark_82 ?_
      refine g_putI (v := (τ3.1 5 2) + (1 : Int32)) (ty := .int) hx hb ht in_H yt_H yt_H_ok n_H hown hK hP hD hS (5) x_at5 rfl 2 (by decide) rfl (ht _ kw73) (fun _ h9 => h9) rfl (by decide +kernel) (rfl) (rfl) d_H_mark_83 (fun H locs hP hD hS => ?_)
      exact W.vret hx hb hr (fun t hh hW => ⟨⟨g_I (g_I (g_L (g_L τ3 6 ((τ3.1 5 2).toNatClampNeg) (τ3.2 5 0)) 7 ((τ3.1 5 2).toNatClampNeg) (τ3.2 5 1)) 8 ((τ3.1 5 2).toNatClampNeg) stp) 5 2 ((τ3.1 5 2) + (1 : Int32)), rfl, hF.symm, by show va_P (dC, dI) cls (g_w x_sh dA ad (g_I (g_I (g_L (g_L τ3 6 ((τ3.1 5 2).toNatClampNeg) (τ3.2 5 0)) 7 ((τ3.1 5 2).toNatClampNeg) (τ3.2 5 1)) 8 ((τ3.1 5 2).toNatClampNeg) stp) 5 2 ((τ3.1 5 2) + (1 : Int32)))) t.heap; rw [hh]; exact hP⟩, hS.F hh⟩) hS.2.2 d_H_mark_86
    refine lv_icmp_ne (tgt := 40) hx hb d_H_mark_33 (by decide) (fun c10 => ?_) (fun c10 => ?_)
    ·
      have c10 : ¬ ((σ.1 5 2) = (8 : Int32)) := c10
      exact J40_4 σ ls s.heap [] (if_neg c10).symm (lv_sub hl [0, 1] rfl) hP hD hS
    ·
      have c10 : (σ.1 5 2) = (8 : Int32) := c10
      refine lv_aload_n hx hb d_H_mark_36 rfl (lv_at hl 0 rfl) ?_
      refine g_cWvE (va_runV (As := []) (rest := []) ⟨hx, hb, hml, hown, ht⟩ (c_H_dropOldest l dC dI dA ad tb s.heap.size σ) (cwV 0 ht gc_H_33 rfl rfl rfl (by decide +kernel) ⟨Nat.le_of_ble_eq_true rfl, Nat.le_of_ble_eq_true rfl⟩) (g_pV (g_prW x_Zok hK hP hD hS hA hz _) (g_rc hK hP (5) x_at5 rfl)) rfl rfl hl.1 rfl (lv_room (Nat.le_of_ble_eq_true rfl)) d_H_mark_37 ⟨Nat.le_of_ble_eq_true rfl, Nat.le_of_ble_eq_true rfl⟩) hD hS hA (fun H locs hP hD hS => ?_)
      exact J40_4 (f_H_dropOldest σ) ls H locs (if_pos c10).symm (lv_sub hl [0, 1] rfl) hP hD hS
  ·
    have c1 : ¬ ((σ.1 5 2) ≤ 0) := c1
    have hF : f_H_mark σ stp = f_H_mark_7_14 σ stp := hF.trans (if_neg c1)
    have hQ : k_H_mark_7_14 σ stp := Eq.mp (if_neg c1) hQ
    refine lv_aload_n hx hb d_H_mark_7 rfl (lv_at hl 0 rfl) ?_
    refine g_get hx hb ht in_H hown hK hP (5) x_at5 rfl 3 (by decide) rfl (ht _ kw74) (fun _ h9 => h9) (v := .ref (ad 6)) rfl d_H_mark_8 ?_
    refine lv_aload_n hx hb d_H_mark_11 rfl (lv_at hl 0 rfl) ?_
    refine g_get hx hb ht in_H hown hK hP (5) x_at5 rfl 2 (by decide) rfl (ht _ kw73) (fun _ h9 => h9) (v := .int (σ.1 5 2)) rfl d_H_mark_12 ?_
    refine lv_iconst (v := (1 : Int32)) hx hb d_H_mark_15 (by decide) ?_
    refine lv_isub hx hb d_H_mark_16 ?_
    obtain ⟨hs15, hQ⟩ := hQ
    refine g_lald hx hb hK hP (6) x_at6 rfl (hs15) (j := ((σ.1 5 2) - (1 : Int32)).toNatClampNeg) (rfl) d_H_mark_17 ?_
    refine lv_aload_n hx hb d_H_mark_18 rfl (lv_at hl 0 rfl) ?_
    refine g_get hx hb ht in_H hown hK hP (5) x_at5 rfl 0 (by decide) rfl (ht _ kw70) (fun _ h9 => h9) (v := .long (σ.2 5 0)) rfl d_H_mark_19 ?_
    refine W.lcmp hx hb d_H_mark_22 ?_
    refine lv_if_ne (tgt := 27) hx hb d_H_mark_23 (by decide) (fun c16 => ?_) (fun c16 => ?_)
    ·
      have c16 : ¬ ((σ.2 6 (((σ.1 5 2) - (1 : Int32)).toNatClampNeg)) = (σ.2 5 0)) := mt (lg_cmp_eq _ _).mpr c16
      have hF : f_H_mark σ stp = f_H_mark_27_17 σ stp := hF.trans (if_neg c16)
      have hQ : k_H_mark_27_17 σ stp := Eq.mp (if_neg c16) hQ
      refine lv_aload_n hx hb d_H_mark_27 rfl (lv_at hl 0 rfl) ?_
      refine g_get hx hb ht in_H hown hK hP (5) x_at5 rfl 2 (by decide) rfl (ht _ kw73) (fun _ h9 => h9) (v := .int (σ.1 5 2)) rfl d_H_mark_28 ?_
      refine lv_bipush (v := (8 : Int32)) hx hb d_H_mark_31 (by decide) ?_
      have J40_19 : ∀ (τ18 : g_S) (ls : Array Slot) (H : Heap) (locs : List Loc), τ18 = (if (σ.1 5 2) = (8 : Int32) then f_H_dropOldest σ else σ) → lv_has ls 2 [(0, .ref (ad 5)), (1, .int stp)] → va_P (dC, dI) cls (g_w x_sh dA ad τ18) H → va_D A (g_w x_sh dA ad τ18) → va_S A s.heap H locs → W p l e (headSpec w_H_mark ({ frames := 1, cells := 0, slots := 0, locals := 21 })).room s m ([.ref (ad 5), .int stp] : List Value).toArray below meth c H locs 0 0 (MQ below (va_Qv (fun τ => τ = f_H_mark σ stp) (fun τ t => va_P (dC, dI) cls (g_w x_sh dA ad τ) t.heap) A) ([.ref (ad 5), .int stp] : List Value).toArray s 0 0 A) (F0 m 40 ls []) := by
        intro τ18 ls H locs e20 hl hP hD hS
        have hF : f_H_mark σ stp = f_H_mark_40_21 σ stp τ18 := hF.trans (by rw [e20]; try rfl)
        have hQ : k_H_mark_40_21 σ stp τ18 := by rw [e20]; exact hQ
        refine lv_aload_n hx hb d_H_mark_40 rfl (lv_at hl 0 rfl) ?_
        refine g_get hx hb ht in_H hown hK hP (5) x_at5 rfl 3 (by decide) rfl (ht _ kw74) (fun _ h9 => h9) (v := .ref (ad 6)) rfl d_H_mark_41 ?_
        refine lv_aload_n hx hb d_H_mark_44 rfl (lv_at hl 0 rfl) ?_
        refine g_get hx hb ht in_H hown hK hP (5) x_at5 rfl 2 (by decide) rfl (ht _ kw73) (fun _ h9 => h9) (v := .int (τ18.1 5 2)) rfl d_H_mark_45 ?_
        refine lv_aload_n hx hb d_H_mark_48 rfl (lv_at hl 0 rfl) ?_
        refine g_get hx hb ht in_H hown hK hP (5) x_at5 rfl 0 (by decide) rfl (ht _ kw70) (fun _ h9 => h9) (v := .long (τ18.2 5 0)) rfl d_H_mark_49 ?_
        obtain ⟨hs22, hQ⟩ := hQ
        refine g_last (x := τ18.2 5 0) hx hb hK hP hD hS (6) x_at6 rfl (hs22) (j := (τ18.1 5 2).toNatClampNeg) (rfl) d_H_mark_52 (fun H locs hP hD hS => ?_)
        refine lv_aload_n hx hb d_H_mark_53 rfl (lv_at hl 0 rfl) ?_
        refine g_get hx hb ht in_H hown hK hP (5) x_at5 rfl 4 (by decide) rfl (ht _ kw75) (fun _ h9 => h9) (v := .ref (ad 7)) rfl d_H_mark_54 ?_
        refine lv_aload_n hx hb d_H_mark_57 rfl (lv_at hl 0 rfl) ?_
        refine g_get hx hb ht in_H hown hK hP (5) x_at5 rfl 2 (by decide) rfl (ht _ kw73) (fun _ h9 => h9) (v := .int (τ18.1 5 2)) rfl d_H_mark_58 ?_
        refine lv_aload_n hx hb d_H_mark_61 rfl (lv_at hl 0 rfl) ?_
        refine g_get hx hb ht in_H hown hK hP (5) x_at5 rfl 1 (by decide) rfl (ht _ kw72) (fun _ h9 => h9) (v := .long (τ18.2 5 1)) rfl d_H_mark_62 ?_
        obtain ⟨hs23, hQ⟩ := hQ
        refine g_last (x := τ18.2 5 1) hx hb hK hP hD hS (7) x_at7 rfl (hs23) (j := (τ18.1 5 2).toNatClampNeg) (rfl) d_H_mark_65 (fun H locs hP hD hS => ?_)
        refine lv_aload_n hx hb d_H_mark_66 rfl (lv_at hl 0 rfl) ?_
        refine g_get hx hb ht in_H hown hK hP (5) x_at5 rfl 5 (by decide) rfl (ht _ kw76) (fun _ h9 => h9) (v := .ref (ad 8)) rfl d_H_mark_67 ?_
        refine lv_aload_n hx hb d_H_mark_70 rfl (lv_at hl 0 rfl) ?_
        refine g_get hx hb ht in_H hown hK hP (5) x_at5 rfl 2 (by decide) rfl (ht _ kw73) (fun _ h9 => h9) (v := .int (τ18.1 5 2)) rfl d_H_mark_71 ?_
        refine lv_iload_n hx hb d_H_mark_74 rfl (lv_at hl 1 rfl) ?_
        obtain ⟨hs24, hQ⟩ := hQ
        refine g_iast (x := stp) hx hb hK hP hD hS (8) x_at8 rfl (hs24) (j := (τ18.1 5 2).toNatClampNeg) (rfl) d_H_mark_75 (fun H locs hP hD hS => ?_)
        refine lv_aload_n hx hb d_H_mark_76 rfl (lv_at hl 0 rfl) ?_
        refine lv_dup hx hb d_H_mark_77 rfl ?_
        refine g_get hx hb ht in_H hown hK hP (5) x_at5 rfl 2 (by decide) rfl (ht _ kw73) (fun _ h9 => h9) (v := .int (τ18.1 5 2)) rfl d_H_mark_78 ?_
        refine lv_iconst (v := (1 : Int32)) hx hb d_H_mark_81 (by decide) ?_
        refine lv_iadd hx hb d_H_mark_82 ?_
        refine g_putI (v := (τ18.1 5 2) + (1 : Int32)) (ty := .int) hx hb ht in_H yt_H yt_H_ok n_H hown hK hP hD hS (5) x_at5 rfl 2 (by decide) rfl (ht _ kw73) (fun _ h9 => h9) rfl (by decide +kernel) (rfl) (rfl) d_H_mark_83 (fun H locs hP hD hS => ?_)
        exact W.vret hx hb hr (fun t hh hW => ⟨⟨g_I (g_I (g_L (g_L τ18 6 ((τ18.1 5 2).toNatClampNeg) (τ18.2 5 0)) 7 ((τ18.1 5 2).toNatClampNeg) (τ18.2 5 1)) 8 ((τ18.1 5 2).toNatClampNeg) stp) 5 2 ((τ18.1 5 2) + (1 : Int32)), rfl, hF.symm, by show va_P (dC, dI) cls (g_w x_sh dA ad (g_I (g_I (g_L (g_L τ18 6 ((τ18.1 5 2).toNatClampNeg) (τ18.2 5 0)) 7 ((τ18.1 5 2).toNatClampNeg) (τ18.2 5 1)) 8 ((τ18.1 5 2).toNatClampNeg) stp) 5 2 ((τ18.1 5 2) + (1 : Int32)))) t.heap; rw [hh]; exact hP⟩, hS.F hh⟩) hS.2.2 d_H_mark_86
      refine lv_icmp_ne (tgt := 40) hx hb d_H_mark_33 (by decide) (fun c25 => ?_) (fun c25 => ?_)
      ·
        have c25 : ¬ ((σ.1 5 2) = (8 : Int32)) := c25
        exact J40_19 σ ls s.heap [] (if_neg c25).symm (lv_sub hl [0, 1] rfl) hP hD hS
      ·
        have c25 : (σ.1 5 2) = (8 : Int32) := c25
        refine lv_aload_n hx hb d_H_mark_36 rfl (lv_at hl 0 rfl) ?_
        refine g_cWvE (va_runV (As := []) (rest := []) ⟨hx, hb, hml, hown, ht⟩ (c_H_dropOldest l dC dI dA ad tb s.heap.size σ) (cwV 0 ht gc_H_33 rfl rfl rfl (by decide +kernel) ⟨Nat.le_of_ble_eq_true rfl, Nat.le_of_ble_eq_true rfl⟩) (g_pV (g_prW x_Zok hK hP hD hS hA hz _) (g_rc hK hP (5) x_at5 rfl)) rfl rfl hl.1 rfl (lv_room (Nat.le_of_ble_eq_true rfl)) d_H_mark_37 ⟨Nat.le_of_ble_eq_true rfl, Nat.le_of_ble_eq_true rfl⟩) hD hS hA (fun H locs hP hD hS => ?_)
        exact J40_19 (f_H_dropOldest σ) ls H locs (if_pos c25).symm (lv_sub hl [0, 1] rfl) hP hD hS
    ·
      have c16 : (σ.2 6 (((σ.1 5 2) - (1 : Int32)).toNatClampNeg)) = (σ.2 5 0) := (lg_cmp_eq _ _).mp c16
      have hF : f_H_mark σ stp = f_H_mark_26_29 σ stp := hF.trans (if_pos c16)
      have hQ : k_H_mark_26_29 σ stp := Eq.mp (if_pos c16) hQ
      exact W.vret hx hb hr (fun t hh hW => ⟨⟨σ, rfl, hF.symm, by show va_P (dC, dI) cls (g_w x_sh dA ad σ) t.heap; rw [hh]; exact hP⟩, hS.F hh⟩) hS.2.2 d_H_mark_26
def f_P_transfer (σ : g_S) (o : Int32) (n : Int32) (am : Int64) : g_S := g_L (g_L σ (o.toNatClampNeg + 10) n.toNatClampNeg ((σ.2 (o.toNatClampNeg + 10) n.toNatClampNeg) - am)) 2 n.toNatClampNeg (((g_L σ (o.toNatClampNeg + 10) n.toNatClampNeg ((σ.2 (o.toNatClampNeg + 10) n.toNatClampNeg) - am)).2 2 n.toNatClampNeg) + am)
def k_P_transfer (σ : g_S) (o : Int32) (n : Int32) (am : Int64) : Prop := (vp_in o 4) ∧ (vp_in n 2) ∧ (vp_in n 2) ∧ (vp_in n 2) ∧ (vp_in n 2) ∧ True
set_option maxHeartbeats 4000000 in
set_option maxRecDepth 100000 in
theorem c_P_transfer (l : Launch) (dC : Nat → ClassId) (dI : Nat → Nat → Nat) (dA : Nat → ClassId) (ad : Nat → Nat) (tb : Nat) (sz : Nat) (σ : g_S) (o : Int32) (n : Int32) (am : Int64) (hQ : k_P_transfer σ o n am) : Met l y_P_transfer w_P_transfer ({ frames := 0, cells := 0, slots := 0, locals := 0 }) (va_Pc [.ref (ad 0), .int o, .int n, .long am] (g_W (dC, dI) cls (x_tys dA) (g_w x_sh dA ad σ) sz (x_Z tb))) (va_Qv (fun τ => τ = f_P_transfer σ o n am) (fun τ t => va_P (dC, dI) cls (g_w x_sh dA ad τ) t.heap) (va_A (g_w x_sh dA ad σ) sz)) 0 0 (va_A (g_w x_sh dA ad σ) sz) := by
  refine Met.ofW (cc := b_P_transfer) (maxL := 5) (ret := none) (by decide) rfl ?_
  intro p e s m args below meth c s₁ B hml hv
  obtain ⟨rfl, hsz, hP, hK, hD0, hz⟩ := hv
  have hx := B.exec
  have hb := B.bytes
  have hr := B.returns
  have hts := atoms_spec (ws := w_P_transfer) B.pre
  have ht := fun (w : Cond) (h : w ∈ gA) => hts w (List.mem_cons_of_mem _ h)
  have hown : s.vm.findClass "RangedPool" = some m.cls := findClass_of_methodNamed B.named
  have hlocks := B.notSynchronized
  subst hsz
  have hD := hD0.self (sz := s.heap.size)
  have hA : ∀ q : Nat, s.heap.size ≤ q → va_A (g_w x_sh dA ad σ) s.heap.size q := fun q h => Or.inr h
  generalize hAe : va_A (g_w x_sh dA ad σ) s.heap.size = A at hD hA hz ⊢
  have hS : va_S A s.heap s.heap [] := va_S.rf
  have hl := lv_entry ([.ref (ad 0), .int o, .int n, .long am]) (n := 5) (Nat.le_of_ble_eq_true rfl)
  rw [lg_entry_eq]
  generalize (lg_sl ([.ref (ad 0), .int o, .int n, .long am]) ++ List.replicate (5 - (lg_sl ([.ref (ad 0), .int o, .int n, .long am])).length) Slot.unset).toArray = ls at hl ⊢
  have hl : lv_has ls 5 [(0, .ref (ad 0)), (1, .int o), (2, .int n), (3, .long am)] := hl
  have hF : f_P_transfer σ o n am = f_P_transfer σ o n am := rfl
  refine lv_aload_n hx hb d_P_transfer_0 rfl (lv_at hl 0 rfl) ?_
  refine g_get hx hb ht in_P hown hK hP (0) x_at0 rfl 2 (by decide) rfl (ht _ kw131) (fun _ h9 => h9) (v := .ref (ad 1)) rfl d_P_transfer_1 ?_
  refine lv_iload_n hx hb d_P_transfer_4 rfl (lv_at hl 1 rfl) ?_
  obtain ⟨hs1, hQ⟩ := hQ
  refine g_aald hx hb hK hP 1 x_at1 rfl rfl (hs1) (z := o.toNatClampNeg + 10) (x_el1 (rfl) (g_nlt hs1)) d_P_transfer_5 ?_
  refine lv_iload_n hx hb d_P_transfer_6 rfl (lv_at hl 2 rfl) ?_
  refine lv_dup2_11 hx hb d_P_transfer_7 rfl rfl ?_
  obtain ⟨hs2, hQ⟩ := hQ
  refine g_lald hx hb hK hP (o.toNatClampNeg + 10) (x_at10 (g_nlt hs1)) rfl (hs2) (j := n.toNatClampNeg) (rfl) d_P_transfer_8 ?_
  refine lv_lload_n hx hb d_P_transfer_9 rfl (lv_at hl 3 rfl) ?_
  refine lv_lsub hx hb d_P_transfer_10 ?_
  obtain ⟨hs3, hQ⟩ := hQ
  refine g_last (x := (σ.2 (o.toNatClampNeg + 10) n.toNatClampNeg) - am) hx hb hK hP hD hS (o.toNatClampNeg + 10) (x_at10 (g_nlt hs1)) rfl (hs3) (j := n.toNatClampNeg) (rfl) d_P_transfer_11 (fun H locs hP hD hS => ?_)
  refine lv_aload_n hx hb d_P_transfer_12 rfl (lv_at hl 0 rfl) ?_
  refine g_get hx hb ht in_P hown hK hP (0) x_at0 rfl 3 (by decide) rfl (ht _ kw132) (fun _ h9 => h9) (v := .ref (ad 2)) rfl d_P_transfer_13 ?_
  refine lv_iload_n hx hb d_P_transfer_16 rfl (lv_at hl 2 rfl) ?_
  refine lv_dup2_11 hx hb d_P_transfer_17 rfl rfl ?_
  obtain ⟨hs4, hQ⟩ := hQ
  refine g_lald hx hb hK hP (2) x_at2 rfl (hs4) (j := n.toNatClampNeg) (rfl) d_P_transfer_18 ?_
  refine lv_lload_n hx hb d_P_transfer_19 rfl (lv_at hl 3 rfl) ?_
  refine lv_ladd hx hb d_P_transfer_20 ?_
  obtain ⟨hs5, hQ⟩ := hQ
  refine g_last (x := ((g_L σ (o.toNatClampNeg + 10) n.toNatClampNeg ((σ.2 (o.toNatClampNeg + 10) n.toNatClampNeg) - am)).2 2 n.toNatClampNeg) + am) hx hb hK hP hD hS (2) x_at2 rfl (hs5) (j := n.toNatClampNeg) (rfl) d_P_transfer_21 (fun H locs hP hD hS => ?_)
  exact W.vret hx hb hr (fun t hh hW => ⟨⟨g_L (g_L σ (o.toNatClampNeg + 10) n.toNatClampNeg ((σ.2 (o.toNatClampNeg + 10) n.toNatClampNeg) - am)) 2 n.toNatClampNeg (((g_L σ (o.toNatClampNeg + 10) n.toNatClampNeg ((σ.2 (o.toNatClampNeg + 10) n.toNatClampNeg) - am)).2 2 n.toNatClampNeg) + am), rfl, hF.symm, by show va_P (dC, dI) cls (g_w x_sh dA ad (g_L (g_L σ (o.toNatClampNeg + 10) n.toNatClampNeg ((σ.2 (o.toNatClampNeg + 10) n.toNatClampNeg) - am)) 2 n.toNatClampNeg (((g_L σ (o.toNatClampNeg + 10) n.toNatClampNeg ((σ.2 (o.toNatClampNeg + 10) n.toNatClampNeg) - am)).2 2 n.toNatClampNeg) + am))) t.heap; rw [hh]; exact hP⟩, hS.F hh⟩) hS.2.2 d_P_transfer_22
def f_P_pay_12_10 (σ : g_S) (o : Int32) (z : Int64) (y : Int64) (τ4 : g_S) (τ9 : g_S) : g_S := τ9
def k_P_pay_12_10 (σ : g_S) (o : Int32) (z : Int64) (y : Int64) (τ4 : g_S) (τ9 : g_S) : Prop := True
def f_P_pay_4_5 (σ : g_S) (o : Int32) (z : Int64) (y : Int64) (τ4 : g_S) : g_S := (f_P_pay_12_10 σ o z y τ4 (f_P_transfer τ4 o (1 : Int32) y))
def k_P_pay_4_5 (σ : g_S) (o : Int32) (z : Int64) (y : Int64) (τ4 : g_S) : Prop := (k_P_transfer τ4 o (1 : Int32) y) ∧ (k_P_pay_12_10 σ o z y τ4 (f_P_transfer τ4 o (1 : Int32) y))
def f_P_pay (σ : g_S) (o : Int32) (z : Int64) (y : Int64) : g_S := (f_P_pay_4_5 σ o z y (f_P_transfer σ o (0 : Int32) z))
def k_P_pay (σ : g_S) (o : Int32) (z : Int64) (y : Int64) : Prop := (k_P_transfer σ o (0 : Int32) z) ∧ (k_P_pay_4_5 σ o z y (f_P_transfer σ o (0 : Int32) z))
set_option maxHeartbeats 4000000 in
set_option maxRecDepth 100000 in
theorem c_P_pay (l : Launch) (dC : Nat → ClassId) (dI : Nat → Nat → Nat) (dA : Nat → ClassId) (ad : Nat → Nat) (tb : Nat) (sz : Nat) (σ : g_S) (o : Int32) (z : Int64) (y : Int64) (hQ : k_P_pay σ o z y) : Met l y_P_pay w_P_pay ({ frames := 1, cells := 0, slots := 0, locals := 24 }) (va_Pc [.ref (ad 0), .int o, .long z, .long y] (g_W (dC, dI) cls (x_tys dA) (g_w x_sh dA ad σ) sz (x_Z tb))) (va_Qv (fun τ => τ = f_P_pay σ o z y) (fun τ t => va_P (dC, dI) cls (g_w x_sh dA ad τ) t.heap) (va_A (g_w x_sh dA ad σ) sz)) 0 0 (va_A (g_w x_sh dA ad σ) sz) := by
  refine Met.ofW (cc := b_P_pay) (maxL := 6) (ret := none) (by decide) rfl ?_
  intro p e s m args below meth c s₁ B hml hv
  obtain ⟨rfl, hsz, hP, hK, hD0, hz⟩ := hv
  have hx := B.exec
  have hb := B.bytes
  have hr := B.returns
  have hts := atoms_spec (ws := w_P_pay) B.pre
  have ht := fun (w : Cond) (h : w ∈ gA) => hts w (List.mem_cons_of_mem _ h)
  have hown : s.vm.findClass "RangedPool" = some m.cls := findClass_of_methodNamed B.named
  have hlocks := B.notSynchronized
  subst hsz
  have hD := hD0.self (sz := s.heap.size)
  have hA : ∀ q : Nat, s.heap.size ≤ q → va_A (g_w x_sh dA ad σ) s.heap.size q := fun q h => Or.inr h
  generalize hAe : va_A (g_w x_sh dA ad σ) s.heap.size = A at hD hA hz ⊢
  have hS : va_S A s.heap s.heap [] := va_S.rf
  have hl := lv_entry ([.ref (ad 0), .int o, .long z, .long y]) (n := 6) (Nat.le_of_ble_eq_true rfl)
  rw [lg_entry_eq]
  generalize (lg_sl ([.ref (ad 0), .int o, .long z, .long y]) ++ List.replicate (6 - (lg_sl ([.ref (ad 0), .int o, .long z, .long y])).length) Slot.unset).toArray = ls at hl ⊢
  have hl : lv_has ls 6 [(0, .ref (ad 0)), (1, .int o), (2, .long z), (4, .long y)] := hl
  have hF : f_P_pay σ o z y = f_P_pay σ o z y := rfl
  refine lv_aload_n hx hb d_P_pay_0 rfl (lv_at hl 0 rfl) ?_
  refine lv_iload_n hx hb d_P_pay_1 rfl (lv_at hl 1 rfl) ?_
  refine lv_iconst (v := (0 : Int32)) hx hb d_P_pay_2 (by decide) ?_
  refine lv_lload_n hx hb d_P_pay_3 rfl (lv_at hl 2 rfl) ?_
  obtain ⟨hs1, hQ⟩ := hQ
  refine g_cWv (va_runV (As := [.int o, .int (0 : Int32), .long z]) (rest := []) ⟨hx, hb, hml, hown, ht⟩ (c_P_transfer l dC dI dA ad tb s.heap.size σ o (0 : Int32) z hs1) (cwV 3 ht gc_P_165 rfl rfl rfl (by decide +kernel) ⟨Nat.le_of_ble_eq_true rfl, Nat.le_of_ble_eq_true rfl⟩) (g_pV (g_prW x_Zok hK hP hD hS hA hz _) (g_rc hK hP (0) x_at0 rfl)) rfl rfl hl.1 rfl (lv_room (Nat.le_of_ble_eq_true rfl)) d_P_pay_4 ⟨Nat.le_of_ble_eq_true rfl, Nat.le_of_ble_eq_true rfl⟩) hD hS hA (fun τ4 H locs e3 hP hD hS => ?_)
  have hF : f_P_pay σ o z y = f_P_pay_4_5 σ o z y τ4 := hF.trans (by rw [e3]; try rfl)
  have hQ : k_P_pay_4_5 σ o z y τ4 := by rw [e3]; exact hQ
  refine lv_aload_n hx hb d_P_pay_7 rfl (lv_at hl 0 rfl) ?_
  refine lv_iload_n hx hb d_P_pay_8 rfl (lv_at hl 1 rfl) ?_
  refine lv_iconst (v := (1 : Int32)) hx hb d_P_pay_9 (by decide) ?_
  refine lv_lload hx hb d_P_pay_10 (lv_at hl 3 rfl) ?_
  obtain ⟨hs6, hQ⟩ := hQ
  refine g_cWv (va_runV (As := [.int o, .int (1 : Int32), .long y]) (rest := []) ⟨hx, hb, hml, hown, ht⟩ (c_P_transfer l dC dI dA ad tb H.size τ4 o (1 : Int32) y hs6) (cwV 3 ht gc_P_165 rfl rfl rfl (by decide +kernel) ⟨Nat.le_of_ble_eq_true rfl, Nat.le_of_ble_eq_true rfl⟩) (g_pV (g_prW x_Zok hK hP hD hS hA hz _) (g_rc hK hP (0) x_at0 rfl)) rfl rfl hl.1 rfl (lv_room (Nat.le_of_ble_eq_true rfl)) d_P_pay_12 ⟨Nat.le_of_ble_eq_true rfl, Nat.le_of_ble_eq_true rfl⟩) hD hS hA (fun τ9 H locs e8 hP hD hS => ?_)
  have hF : f_P_pay σ o z y = f_P_pay_12_10 σ o z y τ4 τ9 := hF.trans (by rw [e8]; try rfl)
  have hQ : k_P_pay_12_10 σ o z y τ4 τ9 := by rw [e8]; exact hQ
  exact W.vret hx hb hr (fun t hh hW => ⟨⟨τ9, rfl, hF.symm, by show va_P (dC, dI) cls (g_w x_sh dA ad τ9) t.heap; rw [hh]; exact hP⟩, hS.F hh⟩) hS.2.2 d_P_pay_15
def f_P_takeFee_26_14 (σ : g_S) (n : Int32) (am : Int64) (w : Int64) (τ3 : g_S) (τ8 : g_S) (τ13 : g_S) : g_S := τ13
def k_P_takeFee_26_14 (σ : g_S) (n : Int32) (am : Int64) (w : Int64) (τ3 : g_S) (τ8 : g_S) (τ13 : g_S) : Prop := True
def f_P_takeFee_18_9 (σ : g_S) (n : Int32) (am : Int64) (w : Int64) (τ3 : g_S) (τ8 : g_S) : g_S := (f_P_takeFee_26_14 σ n am w τ3 τ8 (f_B_keepPendingGrowth τ8 n))
def k_P_takeFee_18_9 (σ : g_S) (n : Int32) (am : Int64) (w : Int64) (τ3 : g_S) (τ8 : g_S) : Prop := (k_B_keepPendingGrowth τ8 n) ∧ (k_P_takeFee_26_14 σ n am w τ3 τ8 (f_B_keepPendingGrowth τ8 n))
def f_P_takeFee_4_4 (σ : g_S) (n : Int32) (am : Int64) (w : Int64) (τ3 : g_S) : g_S := (f_P_takeFee_18_9 σ n am w τ3 (f_B_growPending τ3 (τ3.1 0 9) am w))
def k_P_takeFee_4_4 (σ : g_S) (n : Int32) (am : Int64) (w : Int64) (τ3 : g_S) : Prop := (k_B_growPending τ3 (τ3.1 0 9) am w) ∧ (k_P_takeFee_18_9 σ n am w τ3 (f_B_growPending τ3 (τ3.1 0 9) am w))
def f_P_takeFee (σ : g_S) (n : Int32) (am : Int64) (w : Int64) : g_S := (f_P_takeFee_4_4 σ n am w (f_B_clearPendingGrowth σ))
def k_P_takeFee (σ : g_S) (n : Int32) (am : Int64) (w : Int64) : Prop := (k_P_takeFee_4_4 σ n am w (f_B_clearPendingGrowth σ))
set_option maxHeartbeats 4000000 in
set_option maxRecDepth 100000 in
theorem c_P_takeFee (l : Launch) (dC : Nat → ClassId) (dI : Nat → Nat → Nat) (dA : Nat → ClassId) (ad : Nat → Nat) (tb : Nat) (sz : Nat) (σ : g_S) (n : Int32) (am : Int64) (w : Int64) (hQ : k_P_takeFee σ n am w) : Met l y_P_takeFee w_P_takeFee ({ frames := 2, cells := 0, slots := 0, locals := 57 }) (va_Pc [.ref (ad 0), .int n, .long am, .long w] (g_W (dC, dI) cls (x_tys dA) (g_w x_sh dA ad σ) sz (x_Z tb))) (va_Qv (fun τ => τ = f_P_takeFee σ n am w) (fun τ t => va_P (dC, dI) cls (g_w x_sh dA ad τ) t.heap) (va_A (g_w x_sh dA ad σ) sz)) 0 0 (va_A (g_w x_sh dA ad σ) sz) := by
  refine Met.ofW (cc := b_P_takeFee) (maxL := 6) (ret := none) (by decide) rfl ?_
  intro p e s m args below meth c s₁ B hml hv
  obtain ⟨rfl, hsz, hP, hK, hD0, hz⟩ := hv
  have hx := B.exec
  have hb := B.bytes
  have hr := B.returns
  have hts := atoms_spec (ws := w_P_takeFee) B.pre
  have ht := fun (w : Cond) (h : w ∈ gA) => hts w (List.mem_cons_of_mem _ h)
  have hown : s.vm.findClass "RangedPool" = some m.cls := findClass_of_methodNamed B.named
  have hlocks := B.notSynchronized
  subst hsz
  have hD := hD0.self (sz := s.heap.size)
  have hA : ∀ q : Nat, s.heap.size ≤ q → va_A (g_w x_sh dA ad σ) s.heap.size q := fun q h => Or.inr h
  generalize hAe : va_A (g_w x_sh dA ad σ) s.heap.size = A at hD hA hz ⊢
  have hS : va_S A s.heap s.heap [] := va_S.rf
  have hl := lv_entry ([.ref (ad 0), .int n, .long am, .long w]) (n := 6) (Nat.le_of_ble_eq_true rfl)
  rw [lg_entry_eq]
  generalize (lg_sl ([.ref (ad 0), .int n, .long am, .long w]) ++ List.replicate (6 - (lg_sl ([.ref (ad 0), .int n, .long am, .long w])).length) Slot.unset).toArray = ls at hl ⊢
  have hl : lv_has ls 6 [(0, .ref (ad 0)), (1, .int n), (2, .long am), (4, .long w)] := hl
  have hF : f_P_takeFee σ n am w = f_P_takeFee σ n am w := rfl
  refine lv_aload_n hx hb d_P_takeFee_0 rfl (lv_at hl 0 rfl) ?_
  refine g_get hx hb ht in_P hown hK hP (0) x_at0 rfl 4 (by decide) rfl (ht _ kw133) (fun _ h9 => h9) (v := .ref (ad 3)) rfl d_P_takeFee_1 ?_
  refine g_cWv (va_runVN (host := "RangedPool") (As := []) (rest := []) ⟨hx, hb, hml, hown, ht⟩ (c_B_clearPendingGrowth l dC dI dA ad tb s.heap.size σ) ⟨va_cnB 0 ht gn_B_clearPendingGrowth rfl rfl rfl (hz.1 _ nk394) (ht _ kw2) (by decide +kernel) ⟨Nat.le_of_ble_eq_true rfl, Nat.le_of_ble_eq_true rfl⟩, ht _ kw298, ht _ ks18⟩ (g_pV (g_prW x_Zok hK hP hD hS hA hz _) (g_rc hK hP (3) x_at3 rfl)) rfl rfl hl.1 rfl (lv_room (Nat.le_of_ble_eq_true rfl)) d_P_takeFee_4 ⟨Nat.le_of_ble_eq_true rfl, Nat.le_of_ble_eq_true rfl⟩) hD hS hA (fun τ3 H locs e2 hP hD hS => ?_)
  have hF : f_P_takeFee σ n am w = f_P_takeFee_4_4 σ n am w τ3 := hF.trans (by rw [e2]; try rfl)
  have hQ : k_P_takeFee_4_4 σ n am w τ3 := by rw [e2]; exact hQ
  refine lv_aload_n hx hb d_P_takeFee_7 rfl (lv_at hl 0 rfl) ?_
  refine g_get hx hb ht in_P hown hK hP (0) x_at0 rfl 4 (by decide) rfl (ht _ kw133) (fun _ h9 => h9) (v := .ref (ad 3)) rfl d_P_takeFee_8 ?_
  refine lv_aload_n hx hb d_P_takeFee_11 rfl (lv_at hl 0 rfl) ?_
  refine g_get hx hb ht in_P hown hK hP (0) x_at0 rfl 9 (by decide) rfl (ht _ kw138) (fun _ h9 => h9) (v := .int (τ3.1 0 9)) rfl d_P_takeFee_12 ?_
  refine lv_lload_n hx hb d_P_takeFee_15 rfl (lv_at hl 2 rfl) ?_
  refine lv_lload hx hb d_P_takeFee_16 (lv_at hl 3 rfl) ?_
  obtain ⟨hs5, hQ⟩ := hQ
  refine g_cWv (va_runVN (host := "RangedPool") (As := [.int (τ3.1 0 9), .long am, .long w]) (rest := []) ⟨hx, hb, hml, hown, ht⟩ (c_B_growPending l dC dI dA ad tb H.size τ3 (τ3.1 0 9) am w hs5) ⟨va_cnB 3 ht gn_B_growPending rfl rfl rfl (hz.1 _ nk395) (ht _ kw2) (by decide +kernel) ⟨Nat.le_of_ble_eq_true rfl, Nat.le_of_ble_eq_true rfl⟩, ht _ kw357, ht _ ks29⟩ (g_pV (g_prW x_Zok hK hP hD hS hA hz _) (g_rc hK hP (3) x_at3 rfl)) rfl rfl hl.1 rfl (lv_room (Nat.le_of_ble_eq_true rfl)) d_P_takeFee_18 ⟨Nat.le_of_ble_eq_true rfl, Nat.le_of_ble_eq_true rfl⟩) hD hS hA (fun τ8 H locs e7 hP hD hS => ?_)
  have hF : f_P_takeFee σ n am w = f_P_takeFee_18_9 σ n am w τ3 τ8 := hF.trans (by rw [e7]; try rfl)
  have hQ : k_P_takeFee_18_9 σ n am w τ3 τ8 := by rw [e7]; exact hQ
  refine lv_aload_n hx hb d_P_takeFee_21 rfl (lv_at hl 0 rfl) ?_
  refine g_get hx hb ht in_P hown hK hP (0) x_at0 rfl 4 (by decide) rfl (ht _ kw133) (fun _ h9 => h9) (v := .ref (ad 3)) rfl d_P_takeFee_22 ?_
  refine lv_iload_n hx hb d_P_takeFee_25 rfl (lv_at hl 1 rfl) ?_
  obtain ⟨hs10, hQ⟩ := hQ
  refine g_cWv (va_runVN (host := "RangedPool") (As := [.int n]) (rest := []) ⟨hx, hb, hml, hown, ht⟩ (c_B_keepPendingGrowth l dC dI dA ad tb H.size τ8 n hs10) ⟨va_cnB 1 ht gn_B_keepPendingGrowth rfl rfl rfl (hz.1 _ nk372) (ht _ kw2) (by decide +kernel) ⟨Nat.le_of_ble_eq_true rfl, Nat.le_of_ble_eq_true rfl⟩, ht _ kw374, ht _ ks32⟩ (g_pV (g_prW x_Zok hK hP hD hS hA hz _) (g_rc hK hP (3) x_at3 rfl)) rfl rfl hl.1 rfl (lv_room (Nat.le_of_ble_eq_true rfl)) d_P_takeFee_26 ⟨Nat.le_of_ble_eq_true rfl, Nat.le_of_ble_eq_true rfl⟩) hD hS hA (fun τ13 H locs e12 hP hD hS => ?_)
  have hF : f_P_takeFee σ n am w = f_P_takeFee_26_14 σ n am w τ3 τ8 τ13 := hF.trans (by rw [e12]; try rfl)
  have hQ : k_P_takeFee_26_14 σ n am w τ3 τ8 τ13 := by rw [e12]; exact hQ
  exact W.vret hx hb hr (fun t hh hW => ⟨⟨τ13, rfl, hF.symm, by show va_P (dC, dI) cls (g_w x_sh dA ad τ13) t.heap; rw [hh]; exact hP⟩, hS.F hh⟩) hS.2.2 d_P_takeFee_29
