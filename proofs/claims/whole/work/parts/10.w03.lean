def f_P_lot_48_8 (σ : g_S) (o : Int32) (lo : Int32) (hi : Int32) (wh : Int32) (k3 : Nat) : Int64 := σ.2 (k3 + 14) 3
def f_P_lot_54_10 (σ : g_S) (o : Int32) (lo : Int32) (hi : Int32) (wh : Int32) (k3 : Nat) : Int64 := σ.2 (k3 + 24) 0
def f_P_lot_62_12 (σ : g_S) (o : Int32) (lo : Int32) (hi : Int32) (wh : Int32) (k3 : Nat) : Int64 := σ.2 (k3 + 24) 1
def f_P_lot_70_13 (σ : g_S) (o : Int32) (lo : Int32) (hi : Int32) (wh : Int32) (k3 : Nat) : Int64 := (-2 : Int64)
def f_P_lot_7_5 (σ : g_S) (o : Int32) (lo : Int32) (hi : Int32) (wh : Int32) : Int64 := (-3 : Int64)
def f_P_lot_7_6 (σ : g_S) (o : Int32) (lo : Int32) (hi : Int32) (wh : Int32) (k3 : Nat) : Int64 := (if wh = 0 then f_P_lot_48_8 σ o lo hi wh k3 else (if wh = 1 then f_P_lot_54_10 σ o lo hi wh k3 else (if wh = 2 then f_P_lot_62_12 σ o lo hi wh k3 else f_P_lot_70_13 σ o lo hi wh k3)))
def f_P_lot (σ : g_S) (o : Int32) (lo : Int32) (hi : Int32) (wh : Int32) : Int64 := (Option.elim (f_B_find σ o lo hi) (f_P_lot_7_5 σ o lo hi wh) (fun k3 => f_P_lot_7_6 σ o lo hi wh k3))
set_option maxHeartbeats 4000000 in
set_option maxRecDepth 100000 in
theorem c_P_lot (l : Launch) (dC : Nat → ClassId) (dI : Nat → Nat → Nat) (dA : Nat → ClassId) (ad : Nat → Nat) (tb : Nat) (σ : g_S) (o : Int32) (lo : Int32) (hi : Int32) (wh : Int32) : Met l y_P_lot w_P_lot ({ frames := 2, cells := 0, slots := 0, locals := 50 }) (va_Pc [.ref (ad 0), .int o, .int lo, .int hi, .int wh] (g_R (dC, dI) cls (x_tys dA) (g_w x_sh dA ad σ) (x_Z tb))) (vp_Sl (fun r => r = f_P_lot σ o lo hi wh)) 0 0 (fun _ => False) := by
  refine Met.ofW (cc := b_P_lot) (maxL := 6) (ret := (some .long)) (by decide) rfl ?_
  intro p e s m args below meth c s₁ B hml hv
  obtain ⟨rfl, hP, hK, hz⟩ := hv
  have hx := B.exec
  have hb := B.bytes
  have hr := B.returns
  have hts := atoms_spec (ws := w_P_lot) B.pre
  have ht := fun (w : Cond) (h : w ∈ gA) => hts w (List.mem_cons_of_mem _ h)
  have hown : s.vm.findClass "RangedPool" = some m.cls := findClass_of_methodNamed B.named
  have hlocks := B.notSynchronized
  have hS : va_S (fun _ => False) s.heap s.heap [] := va_S.rf
  have hl := lv_entry ([.ref (ad 0), .int o, .int lo, .int hi, .int wh]) (n := 6) (Nat.le_of_ble_eq_true rfl)
  rw [lg_entry_eq]
  generalize (lg_sl ([.ref (ad 0), .int o, .int lo, .int hi, .int wh]) ++ List.replicate (6 - (lg_sl ([.ref (ad 0), .int o, .int lo, .int hi, .int wh])).length) Slot.unset).toArray = ls at hl ⊢
  have hl : lv_has ls 6 [(0, .ref (ad 0)), (1, .int o), (2, .int lo), (3, .int hi), (4, .int wh)] := hl
  have hF : f_P_lot σ o lo hi wh = f_P_lot σ o lo hi wh := rfl
  refine lv_aload_n hx hb d_P_lot_0 rfl (lv_at hl 0 rfl) ?_
  refine g_get hx hb ht in_P hown hK hP (0) x_at0 rfl 4 (by decide) rfl (ht _ kw133) (fun _ h9 => h9) (v := .ref (ad 3)) rfl d_P_lot_1 ?_
  refine lv_iload_n hx hb d_P_lot_4 rfl (lv_at hl 1 rfl) ?_
  refine lv_iload_n hx hb d_P_lot_5 rfl (lv_at hl 2 rfl) ?_
  refine lv_iload_n hx hb d_P_lot_6 rfl (lv_at hl 3 rfl) ?_
  refine g_cSq (b0 := 14) (va_runVN (host := "RangedPool") (As := [.int o, .int lo, .int hi]) (rest := []) ⟨hx, hb, hml, hown, ht⟩ (c_B_find l dC dI dA ad tb σ o lo hi) ⟨va_cnB 3 ht gn_B_find rfl rfl rfl (hz.1 _ nk273) (ht _ kw2) (by decide +kernel) ⟨Nat.le_of_ble_eq_true rfl, Nat.le_of_ble_eq_true rfl⟩, ht _ kw208, ht _ ks4⟩ (g_pV (g_prR x_Zok hK hP hS hz _) (g_rc hK hP (3) x_at3 rfl)) rfl rfl hl.1 rfl (lv_room (Nat.le_of_ble_eq_true rfl)) d_P_lot_7 ⟨Nat.le_of_ble_eq_true rfl, Nat.le_of_ble_eq_true rfl⟩) (fun q4 => ?_) (fun k3 q4 => ?_)
  ·
    have hF : f_P_lot σ o lo hi wh = f_P_lot_7_5 σ o lo hi wh := hF.trans (congrArg (fun z => Option.elim z (f_P_lot_7_5 σ o lo hi wh) (fun k3 => f_P_lot_7_6 σ o lo hi wh k3)) q4)
    refine lv_astoreN (lv' := [(5, .null), (0, .ref (ad 0)), (1, .int o), (2, .int lo), (3, .int hi), (4, .int wh)]) hx hb d_P_lot_10 hl (by decide) rfl (fun ls hl => ?_)
    refine lv_aloadN hx hb d_P_lot_12 (lv_at hl 0 rfl) ?_
    refine lv_ifnonnullN hx hb d_P_lot_14 ?_
    refine lv_ldc2 (v := (-3 : Int64)) hx hb hown (ht _ kw274) d_P_lot_17 ?_
    exact W.lret (v := (-3 : Int64)) hx hb hr (fun t hh hW => ⟨_, rfl, hF.symm, hh⟩) (fun _ h => by cases h) d_P_lot_20
  ·
    have hF : f_P_lot σ o lo hi wh = f_P_lot_7_6 σ o lo hi wh k3 := hF.trans (congrArg (fun z => Option.elim z (f_P_lot_7_5 σ o lo hi wh) (fun k3 => f_P_lot_7_6 σ o lo hi wh k3)) q4)
    refine lv_astore (lv' := [(5, .ref (ad (k3 + 14))), (0, .ref (ad 0)), (1, .int o), (2, .int lo), (3, .int hi), (4, .int wh)]) hx hb d_P_lot_10 hl (by decide) rfl (fun ls hl => ?_)
    refine lv_aload hx hb d_P_lot_12 (lv_at hl 0 rfl) ?_
    refine lv_ifnonnull (tgt := 21) hx hb d_P_lot_14 (by decide) ?_
    refine lv_iload hx hb d_P_lot_21 (lv_at hl 5 rfl) ?_
    by_cases c7 : wh = 0
    ·
      have hF : f_P_lot σ o lo hi wh = f_P_lot_48_8 σ o lo hi wh k3 := hF.trans (if_pos c7)
      refine lv_tableIn (tgt := 48) hx hb d_P_lot_23 (by rw [c7]; decide) (by rw [c7]; decide) (by rw [c7]; rfl) (by decide) ?_
      refine lv_aload hx hb d_P_lot_48 (lv_at hl 0 rfl) ?_
      refine g_getN hx hb ht in_T hown hK hP (k3 + 14) (x_at14 (lt_B_find q4)) rfl 3 (by decide) rfl (va_Nw.use rfl (hz.1 _ nk38)) (fun _ h9 => h9) (v := .long (σ.2 (k3 + 14) 3)) rfl d_P_lot_50 ?_
      exact W.lret (v := σ.2 (k3 + 14) 3) hx hb hr (fun t hh hW => ⟨_, rfl, hF.symm, hh⟩) (fun _ h => by cases h) d_P_lot_53
    have hF := hF.trans (if_neg c7)
    by_cases c9 : wh = 1
    ·
      have hF : f_P_lot σ o lo hi wh = f_P_lot_54_10 σ o lo hi wh k3 := hF.trans (if_pos c9)
      refine lv_tableIn (tgt := 54) hx hb d_P_lot_23 (by rw [c9]; decide) (by rw [c9]; decide) (by rw [c9]; rfl) (by decide) ?_
      refine lv_aload hx hb d_P_lot_54 (lv_at hl 0 rfl) ?_
      refine g_getN hx hb ht in_T hown hK hP (k3 + 14) (x_at14 (lt_B_find q4)) rfl 4 (by decide) rfl (va_Nw.use rfl (hz.1 _ nk40)) (fun _ h9 => h9) (v := .ref (ad (k3 + 24))) rfl d_P_lot_56 ?_
      refine lv_iconst (v := (0 : Int32)) hx hb d_P_lot_59 (by decide) ?_
      refine g_lald hx hb hK hP (k3 + 24) (x_at24 (lt_B_find q4)) rfl (by unfold vp_in; decide) (j := 0) (by decide) d_P_lot_60 ?_
      exact W.lret (v := σ.2 (k3 + 24) 0) hx hb hr (fun t hh hW => ⟨_, rfl, hF.symm, hh⟩) (fun _ h => by cases h) d_P_lot_61
    have hF := hF.trans (if_neg c9)
    by_cases c11 : wh = 2
    ·
      have hF : f_P_lot σ o lo hi wh = f_P_lot_62_12 σ o lo hi wh k3 := hF.trans (if_pos c11)
      refine lv_tableIn (tgt := 62) hx hb d_P_lot_23 (by rw [c11]; decide) (by rw [c11]; decide) (by rw [c11]; rfl) (by decide) ?_
      refine lv_aload hx hb d_P_lot_62 (lv_at hl 0 rfl) ?_
      refine g_getN hx hb ht in_T hown hK hP (k3 + 14) (x_at14 (lt_B_find q4)) rfl 4 (by decide) rfl (va_Nw.use rfl (hz.1 _ nk40)) (fun _ h9 => h9) (v := .ref (ad (k3 + 24))) rfl d_P_lot_64 ?_
      refine lv_iconst (v := (1 : Int32)) hx hb d_P_lot_67 (by decide) ?_
      refine g_lald hx hb hK hP (k3 + 24) (x_at24 (lt_B_find q4)) rfl (by unfold vp_in; decide) (j := 1) (by decide) d_P_lot_68 ?_
      exact W.lret (v := σ.2 (k3 + 24) 1) hx hb hr (fun t hh hW => ⟨_, rfl, hF.symm, hh⟩) (fun _ h => by cases h) d_P_lot_69
    have hF := hF.trans (if_neg c11)
    have hF : f_P_lot σ o lo hi wh = f_P_lot_70_13 σ o lo hi wh k3 := hF
    refine lv_tableOut (tgt := 70) hx hb d_P_lot_23 (g_out3 c7 c9 c11) (by decide) ?_
    refine lv_ldc2 (v := (-2 : Int64)) hx hb hown (ht _ kw201) d_P_lot_70 ?_
    exact W.lret (v := (-2 : Int64)) hx hb hr (fun t hh hW => ⟨_, rfl, hF.symm, hh⟩) (fun _ h => by cases h) d_P_lot_73
def f_B_netAt_70_5 (σ : g_S) (n : Int32) (b2 : Int64) : Int64 := b2
def f_B_netAt_L16 (σ : g_S) (n : Int32) : Nat → Nat → Int64 → Int64
  | 0, jk, a1 => (a1)
  | jn + 1, jk, a1 => f_B_netAt_L16 σ n jn (jk + 1) (if (σ.1 (jk + 14) 2) = n then (if (σ.1 (jk + 14) 1) = n then a1 + (σ.2 (jk + 14) 3) else a1) - (σ.2 (jk + 14) 3) else (if (σ.1 (jk + 14) 1) = n then a1 + (σ.2 (jk + 14) 3) else a1))
def f_B_netAt (σ : g_S) (n : Int32) : Int64 := (f_B_netAt_70_5 σ n (f_B_netAt_L16 σ n 10 0 (0 : Int64)))
set_option maxHeartbeats 4000000 in
set_option maxRecDepth 100000 in
theorem c_B_netAt (l : Launch) (dC : Nat → ClassId) (dI : Nat → Nat → Nat) (dA : Nat → ClassId) (ad : Nat → Nat) (tb : Nat) (σ : g_S) (n : Int32) : Met l y_B_netAt w_B_netAt ({ frames := 0, cells := 0, slots := 0, locals := 0 }) (va_Pc [.ref (ad 3), .int n] (g_R (dC, dI) cls (x_tys dA) (g_w x_sh dA ad σ) (x_Z tb))) (vp_Sl (fun r => r = f_B_netAt σ n)) 0 0 (fun _ => False) := by
  refine Met.ofW (cc := b_B_netAt) (maxL := 8) (ret := (some .long)) (by decide) rfl ?_
  intro p e s m args below meth c s₁ B hml hv
  obtain ⟨rfl, hP, hK, hz⟩ := hv
  have hx := B.exec
  have hb := B.bytes
  have hr := B.returns
  have hts := atoms_spec (ws := w_B_netAt) B.pre
  have ht := fun (w : Cond) (h : w ∈ gA) => hts w (List.mem_cons_of_mem _ h)
  have hown : s.vm.findClass "RangedPool$LotBook" = some m.cls := findClass_of_methodNamed B.named
  have hlocks := B.notSynchronized
  have hS : va_S (fun _ => False) s.heap s.heap [] := va_S.rf
  have hl := lv_entry ([.ref (ad 3), .int n]) (n := 8) (Nat.le_of_ble_eq_true rfl)
  rw [lg_entry_eq]
  generalize (lg_sl ([.ref (ad 3), .int n]) ++ List.replicate (8 - (lg_sl ([.ref (ad 3), .int n])).length) Slot.unset).toArray = ls at hl ⊢
  have hl : lv_has ls 8 [(0, .ref (ad 3)), (1, .int n)] := hl
  have hF : f_B_netAt σ n = f_B_netAt σ n := rfl
  refine lv_lconst (v := (0 : Int64)) hx hb d_B_netAt_0 (by decide) ?_
  refine lv_lstore_n (lv' := [(2, .long (0 : Int64)), (0, .ref (ad 3)), (1, .int n)]) hx hb d_B_netAt_1 rfl hl (by decide) rfl (fun ls hl => ?_)
  refine lv_aload_n hx hb d_B_netAt_2 rfl (lv_at hl 1 rfl) ?_
  refine g_get hx hb ht in_B hown hK hP (3) x_at3 rfl 0 (by decide) rfl (ht _ kw60) (fun _ h9 => h9) (v := .ref (ad 4)) rfl d_B_netAt_3 ?_
  refine lv_astore (lv' := [(4, .ref (ad 4)), (2, .long (0 : Int64)), (0, .ref (ad 3)), (1, .int n)]) hx hb d_B_netAt_6 hl (by decide) rfl (fun ls hl => ?_)
  refine lv_aload hx hb d_B_netAt_8 (lv_at hl 0 rfl) ?_
  refine g_alen (v := (10 : Int32)) hx hb hK hP 4 x_at4 rfl rfl d_B_netAt_10 ?_
  refine lv_istore (lv' := [(5, .int (10 : Int32)), (4, .ref (ad 4)), (2, .long (0 : Int64)), (0, .ref (ad 3)), (1, .int n)]) hx hb d_B_netAt_11 hl (by decide) rfl (fun ls hl => ?_)
  refine lv_iconst (v := (0 : Int32)) hx hb d_B_netAt_13 (by decide) ?_
  refine lv_istore (lv' := [(6, .int (0 : Int32)), (5, .int (10 : Int32)), (4, .ref (ad 4)), (2, .long (0 : Int64)), (0, .ref (ad 3)), (1, .int n)]) hx hb d_B_netAt_14 hl (by decide) rfl (fun ls hl => ?_)
  have J70_3 : ∀ (b2 : Int64) (ls : Array Slot), b2 = (f_B_netAt_L16 σ n 10 0 (0 : Int64)) → lv_has ls 8 [(2, .long b2)] → W p l e (headSpec w_B_netAt ({ frames := 0, cells := 0, slots := 0, locals := 0 })).room s m ([.ref (ad 3), .int n] : List Value).toArray below meth c s.heap [] 0 0 (MQ below (vp_Sl (fun r => r = f_B_netAt σ n)) ([.ref (ad 3), .int n] : List Value).toArray s 0 0 (fun _ => False)) (F0 m 70 ls []) := by
    intro b2 ls e4 hl
    have hF : f_B_netAt σ n = f_B_netAt_70_5 σ n b2 := hF.trans (by rw [e4]; try rfl)
    refine lv_lload_n hx hb d_B_netAt_70 rfl (lv_at hl 0 rfl) ?_
    exact W.lret (v := b2) hx hb hr (fun t hh hW => ⟨_, rfl, hF.symm, hh⟩) (fun _ h => by cases h) d_B_netAt_71
  have LL16_6 : ∀ (jn : Nat) (jk : Nat) (a1 : Int64) (ls : Array Slot), jk + jn = 10 → f_B_netAt_L16 σ n 10 0 (0 : Int64) = f_B_netAt_L16 σ n jn jk a1 → lv_has ls 8 [(6, .int (Int32.ofNat jk)), (5, .int (10 : Int32)), (4, .ref (ad 4)), (2, .long a1), (1, .int n)] → W p l e (headSpec w_B_netAt ({ frames := 0, cells := 0, slots := 0, locals := 0 })).room s m ([.ref (ad 3), .int n] : List Value).toArray below meth c s.heap [] 0 0 (MQ below (vp_Sl (fun r => r = f_B_netAt σ n)) ([.ref (ad 3), .int n] : List Value).toArray s 0 0 (fun _ => False)) (F0 m 16 ls []) := by
    intro jn
    induction jn with
    | zero =>
      intro jk a1 ls hkn hF hl
      have hF : f_B_netAt_L16 σ n 10 0 (0 : Int64) = (a1) := hF
      skip
      refine lv_iload hx hb d_B_netAt_16 (lv_at hl 0 rfl) ?_
      refine lv_iload hx hb d_B_netAt_18 (lv_at hl 1 rfl) ?_
      refine lv_icmp_ge (tgt := 70) hx hb d_B_netAt_20 (by decide) (fun _ => ?_) (fun c7 => absurd (g_geN (N := 10) (by omega)) c7)
      exact J70_3 a1 ls hF.symm (lv_sub hl [3] rfl)
    | succ jn ih =>
      intro jk a1 ls hkn hF hl
      have hF : f_B_netAt_L16 σ n 10 0 (0 : Int64) = f_B_netAt_L16 σ n jn (jk + 1) (if (σ.1 (jk + 14) 2) = n then (if (σ.1 (jk + 14) 1) = n then a1 + (σ.2 (jk + 14) 3) else a1) - (σ.2 (jk + 14) 3) else (if (σ.1 (jk + 14) 1) = n then a1 + (σ.2 (jk + 14) 3) else a1)) := hF
      skip
      refine lv_iload hx hb d_B_netAt_16 (lv_at hl 0 rfl) ?_
      refine lv_iload hx hb d_B_netAt_18 (lv_at hl 1 rfl) ?_
      refine lv_icmp_ge (tgt := 70) hx hb d_B_netAt_20 (by decide) (fun c8 => absurd c8 (g_lt (N := 10) (by omega) (by decide))) (fun _ => ?_)
      refine lv_aload hx hb d_B_netAt_23 (lv_at hl 2 rfl) ?_
      refine lv_iload hx hb d_B_netAt_25 (lv_at hl 0 rfl) ?_
      refine g_aald hx hb hK hP 4 x_at4 rfl rfl (g_eix rfl (by omega) (by omega)) (z := jk + 14) (x_el4 (g_ena rfl (by omega)) (by omega)) d_B_netAt_27 ?_
      refine lv_astore (lv' := [(7, .ref (ad (jk + 14))), (6, .int (Int32.ofNat jk)), (5, .int (10 : Int32)), (4, .ref (ad 4)), (2, .long a1), (1, .int n)]) hx hb d_B_netAt_28 hl (by decide) rfl (fun ls hl => ?_)
      refine lv_aload hx hb d_B_netAt_30 (lv_at hl 0 rfl) ?_
      refine g_getN hx hb ht in_T hown hK hP (jk + 14) (x_at14 (by omega)) rfl 1 (by decide) rfl (va_Nw.use rfl (hz.1 _ nk33)) (fun _ h9 => h9) (v := .int (σ.1 (jk + 14) 1)) rfl d_B_netAt_32 ?_
      refine lv_iload_n hx hb d_B_netAt_35 rfl (lv_at hl 5 rfl) ?_
      have J47_10 : ∀ (x9 : Int64) (ls : Array Slot), x9 = (if (σ.1 (jk + 14) 1) = n then a1 + (σ.2 (jk + 14) 3) else a1) → lv_has ls 8 [(2, .long x9), (7, .ref (ad (jk + 14))), (6, .int (Int32.ofNat jk)), (5, .int (10 : Int32)), (4, .ref (ad 4)), (1, .int n)] → W p l e (headSpec w_B_netAt ({ frames := 0, cells := 0, slots := 0, locals := 0 })).room s m ([.ref (ad 3), .int n] : List Value).toArray below meth c s.heap [] 0 0 (MQ below (vp_Sl (fun r => r = f_B_netAt σ n)) ([.ref (ad 3), .int n] : List Value).toArray s 0 0 (fun _ => False)) (F0 m 47 ls []) := by
        intro x9 ls e11 hl
        rw [e11] at hl
        refine lv_aload hx hb d_B_netAt_47 (lv_at hl 1 rfl) ?_
        refine g_getN hx hb ht in_T hown hK hP (jk + 14) (x_at14 (by omega)) rfl 2 (by decide) rfl (va_Nw.use rfl (hz.1 _ nk35)) (fun _ h9 => h9) (v := .int (σ.1 (jk + 14) 2)) rfl d_B_netAt_49 ?_
        refine lv_iload_n hx hb d_B_netAt_52 rfl (lv_at hl 5 rfl) ?_
        have J64_13 : ∀ (x12 : Int64) (ls : Array Slot), x12 = (if (σ.1 (jk + 14) 2) = n then (if (σ.1 (jk + 14) 1) = n then a1 + (σ.2 (jk + 14) 3) else a1) - (σ.2 (jk + 14) 3) else (if (σ.1 (jk + 14) 1) = n then a1 + (σ.2 (jk + 14) 3) else a1)) → lv_has ls 8 [(2, .long x12), (6, .int (Int32.ofNat jk)), (5, .int (10 : Int32)), (4, .ref (ad 4)), (1, .int n)] → W p l e (headSpec w_B_netAt ({ frames := 0, cells := 0, slots := 0, locals := 0 })).room s m ([.ref (ad 3), .int n] : List Value).toArray below meth c s.heap [] 0 0 (MQ below (vp_Sl (fun r => r = f_B_netAt σ n)) ([.ref (ad 3), .int n] : List Value).toArray s 0 0 (fun _ => False)) (F0 m 64 ls []) := by
          intro x12 ls e14 hl
          rw [e14] at hl
          refine lv_iinc (v := Int32.ofNat (jk + 1)) (lv' := [(6, .int (Int32.ofNat (jk + 1))), (2, .long (if (σ.1 (jk + 14) 2) = n then (if (σ.1 (jk + 14) 1) = n then a1 + (σ.2 (jk + 14) 3) else a1) - (σ.2 (jk + 14) 3) else (if (σ.1 (jk + 14) 1) = n then a1 + (σ.2 (jk + 14) 3) else a1))), (5, .int (10 : Int32)), (4, .ref (ad 4)), (1, .int n)]) hx hb d_B_netAt_64 hl (k := 1) rfl (g_inc jk) (by decide) rfl (fun ls hl => ?_)
          refine lv_goto (tgt := 16) hx hb d_B_netAt_67 (by decide) ?_
          exact ih (jk + 1) (if (σ.1 (jk + 14) 2) = n then (if (σ.1 (jk + 14) 1) = n then a1 + (σ.2 (jk + 14) 3) else a1) - (σ.2 (jk + 14) 3) else (if (σ.1 (jk + 14) 1) = n then a1 + (σ.2 (jk + 14) 3) else a1)) ls (by omega) hF (lv_sub hl [0, 2, 3, 1, 4] rfl)
        refine lv_icmp_ne (tgt := 64) hx hb d_B_netAt_53 (by decide) (fun c15 => ?_) (fun c15 => ?_)
        ·
          have c15 : ¬ ((σ.1 (jk + 14) 2) = n) := c15
          exact J64_13 (if (σ.1 (jk + 14) 1) = n then a1 + (σ.2 (jk + 14) 3) else a1) ls (if_neg c15).symm (lv_sub hl [0, 2, 3, 4, 5] rfl)
        ·
          have c15 : (σ.1 (jk + 14) 2) = n := c15
          refine lv_lload_n hx hb d_B_netAt_56 rfl (lv_at hl 0 rfl) ?_
          refine lv_aload hx hb d_B_netAt_57 (lv_at hl 1 rfl) ?_
          refine g_getN hx hb ht in_T hown hK hP (jk + 14) (x_at14 (by omega)) rfl 3 (by decide) rfl (va_Nw.use rfl (hz.1 _ nk37)) (fun _ h9 => h9) (v := .long (σ.2 (jk + 14) 3)) rfl d_B_netAt_59 ?_
          refine lv_lsub hx hb d_B_netAt_62 ?_
          refine lv_lstore_n (lv' := [(2, .long ((if (σ.1 (jk + 14) 1) = n then a1 + (σ.2 (jk + 14) 3) else a1) - (σ.2 (jk + 14) 3))), (7, .ref (ad (jk + 14))), (6, .int (Int32.ofNat jk)), (5, .int (10 : Int32)), (4, .ref (ad 4)), (1, .int n)]) hx hb d_B_netAt_63 rfl hl (by decide) rfl (fun ls hl => ?_)
          exact J64_13 ((if (σ.1 (jk + 14) 1) = n then a1 + (σ.2 (jk + 14) 3) else a1) - (σ.2 (jk + 14) 3)) ls (if_pos c15).symm (lv_sub hl [0, 2, 3, 4, 5] rfl)
      refine lv_icmp_ne (tgt := 47) hx hb d_B_netAt_36 (by decide) (fun c16 => ?_) (fun c16 => ?_)
      ·
        have c16 : ¬ ((σ.1 (jk + 14) 1) = n) := c16
        exact J47_10 a1 ls (if_neg c16).symm (lv_sub hl [4, 0, 1, 2, 3, 5] rfl)
      ·
        have c16 : (σ.1 (jk + 14) 1) = n := c16
        refine lv_lload_n hx hb d_B_netAt_39 rfl (lv_at hl 4 rfl) ?_
        refine lv_aload hx hb d_B_netAt_40 (lv_at hl 0 rfl) ?_
        refine g_getN hx hb ht in_T hown hK hP (jk + 14) (x_at14 (by omega)) rfl 3 (by decide) rfl (va_Nw.use rfl (hz.1 _ nk37)) (fun _ h9 => h9) (v := .long (σ.2 (jk + 14) 3)) rfl d_B_netAt_42 ?_
        refine lv_ladd hx hb d_B_netAt_45 ?_
        refine lv_lstore_n (lv' := [(2, .long (a1 + (σ.2 (jk + 14) 3))), (7, .ref (ad (jk + 14))), (6, .int (Int32.ofNat jk)), (5, .int (10 : Int32)), (4, .ref (ad 4)), (1, .int n)]) hx hb d_B_netAt_46 rfl hl (by decide) rfl (fun ls hl => ?_)
        exact J47_10 (a1 + (σ.2 (jk + 14) 3)) ls (if_pos c16).symm (lv_sub hl [0, 1, 2, 3, 4, 5] rfl)
  exact LL16_6 10 0 (0 : Int64) ls (by omega) rfl  (lv_sub hl [0, 1, 2, 3, 5] rfl)
def f_P_net_5_3 (σ : g_S) (n : Int32) (r1 : Int64) : Int32 := r1.toInt32
def f_P_net (σ : g_S) (n : Int32) : Int32 := (f_P_net_5_3 σ n (f_B_netAt σ n))
set_option maxHeartbeats 4000000 in
set_option maxRecDepth 100000 in
theorem c_P_net (l : Launch) (dC : Nat → ClassId) (dI : Nat → Nat → Nat) (dA : Nat → ClassId) (ad : Nat → Nat) (tb : Nat) (σ : g_S) (n : Int32) : Met l y_P_net w_P_net ({ frames := 1, cells := 0, slots := 0, locals := 27 }) (va_Pc [.ref (ad 0), .int n] (g_R (dC, dI) cls (x_tys dA) (g_w x_sh dA ad σ) (x_Z tb))) (vp_Si (fun r => r = f_P_net σ n)) 0 0 (fun _ => False) := by
  refine Met.ofW (cc := b_P_net) (maxL := 2) (ret := (some .int)) (by decide) rfl ?_
  intro p e s m args below meth c s₁ B hml hv
  obtain ⟨rfl, hP, hK, hz⟩ := hv
  have hx := B.exec
  have hb := B.bytes
  have hr := B.returns
  have hts := atoms_spec (ws := w_P_net) B.pre
  have ht := fun (w : Cond) (h : w ∈ gA) => hts w (List.mem_cons_of_mem _ h)
  have hown : s.vm.findClass "RangedPool" = some m.cls := findClass_of_methodNamed B.named
  have hlocks := B.notSynchronized
  have hS : va_S (fun _ => False) s.heap s.heap [] := va_S.rf
  have hl := lv_entry ([.ref (ad 0), .int n]) (n := 2) (Nat.le_of_ble_eq_true rfl)
  rw [lg_entry_eq]
  generalize (lg_sl ([.ref (ad 0), .int n]) ++ List.replicate (2 - (lg_sl ([.ref (ad 0), .int n])).length) Slot.unset).toArray = ls at hl ⊢
  have hl : lv_has ls 2 [(0, .ref (ad 0)), (1, .int n)] := hl
  have hF : f_P_net σ n = f_P_net σ n := rfl
  refine lv_aload_n hx hb d_P_net_0 rfl (lv_at hl 0 rfl) ?_
  refine g_get hx hb ht in_P hown hK hP (0) x_at0 rfl 4 (by decide) rfl (ht _ kw133) (fun _ h9 => h9) (v := .ref (ad 3)) rfl d_P_net_1 ?_
  refine lv_iload_n hx hb d_P_net_4 rfl (lv_at hl 1 rfl) ?_
  refine g_cSl (va_runVN (host := "RangedPool") (As := [.int n]) (rest := []) ⟨hx, hb, hml, hown, ht⟩ (c_B_netAt l dC dI dA ad tb σ n) ⟨va_cnB 1 ht gn_B_netAt rfl rfl rfl (hz.1 _ nk445) (ht _ kw2) (by decide +kernel) ⟨Nat.le_of_ble_eq_true rfl, Nat.le_of_ble_eq_true rfl⟩, ht _ kw447, ht _ ks38⟩ (g_pV (g_prR x_Zok hK hP hS hz _) (g_rc hK hP (3) x_at3 rfl)) rfl rfl hl.1 rfl (lv_room (Nat.le_of_ble_eq_true rfl)) d_P_net_5 ⟨Nat.le_of_ble_eq_true rfl, Nat.le_of_ble_eq_true rfl⟩) (fun r1 e2 => ?_)
  have hF : f_P_net σ n = f_P_net_5_3 σ n r1 := hF.trans (by rw [e2]; try rfl)
  refine lv_l2i (v := r1.toInt32) hx hb d_P_net_8 rfl ?_
  exact W.iret (v := r1.toInt32) hx hb hr (fun t hh hW => ⟨_, rfl, hF.symm, hh⟩) (fun _ h => by cases h) d_P_net_9
def f_B_findOrFree_L12 (σ : g_S) (o : Int32) (lo : Int32) (hi : Int32) : Nat → Nat → Option Nat
  | 0, jk => (none)
  | jn + 1, jk => (if (f_T_isThere σ jk) = 0 then (if (10 : Int32) ≤ (Int32.ofNat (jk + 1)) then (some jk) else (some jk)) else f_B_findOrFree_L12 σ o lo hi jn (jk + 1))
def f_B_findOrFree_52_15 (σ : g_S) (o : Int32) (lo : Int32) (hi : Int32) (k3 : Nat) : Option Nat := (some k3)
def f_B_findOrFree_19_16 (σ : g_S) (o : Int32) (lo : Int32) (hi : Int32) (k3 : Nat) : Option Nat := (some k3)
def f_B_findOrFree_4_5 (σ : g_S) (o : Int32) (lo : Int32) (hi : Int32) : Option Nat := f_B_findOrFree_L12 σ o lo hi 10 0
def f_B_findOrFree_4_6 (σ : g_S) (o : Int32) (lo : Int32) (hi : Int32) (k3 : Nat) : Option Nat := (if (10 : Int32) ≤ (0 : Int32) then f_B_findOrFree_52_15 σ o lo hi k3 else f_B_findOrFree_19_16 σ o lo hi k3)
def f_B_findOrFree (σ : g_S) (o : Int32) (lo : Int32) (hi : Int32) : Option Nat := (Option.elim (f_B_find σ o lo hi) (f_B_findOrFree_4_5 σ o lo hi) (fun k3 => f_B_findOrFree_4_6 σ o lo hi k3))
set_option maxHeartbeats 4000000 in
set_option maxRecDepth 100000 in
theorem c_B_findOrFree (l : Launch) (dC : Nat → ClassId) (dI : Nat → Nat → Nat) (dA : Nat → ClassId) (ad : Nat → Nat) (tb : Nat) (σ : g_S) (o : Int32) (lo : Int32) (hi : Int32) : Met l y_B_findOrFree w_B_findOrFree ({ frames := 2, cells := 0, slots := 0, locals := 50 }) (va_Pc [.ref (ad 3), .int o, .int lo, .int hi] (g_R (dC, dI) cls (x_tys dA) (g_w x_sh dA ad σ) (x_Z tb))) (va_Sq (fun r => r = (f_B_findOrFree σ o lo hi).map (fun k => ad (k + 14)))) 0 0 (fun _ => False) := by
  refine Met.ofW (cc := b_B_findOrFree) (maxL := 6) (ret := (some (.object "RangedPool$Lot"))) (by decide) rfl ?_
  intro p e s m args below meth c s₁ B hml hv
  obtain ⟨rfl, hP, hK, hz⟩ := hv
  have hx := B.exec
  have hb := B.bytes
  have hr := B.returns
  have hts := atoms_spec (ws := w_B_findOrFree) B.pre
  have ht := fun (w : Cond) (h : w ∈ gA) => hts w (List.mem_cons_of_mem _ h)
  have hown : s.vm.findClass "RangedPool$LotBook" = some m.cls := findClass_of_methodNamed B.named
  have hlocks := B.notSynchronized
  have hS : va_S (fun _ => False) s.heap s.heap [] := va_S.rf
  have hl := lv_entry ([.ref (ad 3), .int o, .int lo, .int hi]) (n := 6) (Nat.le_of_ble_eq_true rfl)
  rw [lg_entry_eq]
  generalize (lg_sl ([.ref (ad 3), .int o, .int lo, .int hi]) ++ List.replicate (6 - (lg_sl ([.ref (ad 3), .int o, .int lo, .int hi])).length) Slot.unset).toArray = ls at hl ⊢
  have hl : lv_has ls 6 [(0, .ref (ad 3)), (1, .int o), (2, .int lo), (3, .int hi)] := hl
  have hF : f_B_findOrFree σ o lo hi = f_B_findOrFree σ o lo hi := rfl
  refine lv_aload_n hx hb d_B_findOrFree_0 rfl (lv_at hl 0 rfl) ?_
  refine lv_iload_n hx hb d_B_findOrFree_1 rfl (lv_at hl 1 rfl) ?_
  refine lv_iload_n hx hb d_B_findOrFree_2 rfl (lv_at hl 2 rfl) ?_
  refine lv_iload_n hx hb d_B_findOrFree_3 rfl (lv_at hl 3 rfl) ?_
  refine g_cSq (b0 := 14) (va_runV (As := [.int o, .int lo, .int hi]) (rest := []) ⟨hx, hb, hml, hown, ht⟩ (c_B_find l dC dI dA ad tb σ o lo hi) (cwV 3 ht gc_B_26 rfl rfl rfl (by decide +kernel) ⟨Nat.le_of_ble_eq_true rfl, Nat.le_of_ble_eq_true rfl⟩) (g_pV (g_prR x_Zok hK hP hS hz _) (g_rc hK hP (3) x_at3 rfl)) rfl rfl hl.1 rfl (lv_room (Nat.le_of_ble_eq_true rfl)) d_B_findOrFree_4 ⟨Nat.le_of_ble_eq_true rfl, Nat.le_of_ble_eq_true rfl⟩) (fun q4 => ?_) (fun k3 q4 => ?_)
  ·
    have hF : f_B_findOrFree σ o lo hi = f_B_findOrFree_4_5 σ o lo hi := hF.trans (congrArg (fun z => Option.elim z (f_B_findOrFree_4_5 σ o lo hi) (fun k3 => f_B_findOrFree_4_6 σ o lo hi k3)) q4)
    refine lv_astoreN (lv' := [(4, .null), (0, .ref (ad 3)), (1, .int o), (2, .int lo), (3, .int hi)]) hx hb d_B_findOrFree_7 hl (by decide) rfl (fun ls hl => ?_)
    refine lv_iconst (v := (0 : Int32)) hx hb d_B_findOrFree_9 (by decide) ?_
    refine lv_istore (lv' := [(5, .int (0 : Int32)), (4, .null), (0, .ref (ad 3)), (1, .int o), (2, .int lo), (3, .int hi)]) hx hb d_B_findOrFree_10 hl (by decide) rfl (fun ls hl => ?_)
    have LL12_7 : ∀ (jn : Nat) (jk : Nat) (ls : Array Slot), jk + jn = 10 → f_B_findOrFree σ o lo hi = f_B_findOrFree_L12 σ o lo hi jn jk → lv_has ls 6 [(5, .int (Int32.ofNat jk)), (4, .null), (0, .ref (ad 3))] → W p l e (headSpec w_B_findOrFree ({ frames := 2, cells := 0, slots := 0, locals := 50 })).room s m ([.ref (ad 3), .int o, .int lo, .int hi] : List Value).toArray below meth c s.heap [] 0 0 (MQ below (va_Sq (fun r => r = (f_B_findOrFree σ o lo hi).map (fun k => ad (k + 14)))) ([.ref (ad 3), .int o, .int lo, .int hi] : List Value).toArray s 0 0 (fun _ => False)) (F0 m 12 ls []) := by
      clear hF
      intro jn
      induction jn with
      | zero =>
        intro jk ls hkn hF hl
        have hF : f_B_findOrFree σ o lo hi = (none) := hF
        skip
        refine lv_iload hx hb d_B_findOrFree_12 (lv_at hl 0 rfl) ?_
        refine lv_bipush (v := (10 : Int32)) hx hb d_B_findOrFree_14 (by decide) ?_
        refine lv_icmp_ge (tgt := 52) hx hb d_B_findOrFree_16 (by decide) (fun _ => ?_) (fun c8 => absurd (g_geN (N := 10) (by omega)) c8)
        refine lv_aloadN hx hb d_B_findOrFree_52 (lv_at hl 1 rfl) ?_
        exact W.aret (rt := .object "RangedPool$Lot") hx hb hr (Or.inl ⟨_, rfl⟩) (Or.inl rfl) (fun t hh hW => ⟨none, rfl, (congrArg (Option.map (fun k => ad (k + 14))) hF).symm, hh⟩) (fun _ h => by cases h) d_B_findOrFree_54
      | succ jn ih =>
        intro jk ls hkn hF hl
        have hF : f_B_findOrFree σ o lo hi = (if (f_T_isThere σ jk) = 0 then (if (10 : Int32) ≤ (Int32.ofNat (jk + 1)) then (some jk) else (some jk)) else f_B_findOrFree_L12 σ o lo hi jn (jk + 1)) := hF
        skip
        refine lv_iload hx hb d_B_findOrFree_12 (lv_at hl 0 rfl) ?_
        refine lv_bipush (v := (10 : Int32)) hx hb d_B_findOrFree_14 (by decide) ?_
        refine lv_icmp_ge (tgt := 52) hx hb d_B_findOrFree_16 (by decide) (fun c9 => absurd c9 (g_lt (N := 10) (by omega) (by decide))) (fun _ => ?_)
        refine lv_aloadN hx hb d_B_findOrFree_19 (lv_at hl 1 rfl) ?_
        refine lv_ifnonnullN hx hb d_B_findOrFree_21 ?_
        refine lv_aload_n hx hb d_B_findOrFree_24 rfl (lv_at hl 2 rfl) ?_
        refine g_get hx hb ht in_B hown hK hP (3) x_at3 rfl 0 (by decide) rfl (ht _ kw60) (fun _ h9 => h9) (v := .ref (ad 4)) rfl d_B_findOrFree_25 ?_
        refine lv_iload hx hb d_B_findOrFree_28 (lv_at hl 0 rfl) ?_
        refine g_aald hx hb hK hP 4 x_at4 rfl rfl (g_eix rfl (by omega) (by omega)) (z := jk + 14) (x_el4 (g_ena rfl (by omega)) (by omega)) d_B_findOrFree_30 ?_
        refine g_cSiE (va_runVN (host := "RangedPool") (As := []) (rest := []) ⟨hx, hb, hml, hown, ht⟩ (c_T_isThere l dC dI dA ad tb σ jk (by omega)) ⟨va_cnB 0 ht gn_T_isThere rfl rfl rfl (hz.1 _ nk210) (ht _ kw3) (by decide +kernel) ⟨Nat.le_of_ble_eq_true rfl, Nat.le_of_ble_eq_true rfl⟩, ht _ kw212, ht _ ks5⟩ (g_pV (g_prR x_Zok hK hP hS hz _) (g_rc hK hP (jk + 14) (x_at14 (by omega)) rfl)) rfl rfl hl.1 rfl (lv_room (Nat.le_of_ble_eq_true rfl)) d_B_findOrFree_31 ⟨Nat.le_of_ble_eq_true rfl, Nat.le_of_ble_eq_true rfl⟩) ?_
        refine lv_if_ne (tgt := 46) hx hb d_B_findOrFree_34 (by decide) (fun c12 => ?_) (fun c12 => ?_)
        ·
          have c12 : ¬ ((f_T_isThere σ jk) = 0) := c12
          have hF := hF.trans (if_neg c12)
          refine lv_iinc (v := Int32.ofNat (jk + 1)) (lv' := [(5, .int (Int32.ofNat (jk + 1))), (4, .null), (0, .ref (ad 3))]) hx hb d_B_findOrFree_46 hl (k := 0) rfl (g_inc jk) (by decide) rfl (fun ls hl => ?_)
          refine lv_goto (tgt := 12) hx hb d_B_findOrFree_49 (by decide) ?_
          exact ih (jk + 1) ls (by omega) hF (lv_sub hl [0, 1, 2] rfl)
        ·
          have c12 : (f_T_isThere σ jk) = 0 := c12
          have hF := hF.trans (if_pos c12)
          refine lv_aload_n hx hb d_B_findOrFree_37 rfl (lv_at hl 2 rfl) ?_
          refine g_get hx hb ht in_B hown hK hP (3) x_at3 rfl 0 (by decide) rfl (ht _ kw60) (fun _ h9 => h9) (v := .ref (ad 4)) rfl d_B_findOrFree_38 ?_
          refine lv_iload hx hb d_B_findOrFree_41 (lv_at hl 0 rfl) ?_
          refine g_aald hx hb hK hP 4 x_at4 rfl rfl (g_eix rfl (by omega) (by omega)) (z := jk + 14) (x_el4 (g_ena rfl (by omega)) (by omega)) d_B_findOrFree_43 ?_
          refine lv_astore (lv' := [(4, .ref (ad (jk + 14))), (5, .int (Int32.ofNat jk)), (0, .ref (ad 3))]) hx hb d_B_findOrFree_44 hl (by decide) rfl (fun ls hl => ?_)
          refine lv_iinc (v := Int32.ofNat (jk + 1)) (lv' := [(5, .int (Int32.ofNat (jk + 1))), (4, .ref (ad (jk + 14))), (0, .ref (ad 3))]) hx hb d_B_findOrFree_46 hl (k := 1) rfl (g_inc jk) (by decide) rfl (fun ls hl => ?_)
          refine lv_goto (tgt := 12) hx hb d_B_findOrFree_49 (by decide) ?_
          refine lv_iload hx hb d_B_findOrFree_12 (lv_at hl 0 rfl) ?_
          refine lv_bipush (v := (10 : Int32)) hx hb d_B_findOrFree_14 (by decide) ?_
          refine lv_icmp_ge (tgt := 52) hx hb d_B_findOrFree_16 (by decide) (fun c13 => ?_) (fun c13 => ?_)
          ·
            have c13 : (10 : Int32) ≤ (Int32.ofNat (jk + 1)) := c13
            have hF := hF.trans (if_pos c13)
            refine lv_aload hx hb d_B_findOrFree_52 (lv_at hl 1 rfl) ?_
            exact W.aret (rt := .object "RangedPool$Lot") hx hb hr (Or.inl ⟨_, rfl⟩) (Or.inr ⟨_, rfl⟩) (fun t hh hW => ⟨(some (ad (jk + 14))), rfl, (congrArg (Option.map (fun k => ad (k + 14))) hF).symm, hh⟩) (fun _ h => by cases h) d_B_findOrFree_54
          ·
            have c13 : ¬ ((10 : Int32) ≤ (Int32.ofNat (jk + 1))) := c13
            have hF := hF.trans (if_neg c13)
            refine lv_aload hx hb d_B_findOrFree_19 (lv_at hl 1 rfl) ?_
            refine lv_ifnonnull (tgt := 52) hx hb d_B_findOrFree_21 (by decide) ?_
            refine lv_aload hx hb d_B_findOrFree_52 (lv_at hl 1 rfl) ?_
            exact W.aret (rt := .object "RangedPool$Lot") hx hb hr (Or.inl ⟨_, rfl⟩) (Or.inr ⟨_, rfl⟩) (fun t hh hW => ⟨(some (ad (jk + 14))), rfl, (congrArg (Option.map (fun k => ad (k + 14))) hF).symm, hh⟩) (fun _ h => by cases h) d_B_findOrFree_54
    exact LL12_7 10 0 ls (by omega) hF  (lv_sub hl [0, 1, 2] rfl)
  ·
    have hF : f_B_findOrFree σ o lo hi = f_B_findOrFree_4_6 σ o lo hi k3 := hF.trans (congrArg (fun z => Option.elim z (f_B_findOrFree_4_5 σ o lo hi) (fun k3 => f_B_findOrFree_4_6 σ o lo hi k3)) q4)
    refine lv_astore (lv' := [(4, .ref (ad (k3 + 14))), (0, .ref (ad 3)), (1, .int o), (2, .int lo), (3, .int hi)]) hx hb d_B_findOrFree_7 hl (by decide) rfl (fun ls hl => ?_)
    refine lv_iconst (v := (0 : Int32)) hx hb d_B_findOrFree_9 (by decide) ?_
    refine lv_istore (lv' := [(5, .int (0 : Int32)), (4, .ref (ad (k3 + 14))), (0, .ref (ad 3)), (1, .int o), (2, .int lo), (3, .int hi)]) hx hb d_B_findOrFree_10 hl (by decide) rfl (fun ls hl => ?_)
    refine lv_iload hx hb d_B_findOrFree_12 (lv_at hl 0 rfl) ?_
    refine lv_bipush (v := (10 : Int32)) hx hb d_B_findOrFree_14 (by decide) ?_
    refine lv_icmp_ge (tgt := 52) hx hb d_B_findOrFree_16 (by decide) (fun c14 => ?_) (fun c14 => ?_)
    ·
      have c14 : (10 : Int32) ≤ (0 : Int32) := c14
      have hF : f_B_findOrFree σ o lo hi = f_B_findOrFree_52_15 σ o lo hi k3 := hF.trans (if_pos c14)
      refine lv_aload hx hb d_B_findOrFree_52 (lv_at hl 1 rfl) ?_
      exact W.aret (rt := .object "RangedPool$Lot") hx hb hr (Or.inl ⟨_, rfl⟩) (Or.inr ⟨_, rfl⟩) (fun t hh hW => ⟨(some (ad (k3 + 14))), rfl, (congrArg (Option.map (fun k => ad (k + 14))) hF).symm, hh⟩) (fun _ h => by cases h) d_B_findOrFree_54
    ·
      have c14 : ¬ ((10 : Int32) ≤ (0 : Int32)) := c14
      have hF : f_B_findOrFree σ o lo hi = f_B_findOrFree_19_16 σ o lo hi k3 := hF.trans (if_neg c14)
      refine lv_aload hx hb d_B_findOrFree_19 (lv_at hl 1 rfl) ?_
      refine lv_ifnonnull (tgt := 52) hx hb d_B_findOrFree_21 (by decide) ?_
      refine lv_aload hx hb d_B_findOrFree_52 (lv_at hl 1 rfl) ?_
      exact W.aret (rt := .object "RangedPool$Lot") hx hb hr (Or.inl ⟨_, rfl⟩) (Or.inr ⟨_, rfl⟩) (fun t hh hW => ⟨(some (ad (k3 + 14))), rfl, (congrArg (Option.map (fun k => ad (k + 14))) hF).symm, hh⟩) (fun _ h => by cases h) d_B_findOrFree_54
theorem lt_B_findOrFree_L (σ : g_S) (o lo hi : Int32) : ∀ (jn jk k : Nat), jk + jn = 10 → f_B_findOrFree_L12 σ o lo hi jn jk = some k → k < 10 := by
  intro jn
  induction jn with
  | zero => intro jk k h1 h2; exact absurd h2 (by intro h; cases h)
  | succ jn ih =>
    intro jk k h1 h2
    have h2 : (if (f_T_isThere σ jk) = 0 then (if (10 : Int32) ≤ (Int32.ofNat (jk + 1)) then (some jk) else (some jk)) else f_B_findOrFree_L12 σ o lo hi jn (jk + 1)) = some k := h2
    by_cases c1 : (f_T_isThere σ jk) = 0
    · rw [if_pos c1, ite_self] at h2
      have h3 := Option.some.inj h2
      omega
    · rw [if_neg c1] at h2
      exact ih (jk + 1) k (by omega) h2
theorem lt_B_findOrFree {σ : g_S} {o lo hi : Int32} {k : Nat} (h : f_B_findOrFree σ o lo hi = some k) : k < 10 := by
  unfold f_B_findOrFree at h
  cases hf : f_B_find σ o lo hi with
  | none =>
    rw [hf] at h
    exact lt_B_findOrFree_L σ o lo hi 10 0 k rfl h
  | some z =>
    rw [hf] at h
    have h : (if (10 : Int32) ≤ (0 : Int32) then some z else some z) = some k := h
    rw [ite_self] at h
    have h3 := Option.some.inj h
    have h4 := lt_B_find hf
    omega
def f_B_totalLiquidity_41_5 (σ : g_S) (b2 : Int64) : Int64 := b2
def f_B_totalLiquidity_L14 (σ : g_S) : Nat → Nat → Int64 → Int64
  | 0, jk, a1 => (a1)
  | jn + 1, jk, a1 => f_B_totalLiquidity_L14 σ jn (jk + 1) (a1 + (σ.2 (jk + 14) 3))
def f_B_totalLiquidity (σ : g_S) : Int64 := (f_B_totalLiquidity_41_5 σ (f_B_totalLiquidity_L14 σ 10 0 (0 : Int64)))
set_option maxHeartbeats 4000000 in
set_option maxRecDepth 100000 in
theorem c_B_totalLiquidity (l : Launch) (dC : Nat → ClassId) (dI : Nat → Nat → Nat) (dA : Nat → ClassId) (ad : Nat → Nat) (tb : Nat) (σ : g_S) : Met l y_B_totalLiquidity w_B_totalLiquidity ({ frames := 0, cells := 0, slots := 0, locals := 0 }) (va_Pc [.ref (ad 3)] (g_R (dC, dI) cls (x_tys dA) (g_w x_sh dA ad σ) (x_Z tb))) (vp_Sl (fun r => r = f_B_totalLiquidity σ)) 0 0 (fun _ => False) := by
  refine Met.ofW (cc := b_B_totalLiquidity) (maxL := 7) (ret := (some .long)) (by decide) rfl ?_
  intro p e s m args below meth c s₁ B hml hv
  obtain ⟨rfl, hP, hK, hz⟩ := hv
  have hx := B.exec
  have hb := B.bytes
  have hr := B.returns
  have hts := atoms_spec (ws := w_B_totalLiquidity) B.pre
  have ht := fun (w : Cond) (h : w ∈ gA) => hts w (List.mem_cons_of_mem _ h)
  have hown : s.vm.findClass "RangedPool$LotBook" = some m.cls := findClass_of_methodNamed B.named
  have hlocks := B.notSynchronized
  have hS : va_S (fun _ => False) s.heap s.heap [] := va_S.rf
  have hl := lv_entry ([.ref (ad 3)]) (n := 7) (Nat.le_of_ble_eq_true rfl)
  rw [lg_entry_eq]
  generalize (lg_sl ([.ref (ad 3)]) ++ List.replicate (7 - (lg_sl ([.ref (ad 3)])).length) Slot.unset).toArray = ls at hl ⊢
  have hl : lv_has ls 7 [(0, .ref (ad 3))] := hl
  have hF : f_B_totalLiquidity σ = f_B_totalLiquidity σ := rfl
  refine lv_lconst (v := (0 : Int64)) hx hb d_B_totalLiquidity_0 (by decide) ?_
  refine lv_lstore_n (lv' := [(1, .long (0 : Int64)), (0, .ref (ad 3))]) hx hb d_B_totalLiquidity_1 rfl hl (by decide) rfl (fun ls hl => ?_)
  refine lv_aload_n hx hb d_B_totalLiquidity_2 rfl (lv_at hl 1 rfl) ?_
  refine g_get hx hb ht in_B hown hK hP (3) x_at3 rfl 0 (by decide) rfl (ht _ kw60) (fun _ h9 => h9) (v := .ref (ad 4)) rfl d_B_totalLiquidity_3 ?_
  refine lv_astore_n (lv' := [(3, .ref (ad 4)), (1, .long (0 : Int64)), (0, .ref (ad 3))]) hx hb d_B_totalLiquidity_6 rfl hl (by decide) rfl (fun ls hl => ?_)
  refine lv_aload_n hx hb d_B_totalLiquidity_7 rfl (lv_at hl 0 rfl) ?_
  refine g_alen (v := (10 : Int32)) hx hb hK hP 4 x_at4 rfl rfl d_B_totalLiquidity_8 ?_
  refine lv_istore (lv' := [(4, .int (10 : Int32)), (3, .ref (ad 4)), (1, .long (0 : Int64)), (0, .ref (ad 3))]) hx hb d_B_totalLiquidity_9 hl (by decide) rfl (fun ls hl => ?_)
  refine lv_iconst (v := (0 : Int32)) hx hb d_B_totalLiquidity_11 (by decide) ?_
  refine lv_istore (lv' := [(5, .int (0 : Int32)), (4, .int (10 : Int32)), (3, .ref (ad 4)), (1, .long (0 : Int64)), (0, .ref (ad 3))]) hx hb d_B_totalLiquidity_12 hl (by decide) rfl (fun ls hl => ?_)
  have J41_3 : ∀ (b2 : Int64) (ls : Array Slot), b2 = (f_B_totalLiquidity_L14 σ 10 0 (0 : Int64)) → lv_has ls 7 [(1, .long b2)] → W p l e (headSpec w_B_totalLiquidity ({ frames := 0, cells := 0, slots := 0, locals := 0 })).room s m ([.ref (ad 3)] : List Value).toArray below meth c s.heap [] 0 0 (MQ below (vp_Sl (fun r => r = f_B_totalLiquidity σ)) ([.ref (ad 3)] : List Value).toArray s 0 0 (fun _ => False)) (F0 m 41 ls []) := by
    intro b2 ls e4 hl
    have hF : f_B_totalLiquidity σ = f_B_totalLiquidity_41_5 σ b2 := hF.trans (by rw [e4]; try rfl)
    refine lv_lload_n hx hb d_B_totalLiquidity_41 rfl (lv_at hl 0 rfl) ?_
    exact W.lret (v := b2) hx hb hr (fun t hh hW => ⟨_, rfl, hF.symm, hh⟩) (fun _ h => by cases h) d_B_totalLiquidity_42
  have LL14_6 : ∀ (jn : Nat) (jk : Nat) (a1 : Int64) (ls : Array Slot), jk + jn = 10 → f_B_totalLiquidity_L14 σ 10 0 (0 : Int64) = f_B_totalLiquidity_L14 σ jn jk a1 → lv_has ls 7 [(5, .int (Int32.ofNat jk)), (4, .int (10 : Int32)), (3, .ref (ad 4)), (1, .long a1)] → W p l e (headSpec w_B_totalLiquidity ({ frames := 0, cells := 0, slots := 0, locals := 0 })).room s m ([.ref (ad 3)] : List Value).toArray below meth c s.heap [] 0 0 (MQ below (vp_Sl (fun r => r = f_B_totalLiquidity σ)) ([.ref (ad 3)] : List Value).toArray s 0 0 (fun _ => False)) (F0 m 14 ls []) := by
    intro jn
    induction jn with
    | zero =>
      intro jk a1 ls hkn hF hl
      have hF : f_B_totalLiquidity_L14 σ 10 0 (0 : Int64) = (a1) := hF
      skip
      refine lv_iload hx hb d_B_totalLiquidity_14 (lv_at hl 0 rfl) ?_
      refine lv_iload hx hb d_B_totalLiquidity_16 (lv_at hl 1 rfl) ?_
      refine lv_icmp_ge (tgt := 41) hx hb d_B_totalLiquidity_18 (by decide) (fun _ => ?_) (fun c7 => absurd (g_geN (N := 10) (by omega)) c7)
      exact J41_3 a1 ls hF.symm (lv_sub hl [3] rfl)
    | succ jn ih =>
      intro jk a1 ls hkn hF hl
      have hF : f_B_totalLiquidity_L14 σ 10 0 (0 : Int64) = f_B_totalLiquidity_L14 σ jn (jk + 1) (a1 + (σ.2 (jk + 14) 3)) := hF
      skip
      refine lv_iload hx hb d_B_totalLiquidity_14 (lv_at hl 0 rfl) ?_
      refine lv_iload hx hb d_B_totalLiquidity_16 (lv_at hl 1 rfl) ?_
      refine lv_icmp_ge (tgt := 41) hx hb d_B_totalLiquidity_18 (by decide) (fun c8 => absurd c8 (g_lt (N := 10) (by omega) (by decide))) (fun _ => ?_)
      refine lv_aload_n hx hb d_B_totalLiquidity_21 rfl (lv_at hl 2 rfl) ?_
      refine lv_iload hx hb d_B_totalLiquidity_22 (lv_at hl 0 rfl) ?_
      refine g_aald hx hb hK hP 4 x_at4 rfl rfl (g_eix rfl (by omega) (by omega)) (z := jk + 14) (x_el4 (g_ena rfl (by omega)) (by omega)) d_B_totalLiquidity_24 ?_
      refine lv_astore (lv' := [(6, .ref (ad (jk + 14))), (5, .int (Int32.ofNat jk)), (4, .int (10 : Int32)), (3, .ref (ad 4)), (1, .long a1)]) hx hb d_B_totalLiquidity_25 hl (by decide) rfl (fun ls hl => ?_)
      refine lv_lload_n hx hb d_B_totalLiquidity_27 rfl (lv_at hl 4 rfl) ?_
      refine lv_aload hx hb d_B_totalLiquidity_28 (lv_at hl 0 rfl) ?_
      refine g_getN hx hb ht in_T hown hK hP (jk + 14) (x_at14 (by omega)) rfl 3 (by decide) rfl (va_Nw.use rfl (hz.1 _ nk37)) (fun _ h9 => h9) (v := .long (σ.2 (jk + 14) 3)) rfl d_B_totalLiquidity_30 ?_
      refine lv_ladd hx hb d_B_totalLiquidity_33 ?_
      refine lv_lstore_n (lv' := [(1, .long (a1 + (σ.2 (jk + 14) 3))), (6, .ref (ad (jk + 14))), (5, .int (Int32.ofNat jk)), (4, .int (10 : Int32)), (3, .ref (ad 4))]) hx hb d_B_totalLiquidity_34 rfl hl (by decide) rfl (fun ls hl => ?_)
      refine lv_iinc (v := Int32.ofNat (jk + 1)) (lv' := [(5, .int (Int32.ofNat (jk + 1))), (1, .long (a1 + (σ.2 (jk + 14) 3))), (6, .ref (ad (jk + 14))), (4, .int (10 : Int32)), (3, .ref (ad 4))]) hx hb d_B_totalLiquidity_35 hl (k := 2) rfl (g_inc jk) (by decide) rfl (fun ls hl => ?_)
      refine lv_goto (tgt := 14) hx hb d_B_totalLiquidity_38 (by decide) ?_
      exact ih (jk + 1) (a1 + (σ.2 (jk + 14) 3)) ls (by omega) hF (lv_sub hl [0, 3, 4, 1] rfl)
  exact LL14_6 10 0 (0 : Int64) ls (by omega) rfl  (lv_sub hl [0, 1, 2, 3] rfl)
def f_B_markedAtOrBelow_101_5 (σ : g_S) (n : Int32) (b2 : Int32) : Int32 := b2
def f_B_markedAtOrBelow_L16 (σ : g_S) (n : Int32) : Nat → Nat → Int32 → Int32
  | 0, jk, a1 => (a1)
  | jn + 1, jk, a1 => f_B_markedAtOrBelow_L16 σ n jn (jk + 1) (if (σ.2 (jk + 14) 3) = (0 : Int64) then a1 else (if (σ.1 (jk + 14) 1) ≤ n then (if n < (σ.1 (jk + 14) 2) then (if a1 = (1000 : Int32) then σ.1 (jk + 14) 1 else (if (σ.1 (jk + 14) 1) ≤ a1 then a1 else σ.1 (jk + 14) 1)) else (if a1 = (1000 : Int32) then σ.1 (jk + 14) 2 else (if (σ.1 (jk + 14) 2) ≤ a1 then a1 else σ.1 (jk + 14) 2))) else a1))
def f_B_markedAtOrBelow (σ : g_S) (n : Int32) : Int32 := (f_B_markedAtOrBelow_101_5 σ n (f_B_markedAtOrBelow_L16 σ n 10 0 (1000 : Int32)))
set_option maxHeartbeats 4000000 in
set_option maxRecDepth 100000 in
theorem c_B_markedAtOrBelow (l : Launch) (dC : Nat → ClassId) (dI : Nat → Nat → Nat) (dA : Nat → ClassId) (ad : Nat → Nat) (tb : Nat) (σ : g_S) (n : Int32) : Met l y_B_markedAtOrBelow w_B_markedAtOrBelow ({ frames := 0, cells := 0, slots := 0, locals := 0 }) (va_Pc [.ref (ad 3), .int n] (g_R (dC, dI) cls (x_tys dA) (g_w x_sh dA ad σ) (x_Z tb))) (vp_Si (fun r => r = f_B_markedAtOrBelow σ n)) 0 0 (fun _ => False) := by
  refine Met.ofW (cc := b_B_markedAtOrBelow) (maxL := 8) (ret := (some .int)) (by decide) rfl ?_
  intro p e s m args below meth c s₁ B hml hv
  obtain ⟨rfl, hP, hK, hz⟩ := hv
  have hx := B.exec
  have hb := B.bytes
  have hr := B.returns
  have hts := atoms_spec (ws := w_B_markedAtOrBelow) B.pre
  have ht := fun (w : Cond) (h : w ∈ gA) => hts w (List.mem_cons_of_mem _ h)
  have hown : s.vm.findClass "RangedPool$LotBook" = some m.cls := findClass_of_methodNamed B.named
  have hlocks := B.notSynchronized
  have hS : va_S (fun _ => False) s.heap s.heap [] := va_S.rf
  have hl := lv_entry ([.ref (ad 3), .int n]) (n := 8) (Nat.le_of_ble_eq_true rfl)
  rw [lg_entry_eq]
  generalize (lg_sl ([.ref (ad 3), .int n]) ++ List.replicate (8 - (lg_sl ([.ref (ad 3), .int n])).length) Slot.unset).toArray = ls at hl ⊢
  have hl : lv_has ls 8 [(0, .ref (ad 3)), (1, .int n)] := hl
  have hF : f_B_markedAtOrBelow σ n = f_B_markedAtOrBelow σ n := rfl
  refine lv_sipush (v := (1000 : Int32)) hx hb d_B_markedAtOrBelow_0 (by decide) ?_
  refine lv_istore_n (lv' := [(2, .int (1000 : Int32)), (0, .ref (ad 3)), (1, .int n)]) hx hb d_B_markedAtOrBelow_3 rfl hl (by decide) rfl (fun ls hl => ?_)
  refine lv_aload_n hx hb d_B_markedAtOrBelow_4 rfl (lv_at hl 1 rfl) ?_
  refine g_get hx hb ht in_B hown hK hP (3) x_at3 rfl 0 (by decide) rfl (ht _ kw60) (fun _ h9 => h9) (v := .ref (ad 4)) rfl d_B_markedAtOrBelow_5 ?_
  refine lv_astore_n (lv' := [(3, .ref (ad 4)), (2, .int (1000 : Int32)), (0, .ref (ad 3)), (1, .int n)]) hx hb d_B_markedAtOrBelow_8 rfl hl (by decide) rfl (fun ls hl => ?_)
  refine lv_aload_n hx hb d_B_markedAtOrBelow_9 rfl (lv_at hl 0 rfl) ?_
  refine g_alen (v := (10 : Int32)) hx hb hK hP 4 x_at4 rfl rfl d_B_markedAtOrBelow_10 ?_
  refine lv_istore (lv' := [(4, .int (10 : Int32)), (3, .ref (ad 4)), (2, .int (1000 : Int32)), (0, .ref (ad 3)), (1, .int n)]) hx hb d_B_markedAtOrBelow_11 hl (by decide) rfl (fun ls hl => ?_)
  refine lv_iconst (v := (0 : Int32)) hx hb d_B_markedAtOrBelow_13 (by decide) ?_
  refine lv_istore (lv' := [(5, .int (0 : Int32)), (4, .int (10 : Int32)), (3, .ref (ad 4)), (2, .int (1000 : Int32)), (0, .ref (ad 3)), (1, .int n)]) hx hb d_B_markedAtOrBelow_14 hl (by decide) rfl (fun ls hl => ?_)
  have J101_3 : ∀ (b2 : Int32) (ls : Array Slot), b2 = (f_B_markedAtOrBelow_L16 σ n 10 0 (1000 : Int32)) → lv_has ls 8 [(2, .int b2)] → W p l e (headSpec w_B_markedAtOrBelow ({ frames := 0, cells := 0, slots := 0, locals := 0 })).room s m ([.ref (ad 3), .int n] : List Value).toArray below meth c s.heap [] 0 0 (MQ below (vp_Si (fun r => r = f_B_markedAtOrBelow σ n)) ([.ref (ad 3), .int n] : List Value).toArray s 0 0 (fun _ => False)) (F0 m 101 ls []) := by
    intro b2 ls e4 hl
    have hF : f_B_markedAtOrBelow σ n = f_B_markedAtOrBelow_101_5 σ n b2 := hF.trans (by rw [e4]; try rfl)
    refine lv_iload_n hx hb d_B_markedAtOrBelow_101 rfl (lv_at hl 0 rfl) ?_
    exact W.iret (v := b2) hx hb hr (fun t hh hW => ⟨_, rfl, hF.symm, hh⟩) (fun _ h => by cases h) d_B_markedAtOrBelow_102
  have LL16_6 : ∀ (jn : Nat) (jk : Nat) (a1 : Int32) (ls : Array Slot), jk + jn = 10 → f_B_markedAtOrBelow_L16 σ n 10 0 (1000 : Int32) = f_B_markedAtOrBelow_L16 σ n jn jk a1 → lv_has ls 8 [(5, .int (Int32.ofNat jk)), (4, .int (10 : Int32)), (3, .ref (ad 4)), (2, .int a1), (1, .int n)] → W p l e (headSpec w_B_markedAtOrBelow ({ frames := 0, cells := 0, slots := 0, locals := 0 })).room s m ([.ref (ad 3), .int n] : List Value).toArray below meth c s.heap [] 0 0 (MQ below (vp_Si (fun r => r = f_B_markedAtOrBelow σ n)) ([.ref (ad 3), .int n] : List Value).toArray s 0 0 (fun _ => False)) (F0 m 16 ls []) := by
    intro jn
    induction jn with
    | zero =>
      intro jk a1 ls hkn hF hl
      have hF : f_B_markedAtOrBelow_L16 σ n 10 0 (1000 : Int32) = (a1) := hF
      skip
      refine lv_iload hx hb d_B_markedAtOrBelow_16 (lv_at hl 0 rfl) ?_
      refine lv_iload hx hb d_B_markedAtOrBelow_18 (lv_at hl 1 rfl) ?_
      refine lv_icmp_ge (tgt := 101) hx hb d_B_markedAtOrBelow_20 (by decide) (fun _ => ?_) (fun c7 => absurd (g_geN (N := 10) (by omega)) c7)
      exact J101_3 a1 ls hF.symm (lv_sub hl [3] rfl)
    | succ jn ih =>
      intro jk a1 ls hkn hF hl
      have hF : f_B_markedAtOrBelow_L16 σ n 10 0 (1000 : Int32) = f_B_markedAtOrBelow_L16 σ n jn (jk + 1) (if (σ.2 (jk + 14) 3) = (0 : Int64) then a1 else (if (σ.1 (jk + 14) 1) ≤ n then (if n < (σ.1 (jk + 14) 2) then (if a1 = (1000 : Int32) then σ.1 (jk + 14) 1 else (if (σ.1 (jk + 14) 1) ≤ a1 then a1 else σ.1 (jk + 14) 1)) else (if a1 = (1000 : Int32) then σ.1 (jk + 14) 2 else (if (σ.1 (jk + 14) 2) ≤ a1 then a1 else σ.1 (jk + 14) 2))) else a1)) := hF
      skip
      refine lv_iload hx hb d_B_markedAtOrBelow_16 (lv_at hl 0 rfl) ?_
      refine lv_iload hx hb d_B_markedAtOrBelow_18 (lv_at hl 1 rfl) ?_
      refine lv_icmp_ge (tgt := 101) hx hb d_B_markedAtOrBelow_20 (by decide) (fun c8 => absurd c8 (g_lt (N := 10) (by omega) (by decide))) (fun _ => ?_)
      refine lv_aload_n hx hb d_B_markedAtOrBelow_23 rfl (lv_at hl 2 rfl) ?_
      refine lv_iload hx hb d_B_markedAtOrBelow_24 (lv_at hl 0 rfl) ?_
      refine g_aald hx hb hK hP 4 x_at4 rfl rfl (g_eix rfl (by omega) (by omega)) (z := jk + 14) (x_el4 (g_ena rfl (by omega)) (by omega)) d_B_markedAtOrBelow_26 ?_
      refine lv_astore (lv' := [(6, .ref (ad (jk + 14))), (5, .int (Int32.ofNat jk)), (4, .int (10 : Int32)), (3, .ref (ad 4)), (2, .int a1), (1, .int n)]) hx hb d_B_markedAtOrBelow_27 hl (by decide) rfl (fun ls hl => ?_)
      refine lv_aload hx hb d_B_markedAtOrBelow_29 (lv_at hl 0 rfl) ?_
      refine g_getN hx hb ht in_T hown hK hP (jk + 14) (x_at14 (by omega)) rfl 3 (by decide) rfl (va_Nw.use rfl (hz.1 _ nk37)) (fun _ h9 => h9) (v := .long (σ.2 (jk + 14) 3)) rfl d_B_markedAtOrBelow_31 ?_
      refine lv_lconst (v := (0 : Int64)) hx hb d_B_markedAtOrBelow_34 (by decide) ?_
      refine W.lcmp hx hb d_B_markedAtOrBelow_35 ?_
      have J95_10 : ∀ (x9 : Int32) (ls : Array Slot), x9 = (if (σ.2 (jk + 14) 3) = (0 : Int64) then a1 else (if (σ.1 (jk + 14) 1) ≤ n then (if n < (σ.1 (jk + 14) 2) then (if a1 = (1000 : Int32) then σ.1 (jk + 14) 1 else (if (σ.1 (jk + 14) 1) ≤ a1 then a1 else σ.1 (jk + 14) 1)) else (if a1 = (1000 : Int32) then σ.1 (jk + 14) 2 else (if (σ.1 (jk + 14) 2) ≤ a1 then a1 else σ.1 (jk + 14) 2))) else a1)) → lv_has ls 8 [(5, .int (Int32.ofNat jk)), (4, .int (10 : Int32)), (3, .ref (ad 4)), (2, .int x9), (1, .int n)] → W p l e (headSpec w_B_markedAtOrBelow ({ frames := 0, cells := 0, slots := 0, locals := 0 })).room s m ([.ref (ad 3), .int n] : List Value).toArray below meth c s.heap [] 0 0 (MQ below (vp_Si (fun r => r = f_B_markedAtOrBelow σ n)) ([.ref (ad 3), .int n] : List Value).toArray s 0 0 (fun _ => False)) (F0 m 95 ls []) := by
        intro x9 ls e11 hl
        rw [e11] at hl
        refine lv_iinc (v := Int32.ofNat (jk + 1)) (lv' := [(5, .int (Int32.ofNat (jk + 1))), (4, .int (10 : Int32)), (3, .ref (ad 4)), (2, .int (if (σ.2 (jk + 14) 3) = (0 : Int64) then a1 else (if (σ.1 (jk + 14) 1) ≤ n then (if n < (σ.1 (jk + 14) 2) then (if a1 = (1000 : Int32) then σ.1 (jk + 14) 1 else (if (σ.1 (jk + 14) 1) ≤ a1 then a1 else σ.1 (jk + 14) 1)) else (if a1 = (1000 : Int32) then σ.1 (jk + 14) 2 else (if (σ.1 (jk + 14) 2) ≤ a1 then a1 else σ.1 (jk + 14) 2))) else a1))), (1, .int n)]) hx hb d_B_markedAtOrBelow_95 hl (k := 0) rfl (g_inc jk) (by decide) rfl (fun ls hl => ?_)
        refine lv_goto (tgt := 16) hx hb d_B_markedAtOrBelow_98 (by decide) ?_
        exact ih (jk + 1) (if (σ.2 (jk + 14) 3) = (0 : Int64) then a1 else (if (σ.1 (jk + 14) 1) ≤ n then (if n < (σ.1 (jk + 14) 2) then (if a1 = (1000 : Int32) then σ.1 (jk + 14) 1 else (if (σ.1 (jk + 14) 1) ≤ a1 then a1 else σ.1 (jk + 14) 1)) else (if a1 = (1000 : Int32) then σ.1 (jk + 14) 2 else (if (σ.1 (jk + 14) 2) ≤ a1 then a1 else σ.1 (jk + 14) 2))) else a1)) ls (by omega) hF (lv_sub hl [0, 1, 2, 3, 4] rfl)
      refine lv_if_eq (tgt := 95) hx hb d_B_markedAtOrBelow_36 (by decide) (fun c12 => ?_) (fun c12 => ?_)
      ·
        have c12 : (σ.2 (jk + 14) 3) = (0 : Int64) := (lg_cmp_eq _ _).mp c12
        exact J95_10 a1 ls (if_pos c12).symm (lv_sub hl [1, 2, 3, 4, 5] rfl)
      ·
        have c12 : ¬ ((σ.2 (jk + 14) 3) = (0 : Int64)) := mt (lg_cmp_eq _ _).mpr c12
        refine lv_aload hx hb d_B_markedAtOrBelow_39 (lv_at hl 0 rfl) ?_
        refine g_getN hx hb ht in_T hown hK hP (jk + 14) (x_at14 (by omega)) rfl 1 (by decide) rfl (va_Nw.use rfl (hz.1 _ nk33)) (fun _ h9 => h9) (v := .int (σ.1 (jk + 14) 1)) rfl d_B_markedAtOrBelow_41 ?_
        refine lv_iload_n hx hb d_B_markedAtOrBelow_44 rfl (lv_at hl 5 rfl) ?_
        refine lv_icmp_le (tgt := 51) hx hb d_B_markedAtOrBelow_45 (by decide) (fun c13 => ?_) (fun c13 => ?_)
        ·
          have c13 : (σ.1 (jk + 14) 1) ≤ n := c13
          refine lv_aload hx hb d_B_markedAtOrBelow_51 (lv_at hl 0 rfl) ?_
          refine g_getN hx hb ht in_T hown hK hP (jk + 14) (x_at14 (by omega)) rfl 2 (by decide) rfl (va_Nw.use rfl (hz.1 _ nk35)) (fun _ h9 => h9) (v := .int (σ.1 (jk + 14) 2)) rfl d_B_markedAtOrBelow_53 ?_
          refine lv_iload_n hx hb d_B_markedAtOrBelow_56 rfl (lv_at hl 5 rfl) ?_
          refine lv_icmp_gt (tgt := 68) hx hb d_B_markedAtOrBelow_57 (by decide) (fun c14 => ?_) (fun c14 => ?_)
          ·
            have c14 : n < (σ.1 (jk + 14) 2) := c14
            refine lv_aload hx hb d_B_markedAtOrBelow_68 (lv_at hl 0 rfl) ?_
            refine g_getN hx hb ht in_T hown hK hP (jk + 14) (x_at14 (by omega)) rfl 1 (by decide) rfl (va_Nw.use rfl (hz.1 _ nk33)) (fun _ h9 => h9) (v := .int (σ.1 (jk + 14) 1)) rfl d_B_markedAtOrBelow_70 ?_
            refine lv_istore (lv' := [(7, .int (σ.1 (jk + 14) 1)), (6, .ref (ad (jk + 14))), (5, .int (Int32.ofNat jk)), (4, .int (10 : Int32)), (3, .ref (ad 4)), (2, .int a1), (1, .int n)]) hx hb d_B_markedAtOrBelow_73 hl (by decide) rfl (fun ls hl => ?_)
            refine lv_iload_n hx hb d_B_markedAtOrBelow_75 rfl (lv_at hl 5 rfl) ?_
            refine lv_sipush (v := (1000 : Int32)) hx hb d_B_markedAtOrBelow_76 (by decide) ?_
            refine lv_icmp_eq (tgt := 88) hx hb d_B_markedAtOrBelow_79 (by decide) (fun c15 => ?_) (fun c15 => ?_)
            ·
              have c15 : a1 = (1000 : Int32) := c15
              refine lv_iload hx hb d_B_markedAtOrBelow_88 (lv_at hl 0 rfl) ?_
              refine lv_goto (tgt := 94) hx hb d_B_markedAtOrBelow_90 (by decide) ?_
              refine lv_istore_n (lv' := [(2, .int (σ.1 (jk + 14) 1)), (7, .int (σ.1 (jk + 14) 1)), (6, .ref (ad (jk + 14))), (5, .int (Int32.ofNat jk)), (4, .int (10 : Int32)), (3, .ref (ad 4)), (1, .int n)]) hx hb d_B_markedAtOrBelow_94 rfl hl (by decide) rfl (fun ls hl => ?_)
              exact J95_10 (σ.1 (jk + 14) 1) ls ((((if_neg c12).trans (if_pos c13)).trans (if_pos c14)).trans (if_pos c15)).symm (lv_sub hl [3, 4, 5, 0, 6] rfl)
            ·
              have c15 : ¬ (a1 = (1000 : Int32)) := c15
              refine lv_iload hx hb d_B_markedAtOrBelow_82 (lv_at hl 0 rfl) ?_
              refine lv_iload_n hx hb d_B_markedAtOrBelow_84 rfl (lv_at hl 5 rfl) ?_
              refine lv_icmp_le (tgt := 93) hx hb d_B_markedAtOrBelow_85 (by decide) (fun c16 => ?_) (fun c16 => ?_)
              ·
                have c16 : (σ.1 (jk + 14) 1) ≤ a1 := c16
                refine lv_iload_n hx hb d_B_markedAtOrBelow_93 rfl (lv_at hl 5 rfl) ?_
                refine lv_istore_n (lv' := [(2, .int a1), (7, .int (σ.1 (jk + 14) 1)), (6, .ref (ad (jk + 14))), (5, .int (Int32.ofNat jk)), (4, .int (10 : Int32)), (3, .ref (ad 4)), (1, .int n)]) hx hb d_B_markedAtOrBelow_94 rfl hl (by decide) rfl (fun ls hl => ?_)
                exact J95_10 a1 ls (((((if_neg c12).trans (if_pos c13)).trans (if_pos c14)).trans (if_neg c15)).trans (if_pos c16)).symm (lv_sub hl [3, 4, 5, 0, 6] rfl)
              ·
                have c16 : ¬ ((σ.1 (jk + 14) 1) ≤ a1) := c16
                refine lv_iload hx hb d_B_markedAtOrBelow_88 (lv_at hl 0 rfl) ?_
                refine lv_goto (tgt := 94) hx hb d_B_markedAtOrBelow_90 (by decide) ?_
                refine lv_istore_n (lv' := [(2, .int (σ.1 (jk + 14) 1)), (7, .int (σ.1 (jk + 14) 1)), (6, .ref (ad (jk + 14))), (5, .int (Int32.ofNat jk)), (4, .int (10 : Int32)), (3, .ref (ad 4)), (1, .int n)]) hx hb d_B_markedAtOrBelow_94 rfl hl (by decide) rfl (fun ls hl => ?_)
                exact J95_10 (σ.1 (jk + 14) 1) ls (((((if_neg c12).trans (if_pos c13)).trans (if_pos c14)).trans (if_neg c15)).trans (if_neg c16)).symm (lv_sub hl [3, 4, 5, 0, 6] rfl)
          ·
            have c14 : ¬ (n < (σ.1 (jk + 14) 2)) := c14
            refine lv_aload hx hb d_B_markedAtOrBelow_60 (lv_at hl 0 rfl) ?_
            refine g_getN hx hb ht in_T hown hK hP (jk + 14) (x_at14 (by omega)) rfl 2 (by decide) rfl (va_Nw.use rfl (hz.1 _ nk35)) (fun _ h9 => h9) (v := .int (σ.1 (jk + 14) 2)) rfl d_B_markedAtOrBelow_62 ?_
            refine lv_goto (tgt := 73) hx hb d_B_markedAtOrBelow_65 (by decide) ?_
            refine lv_istore (lv' := [(7, .int (σ.1 (jk + 14) 2)), (6, .ref (ad (jk + 14))), (5, .int (Int32.ofNat jk)), (4, .int (10 : Int32)), (3, .ref (ad 4)), (2, .int a1), (1, .int n)]) hx hb d_B_markedAtOrBelow_73 hl (by decide) rfl (fun ls hl => ?_)
            refine lv_iload_n hx hb d_B_markedAtOrBelow_75 rfl (lv_at hl 5 rfl) ?_
            refine lv_sipush (v := (1000 : Int32)) hx hb d_B_markedAtOrBelow_76 (by decide) ?_
            refine lv_icmp_eq (tgt := 88) hx hb d_B_markedAtOrBelow_79 (by decide) (fun c17 => ?_) (fun c17 => ?_)
            ·
              have c17 : a1 = (1000 : Int32) := c17
              refine lv_iload hx hb d_B_markedAtOrBelow_88 (lv_at hl 0 rfl) ?_
              refine lv_goto (tgt := 94) hx hb d_B_markedAtOrBelow_90 (by decide) ?_
              refine lv_istore_n (lv' := [(2, .int (σ.1 (jk + 14) 2)), (7, .int (σ.1 (jk + 14) 2)), (6, .ref (ad (jk + 14))), (5, .int (Int32.ofNat jk)), (4, .int (10 : Int32)), (3, .ref (ad 4)), (1, .int n)]) hx hb d_B_markedAtOrBelow_94 rfl hl (by decide) rfl (fun ls hl => ?_)
              exact J95_10 (σ.1 (jk + 14) 2) ls ((((if_neg c12).trans (if_pos c13)).trans (if_neg c14)).trans (if_pos c17)).symm (lv_sub hl [3, 4, 5, 0, 6] rfl)
            ·
              have c17 : ¬ (a1 = (1000 : Int32)) := c17
              refine lv_iload hx hb d_B_markedAtOrBelow_82 (lv_at hl 0 rfl) ?_
              refine lv_iload_n hx hb d_B_markedAtOrBelow_84 rfl (lv_at hl 5 rfl) ?_
              refine lv_icmp_le (tgt := 93) hx hb d_B_markedAtOrBelow_85 (by decide) (fun c18 => ?_) (fun c18 => ?_)
              ·
                have c18 : (σ.1 (jk + 14) 2) ≤ a1 := c18
                refine lv_iload_n hx hb d_B_markedAtOrBelow_93 rfl (lv_at hl 5 rfl) ?_
                refine lv_istore_n (lv' := [(2, .int a1), (7, .int (σ.1 (jk + 14) 2)), (6, .ref (ad (jk + 14))), (5, .int (Int32.ofNat jk)), (4, .int (10 : Int32)), (3, .ref (ad 4)), (1, .int n)]) hx hb d_B_markedAtOrBelow_94 rfl hl (by decide) rfl (fun ls hl => ?_)
                exact J95_10 a1 ls (((((if_neg c12).trans (if_pos c13)).trans (if_neg c14)).trans (if_neg c17)).trans (if_pos c18)).symm (lv_sub hl [3, 4, 5, 0, 6] rfl)
              ·
                have c18 : ¬ ((σ.1 (jk + 14) 2) ≤ a1) := c18
                refine lv_iload hx hb d_B_markedAtOrBelow_88 (lv_at hl 0 rfl) ?_
                refine lv_goto (tgt := 94) hx hb d_B_markedAtOrBelow_90 (by decide) ?_
                refine lv_istore_n (lv' := [(2, .int (σ.1 (jk + 14) 2)), (7, .int (σ.1 (jk + 14) 2)), (6, .ref (ad (jk + 14))), (5, .int (Int32.ofNat jk)), (4, .int (10 : Int32)), (3, .ref (ad 4)), (1, .int n)]) hx hb d_B_markedAtOrBelow_94 rfl hl (by decide) rfl (fun ls hl => ?_)
                exact J95_10 (σ.1 (jk + 14) 2) ls (((((if_neg c12).trans (if_pos c13)).trans (if_neg c14)).trans (if_neg c17)).trans (if_neg c18)).symm (lv_sub hl [3, 4, 5, 0, 6] rfl)
        ·
          have c13 : ¬ ((σ.1 (jk + 14) 1) ≤ n) := c13
          refine lv_goto (tgt := 95) hx hb d_B_markedAtOrBelow_48 (by decide) ?_
          exact J95_10 a1 ls ((if_neg c12).trans (if_neg c13)).symm (lv_sub hl [1, 2, 3, 4, 5] rfl)
  exact LL16_6 10 0 (1000 : Int32) ls (by omega) rfl  (lv_sub hl [0, 1, 2, 3, 5] rfl)
