def f_M_price (σ : g_S) (n : Int32) : Int64 := σ.2 1 ((n + (24 : Int32)).toNatClampNeg)
def k_M_price (σ : g_S) (n : Int32) : Prop := (vp_in (n + (24 : Int32)) 49) ∧ True
set_option maxHeartbeats 4000000 in
set_option maxRecDepth 100000 in
theorem c_M_price (l : Launch) (dC : Nat → ClassId) (dI : Nat → Nat → Nat) (dA : Nat → ClassId) (ad : Nat → Nat) (σ : g_S) (n : Int32) (hQ : k_M_price σ n) : Met l y_M_price w_M_price ({ frames := 0, cells := 0, slots := 0, locals := 0 }) (va_Pc [.ref (ad 0), .int n] (g_R (dC, dI) cls (r_tys dA) (g_w r_sh dA ad σ) r_Z)) (vp_Sl (fun r => r = f_M_price σ n)) 0 0 (fun _ => False) := by
  refine Met.ofW (cc := b_M_price) (maxL := 2) (ret := (some .long)) (by decide) rfl ?_
  intro p e s m args below meth c s₁ B hml hv
  obtain ⟨rfl, hP, hK, hz⟩ := hv
  have hx := B.exec
  have hb := B.bytes
  have hr := B.returns
  have hts := atoms_spec (ws := w_M_price) B.pre
  have ht := fun (w : Cond) (h : w ∈ gA) => hts w (List.mem_cons_of_mem _ h)
  have hown : s.vm.findClass "RangedPoolModel" = some m.cls := findClass_of_methodNamed B.named
  have hlocks := B.notSynchronized
  have hS : va_S (fun _ => False) s.heap s.heap [] := va_S.rf
  have hl := lv_entry ([.ref (ad 0), .int n]) (n := 2) (Nat.le_of_ble_eq_true rfl)
  rw [lg_entry_eq]
  generalize (lg_sl ([.ref (ad 0), .int n]) ++ List.replicate (2 - (lg_sl ([.ref (ad 0), .int n])).length) Slot.unset).toArray = ls at hl ⊢
  have hl : lv_has ls 2 [(0, .ref (ad 0)), (1, .int n)] := hl
  have hF : f_M_price σ n = f_M_price σ n := rfl
  refine lv_aload_n hx hb d_M_price_0 rfl (lv_at hl 0 rfl) ?_
  refine g_get hx hb ht in_M hown hK hP (0) r_at0 rfl 2 (by decide) rfl (ht _ kw463) (fun _ h9 => h9) (v := .ref (ad 1)) rfl d_M_price_1 ?_
  refine lv_iload_n hx hb d_M_price_4 rfl (lv_at hl 1 rfl) ?_
  refine lv_bipush (v := (24 : Int32)) hx hb d_M_price_5 (by decide) ?_
  refine lv_iadd hx hb d_M_price_7 ?_
  obtain ⟨hs1, hQ⟩ := hQ
  refine g_lald hx hb hK hP (1) r_at1 rfl (hs1) (j := (n + (24 : Int32)).toNatClampNeg) (rfl) d_M_price_8 ?_
  exact W.lret (v := σ.2 1 ((n + (24 : Int32)).toNatClampNeg)) hx hb hr (fun t hh hW => ⟨_, rfl, hF.symm, hh⟩) (fun _ h => by cases h) d_M_price_9
def f_M_find_L3 (σ : g_S) (o : Int32) (lo : Int32) (hi : Int32) : Nat → Nat → Int32
  | 0, jk => (-1 : Int32)
  | jn + 1, jk => (if (σ.1 4 jk) = 0 then f_M_find_L3 σ o lo hi jn (jk + 1) else (if (σ.1 5 jk) = o then (if (σ.1 6 jk) = lo then (if (σ.1 7 jk) = hi then Int32.ofNat jk else f_M_find_L3 σ o lo hi jn (jk + 1)) else f_M_find_L3 σ o lo hi jn (jk + 1)) else f_M_find_L3 σ o lo hi jn (jk + 1)))
def f_M_find (σ : g_S) (o : Int32) (lo : Int32) (hi : Int32) : Int32 := f_M_find_L3 σ o lo hi 10 0
set_option maxHeartbeats 4000000 in
set_option maxRecDepth 100000 in
theorem c_M_find (l : Launch) (dC : Nat → ClassId) (dI : Nat → Nat → Nat) (dA : Nat → ClassId) (ad : Nat → Nat) (σ : g_S) (o : Int32) (lo : Int32) (hi : Int32) : Met l y_M_find w_M_find ({ frames := 0, cells := 0, slots := 0, locals := 0 }) (va_Pc [.ref (ad 0), .int o, .int lo, .int hi] (g_R (dC, dI) cls (r_tys dA) (g_w r_sh dA ad σ) r_Z)) (vp_Si (fun r => r = f_M_find σ o lo hi)) 0 0 (fun _ => False) := by
  refine Met.ofW (cc := b_M_find) (maxL := 5) (ret := (some .int)) (by decide) rfl ?_
  intro p e s m args below meth c s₁ B hml hv
  obtain ⟨rfl, hP, hK, hz⟩ := hv
  have hx := B.exec
  have hb := B.bytes
  have hr := B.returns
  have hts := atoms_spec (ws := w_M_find) B.pre
  have ht := fun (w : Cond) (h : w ∈ gA) => hts w (List.mem_cons_of_mem _ h)
  have hown : s.vm.findClass "RangedPoolModel" = some m.cls := findClass_of_methodNamed B.named
  have hlocks := B.notSynchronized
  have hS : va_S (fun _ => False) s.heap s.heap [] := va_S.rf
  have hl := lv_entry ([.ref (ad 0), .int o, .int lo, .int hi]) (n := 5) (Nat.le_of_ble_eq_true rfl)
  rw [lg_entry_eq]
  generalize (lg_sl ([.ref (ad 0), .int o, .int lo, .int hi]) ++ List.replicate (5 - (lg_sl ([.ref (ad 0), .int o, .int lo, .int hi])).length) Slot.unset).toArray = ls at hl ⊢
  have hl : lv_has ls 5 [(0, .ref (ad 0)), (1, .int o), (2, .int lo), (3, .int hi)] := hl
  have hF : f_M_find σ o lo hi = f_M_find σ o lo hi := rfl
  refine lv_iconst (v := (0 : Int32)) hx hb d_M_find_0 (by decide) ?_
  refine lv_istore (lv' := [(4, .int (0 : Int32)), (0, .ref (ad 0)), (1, .int o), (2, .int lo), (3, .int hi)]) hx hb d_M_find_1 hl (by decide) rfl (fun ls hl => ?_)
  have LL3_1 : ∀ (jn : Nat) (jk : Nat) (ls : Array Slot), jk + jn = 10 → f_M_find σ o lo hi = f_M_find_L3 σ o lo hi jn jk → lv_has ls 5 [(4, .int (Int32.ofNat jk)), (0, .ref (ad 0)), (1, .int o), (2, .int lo), (3, .int hi)] → W p l e (headSpec w_M_find ({ frames := 0, cells := 0, slots := 0, locals := 0 })).room s m ([.ref (ad 0), .int o, .int lo, .int hi] : List Value).toArray below meth c s.heap [] 0 0 (MQ below (vp_Si (fun r => r = f_M_find σ o lo hi)) ([.ref (ad 0), .int o, .int lo, .int hi] : List Value).toArray s 0 0 (fun _ => False)) (F0 m 3 ls []) := by
    clear hF
    intro jn
    induction jn with
    | zero =>
      intro jk ls hkn hF hl
      have hF : f_M_find σ o lo hi = (-1 : Int32) := hF
      skip
      refine lv_iload hx hb d_M_find_3 (lv_at hl 0 rfl) ?_
      refine lv_bipush (v := (10 : Int32)) hx hb d_M_find_5 (by decide) ?_
      refine lv_icmp_ge (tgt := 62) hx hb d_M_find_7 (by decide) (fun _ => ?_) (fun c2 => absurd (g_geN (N := 10) (by omega)) c2)
      refine lv_iconst (v := (-1 : Int32)) hx hb d_M_find_62 (by decide) ?_
      exact W.iret (v := (-1 : Int32)) hx hb hr (fun t hh hW => ⟨_, rfl, hF.symm, hh⟩) (fun _ h => by cases h) d_M_find_63
    | succ jn ih =>
      intro jk ls hkn hF hl
      have hF : f_M_find σ o lo hi = (if (σ.1 4 jk) = 0 then f_M_find_L3 σ o lo hi jn (jk + 1) else (if (σ.1 5 jk) = o then (if (σ.1 6 jk) = lo then (if (σ.1 7 jk) = hi then Int32.ofNat jk else f_M_find_L3 σ o lo hi jn (jk + 1)) else f_M_find_L3 σ o lo hi jn (jk + 1)) else f_M_find_L3 σ o lo hi jn (jk + 1))) := hF
      skip
      refine lv_iload hx hb d_M_find_3 (lv_at hl 0 rfl) ?_
      refine lv_bipush (v := (10 : Int32)) hx hb d_M_find_5 (by decide) ?_
      refine lv_icmp_ge (tgt := 62) hx hb d_M_find_7 (by decide) (fun c3 => absurd c3 (g_lt (N := 10) (by omega) (by decide))) (fun _ => ?_)
      refine lv_aload_n hx hb d_M_find_10 rfl (lv_at hl 1 rfl) ?_
      refine g_get hx hb ht in_M hown hK hP (0) r_at0 rfl 8 (by decide) rfl (ht _ kw469) (fun _ h9 => h9) (v := .ref (ad 4)) rfl d_M_find_11 ?_
      refine lv_iload hx hb d_M_find_14 (lv_at hl 0 rfl) ?_
      refine g_zald hx hb hK hP (4) r_at4 rfl (g_eix rfl (by omega) (by omega)) (j := jk) (g_ena rfl (by omega)) d_M_find_16 ?_
      refine lv_if_eq (tgt := 56) hx hb d_M_find_17 (by decide) (fun c4 => ?_) (fun c4 => ?_)
      ·
        have c4 : (σ.1 4 jk) = 0 := c4
        have hF := hF.trans (if_pos c4)
        refine lv_iinc (v := Int32.ofNat (jk + 1)) (lv' := [(4, .int (Int32.ofNat (jk + 1))), (0, .ref (ad 0)), (1, .int o), (2, .int lo), (3, .int hi)]) hx hb d_M_find_56 hl (k := 0) rfl (g_inc jk) (by decide) rfl (fun ls hl => ?_)
        refine lv_goto (tgt := 3) hx hb d_M_find_59 (by decide) ?_
        exact ih (jk + 1) ls (by omega) hF (lv_sub hl [0, 1, 2, 3, 4] rfl)
      ·
        have c4 : ¬ ((σ.1 4 jk) = 0) := c4
        have hF := hF.trans (if_neg c4)
        refine lv_aload_n hx hb d_M_find_20 rfl (lv_at hl 1 rfl) ?_
        refine g_get hx hb ht in_M hown hK hP (0) r_at0 rfl 9 (by decide) rfl (ht _ kw470) (fun _ h9 => h9) (v := .ref (ad 5)) rfl d_M_find_21 ?_
        refine lv_iload hx hb d_M_find_24 (lv_at hl 0 rfl) ?_
        refine g_iald hx hb hK hP (5) r_at5 rfl (g_eix rfl (by omega) (by omega)) (j := jk) (g_ena rfl (by omega)) d_M_find_26 ?_
        refine lv_iload_n hx hb d_M_find_27 rfl (lv_at hl 2 rfl) ?_
        refine lv_icmp_ne (tgt := 56) hx hb d_M_find_28 (by decide) (fun c5 => ?_) (fun c5 => ?_)
        ·
          have c5 : ¬ ((σ.1 5 jk) = o) := c5
          have hF := hF.trans (if_neg c5)
          refine lv_iinc (v := Int32.ofNat (jk + 1)) (lv' := [(4, .int (Int32.ofNat (jk + 1))), (0, .ref (ad 0)), (1, .int o), (2, .int lo), (3, .int hi)]) hx hb d_M_find_56 hl (k := 0) rfl (g_inc jk) (by decide) rfl (fun ls hl => ?_)
          refine lv_goto (tgt := 3) hx hb d_M_find_59 (by decide) ?_
          exact ih (jk + 1) ls (by omega) hF (lv_sub hl [0, 1, 2, 3, 4] rfl)
        ·
          have c5 : (σ.1 5 jk) = o := c5
          have hF := hF.trans (if_pos c5)
          refine lv_aload_n hx hb d_M_find_31 rfl (lv_at hl 1 rfl) ?_
          refine g_get hx hb ht in_M hown hK hP (0) r_at0 rfl 10 (by decide) rfl (ht _ kw471) (fun _ h9 => h9) (v := .ref (ad 6)) rfl d_M_find_32 ?_
          refine lv_iload hx hb d_M_find_35 (lv_at hl 0 rfl) ?_
          refine g_iald hx hb hK hP (6) r_at6 rfl (g_eix rfl (by omega) (by omega)) (j := jk) (g_ena rfl (by omega)) d_M_find_37 ?_
          refine lv_iload_n hx hb d_M_find_38 rfl (lv_at hl 3 rfl) ?_
          refine lv_icmp_ne (tgt := 56) hx hb d_M_find_39 (by decide) (fun c6 => ?_) (fun c6 => ?_)
          ·
            have c6 : ¬ ((σ.1 6 jk) = lo) := c6
            have hF := hF.trans (if_neg c6)
            refine lv_iinc (v := Int32.ofNat (jk + 1)) (lv' := [(4, .int (Int32.ofNat (jk + 1))), (0, .ref (ad 0)), (1, .int o), (2, .int lo), (3, .int hi)]) hx hb d_M_find_56 hl (k := 0) rfl (g_inc jk) (by decide) rfl (fun ls hl => ?_)
            refine lv_goto (tgt := 3) hx hb d_M_find_59 (by decide) ?_
            exact ih (jk + 1) ls (by omega) hF (lv_sub hl [0, 1, 2, 3, 4] rfl)
          ·
            have c6 : (σ.1 6 jk) = lo := c6
            have hF := hF.trans (if_pos c6)
            refine lv_aload_n hx hb d_M_find_42 rfl (lv_at hl 1 rfl) ?_
            refine g_get hx hb ht in_M hown hK hP (0) r_at0 rfl 11 (by decide) rfl (ht _ kw472) (fun _ h9 => h9) (v := .ref (ad 7)) rfl d_M_find_43 ?_
            refine lv_iload hx hb d_M_find_46 (lv_at hl 0 rfl) ?_
            refine g_iald hx hb hK hP (7) r_at7 rfl (g_eix rfl (by omega) (by omega)) (j := jk) (g_ena rfl (by omega)) d_M_find_48 ?_
            refine lv_iload_n hx hb d_M_find_49 rfl (lv_at hl 4 rfl) ?_
            refine lv_icmp_ne (tgt := 56) hx hb d_M_find_50 (by decide) (fun c7 => ?_) (fun c7 => ?_)
            ·
              have c7 : ¬ ((σ.1 7 jk) = hi) := c7
              have hF := hF.trans (if_neg c7)
              refine lv_iinc (v := Int32.ofNat (jk + 1)) (lv' := [(4, .int (Int32.ofNat (jk + 1))), (0, .ref (ad 0)), (1, .int o), (2, .int lo), (3, .int hi)]) hx hb d_M_find_56 hl (k := 0) rfl (g_inc jk) (by decide) rfl (fun ls hl => ?_)
              refine lv_goto (tgt := 3) hx hb d_M_find_59 (by decide) ?_
              exact ih (jk + 1) ls (by omega) hF (lv_sub hl [0, 1, 2, 3, 4] rfl)
            ·
              have c7 : (σ.1 7 jk) = hi := c7
              have hF := hF.trans (if_pos c7)
              refine lv_iload hx hb d_M_find_53 (lv_at hl 0 rfl) ?_
              exact W.iret (v := Int32.ofNat jk) hx hb hr (fun t hh hW => ⟨_, rfl, hF.symm, hh⟩) (fun _ h => by cases h) d_M_find_55
  exact LL3_1 10 0 ls (by omega) hF  (lv_sub hl [0, 1, 2, 3, 4] rfl)
def f_M_depthAt_64_5 (σ : g_S) (n : Int32) (b2 : Int64) : Int64 := b2
def f_M_depthAt_L5 (σ : g_S) (n : Int32) : Nat → Nat → Int64 → Int64
  | 0, jk, a1 => (a1)
  | jn + 1, jk, a1 => f_M_depthAt_L5 σ n jn (jk + 1) (a1 + (if (σ.1 4 jk) = 0 then (0 : Int64) else (if n < (σ.1 6 jk) then (0 : Int64) else (if (σ.1 7 jk) ≤ n then (0 : Int64) else σ.2 8 jk))))
def f_M_depthAt (σ : g_S) (n : Int32) : Int64 := (f_M_depthAt_64_5 σ n (f_M_depthAt_L5 σ n 10 0 (0 : Int64)))
set_option maxHeartbeats 4000000 in
set_option maxRecDepth 100000 in
theorem c_M_depthAt (l : Launch) (dC : Nat → ClassId) (dI : Nat → Nat → Nat) (dA : Nat → ClassId) (ad : Nat → Nat) (σ : g_S) (n : Int32) : Met l y_M_depthAt w_M_depthAt ({ frames := 0, cells := 0, slots := 0, locals := 0 }) (va_Pc [.ref (ad 0), .int n] (g_R (dC, dI) cls (r_tys dA) (g_w r_sh dA ad σ) r_Z)) (vp_Sl (fun r => r = f_M_depthAt σ n)) 0 0 (fun _ => False) := by
  refine Met.ofW (cc := b_M_depthAt) (maxL := 5) (ret := (some .long)) (by decide) rfl ?_
  intro p e s m args below meth c s₁ B hml hv
  obtain ⟨rfl, hP, hK, hz⟩ := hv
  have hx := B.exec
  have hb := B.bytes
  have hr := B.returns
  have hts := atoms_spec (ws := w_M_depthAt) B.pre
  have ht := fun (w : Cond) (h : w ∈ gA) => hts w (List.mem_cons_of_mem _ h)
  have hown : s.vm.findClass "RangedPoolModel" = some m.cls := findClass_of_methodNamed B.named
  have hlocks := B.notSynchronized
  have hS : va_S (fun _ => False) s.heap s.heap [] := va_S.rf
  have hl := lv_entry ([.ref (ad 0), .int n]) (n := 5) (Nat.le_of_ble_eq_true rfl)
  rw [lg_entry_eq]
  generalize (lg_sl ([.ref (ad 0), .int n]) ++ List.replicate (5 - (lg_sl ([.ref (ad 0), .int n])).length) Slot.unset).toArray = ls at hl ⊢
  have hl : lv_has ls 5 [(0, .ref (ad 0)), (1, .int n)] := hl
  have hF : f_M_depthAt σ n = f_M_depthAt σ n := rfl
  refine lv_lconst (v := (0 : Int64)) hx hb d_M_depthAt_0 (by decide) ?_
  refine lv_lstore_n (lv' := [(2, .long (0 : Int64)), (0, .ref (ad 0)), (1, .int n)]) hx hb d_M_depthAt_1 rfl hl (by decide) rfl (fun ls hl => ?_)
  refine lv_iconst (v := (0 : Int32)) hx hb d_M_depthAt_2 (by decide) ?_
  refine lv_istore (lv' := [(4, .int (0 : Int32)), (2, .long (0 : Int64)), (0, .ref (ad 0)), (1, .int n)]) hx hb d_M_depthAt_3 hl (by decide) rfl (fun ls hl => ?_)
  have J64_3 : ∀ (b2 : Int64) (ls : Array Slot), b2 = (f_M_depthAt_L5 σ n 10 0 (0 : Int64)) → lv_has ls 5 [(2, .long b2)] → W p l e (headSpec w_M_depthAt ({ frames := 0, cells := 0, slots := 0, locals := 0 })).room s m ([.ref (ad 0), .int n] : List Value).toArray below meth c s.heap [] 0 0 (MQ below (vp_Sl (fun r => r = f_M_depthAt σ n)) ([.ref (ad 0), .int n] : List Value).toArray s 0 0 (fun _ => False)) (F0 m 64 ls []) := by
    intro b2 ls e4 hl
    have hF : f_M_depthAt σ n = f_M_depthAt_64_5 σ n b2 := hF.trans (by rw [e4]; try rfl)
    refine lv_lload_n hx hb d_M_depthAt_64 rfl (lv_at hl 0 rfl) ?_
    exact W.lret (v := b2) hx hb hr (fun t hh hW => ⟨_, rfl, hF.symm, hh⟩) (fun _ h => by cases h) d_M_depthAt_65
  have LL5_6 : ∀ (jn : Nat) (jk : Nat) (a1 : Int64) (ls : Array Slot), jk + jn = 10 → f_M_depthAt_L5 σ n 10 0 (0 : Int64) = f_M_depthAt_L5 σ n jn jk a1 → lv_has ls 5 [(4, .int (Int32.ofNat jk)), (2, .long a1), (0, .ref (ad 0)), (1, .int n)] → W p l e (headSpec w_M_depthAt ({ frames := 0, cells := 0, slots := 0, locals := 0 })).room s m ([.ref (ad 0), .int n] : List Value).toArray below meth c s.heap [] 0 0 (MQ below (vp_Sl (fun r => r = f_M_depthAt σ n)) ([.ref (ad 0), .int n] : List Value).toArray s 0 0 (fun _ => False)) (F0 m 5 ls []) := by
    intro jn
    induction jn with
    | zero =>
      intro jk a1 ls hkn hF hl
      have hF : f_M_depthAt_L5 σ n 10 0 (0 : Int64) = (a1) := hF
      skip
      refine lv_iload hx hb d_M_depthAt_5 (lv_at hl 0 rfl) ?_
      refine lv_bipush (v := (10 : Int32)) hx hb d_M_depthAt_7 (by decide) ?_
      refine lv_icmp_ge (tgt := 64) hx hb d_M_depthAt_9 (by decide) (fun _ => ?_) (fun c7 => absurd (g_geN (N := 10) (by omega)) c7)
      exact J64_3 a1 ls hF.symm (lv_sub hl [1] rfl)
    | succ jn ih =>
      intro jk a1 ls hkn hF hl
      have hF : f_M_depthAt_L5 σ n 10 0 (0 : Int64) = f_M_depthAt_L5 σ n jn (jk + 1) (a1 + (if (σ.1 4 jk) = 0 then (0 : Int64) else (if n < (σ.1 6 jk) then (0 : Int64) else (if (σ.1 7 jk) ≤ n then (0 : Int64) else σ.2 8 jk)))) := hF
      skip
      refine lv_iload hx hb d_M_depthAt_5 (lv_at hl 0 rfl) ?_
      refine lv_bipush (v := (10 : Int32)) hx hb d_M_depthAt_7 (by decide) ?_
      refine lv_icmp_ge (tgt := 64) hx hb d_M_depthAt_9 (by decide) (fun c8 => absurd c8 (g_lt (N := 10) (by omega) (by decide))) (fun _ => ?_)
      refine lv_lload_n hx hb d_M_depthAt_12 rfl (lv_at hl 1 rfl) ?_
      refine lv_aload_n hx hb d_M_depthAt_13 rfl (lv_at hl 2 rfl) ?_
      refine g_get hx hb ht in_M hown hK hP (0) r_at0 rfl 8 (by decide) rfl (ht _ kw469) (fun _ h9 => h9) (v := .ref (ad 4)) rfl d_M_depthAt_14 ?_
      refine lv_iload hx hb d_M_depthAt_17 (lv_at hl 0 rfl) ?_
      refine g_zald hx hb hK hP (4) r_at4 rfl (g_eix rfl (by omega) (by omega)) (j := jk) (g_ena rfl (by omega)) d_M_depthAt_19 ?_
      have J56_10 : ∀ (x9 : Int64) (ls : Array Slot), x9 = (if (σ.1 4 jk) = 0 then (0 : Int64) else (if n < (σ.1 6 jk) then (0 : Int64) else (if (σ.1 7 jk) ≤ n then (0 : Int64) else σ.2 8 jk))) → lv_has ls 5 [(4, .int (Int32.ofNat jk)), (0, .ref (ad 0)), (1, .int n)] → W p l e (headSpec w_M_depthAt ({ frames := 0, cells := 0, slots := 0, locals := 0 })).room s m ([.ref (ad 0), .int n] : List Value).toArray below meth c s.heap [] 0 0 (MQ below (vp_Sl (fun r => r = f_M_depthAt σ n)) ([.ref (ad 0), .int n] : List Value).toArray s 0 0 (fun _ => False)) (F0 m 56 ls [.long x9, .long a1]) := by
        intro x9 ls e11 hl
        rw [e11]
        refine lv_ladd hx hb d_M_depthAt_56 ?_
        refine lv_lstore_n (lv' := [(2, .long (a1 + (if (σ.1 4 jk) = 0 then (0 : Int64) else (if n < (σ.1 6 jk) then (0 : Int64) else (if (σ.1 7 jk) ≤ n then (0 : Int64) else σ.2 8 jk))))), (4, .int (Int32.ofNat jk)), (0, .ref (ad 0)), (1, .int n)]) hx hb d_M_depthAt_57 rfl hl (by decide) rfl (fun ls hl => ?_)
        refine lv_iinc (v := Int32.ofNat (jk + 1)) (lv' := [(4, .int (Int32.ofNat (jk + 1))), (2, .long (a1 + (if (σ.1 4 jk) = 0 then (0 : Int64) else (if n < (σ.1 6 jk) then (0 : Int64) else (if (σ.1 7 jk) ≤ n then (0 : Int64) else σ.2 8 jk))))), (0, .ref (ad 0)), (1, .int n)]) hx hb d_M_depthAt_58 hl (k := 1) rfl (g_inc jk) (by decide) rfl (fun ls hl => ?_)
        refine lv_goto (tgt := 5) hx hb d_M_depthAt_61 (by decide) ?_
        exact ih (jk + 1) (a1 + (if (σ.1 4 jk) = 0 then (0 : Int64) else (if n < (σ.1 6 jk) then (0 : Int64) else (if (σ.1 7 jk) ≤ n then (0 : Int64) else σ.2 8 jk)))) ls (by omega) hF (lv_sub hl [0, 1, 2, 3] rfl)
      refine lv_if_eq (tgt := 55) hx hb d_M_depthAt_20 (by decide) (fun c12 => ?_) (fun c12 => ?_)
      ·
        have c12 : (σ.1 4 jk) = 0 := c12
        refine lv_lconst (v := (0 : Int64)) hx hb d_M_depthAt_55 (by decide) ?_
        exact J56_10 (0 : Int64) ls (if_pos c12).symm (lv_sub hl [0, 2, 3] rfl)
      ·
        have c12 : ¬ ((σ.1 4 jk) = 0) := c12
        refine lv_aload_n hx hb d_M_depthAt_23 rfl (lv_at hl 2 rfl) ?_
        refine g_get hx hb ht in_M hown hK hP (0) r_at0 rfl 10 (by decide) rfl (ht _ kw471) (fun _ h9 => h9) (v := .ref (ad 6)) rfl d_M_depthAt_24 ?_
        refine lv_iload hx hb d_M_depthAt_27 (lv_at hl 0 rfl) ?_
        refine g_iald hx hb hK hP (6) r_at6 rfl (g_eix rfl (by omega) (by omega)) (j := jk) (g_ena rfl (by omega)) d_M_depthAt_29 ?_
        refine lv_iload_n hx hb d_M_depthAt_30 rfl (lv_at hl 3 rfl) ?_
        refine lv_icmp_gt (tgt := 55) hx hb d_M_depthAt_31 (by decide) (fun c13 => ?_) (fun c13 => ?_)
        ·
          have c13 : n < (σ.1 6 jk) := c13
          refine lv_lconst (v := (0 : Int64)) hx hb d_M_depthAt_55 (by decide) ?_
          exact J56_10 (0 : Int64) ls ((if_neg c12).trans (if_pos c13)).symm (lv_sub hl [0, 2, 3] rfl)
        ·
          have c13 : ¬ (n < (σ.1 6 jk)) := c13
          refine lv_iload_n hx hb d_M_depthAt_34 rfl (lv_at hl 3 rfl) ?_
          refine lv_aload_n hx hb d_M_depthAt_35 rfl (lv_at hl 2 rfl) ?_
          refine g_get hx hb ht in_M hown hK hP (0) r_at0 rfl 11 (by decide) rfl (ht _ kw472) (fun _ h9 => h9) (v := .ref (ad 7)) rfl d_M_depthAt_36 ?_
          refine lv_iload hx hb d_M_depthAt_39 (lv_at hl 0 rfl) ?_
          refine g_iald hx hb hK hP (7) r_at7 rfl (g_eix rfl (by omega) (by omega)) (j := jk) (g_ena rfl (by omega)) d_M_depthAt_41 ?_
          refine lv_icmp_ge (tgt := 55) hx hb d_M_depthAt_42 (by decide) (fun c14 => ?_) (fun c14 => ?_)
          ·
            have c14 : (σ.1 7 jk) ≤ n := c14
            refine lv_lconst (v := (0 : Int64)) hx hb d_M_depthAt_55 (by decide) ?_
            exact J56_10 (0 : Int64) ls (((if_neg c12).trans (if_neg c13)).trans (if_pos c14)).symm (lv_sub hl [0, 2, 3] rfl)
          ·
            have c14 : ¬ ((σ.1 7 jk) ≤ n) := c14
            refine lv_aload_n hx hb d_M_depthAt_45 rfl (lv_at hl 2 rfl) ?_
            refine g_get hx hb ht in_M hown hK hP (0) r_at0 rfl 12 (by decide) rfl (ht _ kw473) (fun _ h9 => h9) (v := .ref (ad 8)) rfl d_M_depthAt_46 ?_
            refine lv_iload hx hb d_M_depthAt_49 (lv_at hl 0 rfl) ?_
            refine g_lald hx hb hK hP (8) r_at8 rfl (g_eix rfl (by omega) (by omega)) (j := jk) (g_ena rfl (by omega)) d_M_depthAt_51 ?_
            refine lv_goto (tgt := 56) hx hb d_M_depthAt_52 (by decide) ?_
            exact J56_10 (σ.2 8 jk) ls (((if_neg c12).trans (if_neg c13)).trans (if_neg c14)).symm (lv_sub hl [0, 2, 3] rfl)
  exact LL5_6 10 0 (0 : Int64) ls (by omega) rfl  (lv_sub hl [0, 1, 2, 3] rfl)
def f_M_worthZero_45_8 (σ : g_S) (lo : Int32) (hi : Int32) (w : Int64) (up : Int32) (r6 : Int64) : Int64 := f_M_zero (σ.2 0 4) r6 w up
def k_M_worthZero_45_8 (σ : g_S) (lo : Int32) (hi : Int32) (w : Int64) (up : Int32) (r6 : Int64) : Prop := (k_M_zero (σ.2 0 4) r6 w up) ∧ True
def f_M_worthZero_39_4 (σ : g_S) (lo : Int32) (hi : Int32) (w : Int64) (up : Int32) : Int64 := (f_M_worthZero_45_8 σ lo hi w up (f_M_price σ hi))
def k_M_worthZero_39_4 (σ : g_S) (lo : Int32) (hi : Int32) (w : Int64) (up : Int32) : Prop := (k_M_price σ hi) ∧ (k_M_worthZero_45_8 σ lo hi w up (f_M_price σ hi))
def f_M_worthZero_35_12 (σ : g_S) (lo : Int32) (hi : Int32) (w : Int64) (up : Int32) : Int64 := (0 : Int64)
def k_M_worthZero_35_12 (σ : g_S) (lo : Int32) (hi : Int32) (w : Int64) (up : Int32) : Prop := True
def f_M_worthZero_27_2 (σ : g_S) (lo : Int32) (hi : Int32) (w : Int64) (up : Int32) : Int64 := (if (σ.1 0 5) < hi then f_M_worthZero_39_4 σ lo hi w up else f_M_worthZero_35_12 σ lo hi w up)
def k_M_worthZero_27_2 (σ : g_S) (lo : Int32) (hi : Int32) (w : Int64) (up : Int32) : Prop := (if (σ.1 0 5) < hi then k_M_worthZero_39_4 σ lo hi w up else k_M_worthZero_35_12 σ lo hi w up)
def f_M_worthZero_21_25 (σ : g_S) (lo : Int32) (hi : Int32) (w : Int64) (up : Int32) (r15 : Int64) (r19 : Int64) (r23 : Int64) : Int64 := r23
def k_M_worthZero_21_25 (σ : g_S) (lo : Int32) (hi : Int32) (w : Int64) (up : Int32) (r15 : Int64) (r19 : Int64) (r23 : Int64) : Prop := True
def f_M_worthZero_15_21 (σ : g_S) (lo : Int32) (hi : Int32) (w : Int64) (up : Int32) (r15 : Int64) (r19 : Int64) : Int64 := (f_M_worthZero_21_25 σ lo hi w up r15 r19 (f_M_zero r15 r19 w up))
def k_M_worthZero_15_21 (σ : g_S) (lo : Int32) (hi : Int32) (w : Int64) (up : Int32) (r15 : Int64) (r19 : Int64) : Prop := (k_M_zero r15 r19 w up) ∧ (k_M_worthZero_21_25 σ lo hi w up r15 r19 (f_M_zero r15 r19 w up))
def f_M_worthZero_10_17 (σ : g_S) (lo : Int32) (hi : Int32) (w : Int64) (up : Int32) (r15 : Int64) : Int64 := (f_M_worthZero_15_21 σ lo hi w up r15 (f_M_price σ hi))
def k_M_worthZero_10_17 (σ : g_S) (lo : Int32) (hi : Int32) (w : Int64) (up : Int32) (r15 : Int64) : Prop := (k_M_price σ hi) ∧ (k_M_worthZero_15_21 σ lo hi w up r15 (f_M_price σ hi))
def f_M_worthZero_8_13 (σ : g_S) (lo : Int32) (hi : Int32) (w : Int64) (up : Int32) : Int64 := (f_M_worthZero_10_17 σ lo hi w up (f_M_price σ lo))
def k_M_worthZero_8_13 (σ : g_S) (lo : Int32) (hi : Int32) (w : Int64) (up : Int32) : Prop := (k_M_price σ lo) ∧ (k_M_worthZero_10_17 σ lo hi w up (f_M_price σ lo))
def f_M_worthZero (σ : g_S) (lo : Int32) (hi : Int32) (w : Int64) (up : Int32) : Int64 := (if lo ≤ (σ.1 0 5) then f_M_worthZero_27_2 σ lo hi w up else f_M_worthZero_8_13 σ lo hi w up)
def k_M_worthZero (σ : g_S) (lo : Int32) (hi : Int32) (w : Int64) (up : Int32) : Prop := (if lo ≤ (σ.1 0 5) then k_M_worthZero_27_2 σ lo hi w up else k_M_worthZero_8_13 σ lo hi w up)
set_option maxHeartbeats 4000000 in
set_option maxRecDepth 100000 in
theorem c_M_worthZero (l : Launch) (dC : Nat → ClassId) (dI : Nat → Nat → Nat) (dA : Nat → ClassId) (ad : Nat → Nat) (σ : g_S) (lo : Int32) (hi : Int32) (w : Int64) (up : Int32) (hQ : k_M_worthZero σ lo hi w up) : Met l y_M_worthZero w_M_worthZero ({ frames := 2, cells := 0, slots := 0, locals := 50 }) (va_Pc [.ref (ad 0), .int lo, .int hi, .long w, .int up] (g_R (dC, dI) cls (r_tys dA) (g_w r_sh dA ad σ) r_Z)) (vp_Sl (fun r => r = f_M_worthZero σ lo hi w up)) 0 0 (fun _ => False) := by
  refine Met.ofW (cc := b_M_worthZero) (maxL := 6) (ret := (some .long)) (by decide) rfl ?_
  intro p e s m args below meth c s₁ B hml hv
  obtain ⟨rfl, hP, hK, hz⟩ := hv
  have hx := B.exec
  have hb := B.bytes
  have hr := B.returns
  have hts := atoms_spec (ws := w_M_worthZero) B.pre
  have ht := fun (w : Cond) (h : w ∈ gA) => hts w (List.mem_cons_of_mem _ h)
  have hown : s.vm.findClass "RangedPoolModel" = some m.cls := findClass_of_methodNamed B.named
  have hlocks := B.notSynchronized
  have hS : va_S (fun _ => False) s.heap s.heap [] := va_S.rf
  have hl := lv_entry ([.ref (ad 0), .int lo, .int hi, .long w, .int up]) (n := 6) (Nat.le_of_ble_eq_true rfl)
  rw [lg_entry_eq]
  generalize (lg_sl ([.ref (ad 0), .int lo, .int hi, .long w, .int up]) ++ List.replicate (6 - (lg_sl ([.ref (ad 0), .int lo, .int hi, .long w, .int up])).length) Slot.unset).toArray = ls at hl ⊢
  have hl : lv_has ls 6 [(0, .ref (ad 0)), (1, .int lo), (2, .int hi), (3, .long w), (5, .int up)] := hl
  have hF : f_M_worthZero σ lo hi w up = f_M_worthZero σ lo hi w up := rfl
  refine lv_aload_n hx hb d_M_worthZero_0 rfl (lv_at hl 0 rfl) ?_
  refine g_get hx hb ht in_M hown hK hP (0) r_at0 rfl 5 (by decide) rfl (ht _ kw466) (fun _ h9 => h9) (v := .int (σ.1 0 5)) rfl d_M_worthZero_1 ?_
  refine lv_iload_n hx hb d_M_worthZero_4 rfl (lv_at hl 1 rfl) ?_
  refine lv_icmp_ge (tgt := 27) hx hb d_M_worthZero_5 (by decide) (fun c1 => ?_) (fun c1 => ?_)
  ·
    have c1 : lo ≤ (σ.1 0 5) := c1
    have hF : f_M_worthZero σ lo hi w up = f_M_worthZero_27_2 σ lo hi w up := hF.trans (if_pos c1)
    have hQ : k_M_worthZero_27_2 σ lo hi w up := Eq.mp (if_pos c1) hQ
    refine lv_aload_n hx hb d_M_worthZero_27 rfl (lv_at hl 0 rfl) ?_
    refine g_get hx hb ht in_M hown hK hP (0) r_at0 rfl 5 (by decide) rfl (ht _ kw466) (fun _ h9 => h9) (v := .int (σ.1 0 5)) rfl d_M_worthZero_28 ?_
    refine lv_iload_n hx hb d_M_worthZero_31 rfl (lv_at hl 2 rfl) ?_
    refine lv_icmp_lt (tgt := 39) hx hb d_M_worthZero_32 (by decide) (fun c3 => ?_) (fun c3 => ?_)
    ·
      have c3 : (σ.1 0 5) < hi := c3
      have hF : f_M_worthZero σ lo hi w up = f_M_worthZero_39_4 σ lo hi w up := hF.trans (if_pos c3)
      have hQ : k_M_worthZero_39_4 σ lo hi w up := Eq.mp (if_pos c3) hQ
      refine lv_aload_n hx hb d_M_worthZero_39 rfl (lv_at hl 0 rfl) ?_
      refine g_get hx hb ht in_M hown hK hP (0) r_at0 rfl 4 (by decide) rfl (ht _ kw465) (fun _ h9 => h9) (v := .long (σ.2 0 4)) rfl d_M_worthZero_40 ?_
      refine lv_aload_n hx hb d_M_worthZero_43 rfl (lv_at hl 0 rfl) ?_
      refine lv_iload_n hx hb d_M_worthZero_44 rfl (lv_at hl 2 rfl) ?_
      obtain ⟨hs5, hQ⟩ := hQ
      refine g_cSl (va_runV (As := [.int hi]) (rest := [.long (σ.2 0 4)]) ⟨hx, hb, hml, hown, ht⟩ (c_M_price l dC dI dA ad σ hi hs5) (cwV 1 ht gc_M_89 rfl rfl rfl (by decide +kernel) ⟨Nat.le_of_ble_eq_true rfl, Nat.le_of_ble_eq_true rfl⟩) (g_pV (g_prR r_Zok hK hP hS hz _) (g_rc hK hP (0) r_at0 rfl)) rfl rfl hl.1 rfl (lv_room (Nat.le_of_ble_eq_true rfl)) d_M_worthZero_45 ⟨Nat.le_of_ble_eq_true rfl, Nat.le_of_ble_eq_true rfl⟩) (fun r6 e7 => ?_)
      have hF : f_M_worthZero σ lo hi w up = f_M_worthZero_45_8 σ lo hi w up r6 := hF.trans (by rw [e7]; try rfl)
      have hQ : k_M_worthZero_45_8 σ lo hi w up r6 := by rw [e7]; exact hQ
      refine lv_lload_n hx hb d_M_worthZero_48 rfl (lv_at hl 3 rfl) ?_
      refine lv_iload hx hb d_M_worthZero_49 (lv_at hl 4 rfl) ?_
      obtain ⟨hs9, hQ⟩ := hQ
      refine g_cSlE (va_runS (As := [.long (σ.2 0 4), .long r6, .long w, .int up]) (rest := []) ⟨hx, hb, hml, hown, ht⟩ (c_M_zero l (σ.2 0 4) r6 w up hs9) (va_cwS 4 ht gc_M_105 rfl rfl rfl (by decide +kernel) ⟨Nat.le_of_ble_eq_true rfl, Nat.le_of_ble_eq_true rfl⟩) (g_pr0 _) rfl rfl hl.1 rfl (lv_room (Nat.le_of_ble_eq_true rfl)) d_M_worthZero_51 ⟨Nat.le_of_ble_eq_true rfl, Nat.le_of_ble_eq_true rfl⟩) ?_
      exact W.lret (v := f_M_zero (σ.2 0 4) r6 w up) hx hb hr (fun t hh hW => ⟨_, rfl, hF.symm, hh⟩) (fun _ h => by cases h) d_M_worthZero_54
    ·
      have c3 : ¬ ((σ.1 0 5) < hi) := c3
      have hF : f_M_worthZero σ lo hi w up = f_M_worthZero_35_12 σ lo hi w up := hF.trans (if_neg c3)
      have hQ : k_M_worthZero_35_12 σ lo hi w up := Eq.mp (if_neg c3) hQ
      refine lv_lconst (v := (0 : Int64)) hx hb d_M_worthZero_35 (by decide) ?_
      refine lv_goto (tgt := 54) hx hb d_M_worthZero_36 (by decide) ?_
      exact W.lret (v := (0 : Int64)) hx hb hr (fun t hh hW => ⟨_, rfl, hF.symm, hh⟩) (fun _ h => by cases h) d_M_worthZero_54
  ·
    have c1 : ¬ (lo ≤ (σ.1 0 5)) := c1
    have hF : f_M_worthZero σ lo hi w up = f_M_worthZero_8_13 σ lo hi w up := hF.trans (if_neg c1)
    have hQ : k_M_worthZero_8_13 σ lo hi w up := Eq.mp (if_neg c1) hQ
    refine lv_aload_n hx hb d_M_worthZero_8 rfl (lv_at hl 0 rfl) ?_
    refine lv_iload_n hx hb d_M_worthZero_9 rfl (lv_at hl 1 rfl) ?_
    obtain ⟨hs14, hQ⟩ := hQ
    refine g_cSl (va_runV (As := [.int lo]) (rest := []) ⟨hx, hb, hml, hown, ht⟩ (c_M_price l dC dI dA ad σ lo hs14) (cwV 1 ht gc_M_89 rfl rfl rfl (by decide +kernel) ⟨Nat.le_of_ble_eq_true rfl, Nat.le_of_ble_eq_true rfl⟩) (g_pV (g_prR r_Zok hK hP hS hz _) (g_rc hK hP (0) r_at0 rfl)) rfl rfl hl.1 rfl (lv_room (Nat.le_of_ble_eq_true rfl)) d_M_worthZero_10 ⟨Nat.le_of_ble_eq_true rfl, Nat.le_of_ble_eq_true rfl⟩) (fun r15 e16 => ?_)
    have hF : f_M_worthZero σ lo hi w up = f_M_worthZero_10_17 σ lo hi w up r15 := hF.trans (by rw [e16]; try rfl)
    have hQ : k_M_worthZero_10_17 σ lo hi w up r15 := by rw [e16]; exact hQ
    refine lv_aload_n hx hb d_M_worthZero_13 rfl (lv_at hl 0 rfl) ?_
    refine lv_iload_n hx hb d_M_worthZero_14 rfl (lv_at hl 2 rfl) ?_
    obtain ⟨hs18, hQ⟩ := hQ
    refine g_cSl (va_runV (As := [.int hi]) (rest := [.long r15]) ⟨hx, hb, hml, hown, ht⟩ (c_M_price l dC dI dA ad σ hi hs18) (cwV 1 ht gc_M_89 rfl rfl rfl (by decide +kernel) ⟨Nat.le_of_ble_eq_true rfl, Nat.le_of_ble_eq_true rfl⟩) (g_pV (g_prR r_Zok hK hP hS hz _) (g_rc hK hP (0) r_at0 rfl)) rfl rfl hl.1 rfl (lv_room (Nat.le_of_ble_eq_true rfl)) d_M_worthZero_15 ⟨Nat.le_of_ble_eq_true rfl, Nat.le_of_ble_eq_true rfl⟩) (fun r19 e20 => ?_)
    have hF : f_M_worthZero σ lo hi w up = f_M_worthZero_15_21 σ lo hi w up r15 r19 := hF.trans (by rw [e20]; try rfl)
    have hQ : k_M_worthZero_15_21 σ lo hi w up r15 r19 := by rw [e20]; exact hQ
    refine lv_lload_n hx hb d_M_worthZero_18 rfl (lv_at hl 3 rfl) ?_
    refine lv_iload hx hb d_M_worthZero_19 (lv_at hl 4 rfl) ?_
    obtain ⟨hs22, hQ⟩ := hQ
    refine g_cSl (va_runS (As := [.long r15, .long r19, .long w, .int up]) (rest := []) ⟨hx, hb, hml, hown, ht⟩ (c_M_zero l r15 r19 w up hs22) (va_cwS 4 ht gc_M_105 rfl rfl rfl (by decide +kernel) ⟨Nat.le_of_ble_eq_true rfl, Nat.le_of_ble_eq_true rfl⟩) (g_pr0 _) rfl rfl hl.1 rfl (lv_room (Nat.le_of_ble_eq_true rfl)) d_M_worthZero_21 ⟨Nat.le_of_ble_eq_true rfl, Nat.le_of_ble_eq_true rfl⟩) (fun r23 e24 => ?_)
    have hF : f_M_worthZero σ lo hi w up = f_M_worthZero_21_25 σ lo hi w up r15 r19 r23 := hF.trans (by rw [e24]; try rfl)
    have hQ : k_M_worthZero_21_25 σ lo hi w up r15 r19 r23 := by rw [e24]; exact hQ
    refine lv_goto (tgt := 54) hx hb d_M_worthZero_24 (by decide) ?_
    exact W.lret (v := r23) hx hb hr (fun t hh hW => ⟨_, rfl, hF.symm, hh⟩) (fun _ h => by cases h) d_M_worthZero_54
def f_M_worthOne_41_8 (σ : g_S) (lo : Int32) (hi : Int32) (w : Int64) (up : Int32) (r6 : Int64) : Int64 := f_M_one r6 (σ.2 0 4) w up
def k_M_worthOne_41_8 (σ : g_S) (lo : Int32) (hi : Int32) (w : Int64) (up : Int32) (r6 : Int64) : Prop := (k_M_one r6 (σ.2 0 4) w up) ∧ True
def f_M_worthOne_39_4 (σ : g_S) (lo : Int32) (hi : Int32) (w : Int64) (up : Int32) : Int64 := (f_M_worthOne_41_8 σ lo hi w up (f_M_price σ lo))
def k_M_worthOne_39_4 (σ : g_S) (lo : Int32) (hi : Int32) (w : Int64) (up : Int32) : Prop := (k_M_price σ lo) ∧ (k_M_worthOne_41_8 σ lo hi w up (f_M_price σ lo))
def f_M_worthOne_33_24 (σ : g_S) (lo : Int32) (hi : Int32) (w : Int64) (up : Int32) (r14 : Int64) (r18 : Int64) (r22 : Int64) : Int64 := r22
def k_M_worthOne_33_24 (σ : g_S) (lo : Int32) (hi : Int32) (w : Int64) (up : Int32) (r14 : Int64) (r18 : Int64) (r22 : Int64) : Prop := True
def f_M_worthOne_27_20 (σ : g_S) (lo : Int32) (hi : Int32) (w : Int64) (up : Int32) (r14 : Int64) (r18 : Int64) : Int64 := (f_M_worthOne_33_24 σ lo hi w up r14 r18 (f_M_one r14 r18 w up))
def k_M_worthOne_27_20 (σ : g_S) (lo : Int32) (hi : Int32) (w : Int64) (up : Int32) (r14 : Int64) (r18 : Int64) : Prop := (k_M_one r14 r18 w up) ∧ (k_M_worthOne_33_24 σ lo hi w up r14 r18 (f_M_one r14 r18 w up))
def f_M_worthOne_22_16 (σ : g_S) (lo : Int32) (hi : Int32) (w : Int64) (up : Int32) (r14 : Int64) : Int64 := (f_M_worthOne_27_20 σ lo hi w up r14 (f_M_price σ hi))
def k_M_worthOne_22_16 (σ : g_S) (lo : Int32) (hi : Int32) (w : Int64) (up : Int32) (r14 : Int64) : Prop := (k_M_price σ hi) ∧ (k_M_worthOne_27_20 σ lo hi w up r14 (f_M_price σ hi))
def f_M_worthOne_20_12 (σ : g_S) (lo : Int32) (hi : Int32) (w : Int64) (up : Int32) : Int64 := (f_M_worthOne_22_16 σ lo hi w up (f_M_price σ lo))
def k_M_worthOne_20_12 (σ : g_S) (lo : Int32) (hi : Int32) (w : Int64) (up : Int32) : Prop := (k_M_price σ lo) ∧ (k_M_worthOne_22_16 σ lo hi w up (f_M_price σ lo))
def f_M_worthOne_12_2 (σ : g_S) (lo : Int32) (hi : Int32) (w : Int64) (up : Int32) : Int64 := (if (σ.1 0 5) < hi then f_M_worthOne_39_4 σ lo hi w up else f_M_worthOne_20_12 σ lo hi w up)
def k_M_worthOne_12_2 (σ : g_S) (lo : Int32) (hi : Int32) (w : Int64) (up : Int32) : Prop := (if (σ.1 0 5) < hi then k_M_worthOne_39_4 σ lo hi w up else k_M_worthOne_20_12 σ lo hi w up)
def f_M_worthOne_8_25 (σ : g_S) (lo : Int32) (hi : Int32) (w : Int64) (up : Int32) : Int64 := (0 : Int64)
def k_M_worthOne_8_25 (σ : g_S) (lo : Int32) (hi : Int32) (w : Int64) (up : Int32) : Prop := True
def f_M_worthOne (σ : g_S) (lo : Int32) (hi : Int32) (w : Int64) (up : Int32) : Int64 := (if lo ≤ (σ.1 0 5) then f_M_worthOne_12_2 σ lo hi w up else f_M_worthOne_8_25 σ lo hi w up)
def k_M_worthOne (σ : g_S) (lo : Int32) (hi : Int32) (w : Int64) (up : Int32) : Prop := (if lo ≤ (σ.1 0 5) then k_M_worthOne_12_2 σ lo hi w up else k_M_worthOne_8_25 σ lo hi w up)
set_option maxHeartbeats 4000000 in
set_option maxRecDepth 100000 in
theorem c_M_worthOne (l : Launch) (dC : Nat → ClassId) (dI : Nat → Nat → Nat) (dA : Nat → ClassId) (ad : Nat → Nat) (σ : g_S) (lo : Int32) (hi : Int32) (w : Int64) (up : Int32) (hQ : k_M_worthOne σ lo hi w up) : Met l y_M_worthOne w_M_worthOne ({ frames := 2, cells := 0, slots := 0, locals := 50 }) (va_Pc [.ref (ad 0), .int lo, .int hi, .long w, .int up] (g_R (dC, dI) cls (r_tys dA) (g_w r_sh dA ad σ) r_Z)) (vp_Sl (fun r => r = f_M_worthOne σ lo hi w up)) 0 0 (fun _ => False) := by
  refine Met.ofW (cc := b_M_worthOne) (maxL := 6) (ret := (some .long)) (by decide) rfl ?_
  intro p e s m args below meth c s₁ B hml hv
  obtain ⟨rfl, hP, hK, hz⟩ := hv
  have hx := B.exec
  have hb := B.bytes
  have hr := B.returns
  have hts := atoms_spec (ws := w_M_worthOne) B.pre
  have ht := fun (w : Cond) (h : w ∈ gA) => hts w (List.mem_cons_of_mem _ h)
  have hown : s.vm.findClass "RangedPoolModel" = some m.cls := findClass_of_methodNamed B.named
  have hlocks := B.notSynchronized
  have hS : va_S (fun _ => False) s.heap s.heap [] := va_S.rf
  have hl := lv_entry ([.ref (ad 0), .int lo, .int hi, .long w, .int up]) (n := 6) (Nat.le_of_ble_eq_true rfl)
  rw [lg_entry_eq]
  generalize (lg_sl ([.ref (ad 0), .int lo, .int hi, .long w, .int up]) ++ List.replicate (6 - (lg_sl ([.ref (ad 0), .int lo, .int hi, .long w, .int up])).length) Slot.unset).toArray = ls at hl ⊢
  have hl : lv_has ls 6 [(0, .ref (ad 0)), (1, .int lo), (2, .int hi), (3, .long w), (5, .int up)] := hl
  have hF : f_M_worthOne σ lo hi w up = f_M_worthOne σ lo hi w up := rfl
  refine lv_aload_n hx hb d_M_worthOne_0 rfl (lv_at hl 0 rfl) ?_
  refine g_get hx hb ht in_M hown hK hP (0) r_at0 rfl 5 (by decide) rfl (ht _ kw466) (fun _ h9 => h9) (v := .int (σ.1 0 5)) rfl d_M_worthOne_1 ?_
  refine lv_iload_n hx hb d_M_worthOne_4 rfl (lv_at hl 1 rfl) ?_
  refine lv_icmp_ge (tgt := 12) hx hb d_M_worthOne_5 (by decide) (fun c1 => ?_) (fun c1 => ?_)
  ·
    have c1 : lo ≤ (σ.1 0 5) := c1
    have hF : f_M_worthOne σ lo hi w up = f_M_worthOne_12_2 σ lo hi w up := hF.trans (if_pos c1)
    have hQ : k_M_worthOne_12_2 σ lo hi w up := Eq.mp (if_pos c1) hQ
    refine lv_aload_n hx hb d_M_worthOne_12 rfl (lv_at hl 0 rfl) ?_
    refine g_get hx hb ht in_M hown hK hP (0) r_at0 rfl 5 (by decide) rfl (ht _ kw466) (fun _ h9 => h9) (v := .int (σ.1 0 5)) rfl d_M_worthOne_13 ?_
    refine lv_iload_n hx hb d_M_worthOne_16 rfl (lv_at hl 2 rfl) ?_
    refine lv_icmp_lt (tgt := 39) hx hb d_M_worthOne_17 (by decide) (fun c3 => ?_) (fun c3 => ?_)
    ·
      have c3 : (σ.1 0 5) < hi := c3
      have hF : f_M_worthOne σ lo hi w up = f_M_worthOne_39_4 σ lo hi w up := hF.trans (if_pos c3)
      have hQ : k_M_worthOne_39_4 σ lo hi w up := Eq.mp (if_pos c3) hQ
      refine lv_aload_n hx hb d_M_worthOne_39 rfl (lv_at hl 0 rfl) ?_
      refine lv_iload_n hx hb d_M_worthOne_40 rfl (lv_at hl 1 rfl) ?_
      obtain ⟨hs5, hQ⟩ := hQ
      refine g_cSl (va_runV (As := [.int lo]) (rest := []) ⟨hx, hb, hml, hown, ht⟩ (c_M_price l dC dI dA ad σ lo hs5) (cwV 1 ht gc_M_89 rfl rfl rfl (by decide +kernel) ⟨Nat.le_of_ble_eq_true rfl, Nat.le_of_ble_eq_true rfl⟩) (g_pV (g_prR r_Zok hK hP hS hz _) (g_rc hK hP (0) r_at0 rfl)) rfl rfl hl.1 rfl (lv_room (Nat.le_of_ble_eq_true rfl)) d_M_worthOne_41 ⟨Nat.le_of_ble_eq_true rfl, Nat.le_of_ble_eq_true rfl⟩) (fun r6 e7 => ?_)
      have hF : f_M_worthOne σ lo hi w up = f_M_worthOne_41_8 σ lo hi w up r6 := hF.trans (by rw [e7]; try rfl)
      have hQ : k_M_worthOne_41_8 σ lo hi w up r6 := by rw [e7]; exact hQ
      refine lv_aload_n hx hb d_M_worthOne_44 rfl (lv_at hl 0 rfl) ?_
      refine g_get hx hb ht in_M hown hK hP (0) r_at0 rfl 4 (by decide) rfl (ht _ kw465) (fun _ h9 => h9) (v := .long (σ.2 0 4)) rfl d_M_worthOne_45 ?_
      refine lv_lload_n hx hb d_M_worthOne_48 rfl (lv_at hl 3 rfl) ?_
      refine lv_iload hx hb d_M_worthOne_49 (lv_at hl 4 rfl) ?_
      obtain ⟨hs9, hQ⟩ := hQ
      refine g_cSlE (va_runS (As := [.long r6, .long (σ.2 0 4), .long w, .int up]) (rest := []) ⟨hx, hb, hml, hown, ht⟩ (c_M_one l r6 (σ.2 0 4) w up hs9) (va_cwS 4 ht gc_M_109 rfl rfl rfl (by decide +kernel) ⟨Nat.le_of_ble_eq_true rfl, Nat.le_of_ble_eq_true rfl⟩) (g_pr0 _) rfl rfl hl.1 rfl (lv_room (Nat.le_of_ble_eq_true rfl)) d_M_worthOne_51 ⟨Nat.le_of_ble_eq_true rfl, Nat.le_of_ble_eq_true rfl⟩) ?_
      exact W.lret (v := f_M_one r6 (σ.2 0 4) w up) hx hb hr (fun t hh hW => ⟨_, rfl, hF.symm, hh⟩) (fun _ h => by cases h) d_M_worthOne_54
    ·
      have c3 : ¬ ((σ.1 0 5) < hi) := c3
      have hF : f_M_worthOne σ lo hi w up = f_M_worthOne_20_12 σ lo hi w up := hF.trans (if_neg c3)
      have hQ : k_M_worthOne_20_12 σ lo hi w up := Eq.mp (if_neg c3) hQ
      refine lv_aload_n hx hb d_M_worthOne_20 rfl (lv_at hl 0 rfl) ?_
      refine lv_iload_n hx hb d_M_worthOne_21 rfl (lv_at hl 1 rfl) ?_
      obtain ⟨hs13, hQ⟩ := hQ
      refine g_cSl (va_runV (As := [.int lo]) (rest := []) ⟨hx, hb, hml, hown, ht⟩ (c_M_price l dC dI dA ad σ lo hs13) (cwV 1 ht gc_M_89 rfl rfl rfl (by decide +kernel) ⟨Nat.le_of_ble_eq_true rfl, Nat.le_of_ble_eq_true rfl⟩) (g_pV (g_prR r_Zok hK hP hS hz _) (g_rc hK hP (0) r_at0 rfl)) rfl rfl hl.1 rfl (lv_room (Nat.le_of_ble_eq_true rfl)) d_M_worthOne_22 ⟨Nat.le_of_ble_eq_true rfl, Nat.le_of_ble_eq_true rfl⟩) (fun r14 e15 => ?_)
      have hF : f_M_worthOne σ lo hi w up = f_M_worthOne_22_16 σ lo hi w up r14 := hF.trans (by rw [e15]; try rfl)
      have hQ : k_M_worthOne_22_16 σ lo hi w up r14 := by rw [e15]; exact hQ
      refine lv_aload_n hx hb d_M_worthOne_25 rfl (lv_at hl 0 rfl) ?_
      refine lv_iload_n hx hb d_M_worthOne_26 rfl (lv_at hl 2 rfl) ?_
      obtain ⟨hs17, hQ⟩ := hQ
      refine g_cSl (va_runV (As := [.int hi]) (rest := [.long r14]) ⟨hx, hb, hml, hown, ht⟩ (c_M_price l dC dI dA ad σ hi hs17) (cwV 1 ht gc_M_89 rfl rfl rfl (by decide +kernel) ⟨Nat.le_of_ble_eq_true rfl, Nat.le_of_ble_eq_true rfl⟩) (g_pV (g_prR r_Zok hK hP hS hz _) (g_rc hK hP (0) r_at0 rfl)) rfl rfl hl.1 rfl (lv_room (Nat.le_of_ble_eq_true rfl)) d_M_worthOne_27 ⟨Nat.le_of_ble_eq_true rfl, Nat.le_of_ble_eq_true rfl⟩) (fun r18 e19 => ?_)
      have hF : f_M_worthOne σ lo hi w up = f_M_worthOne_27_20 σ lo hi w up r14 r18 := hF.trans (by rw [e19]; try rfl)
      have hQ : k_M_worthOne_27_20 σ lo hi w up r14 r18 := by rw [e19]; exact hQ
      refine lv_lload_n hx hb d_M_worthOne_30 rfl (lv_at hl 3 rfl) ?_
      refine lv_iload hx hb d_M_worthOne_31 (lv_at hl 4 rfl) ?_
      obtain ⟨hs21, hQ⟩ := hQ
      refine g_cSl (va_runS (As := [.long r14, .long r18, .long w, .int up]) (rest := []) ⟨hx, hb, hml, hown, ht⟩ (c_M_one l r14 r18 w up hs21) (va_cwS 4 ht gc_M_109 rfl rfl rfl (by decide +kernel) ⟨Nat.le_of_ble_eq_true rfl, Nat.le_of_ble_eq_true rfl⟩) (g_pr0 _) rfl rfl hl.1 rfl (lv_room (Nat.le_of_ble_eq_true rfl)) d_M_worthOne_33 ⟨Nat.le_of_ble_eq_true rfl, Nat.le_of_ble_eq_true rfl⟩) (fun r22 e23 => ?_)
      have hF : f_M_worthOne σ lo hi w up = f_M_worthOne_33_24 σ lo hi w up r14 r18 r22 := hF.trans (by rw [e23]; try rfl)
      have hQ : k_M_worthOne_33_24 σ lo hi w up r14 r18 r22 := by rw [e23]; exact hQ
      refine lv_goto (tgt := 54) hx hb d_M_worthOne_36 (by decide) ?_
      exact W.lret (v := r22) hx hb hr (fun t hh hW => ⟨_, rfl, hF.symm, hh⟩) (fun _ h => by cases h) d_M_worthOne_54
  ·
    have c1 : ¬ (lo ≤ (σ.1 0 5)) := c1
    have hF : f_M_worthOne σ lo hi w up = f_M_worthOne_8_25 σ lo hi w up := hF.trans (if_neg c1)
    have hQ : k_M_worthOne_8_25 σ lo hi w up := Eq.mp (if_neg c1) hQ
    refine lv_lconst (v := (0 : Int64)) hx hb d_M_worthOne_8 (by decide) ?_
    refine lv_goto (tgt := 54) hx hb d_M_worthOne_9 (by decide) ?_
    exact W.lret (v := (0 : Int64)) hx hb hr (fun t hh hW => ⟨_, rfl, hF.symm, hh⟩) (fun _ h => by cases h) d_M_worthOne_54
def f_M_isRange_41_5 (σ : g_S) (lo : Int32) (hi : Int32) (r1 : Int32) : Int32 := (0 : Int32)
def k_M_isRange_41_5 (σ : g_S) (lo : Int32) (hi : Int32) (r1 : Int32) : Prop := True
def f_M_isRange_41_11 (σ : g_S) (lo : Int32) (hi : Int32) (r1 : Int32) (r7 : Int32) : Int32 := (0 : Int32)
def k_M_isRange_41_11 (σ : g_S) (lo : Int32) (hi : Int32) (r1 : Int32) (r7 : Int32) : Prop := True
def f_M_isRange_41_14 (σ : g_S) (lo : Int32) (hi : Int32) (r1 : Int32) (r7 : Int32) : Int32 := (0 : Int32)
def k_M_isRange_41_14 (σ : g_S) (lo : Int32) (hi : Int32) (r1 : Int32) (r7 : Int32) : Prop := True
def f_M_isRange_41_18 (σ : g_S) (lo : Int32) (hi : Int32) (r1 : Int32) (r7 : Int32) : Int32 := (0 : Int32)
def k_M_isRange_41_18 (σ : g_S) (lo : Int32) (hi : Int32) (r1 : Int32) (r7 : Int32) : Prop := True
def f_M_isRange_41_22 (σ : g_S) (lo : Int32) (hi : Int32) (r1 : Int32) (r7 : Int32) : Int32 := (0 : Int32)
def k_M_isRange_41_22 (σ : g_S) (lo : Int32) (hi : Int32) (r1 : Int32) (r7 : Int32) : Prop := True
def f_M_isRange_37_23 (σ : g_S) (lo : Int32) (hi : Int32) (r1 : Int32) (r7 : Int32) : Int32 := (1 : Int32)
def k_M_isRange_37_23 (σ : g_S) (lo : Int32) (hi : Int32) (r1 : Int32) (r7 : Int32) : Prop := True
def f_M_isRange_28_19 (σ : g_S) (lo : Int32) (hi : Int32) (r1 : Int32) (r7 : Int32) : Int32 := (if (hi - hi / (σ.1 0 0) * (σ.1 0 0)) = 0 then f_M_isRange_37_23 σ lo hi r1 r7 else f_M_isRange_41_22 σ lo hi r1 r7)
def k_M_isRange_28_19 (σ : g_S) (lo : Int32) (hi : Int32) (r1 : Int32) (r7 : Int32) : Prop := (¬ (σ.1 0 0) = 0) ∧ (if (hi - hi / (σ.1 0 0) * (σ.1 0 0)) = 0 then k_M_isRange_37_23 σ lo hi r1 r7 else k_M_isRange_41_22 σ lo hi r1 r7)
def f_M_isRange_19_15 (σ : g_S) (lo : Int32) (hi : Int32) (r1 : Int32) (r7 : Int32) : Int32 := (if (lo - lo / (σ.1 0 0) * (σ.1 0 0)) = 0 then f_M_isRange_28_19 σ lo hi r1 r7 else f_M_isRange_41_18 σ lo hi r1 r7)
def k_M_isRange_19_15 (σ : g_S) (lo : Int32) (hi : Int32) (r1 : Int32) (r7 : Int32) : Prop := (¬ (σ.1 0 0) = 0) ∧ (if (lo - lo / (σ.1 0 0) * (σ.1 0 0)) = 0 then k_M_isRange_28_19 σ lo hi r1 r7 else k_M_isRange_41_18 σ lo hi r1 r7)
def f_M_isRange_14_12 (σ : g_S) (lo : Int32) (hi : Int32) (r1 : Int32) (r7 : Int32) : Int32 := (if hi ≤ lo then f_M_isRange_41_14 σ lo hi r1 r7 else f_M_isRange_19_15 σ lo hi r1 r7)
def k_M_isRange_14_12 (σ : g_S) (lo : Int32) (hi : Int32) (r1 : Int32) (r7 : Int32) : Prop := (if hi ≤ lo then k_M_isRange_41_14 σ lo hi r1 r7 else k_M_isRange_19_15 σ lo hi r1 r7)
def f_M_isRange_8_9 (σ : g_S) (lo : Int32) (hi : Int32) (r1 : Int32) (r7 : Int32) : Int32 := (if r7 = 0 then f_M_isRange_41_11 σ lo hi r1 r7 else f_M_isRange_14_12 σ lo hi r1 r7)
def k_M_isRange_8_9 (σ : g_S) (lo : Int32) (hi : Int32) (r1 : Int32) (r7 : Int32) : Prop := (if r7 = 0 then k_M_isRange_41_11 σ lo hi r1 r7 else k_M_isRange_14_12 σ lo hi r1 r7)
def f_M_isRange_7_6 (σ : g_S) (lo : Int32) (hi : Int32) (r1 : Int32) : Int32 := (f_M_isRange_8_9 σ lo hi r1 (f_M_isStep hi))
def k_M_isRange_7_6 (σ : g_S) (lo : Int32) (hi : Int32) (r1 : Int32) : Prop := (k_M_isRange_8_9 σ lo hi r1 (f_M_isStep hi))
def f_M_isRange_1_3 (σ : g_S) (lo : Int32) (hi : Int32) (r1 : Int32) : Int32 := (if r1 = 0 then f_M_isRange_41_5 σ lo hi r1 else f_M_isRange_7_6 σ lo hi r1)
def k_M_isRange_1_3 (σ : g_S) (lo : Int32) (hi : Int32) (r1 : Int32) : Prop := (if r1 = 0 then k_M_isRange_41_5 σ lo hi r1 else k_M_isRange_7_6 σ lo hi r1)
def f_M_isRange (σ : g_S) (lo : Int32) (hi : Int32) : Int32 := (f_M_isRange_1_3 σ lo hi (f_M_isStep lo))
def k_M_isRange (σ : g_S) (lo : Int32) (hi : Int32) : Prop := (k_M_isRange_1_3 σ lo hi (f_M_isStep lo))
set_option maxHeartbeats 4000000 in
set_option maxRecDepth 100000 in
theorem c_M_isRange (l : Launch) (dC : Nat → ClassId) (dI : Nat → Nat → Nat) (dA : Nat → ClassId) (ad : Nat → Nat) (σ : g_S) (lo : Int32) (hi : Int32) (hQ : k_M_isRange σ lo hi) : Met l y_M_isRange w_M_isRange ({ frames := 1, cells := 0, slots := 0, locals := 20 }) (va_Pc [.ref (ad 0), .int lo, .int hi] (g_R (dC, dI) cls (r_tys dA) (g_w r_sh dA ad σ) r_Z)) (vp_Si (fun r => r = f_M_isRange σ lo hi)) 0 0 (fun _ => False) := by
  refine Met.ofW (cc := b_M_isRange) (maxL := 3) (ret := (some .boolean)) (by decide) rfl ?_
  intro p e s m args below meth c s₁ B hml hv
  obtain ⟨rfl, hP, hK, hz⟩ := hv
  have hx := B.exec
  have hb := B.bytes
  have hr := B.returns
  have hts := atoms_spec (ws := w_M_isRange) B.pre
  have ht := fun (w : Cond) (h : w ∈ gA) => hts w (List.mem_cons_of_mem _ h)
  have hown : s.vm.findClass "RangedPoolModel" = some m.cls := findClass_of_methodNamed B.named
  have hlocks := B.notSynchronized
  have hS : va_S (fun _ => False) s.heap s.heap [] := va_S.rf
  have hl := lv_entry ([.ref (ad 0), .int lo, .int hi]) (n := 3) (Nat.le_of_ble_eq_true rfl)
  rw [lg_entry_eq]
  generalize (lg_sl ([.ref (ad 0), .int lo, .int hi]) ++ List.replicate (3 - (lg_sl ([.ref (ad 0), .int lo, .int hi])).length) Slot.unset).toArray = ls at hl ⊢
  have hl : lv_has ls 3 [(0, .ref (ad 0)), (1, .int lo), (2, .int hi)] := hl
  have hF : f_M_isRange σ lo hi = f_M_isRange σ lo hi := rfl
  refine lv_iload_n hx hb d_M_isRange_0 rfl (lv_at hl 1 rfl) ?_
  refine g_cSi (va_runS (As := [.int lo]) (rest := []) ⟨hx, hb, hml, hown, ht⟩ (c_M_isStep l lo) (va_cwS 1 ht gc_M_82 rfl rfl rfl (by decide +kernel) ⟨Nat.le_of_ble_eq_true rfl, Nat.le_of_ble_eq_true rfl⟩) (g_pr0 _) rfl rfl hl.1 rfl (lv_room (Nat.le_of_ble_eq_true rfl)) d_M_isRange_1 ⟨Nat.le_of_ble_eq_true rfl, Nat.le_of_ble_eq_true rfl⟩) (fun r1 e2 => ?_)
  have hF : f_M_isRange σ lo hi = f_M_isRange_1_3 σ lo hi r1 := hF.trans (by rw [e2]; try rfl)
  have hQ : k_M_isRange_1_3 σ lo hi r1 := by rw [e2]; exact hQ
  refine lv_if_eq (tgt := 41) hx hb d_M_isRange_4 (by decide) (fun c4 => ?_) (fun c4 => ?_)
  ·
    have c4 : r1 = 0 := c4
    have hF : f_M_isRange σ lo hi = f_M_isRange_41_5 σ lo hi r1 := hF.trans (if_pos c4)
    have hQ : k_M_isRange_41_5 σ lo hi r1 := Eq.mp (if_pos c4) hQ
    refine lv_iconst (v := (0 : Int32)) hx hb d_M_isRange_41 (by decide) ?_
    exact W.zret (ty := .boolean) (v := (0 : Int32)) hx hb hr (g_zr (by decide)) (fun t hh hW => ⟨_, rfl, hF.symm, hh⟩) (fun _ h => by cases h) d_M_isRange_42
  ·
    have c4 : ¬ (r1 = 0) := c4
    have hF : f_M_isRange σ lo hi = f_M_isRange_7_6 σ lo hi r1 := hF.trans (if_neg c4)
    have hQ : k_M_isRange_7_6 σ lo hi r1 := Eq.mp (if_neg c4) hQ
    refine lv_iload_n hx hb d_M_isRange_7 rfl (lv_at hl 2 rfl) ?_
    refine g_cSi (va_runS (As := [.int hi]) (rest := []) ⟨hx, hb, hml, hown, ht⟩ (c_M_isStep l hi) (va_cwS 1 ht gc_M_82 rfl rfl rfl (by decide +kernel) ⟨Nat.le_of_ble_eq_true rfl, Nat.le_of_ble_eq_true rfl⟩) (g_pr0 _) rfl rfl hl.1 rfl (lv_room (Nat.le_of_ble_eq_true rfl)) d_M_isRange_8 ⟨Nat.le_of_ble_eq_true rfl, Nat.le_of_ble_eq_true rfl⟩) (fun r7 e8 => ?_)
    have hF : f_M_isRange σ lo hi = f_M_isRange_8_9 σ lo hi r1 r7 := hF.trans (by rw [e8]; try rfl)
    have hQ : k_M_isRange_8_9 σ lo hi r1 r7 := by rw [e8]; exact hQ
    refine lv_if_eq (tgt := 41) hx hb d_M_isRange_11 (by decide) (fun c10 => ?_) (fun c10 => ?_)
    ·
      have c10 : r7 = 0 := c10
      have hF : f_M_isRange σ lo hi = f_M_isRange_41_11 σ lo hi r1 r7 := hF.trans (if_pos c10)
      have hQ : k_M_isRange_41_11 σ lo hi r1 r7 := Eq.mp (if_pos c10) hQ
      refine lv_iconst (v := (0 : Int32)) hx hb d_M_isRange_41 (by decide) ?_
      exact W.zret (ty := .boolean) (v := (0 : Int32)) hx hb hr (g_zr (by decide)) (fun t hh hW => ⟨_, rfl, hF.symm, hh⟩) (fun _ h => by cases h) d_M_isRange_42
    ·
      have c10 : ¬ (r7 = 0) := c10
      have hF : f_M_isRange σ lo hi = f_M_isRange_14_12 σ lo hi r1 r7 := hF.trans (if_neg c10)
      have hQ : k_M_isRange_14_12 σ lo hi r1 r7 := Eq.mp (if_neg c10) hQ
      refine lv_iload_n hx hb d_M_isRange_14 rfl (lv_at hl 1 rfl) ?_
      refine lv_iload_n hx hb d_M_isRange_15 rfl (lv_at hl 2 rfl) ?_
      refine lv_icmp_ge (tgt := 41) hx hb d_M_isRange_16 (by decide) (fun c13 => ?_) (fun c13 => ?_)
      ·
        have c13 : hi ≤ lo := c13
        have hF : f_M_isRange σ lo hi = f_M_isRange_41_14 σ lo hi r1 r7 := hF.trans (if_pos c13)
        have hQ : k_M_isRange_41_14 σ lo hi r1 r7 := Eq.mp (if_pos c13) hQ
        refine lv_iconst (v := (0 : Int32)) hx hb d_M_isRange_41 (by decide) ?_
        exact W.zret (ty := .boolean) (v := (0 : Int32)) hx hb hr (g_zr (by decide)) (fun t hh hW => ⟨_, rfl, hF.symm, hh⟩) (fun _ h => by cases h) d_M_isRange_42
      ·
        have c13 : ¬ (hi ≤ lo) := c13
        have hF : f_M_isRange σ lo hi = f_M_isRange_19_15 σ lo hi r1 r7 := hF.trans (if_neg c13)
        have hQ : k_M_isRange_19_15 σ lo hi r1 r7 := Eq.mp (if_neg c13) hQ
        refine lv_iload_n hx hb d_M_isRange_19 rfl (lv_at hl 1 rfl) ?_
        refine lv_aload_n hx hb d_M_isRange_20 rfl (lv_at hl 0 rfl) ?_
        refine g_get hx hb ht in_M hown hK hP (0) r_at0 rfl 0 (by decide) rfl (ht _ kw461) (fun _ h9 => h9) (v := .int (σ.1 0 0)) rfl d_M_isRange_21 ?_
        obtain ⟨hs16, hQ⟩ := hQ
        refine lv_irem hx hb d_M_isRange_24 (hs16) ?_
        refine lv_if_ne (tgt := 41) hx hb d_M_isRange_25 (by decide) (fun c17 => ?_) (fun c17 => ?_)
        ·
          have c17 : ¬ ((lo - lo / (σ.1 0 0) * (σ.1 0 0)) = 0) := c17
          have hF : f_M_isRange σ lo hi = f_M_isRange_41_18 σ lo hi r1 r7 := hF.trans (if_neg c17)
          have hQ : k_M_isRange_41_18 σ lo hi r1 r7 := Eq.mp (if_neg c17) hQ
          refine lv_iconst (v := (0 : Int32)) hx hb d_M_isRange_41 (by decide) ?_
          exact W.zret (ty := .boolean) (v := (0 : Int32)) hx hb hr (g_zr (by decide)) (fun t hh hW => ⟨_, rfl, hF.symm, hh⟩) (fun _ h => by cases h) d_M_isRange_42
        ·
          have c17 : (lo - lo / (σ.1 0 0) * (σ.1 0 0)) = 0 := c17
          have hF : f_M_isRange σ lo hi = f_M_isRange_28_19 σ lo hi r1 r7 := hF.trans (if_pos c17)
          have hQ : k_M_isRange_28_19 σ lo hi r1 r7 := Eq.mp (if_pos c17) hQ
          refine lv_iload_n hx hb d_M_isRange_28 rfl (lv_at hl 2 rfl) ?_
          refine lv_aload_n hx hb d_M_isRange_29 rfl (lv_at hl 0 rfl) ?_
          refine g_get hx hb ht in_M hown hK hP (0) r_at0 rfl 0 (by decide) rfl (ht _ kw461) (fun _ h9 => h9) (v := .int (σ.1 0 0)) rfl d_M_isRange_30 ?_
          obtain ⟨hs20, hQ⟩ := hQ
          refine lv_irem hx hb d_M_isRange_33 (hs20) ?_
          refine lv_if_ne (tgt := 41) hx hb d_M_isRange_34 (by decide) (fun c21 => ?_) (fun c21 => ?_)
          ·
            have c21 : ¬ ((hi - hi / (σ.1 0 0) * (σ.1 0 0)) = 0) := c21
            have hF : f_M_isRange σ lo hi = f_M_isRange_41_22 σ lo hi r1 r7 := hF.trans (if_neg c21)
            have hQ : k_M_isRange_41_22 σ lo hi r1 r7 := Eq.mp (if_neg c21) hQ
            refine lv_iconst (v := (0 : Int32)) hx hb d_M_isRange_41 (by decide) ?_
            exact W.zret (ty := .boolean) (v := (0 : Int32)) hx hb hr (g_zr (by decide)) (fun t hh hW => ⟨_, rfl, hF.symm, hh⟩) (fun _ h => by cases h) d_M_isRange_42
          ·
            have c21 : (hi - hi / (σ.1 0 0) * (σ.1 0 0)) = 0 := c21
            have hF : f_M_isRange σ lo hi = f_M_isRange_37_23 σ lo hi r1 r7 := hF.trans (if_pos c21)
            have hQ : k_M_isRange_37_23 σ lo hi r1 r7 := Eq.mp (if_pos c21) hQ
            refine lv_iconst (v := (1 : Int32)) hx hb d_M_isRange_37 (by decide) ?_
            refine lv_goto (tgt := 42) hx hb d_M_isRange_38 (by decide) ?_
            exact W.zret (ty := .boolean) (v := (1 : Int32)) hx hb hr (g_zr (by decide)) (fun t hh hW => ⟨_, rfl, hF.symm, hh⟩) (fun _ h => by cases h) d_M_isRange_42
