def f_M_marked_66_5 (σ : g_S) (n : Int32) (b2 : Int32) : Int32 := b2
def k_M_marked_66_5 (σ : g_S) (n : Int32) (b2 : Int32) : Prop := (b2 = 0 ∨ b2 = 1) ∧ True
def f_M_marked_L4 (σ : g_S) (n : Int32) : Nat → Nat → Int32 → Int32
  | 0, jk, a1 => (a1)
  | jn + 1, jk, a1 => f_M_marked_L4 σ n jn (jk + 1) (if a1 = 0 then (if (σ.1 4 jk) = 0 then (0 : Int32) else (if (σ.2 8 jk) ≤ (0 : Int64) then (0 : Int32) else (if (σ.1 6 jk) = n then (1 : Int32) else (if (σ.1 7 jk) = n then (1 : Int32) else (0 : Int32))))) else (1 : Int32))
def f_M_marked (σ : g_S) (n : Int32) : Int32 := (f_M_marked_66_5 σ n (f_M_marked_L4 σ n 10 0 (0 : Int32)))
def k_M_marked (σ : g_S) (n : Int32) : Prop := (k_M_marked_66_5 σ n (f_M_marked_L4 σ n 10 0 (0 : Int32)))
set_option maxHeartbeats 4000000 in
set_option maxRecDepth 100000 in
theorem c_M_marked (l : Launch) (dC : Nat → ClassId) (dI : Nat → Nat → Nat) (dA : Nat → ClassId) (ad : Nat → Nat) (σ : g_S) (n : Int32) (hQ : k_M_marked σ n) : Met l y_M_marked w_M_marked ({ frames := 0, cells := 0, slots := 0, locals := 0 }) (va_Pc [.ref (ad 0), .int n] (g_R (dC, dI) cls (r_tys dA) (g_w r_sh dA ad σ) r_Z)) (vp_Si (fun r => r = f_M_marked σ n)) 0 0 (fun _ => False) := by
  refine Met.ofW (cc := b_M_marked) (maxL := 4) (ret := (some .boolean)) (by decide) rfl ?_
  intro p e s m args below meth c s₁ B hml hv
  obtain ⟨rfl, hP, hK, hz⟩ := hv
  have hx := B.exec
  have hb := B.bytes
  have hr := B.returns
  have hts := atoms_spec (ws := w_M_marked) B.pre
  have ht := fun (w : Cond) (h : w ∈ gA) => hts w (List.mem_cons_of_mem _ h)
  have hown : s.vm.findClass "RangedPoolModel" = some m.cls := findClass_of_methodNamed B.named
  have hlocks := B.notSynchronized
  have hS : va_S (fun _ => False) s.heap s.heap [] := va_S.rf
  have hl := lv_entry ([.ref (ad 0), .int n]) (n := 4) (Nat.le_of_ble_eq_true rfl)
  rw [lg_entry_eq]
  generalize (lg_sl ([.ref (ad 0), .int n]) ++ List.replicate (4 - (lg_sl ([.ref (ad 0), .int n])).length) Slot.unset).toArray = ls at hl ⊢
  have hl : lv_has ls 4 [(0, .ref (ad 0)), (1, .int n)] := hl
  have hF : f_M_marked σ n = f_M_marked σ n := rfl
  refine lv_iconst (v := (0 : Int32)) hx hb d_M_marked_0 (by decide) ?_
  refine lv_istore_n (lv' := [(2, .int (0 : Int32)), (0, .ref (ad 0)), (1, .int n)]) hx hb d_M_marked_1 rfl hl (by decide) rfl (fun ls hl => ?_)
  refine lv_iconst (v := (0 : Int32)) hx hb d_M_marked_2 (by decide) ?_
  refine lv_istore_n (lv' := [(3, .int (0 : Int32)), (2, .int (0 : Int32)), (0, .ref (ad 0)), (1, .int n)]) hx hb d_M_marked_3 rfl hl (by decide) rfl (fun ls hl => ?_)
  have J66_3 : ∀ (b2 : Int32) (ls : Array Slot), b2 = (f_M_marked_L4 σ n 10 0 (0 : Int32)) → lv_has ls 4 [(2, .int b2)] → W p l e (headSpec w_M_marked ({ frames := 0, cells := 0, slots := 0, locals := 0 })).room s m ([.ref (ad 0), .int n] : List Value).toArray below meth c s.heap [] 0 0 (MQ below (vp_Si (fun r => r = f_M_marked σ n)) ([.ref (ad 0), .int n] : List Value).toArray s 0 0 (fun _ => False)) (F0 m 66 ls []) := by
    intro b2 ls e4 hl
    have hF : f_M_marked σ n = f_M_marked_66_5 σ n b2 := hF.trans (by rw [e4]; try rfl)
    have hQ : k_M_marked_66_5 σ n b2 := by rw [e4]; exact hQ
    refine lv_iload_n hx hb d_M_marked_66 rfl (lv_at hl 0 rfl) ?_
    obtain ⟨hs6, hQ⟩ := hQ
    exact W.zret (ty := .boolean) (v := b2) hx hb hr (g_zr hs6) (fun t hh hW => ⟨_, rfl, hF.symm, hh⟩) (fun _ h => by cases h) d_M_marked_67
  have LL4_7 : ∀ (jn : Nat) (jk : Nat) (a1 : Int32) (ls : Array Slot), jk + jn = 10 → f_M_marked_L4 σ n 10 0 (0 : Int32) = f_M_marked_L4 σ n jn jk a1 → lv_has ls 4 [(3, .int (Int32.ofNat jk)), (2, .int a1), (0, .ref (ad 0)), (1, .int n)] → W p l e (headSpec w_M_marked ({ frames := 0, cells := 0, slots := 0, locals := 0 })).room s m ([.ref (ad 0), .int n] : List Value).toArray below meth c s.heap [] 0 0 (MQ below (vp_Si (fun r => r = f_M_marked σ n)) ([.ref (ad 0), .int n] : List Value).toArray s 0 0 (fun _ => False)) (F0 m 4 ls []) := by
    intro jn
    induction jn with
    | zero =>
      intro jk a1 ls hkn hF hl
      have hF : f_M_marked_L4 σ n 10 0 (0 : Int32) = (a1) := hF
      skip
      refine lv_iload_n hx hb d_M_marked_4 rfl (lv_at hl 0 rfl) ?_
      refine lv_bipush (v := (10 : Int32)) hx hb d_M_marked_5 (by decide) ?_
      refine lv_icmp_ge (tgt := 66) hx hb d_M_marked_7 (by decide) (fun _ => ?_) (fun c8 => absurd (g_geN (N := 10) (by omega)) c8)
      exact J66_3 a1 ls hF.symm (lv_sub hl [1] rfl)
    | succ jn ih =>
      intro jk a1 ls hkn hF hl
      have hF : f_M_marked_L4 σ n 10 0 (0 : Int32) = f_M_marked_L4 σ n jn (jk + 1) (if a1 = 0 then (if (σ.1 4 jk) = 0 then (0 : Int32) else (if (σ.2 8 jk) ≤ (0 : Int64) then (0 : Int32) else (if (σ.1 6 jk) = n then (1 : Int32) else (if (σ.1 7 jk) = n then (1 : Int32) else (0 : Int32))))) else (1 : Int32)) := hF
      skip
      refine lv_iload_n hx hb d_M_marked_4 rfl (lv_at hl 0 rfl) ?_
      refine lv_bipush (v := (10 : Int32)) hx hb d_M_marked_5 (by decide) ?_
      refine lv_icmp_ge (tgt := 66) hx hb d_M_marked_7 (by decide) (fun c9 => absurd c9 (g_lt (N := 10) (by omega) (by decide))) (fun _ => ?_)
      refine lv_iload_n hx hb d_M_marked_10 rfl (lv_at hl 1 rfl) ?_
      have J59_11 : ∀ (x10 : Int32) (ls : Array Slot), x10 = (if a1 = 0 then (if (σ.1 4 jk) = 0 then (0 : Int32) else (if (σ.2 8 jk) ≤ (0 : Int64) then (0 : Int32) else (if (σ.1 6 jk) = n then (1 : Int32) else (if (σ.1 7 jk) = n then (1 : Int32) else (0 : Int32))))) else (1 : Int32)) → lv_has ls 4 [(3, .int (Int32.ofNat jk)), (0, .ref (ad 0)), (1, .int n)] → W p l e (headSpec w_M_marked ({ frames := 0, cells := 0, slots := 0, locals := 0 })).room s m ([.ref (ad 0), .int n] : List Value).toArray below meth c s.heap [] 0 0 (MQ below (vp_Si (fun r => r = f_M_marked σ n)) ([.ref (ad 0), .int n] : List Value).toArray s 0 0 (fun _ => False)) (F0 m 59 ls [.int x10]) := by
        intro x10 ls e12 hl
        rw [e12]
        refine lv_istore_n (lv' := [(2, .int (if a1 = 0 then (if (σ.1 4 jk) = 0 then (0 : Int32) else (if (σ.2 8 jk) ≤ (0 : Int64) then (0 : Int32) else (if (σ.1 6 jk) = n then (1 : Int32) else (if (σ.1 7 jk) = n then (1 : Int32) else (0 : Int32))))) else (1 : Int32))), (3, .int (Int32.ofNat jk)), (0, .ref (ad 0)), (1, .int n)]) hx hb d_M_marked_59 rfl hl (by decide) rfl (fun ls hl => ?_)
        refine lv_iinc (v := Int32.ofNat (jk + 1)) (lv' := [(3, .int (Int32.ofNat (jk + 1))), (2, .int (if a1 = 0 then (if (σ.1 4 jk) = 0 then (0 : Int32) else (if (σ.2 8 jk) ≤ (0 : Int64) then (0 : Int32) else (if (σ.1 6 jk) = n then (1 : Int32) else (if (σ.1 7 jk) = n then (1 : Int32) else (0 : Int32))))) else (1 : Int32))), (0, .ref (ad 0)), (1, .int n)]) hx hb d_M_marked_60 hl (k := 1) rfl (g_inc jk) (by decide) rfl (fun ls hl => ?_)
        refine lv_goto (tgt := 4) hx hb d_M_marked_63 (by decide) ?_
        exact ih (jk + 1) (if a1 = 0 then (if (σ.1 4 jk) = 0 then (0 : Int32) else (if (σ.2 8 jk) ≤ (0 : Int64) then (0 : Int32) else (if (σ.1 6 jk) = n then (1 : Int32) else (if (σ.1 7 jk) = n then (1 : Int32) else (0 : Int32))))) else (1 : Int32)) ls (by omega) hF (lv_sub hl [0, 1, 2, 3] rfl)
      refine lv_if_ne (tgt := 54) hx hb d_M_marked_11 (by decide) (fun c13 => ?_) (fun c13 => ?_)
      ·
        have c13 : ¬ (a1 = 0) := c13
        refine lv_iconst (v := (1 : Int32)) hx hb d_M_marked_54 (by decide) ?_
        refine lv_goto (tgt := 59) hx hb d_M_marked_55 (by decide) ?_
        exact J59_11 (1 : Int32) ls (if_neg c13).symm (lv_sub hl [0, 2, 3] rfl)
      ·
        have c13 : a1 = 0 := c13
        refine lv_aload_n hx hb d_M_marked_14 rfl (lv_at hl 2 rfl) ?_
        refine g_get hx hb ht in_M hown hK hP (0) r_at0 rfl 8 (by decide) rfl (ht _ kw469) (fun _ h9 => h9) (v := .ref (ad 4)) rfl d_M_marked_15 ?_
        refine lv_iload_n hx hb d_M_marked_18 rfl (lv_at hl 0 rfl) ?_
        refine g_zald hx hb hK hP (4) r_at4 rfl (g_eix rfl (by omega) (by omega)) (j := jk) (g_ena rfl (by omega)) d_M_marked_19 ?_
        refine lv_if_eq (tgt := 58) hx hb d_M_marked_20 (by decide) (fun c14 => ?_) (fun c14 => ?_)
        ·
          have c14 : (σ.1 4 jk) = 0 := c14
          refine lv_iconst (v := (0 : Int32)) hx hb d_M_marked_58 (by decide) ?_
          exact J59_11 (0 : Int32) ls ((if_pos c13).trans (if_pos c14)).symm (lv_sub hl [0, 2, 3] rfl)
        ·
          have c14 : ¬ ((σ.1 4 jk) = 0) := c14
          refine lv_aload_n hx hb d_M_marked_23 rfl (lv_at hl 2 rfl) ?_
          refine g_get hx hb ht in_M hown hK hP (0) r_at0 rfl 12 (by decide) rfl (ht _ kw473) (fun _ h9 => h9) (v := .ref (ad 8)) rfl d_M_marked_24 ?_
          refine lv_iload_n hx hb d_M_marked_27 rfl (lv_at hl 0 rfl) ?_
          refine g_lald hx hb hK hP (8) r_at8 rfl (g_eix rfl (by omega) (by omega)) (j := jk) (g_ena rfl (by omega)) d_M_marked_28 ?_
          refine lv_lconst (v := (0 : Int64)) hx hb d_M_marked_29 (by decide) ?_
          refine W.lcmp hx hb d_M_marked_30 ?_
          refine lv_if_le (tgt := 58) hx hb d_M_marked_31 (by decide) (fun c15 => ?_) (fun c15 => ?_)
          ·
            have c15 : (σ.2 8 jk) ≤ (0 : Int64) := (lg_cmp_le _ _).mp c15
            refine lv_iconst (v := (0 : Int32)) hx hb d_M_marked_58 (by decide) ?_
            exact J59_11 (0 : Int32) ls (((if_pos c13).trans (if_neg c14)).trans (if_pos c15)).symm (lv_sub hl [0, 2, 3] rfl)
          ·
            have c15 : ¬ ((σ.2 8 jk) ≤ (0 : Int64)) := mt (lg_cmp_le _ _).mpr c15
            refine lv_aload_n hx hb d_M_marked_34 rfl (lv_at hl 2 rfl) ?_
            refine g_get hx hb ht in_M hown hK hP (0) r_at0 rfl 10 (by decide) rfl (ht _ kw471) (fun _ h9 => h9) (v := .ref (ad 6)) rfl d_M_marked_35 ?_
            refine lv_iload_n hx hb d_M_marked_38 rfl (lv_at hl 0 rfl) ?_
            refine g_iald hx hb hK hP (6) r_at6 rfl (g_eix rfl (by omega) (by omega)) (j := jk) (g_ena rfl (by omega)) d_M_marked_39 ?_
            refine lv_iload_n hx hb d_M_marked_40 rfl (lv_at hl 3 rfl) ?_
            refine lv_icmp_eq (tgt := 54) hx hb d_M_marked_41 (by decide) (fun c16 => ?_) (fun c16 => ?_)
            ·
              have c16 : (σ.1 6 jk) = n := c16
              refine lv_iconst (v := (1 : Int32)) hx hb d_M_marked_54 (by decide) ?_
              refine lv_goto (tgt := 59) hx hb d_M_marked_55 (by decide) ?_
              exact J59_11 (1 : Int32) ls ((((if_pos c13).trans (if_neg c14)).trans (if_neg c15)).trans (if_pos c16)).symm (lv_sub hl [0, 2, 3] rfl)
            ·
              have c16 : ¬ ((σ.1 6 jk) = n) := c16
              refine lv_aload_n hx hb d_M_marked_44 rfl (lv_at hl 2 rfl) ?_
              refine g_get hx hb ht in_M hown hK hP (0) r_at0 rfl 11 (by decide) rfl (ht _ kw472) (fun _ h9 => h9) (v := .ref (ad 7)) rfl d_M_marked_45 ?_
              refine lv_iload_n hx hb d_M_marked_48 rfl (lv_at hl 0 rfl) ?_
              refine g_iald hx hb hK hP (7) r_at7 rfl (g_eix rfl (by omega) (by omega)) (j := jk) (g_ena rfl (by omega)) d_M_marked_49 ?_
              refine lv_iload_n hx hb d_M_marked_50 rfl (lv_at hl 3 rfl) ?_
              refine lv_icmp_ne (tgt := 58) hx hb d_M_marked_51 (by decide) (fun c17 => ?_) (fun c17 => ?_)
              ·
                have c17 : ¬ ((σ.1 7 jk) = n) := c17
                refine lv_iconst (v := (0 : Int32)) hx hb d_M_marked_58 (by decide) ?_
                exact J59_11 (0 : Int32) ls (((((if_pos c13).trans (if_neg c14)).trans (if_neg c15)).trans (if_neg c16)).trans (if_neg c17)).symm (lv_sub hl [0, 2, 3] rfl)
              ·
                have c17 : (σ.1 7 jk) = n := c17
                refine lv_iconst (v := (1 : Int32)) hx hb d_M_marked_54 (by decide) ?_
                refine lv_goto (tgt := 59) hx hb d_M_marked_55 (by decide) ?_
                exact J59_11 (1 : Int32) ls (((((if_pos c13).trans (if_neg c14)).trans (if_neg c15)).trans (if_neg c16)).trans (if_pos c17)).symm (lv_sub hl [0, 2, 3] rfl)
  exact LL4_7 10 0 (0 : Int32) ls (by omega) rfl  (lv_sub hl [0, 1, 2, 3] rfl)
def f_M_nextStep_73_6 (σ : g_S) (dn : Int32) (b2 : Int32) : Int32 := b2
def k_M_nextStep_73_6 (σ : g_S) (dn : Int32) (b2 : Int32) : Prop := True
def f_M_nextStep_L6 (σ : g_S) (dn : Int32) : Nat → Nat → Int32 → Int32
  | 0, jk, a1 => (a1)
  | jn + 1, jk, a1 => f_M_nextStep_L6 σ dn jn (jk + 1) (if (if (f_M_marked σ (Int32.ofNat jk + (-24 : Int32))) = 0 then (0 : Int32) else (if dn = 0 then (if (Int32.ofNat jk + (-24 : Int32)) ≤ (σ.1 0 21) then (0 : Int32) else (if a1 = (99 : Int32) then (1 : Int32) else (0 : Int32))) else (if (σ.1 0 21) < (Int32.ofNat jk + (-24 : Int32)) then (0 : Int32) else (1 : Int32)))) = 0 then a1 else Int32.ofNat jk + (-24 : Int32))
def k_M_nextStep_L6 (σ : g_S) (dn : Int32) : Nat → Nat → Int32 → Prop
  | 0, jk, a1 => True
  | jn + 1, jk, a1 => (k_M_marked σ (Int32.ofNat jk + (-24 : Int32))) ∧ (k_M_nextStep_L6 σ dn jn (jk + 1) (if (if (f_M_marked σ (Int32.ofNat jk + (-24 : Int32))) = 0 then (0 : Int32) else (if dn = 0 then (if (Int32.ofNat jk + (-24 : Int32)) ≤ (σ.1 0 21) then (0 : Int32) else (if a1 = (99 : Int32) then (1 : Int32) else (0 : Int32))) else (if (σ.1 0 21) < (Int32.ofNat jk + (-24 : Int32)) then (0 : Int32) else (1 : Int32)))) = 0 then a1 else Int32.ofNat jk + (-24 : Int32)))
def f_M_nextStep (σ : g_S) (dn : Int32) : Int32 := (f_M_nextStep_73_6 σ dn (f_M_nextStep_L6 σ dn 49 0 (99 : Int32)))
def k_M_nextStep (σ : g_S) (dn : Int32) : Prop := (k_M_nextStep_L6 σ dn 49 0 (99 : Int32)) ∧ (k_M_nextStep_73_6 σ dn (f_M_nextStep_L6 σ dn 49 0 (99 : Int32)))
set_option maxHeartbeats 4000000 in
set_option maxRecDepth 100000 in
theorem c_M_nextStep (l : Launch) (dC : Nat → ClassId) (dI : Nat → Nat → Nat) (dA : Nat → ClassId) (ad : Nat → Nat) (σ : g_S) (dn : Int32) (hQ : k_M_nextStep σ dn) : Met l y_M_nextStep w_M_nextStep ({ frames := 1, cells := 0, slots := 0, locals := 23 }) (va_Pc [.ref (ad 0), .int dn] (g_R (dC, dI) cls (r_tys dA) (g_w r_sh dA ad σ) r_Z)) (vp_Si (fun r => r = f_M_nextStep σ dn)) 0 0 (fun _ => False) := by
  refine Met.ofW (cc := b_M_nextStep) (maxL := 5) (ret := (some .int)) (by decide) rfl ?_
  intro p e s m args below meth c s₁ B hml hv
  obtain ⟨rfl, hP, hK, hz⟩ := hv
  have hx := B.exec
  have hb := B.bytes
  have hr := B.returns
  have hts := atoms_spec (ws := w_M_nextStep) B.pre
  have ht := fun (w : Cond) (h : w ∈ gA) => hts w (List.mem_cons_of_mem _ h)
  have hown : s.vm.findClass "RangedPoolModel" = some m.cls := findClass_of_methodNamed B.named
  have hlocks := B.notSynchronized
  have hS : va_S (fun _ => False) s.heap s.heap [] := va_S.rf
  have hl := lv_entry ([.ref (ad 0), .int dn]) (n := 5) (Nat.le_of_ble_eq_true rfl)
  rw [lg_entry_eq]
  generalize (lg_sl ([.ref (ad 0), .int dn]) ++ List.replicate (5 - (lg_sl ([.ref (ad 0), .int dn])).length) Slot.unset).toArray = ls at hl ⊢
  have hl : lv_has ls 5 [(0, .ref (ad 0)), (1, .int dn)] := hl
  have hF : f_M_nextStep σ dn = f_M_nextStep σ dn := rfl
  refine lv_bipush (v := (99 : Int32)) hx hb d_M_nextStep_0 (by decide) ?_
  refine lv_istore_n (lv' := [(2, .int (99 : Int32)), (0, .ref (ad 0)), (1, .int dn)]) hx hb d_M_nextStep_2 rfl hl (by decide) rfl (fun ls hl => ?_)
  refine lv_bipush (v := (-24 : Int32)) hx hb d_M_nextStep_3 (by decide) ?_
  refine lv_istore_n (lv' := [(3, .int (-24 : Int32)), (2, .int (99 : Int32)), (0, .ref (ad 0)), (1, .int dn)]) hx hb d_M_nextStep_5 rfl hl (by decide) rfl (fun ls hl => ?_)
  obtain ⟨hT3, hQ⟩ := hQ
  have J73_4 : ∀ (b2 : Int32) (ls : Array Slot), b2 = (f_M_nextStep_L6 σ dn 49 0 (99 : Int32)) → lv_has ls 5 [(2, .int b2)] → W p l e (headSpec w_M_nextStep ({ frames := 1, cells := 0, slots := 0, locals := 23 })).room s m ([.ref (ad 0), .int dn] : List Value).toArray below meth c s.heap [] 0 0 (MQ below (vp_Si (fun r => r = f_M_nextStep σ dn)) ([.ref (ad 0), .int dn] : List Value).toArray s 0 0 (fun _ => False)) (F0 m 73 ls []) := by
    intro b2 ls e5 hl
    have hF : f_M_nextStep σ dn = f_M_nextStep_73_6 σ dn b2 := hF.trans (by rw [e5]; try rfl)
    have hQ : k_M_nextStep_73_6 σ dn b2 := by rw [e5]; exact hQ
    refine lv_iload_n hx hb d_M_nextStep_73 rfl (lv_at hl 0 rfl) ?_
    exact W.iret (v := b2) hx hb hr (fun t hh hW => ⟨_, rfl, hF.symm, hh⟩) (fun _ h => by cases h) d_M_nextStep_74
  have LL6_7 : ∀ (jn : Nat) (jk : Nat) (a1 : Int32) (ls : Array Slot), jk + jn = 49 → f_M_nextStep_L6 σ dn 49 0 (99 : Int32) = f_M_nextStep_L6 σ dn jn jk a1 → k_M_nextStep_L6 σ dn jn jk a1 → lv_has ls 5 [(3, .int (Int32.ofNat jk + (-24 : Int32))), (2, .int a1), (0, .ref (ad 0)), (1, .int dn)] → W p l e (headSpec w_M_nextStep ({ frames := 1, cells := 0, slots := 0, locals := 23 })).room s m ([.ref (ad 0), .int dn] : List Value).toArray below meth c s.heap [] 0 0 (MQ below (vp_Si (fun r => r = f_M_nextStep σ dn)) ([.ref (ad 0), .int dn] : List Value).toArray s 0 0 (fun _ => False)) (F0 m 6 ls []) := by
    intro jn
    induction jn with
    | zero =>
      intro jk a1 ls hkn hF hQ hl
      have hF : f_M_nextStep_L6 σ dn 49 0 (99 : Int32) = (a1) := hF
      have hQ : True := hQ
      refine lv_iload_n hx hb d_M_nextStep_6 rfl (lv_at hl 0 rfl) ?_
      refine lv_bipush (v := (24 : Int32)) hx hb d_M_nextStep_7 (by decide) ?_
      refine lv_icmp_gt (tgt := 73) hx hb d_M_nextStep_9 (by decide) (fun _ => ?_) (fun c8 => absurd (g_c49e (by omega)) c8)
      exact J73_4 a1 ls hF.symm (lv_sub hl [1] rfl)
    | succ jn ih =>
      intro jk a1 ls hkn hF hQ hl
      have hF : f_M_nextStep_L6 σ dn 49 0 (99 : Int32) = f_M_nextStep_L6 σ dn jn (jk + 1) (if (if (f_M_marked σ (Int32.ofNat jk + (-24 : Int32))) = 0 then (0 : Int32) else (if dn = 0 then (if (Int32.ofNat jk + (-24 : Int32)) ≤ (σ.1 0 21) then (0 : Int32) else (if a1 = (99 : Int32) then (1 : Int32) else (0 : Int32))) else (if (σ.1 0 21) < (Int32.ofNat jk + (-24 : Int32)) then (0 : Int32) else (1 : Int32)))) = 0 then a1 else Int32.ofNat jk + (-24 : Int32)) := hF
      have hQ : (k_M_marked σ (Int32.ofNat jk + (-24 : Int32))) ∧ (k_M_nextStep_L6 σ dn jn (jk + 1) (if (if (f_M_marked σ (Int32.ofNat jk + (-24 : Int32))) = 0 then (0 : Int32) else (if dn = 0 then (if (Int32.ofNat jk + (-24 : Int32)) ≤ (σ.1 0 21) then (0 : Int32) else (if a1 = (99 : Int32) then (1 : Int32) else (0 : Int32))) else (if (σ.1 0 21) < (Int32.ofNat jk + (-24 : Int32)) then (0 : Int32) else (1 : Int32)))) = 0 then a1 else Int32.ofNat jk + (-24 : Int32))) := hQ
      refine lv_iload_n hx hb d_M_nextStep_6 rfl (lv_at hl 0 rfl) ?_
      refine lv_bipush (v := (24 : Int32)) hx hb d_M_nextStep_7 (by decide) ?_
      refine lv_icmp_gt (tgt := 73) hx hb d_M_nextStep_9 (by decide) (fun c9 => absurd c9 (g_c49b (by omega))) (fun _ => ?_)
      refine lv_aload_n hx hb d_M_nextStep_12 rfl (lv_at hl 2 rfl) ?_
      refine lv_iload_n hx hb d_M_nextStep_13 rfl (lv_at hl 0 rfl) ?_
      obtain ⟨hs10, hQ⟩ := hQ
      refine g_cSiE (va_runV (As := [.int (Int32.ofNat jk + (-24 : Int32))]) (rest := []) ⟨hx, hb, hml, hown, ht⟩ (c_M_marked l dC dI dA ad σ (Int32.ofNat jk + (-24 : Int32)) hs10) (cwV 1 ht gc_M_151 rfl rfl rfl (by decide +kernel) ⟨Nat.le_of_ble_eq_true rfl, Nat.le_of_ble_eq_true rfl⟩) (g_pV (g_prR r_Zok hK hP hS hz _) (g_rc hK hP (0) r_at0 rfl)) rfl rfl hl.1 rfl (lv_room (Nat.le_of_ble_eq_true rfl)) d_M_nextStep_14 ⟨Nat.le_of_ble_eq_true rfl, Nat.le_of_ble_eq_true rfl⟩) ?_
      have J54_14 : ∀ (x13 : Int32) (ls : Array Slot), x13 = (if (f_M_marked σ (Int32.ofNat jk + (-24 : Int32))) = 0 then (0 : Int32) else (if dn = 0 then (if (Int32.ofNat jk + (-24 : Int32)) ≤ (σ.1 0 21) then (0 : Int32) else (if a1 = (99 : Int32) then (1 : Int32) else (0 : Int32))) else (if (σ.1 0 21) < (Int32.ofNat jk + (-24 : Int32)) then (0 : Int32) else (1 : Int32)))) → lv_has ls 5 [(3, .int (Int32.ofNat jk + (-24 : Int32))), (2, .int a1), (0, .ref (ad 0)), (1, .int dn)] → W p l e (headSpec w_M_nextStep ({ frames := 1, cells := 0, slots := 0, locals := 23 })).room s m ([.ref (ad 0), .int dn] : List Value).toArray below meth c s.heap [] 0 0 (MQ below (vp_Si (fun r => r = f_M_nextStep σ dn)) ([.ref (ad 0), .int dn] : List Value).toArray s 0 0 (fun _ => False)) (F0 m 54 ls [.int x13]) := by
        intro x13 ls e15 hl
        rw [e15]
        refine lv_istore (lv' := [(4, .int (if (f_M_marked σ (Int32.ofNat jk + (-24 : Int32))) = 0 then (0 : Int32) else (if dn = 0 then (if (Int32.ofNat jk + (-24 : Int32)) ≤ (σ.1 0 21) then (0 : Int32) else (if a1 = (99 : Int32) then (1 : Int32) else (0 : Int32))) else (if (σ.1 0 21) < (Int32.ofNat jk + (-24 : Int32)) then (0 : Int32) else (1 : Int32))))), (3, .int (Int32.ofNat jk + (-24 : Int32))), (2, .int a1), (0, .ref (ad 0)), (1, .int dn)]) hx hb d_M_nextStep_54 hl (by decide) rfl (fun ls hl => ?_)
        refine lv_iload hx hb d_M_nextStep_56 (lv_at hl 0 rfl) ?_
        have J66_17 : ∀ (x16 : Int32) (ls : Array Slot), x16 = (if (if (f_M_marked σ (Int32.ofNat jk + (-24 : Int32))) = 0 then (0 : Int32) else (if dn = 0 then (if (Int32.ofNat jk + (-24 : Int32)) ≤ (σ.1 0 21) then (0 : Int32) else (if a1 = (99 : Int32) then (1 : Int32) else (0 : Int32))) else (if (σ.1 0 21) < (Int32.ofNat jk + (-24 : Int32)) then (0 : Int32) else (1 : Int32)))) = 0 then a1 else Int32.ofNat jk + (-24 : Int32)) → lv_has ls 5 [(3, .int (Int32.ofNat jk + (-24 : Int32))), (0, .ref (ad 0)), (1, .int dn)] → W p l e (headSpec w_M_nextStep ({ frames := 1, cells := 0, slots := 0, locals := 23 })).room s m ([.ref (ad 0), .int dn] : List Value).toArray below meth c s.heap [] 0 0 (MQ below (vp_Si (fun r => r = f_M_nextStep σ dn)) ([.ref (ad 0), .int dn] : List Value).toArray s 0 0 (fun _ => False)) (F0 m 66 ls [.int x16]) := by
          intro x16 ls e18 hl
          rw [e18]
          refine lv_istore_n (lv' := [(2, .int (if (if (f_M_marked σ (Int32.ofNat jk + (-24 : Int32))) = 0 then (0 : Int32) else (if dn = 0 then (if (Int32.ofNat jk + (-24 : Int32)) ≤ (σ.1 0 21) then (0 : Int32) else (if a1 = (99 : Int32) then (1 : Int32) else (0 : Int32))) else (if (σ.1 0 21) < (Int32.ofNat jk + (-24 : Int32)) then (0 : Int32) else (1 : Int32)))) = 0 then a1 else Int32.ofNat jk + (-24 : Int32))), (3, .int (Int32.ofNat jk + (-24 : Int32))), (0, .ref (ad 0)), (1, .int dn)]) hx hb d_M_nextStep_66 rfl hl (by decide) rfl (fun ls hl => ?_)
          refine lv_iinc (v := Int32.ofNat (jk + 1) + (-24 : Int32)) (lv' := [(3, .int (Int32.ofNat (jk + 1) + (-24 : Int32))), (2, .int (if (if (f_M_marked σ (Int32.ofNat jk + (-24 : Int32))) = 0 then (0 : Int32) else (if dn = 0 then (if (Int32.ofNat jk + (-24 : Int32)) ≤ (σ.1 0 21) then (0 : Int32) else (if a1 = (99 : Int32) then (1 : Int32) else (0 : Int32))) else (if (σ.1 0 21) < (Int32.ofNat jk + (-24 : Int32)) then (0 : Int32) else (1 : Int32)))) = 0 then a1 else Int32.ofNat jk + (-24 : Int32))), (0, .ref (ad 0)), (1, .int dn)]) hx hb d_M_nextStep_67 hl (k := 1) rfl (g_inco jk) (by decide) rfl (fun ls hl => ?_)
          refine lv_goto (tgt := 6) hx hb d_M_nextStep_70 (by decide) ?_
          exact ih (jk + 1) (if (if (f_M_marked σ (Int32.ofNat jk + (-24 : Int32))) = 0 then (0 : Int32) else (if dn = 0 then (if (Int32.ofNat jk + (-24 : Int32)) ≤ (σ.1 0 21) then (0 : Int32) else (if a1 = (99 : Int32) then (1 : Int32) else (0 : Int32))) else (if (σ.1 0 21) < (Int32.ofNat jk + (-24 : Int32)) then (0 : Int32) else (1 : Int32)))) = 0 then a1 else Int32.ofNat jk + (-24 : Int32)) ls (by omega) hF hQ (lv_sub hl [0, 1, 2, 3] rfl)
        refine lv_if_eq (tgt := 65) hx hb d_M_nextStep_58 (by decide) (fun c19 => ?_) (fun c19 => ?_)
        ·
          have c19 : (if (f_M_marked σ (Int32.ofNat jk + (-24 : Int32))) = 0 then (0 : Int32) else (if dn = 0 then (if (Int32.ofNat jk + (-24 : Int32)) ≤ (σ.1 0 21) then (0 : Int32) else (if a1 = (99 : Int32) then (1 : Int32) else (0 : Int32))) else (if (σ.1 0 21) < (Int32.ofNat jk + (-24 : Int32)) then (0 : Int32) else (1 : Int32)))) = 0 := c19
          refine lv_iload_n hx hb d_M_nextStep_65 rfl (lv_at hl 2 rfl) ?_
          exact J66_17 a1 ls (if_pos c19).symm (lv_sub hl [1, 3, 4] rfl)
        ·
          have c19 : ¬ ((if (f_M_marked σ (Int32.ofNat jk + (-24 : Int32))) = 0 then (0 : Int32) else (if dn = 0 then (if (Int32.ofNat jk + (-24 : Int32)) ≤ (σ.1 0 21) then (0 : Int32) else (if a1 = (99 : Int32) then (1 : Int32) else (0 : Int32))) else (if (σ.1 0 21) < (Int32.ofNat jk + (-24 : Int32)) then (0 : Int32) else (1 : Int32)))) = 0) := c19
          refine lv_iload_n hx hb d_M_nextStep_61 rfl (lv_at hl 1 rfl) ?_
          refine lv_goto (tgt := 66) hx hb d_M_nextStep_62 (by decide) ?_
          exact J66_17 (Int32.ofNat jk + (-24 : Int32)) ls (if_neg c19).symm (lv_sub hl [1, 3, 4] rfl)
      refine lv_if_eq (tgt := 53) hx hb d_M_nextStep_17 (by decide) (fun c20 => ?_) (fun c20 => ?_)
      ·
        have c20 : (f_M_marked σ (Int32.ofNat jk + (-24 : Int32))) = 0 := c20
        refine lv_iconst (v := (0 : Int32)) hx hb d_M_nextStep_53 (by decide) ?_
        exact J54_14 (0 : Int32) ls (if_pos c20).symm (lv_sub hl [0, 1, 2, 3] rfl)
      ·
        have c20 : ¬ ((f_M_marked σ (Int32.ofNat jk + (-24 : Int32))) = 0) := c20
        refine lv_iload_n hx hb d_M_nextStep_20 rfl (lv_at hl 3 rfl) ?_
        refine lv_if_eq (tgt := 35) hx hb d_M_nextStep_21 (by decide) (fun c21 => ?_) (fun c21 => ?_)
        ·
          have c21 : dn = 0 := c21
          refine lv_iload_n hx hb d_M_nextStep_35 rfl (lv_at hl 0 rfl) ?_
          refine lv_aload_n hx hb d_M_nextStep_36 rfl (lv_at hl 2 rfl) ?_
          refine g_get hx hb ht in_M hown hK hP (0) r_at0 rfl 21 (by decide) rfl (ht _ kw482) (fun _ h9 => h9) (v := .int (σ.1 0 21)) rfl d_M_nextStep_37 ?_
          refine lv_icmp_le (tgt := 53) hx hb d_M_nextStep_40 (by decide) (fun c22 => ?_) (fun c22 => ?_)
          ·
            have c22 : (Int32.ofNat jk + (-24 : Int32)) ≤ (σ.1 0 21) := c22
            refine lv_iconst (v := (0 : Int32)) hx hb d_M_nextStep_53 (by decide) ?_
            exact J54_14 (0 : Int32) ls (((if_neg c20).trans (if_pos c21)).trans (if_pos c22)).symm (lv_sub hl [0, 1, 2, 3] rfl)
          ·
            have c22 : ¬ ((Int32.ofNat jk + (-24 : Int32)) ≤ (σ.1 0 21)) := c22
            refine lv_iload_n hx hb d_M_nextStep_43 rfl (lv_at hl 1 rfl) ?_
            refine lv_bipush (v := (99 : Int32)) hx hb d_M_nextStep_44 (by decide) ?_
            refine lv_icmp_ne (tgt := 53) hx hb d_M_nextStep_46 (by decide) (fun c23 => ?_) (fun c23 => ?_)
            ·
              have c23 : ¬ (a1 = (99 : Int32)) := c23
              refine lv_iconst (v := (0 : Int32)) hx hb d_M_nextStep_53 (by decide) ?_
              exact J54_14 (0 : Int32) ls ((((if_neg c20).trans (if_pos c21)).trans (if_neg c22)).trans (if_neg c23)).symm (lv_sub hl [0, 1, 2, 3] rfl)
            ·
              have c23 : a1 = (99 : Int32) := c23
              refine lv_iconst (v := (1 : Int32)) hx hb d_M_nextStep_49 (by decide) ?_
              refine lv_goto (tgt := 54) hx hb d_M_nextStep_50 (by decide) ?_
              exact J54_14 (1 : Int32) ls ((((if_neg c20).trans (if_pos c21)).trans (if_neg c22)).trans (if_pos c23)).symm (lv_sub hl [0, 1, 2, 3] rfl)
        ·
          have c21 : ¬ (dn = 0) := c21
          refine lv_iload_n hx hb d_M_nextStep_24 rfl (lv_at hl 0 rfl) ?_
          refine lv_aload_n hx hb d_M_nextStep_25 rfl (lv_at hl 2 rfl) ?_
          refine g_get hx hb ht in_M hown hK hP (0) r_at0 rfl 21 (by decide) rfl (ht _ kw482) (fun _ h9 => h9) (v := .int (σ.1 0 21)) rfl d_M_nextStep_26 ?_
          refine lv_icmp_gt (tgt := 53) hx hb d_M_nextStep_29 (by decide) (fun c24 => ?_) (fun c24 => ?_)
          ·
            have c24 : (σ.1 0 21) < (Int32.ofNat jk + (-24 : Int32)) := c24
            refine lv_iconst (v := (0 : Int32)) hx hb d_M_nextStep_53 (by decide) ?_
            exact J54_14 (0 : Int32) ls (((if_neg c20).trans (if_neg c21)).trans (if_pos c24)).symm (lv_sub hl [0, 1, 2, 3] rfl)
          ·
            have c24 : ¬ ((σ.1 0 21) < (Int32.ofNat jk + (-24 : Int32))) := c24
            refine lv_goto (tgt := 49) hx hb d_M_nextStep_32 (by decide) ?_
            refine lv_iconst (v := (1 : Int32)) hx hb d_M_nextStep_49 (by decide) ?_
            refine lv_goto (tgt := 54) hx hb d_M_nextStep_50 (by decide) ?_
            exact J54_14 (1 : Int32) ls (((if_neg c20).trans (if_neg c21)).trans (if_neg c24)).symm (lv_sub hl [0, 1, 2, 3] rfl)
  exact LL6_7 49 0 (99 : Int32) ls (by omega) rfl hT3 (lv_sub hl [0, 1, 2, 3] rfl)
def f_M_onTheWay_81_4 (σ : g_S) (dn : Int32) (w : Int64) (u : Int64) (v : Int64) : Int64 := f_M_quotient ((w * (65536 : Int64)) * (σ.2 0 20)) ((w * (65536 : Int64)) - (v * (σ.2 0 20))) (1 : Int32)
def k_M_onTheWay_81_4 (σ : g_S) (dn : Int32) (w : Int64) (u : Int64) (v : Int64) : Prop := (k_M_quotient ((w * (65536 : Int64)) * (σ.2 0 20)) ((w * (65536 : Int64)) - (v * (σ.2 0 20))) (1 : Int32)) ∧ True
def f_M_onTheWay_74_12 (σ : g_S) (dn : Int32) (w : Int64) (u : Int64) (v : Int64) (r10 : Int64) : Int64 := (σ.2 0 20) - r10
def k_M_onTheWay_74_12 (σ : g_S) (dn : Int32) (w : Int64) (u : Int64) (v : Int64) (r10 : Int64) : Prop := True
def f_M_onTheWay_62_8 (σ : g_S) (dn : Int32) (w : Int64) (u : Int64) (v : Int64) : Int64 := (f_M_onTheWay_74_12 σ dn w u v (f_M_quotient (v * (65536 : Int64)) w (1 : Int32)))
def k_M_onTheWay_62_8 (σ : g_S) (dn : Int32) (w : Int64) (u : Int64) (v : Int64) : Prop := (k_M_quotient (v * (65536 : Int64)) w (1 : Int32)) ∧ (k_M_onTheWay_74_12 σ dn w u v (f_M_quotient (v * (65536 : Int64)) w (1 : Int32)))
def f_M_onTheWay_58_2 (σ : g_S) (dn : Int32) (w : Int64) (u : Int64) (v : Int64) : Int64 := (if dn = 0 then f_M_onTheWay_81_4 σ dn w u v else f_M_onTheWay_62_8 σ dn w u v)
def k_M_onTheWay_58_2 (σ : g_S) (dn : Int32) (w : Int64) (u : Int64) (v : Int64) : Prop := (if dn = 0 then k_M_onTheWay_81_4 σ dn w u v else k_M_onTheWay_62_8 σ dn w u v)
def f_M_onTheWay_44_15 (σ : g_S) (dn : Int32) (w : Int64) (u : Int64) (v : Int64) : Int64 := (σ.2 0 20) + ((u * (65536 : Int64)) / w)
def k_M_onTheWay_44_15 (σ : g_S) (dn : Int32) (w : Int64) (u : Int64) (v : Int64) : Prop := (¬ w = 0) ∧ True
def f_M_onTheWay_38_21 (σ : g_S) (dn : Int32) (w : Int64) (u : Int64) (v : Int64) (r19 : Int64) : Int64 := r19
def k_M_onTheWay_38_21 (σ : g_S) (dn : Int32) (w : Int64) (u : Int64) (v : Int64) (r19 : Int64) : Prop := True
def f_M_onTheWay_20_17 (σ : g_S) (dn : Int32) (w : Int64) (u : Int64) (v : Int64) : Int64 := (f_M_onTheWay_38_21 σ dn w u v (f_M_quotient ((w * (65536 : Int64)) * (σ.2 0 20)) ((w * (65536 : Int64)) + (u * (σ.2 0 20))) (1 : Int32)))
def k_M_onTheWay_20_17 (σ : g_S) (dn : Int32) (w : Int64) (u : Int64) (v : Int64) : Prop := (k_M_quotient ((w * (65536 : Int64)) * (σ.2 0 20)) ((w * (65536 : Int64)) + (u * (σ.2 0 20))) (1 : Int32)) ∧ (k_M_onTheWay_38_21 σ dn w u v (f_M_quotient ((w * (65536 : Int64)) * (σ.2 0 20)) ((w * (65536 : Int64)) + (u * (σ.2 0 20))) (1 : Int32)))
def f_M_onTheWay_16_13 (σ : g_S) (dn : Int32) (w : Int64) (u : Int64) (v : Int64) : Int64 := (if dn = 0 then f_M_onTheWay_44_15 σ dn w u v else f_M_onTheWay_20_17 σ dn w u v)
def k_M_onTheWay_16_13 (σ : g_S) (dn : Int32) (w : Int64) (u : Int64) (v : Int64) : Prop := (if dn = 0 then k_M_onTheWay_44_15 σ dn w u v else k_M_onTheWay_20_17 σ dn w u v)
def f_M_onTheWay (σ : g_S) (dn : Int32) (w : Int64) (u : Int64) (v : Int64) : Int64 := (if (σ.2 0 22) ≤ (0 : Int64) then f_M_onTheWay_58_2 σ dn w u v else f_M_onTheWay_16_13 σ dn w u v)
def k_M_onTheWay (σ : g_S) (dn : Int32) (w : Int64) (u : Int64) (v : Int64) : Prop := (if (σ.2 0 22) ≤ (0 : Int64) then k_M_onTheWay_58_2 σ dn w u v else k_M_onTheWay_16_13 σ dn w u v)
set_option maxHeartbeats 4000000 in
set_option maxRecDepth 100000 in
theorem c_M_onTheWay (l : Launch) (dC : Nat → ClassId) (dI : Nat → Nat → Nat) (dA : Nat → ClassId) (ad : Nat → Nat) (σ : g_S) (dn : Int32) (w : Int64) (u : Int64) (v : Int64) (hQ : k_M_onTheWay σ dn w u v) : Met l y_M_onTheWay w_M_onTheWay ({ frames := 1, cells := 0, slots := 0, locals := 24 }) (va_Pc [.ref (ad 0), .int dn, .long w, .long u, .long v] (g_R (dC, dI) cls (r_tys dA) (g_w r_sh dA ad σ) r_Z)) (vp_Sl (fun r => r = f_M_onTheWay σ dn w u v)) 0 0 (fun _ => False) := by
  refine Met.ofW (cc := b_M_onTheWay) (maxL := 10) (ret := (some .long)) (by decide) rfl ?_
  intro p e s m args below meth c s₁ B hml hv
  obtain ⟨rfl, hP, hK, hz⟩ := hv
  have hx := B.exec
  have hb := B.bytes
  have hr := B.returns
  have hts := atoms_spec (ws := w_M_onTheWay) B.pre
  have ht := fun (w : Cond) (h : w ∈ gA) => hts w (List.mem_cons_of_mem _ h)
  have hown : s.vm.findClass "RangedPoolModel" = some m.cls := findClass_of_methodNamed B.named
  have hlocks := B.notSynchronized
  have hS : va_S (fun _ => False) s.heap s.heap [] := va_S.rf
  have hl := lv_entry ([.ref (ad 0), .int dn, .long w, .long u, .long v]) (n := 10) (Nat.le_of_ble_eq_true rfl)
  rw [lg_entry_eq]
  generalize (lg_sl ([.ref (ad 0), .int dn, .long w, .long u, .long v]) ++ List.replicate (10 - (lg_sl ([.ref (ad 0), .int dn, .long w, .long u, .long v])).length) Slot.unset).toArray = ls at hl ⊢
  have hl : lv_has ls 10 [(0, .ref (ad 0)), (1, .int dn), (2, .long w), (4, .long u), (6, .long v)] := hl
  have hF : f_M_onTheWay σ dn w u v = f_M_onTheWay σ dn w u v := rfl
  refine lv_lload_n hx hb d_M_onTheWay_0 rfl (lv_at hl 2 rfl) ?_
  refine lv_ldc2 (v := (65536 : Int64)) hx hb hown (ht _ kw458) d_M_onTheWay_1 ?_
  refine lv_lmul hx hb d_M_onTheWay_4 ?_
  refine lv_lstore (lv' := [(8, .long (w * (65536 : Int64))), (0, .ref (ad 0)), (1, .int dn), (2, .long w), (4, .long u), (6, .long v)]) hx hb d_M_onTheWay_5 hl (by decide) rfl (fun ls hl => ?_)
  refine lv_aload_n hx hb d_M_onTheWay_7 rfl (lv_at hl 1 rfl) ?_
  refine g_get hx hb ht in_M hown hK hP (0) r_at0 rfl 22 (by decide) rfl (ht _ kw483) (fun _ h9 => h9) (v := .long (σ.2 0 22)) rfl d_M_onTheWay_8 ?_
  refine lv_lconst (v := (0 : Int64)) hx hb d_M_onTheWay_11 (by decide) ?_
  refine W.lcmp hx hb d_M_onTheWay_12 ?_
  refine lv_if_le (tgt := 58) hx hb d_M_onTheWay_13 (by decide) (fun c1 => ?_) (fun c1 => ?_)
  ·
    have c1 : (σ.2 0 22) ≤ (0 : Int64) := (lg_cmp_le _ _).mp c1
    have hF : f_M_onTheWay σ dn w u v = f_M_onTheWay_58_2 σ dn w u v := hF.trans (if_pos c1)
    have hQ : k_M_onTheWay_58_2 σ dn w u v := Eq.mp (if_pos c1) hQ
    refine lv_iload_n hx hb d_M_onTheWay_58 rfl (lv_at hl 2 rfl) ?_
    refine lv_if_eq (tgt := 81) hx hb d_M_onTheWay_59 (by decide) (fun c3 => ?_) (fun c3 => ?_)
    ·
      have c3 : dn = 0 := c3
      have hF : f_M_onTheWay σ dn w u v = f_M_onTheWay_81_4 σ dn w u v := hF.trans (if_pos c3)
      have hQ : k_M_onTheWay_81_4 σ dn w u v := Eq.mp (if_pos c3) hQ
      refine lv_lload hx hb d_M_onTheWay_81 (lv_at hl 0 rfl) ?_
      refine lv_aload_n hx hb d_M_onTheWay_83 rfl (lv_at hl 1 rfl) ?_
      refine g_get hx hb ht in_M hown hK hP (0) r_at0 rfl 20 (by decide) rfl (ht _ kw481) (fun _ h9 => h9) (v := .long (σ.2 0 20)) rfl d_M_onTheWay_84 ?_
      refine lv_lmul hx hb d_M_onTheWay_87 ?_
      refine lv_lload hx hb d_M_onTheWay_88 (lv_at hl 0 rfl) ?_
      refine lv_lload hx hb d_M_onTheWay_90 (lv_at hl 5 rfl) ?_
      refine lv_aload_n hx hb d_M_onTheWay_92 rfl (lv_at hl 1 rfl) ?_
      refine g_get hx hb ht in_M hown hK hP (0) r_at0 rfl 20 (by decide) rfl (ht _ kw481) (fun _ h9 => h9) (v := .long (σ.2 0 20)) rfl d_M_onTheWay_93 ?_
      refine lv_lmul hx hb d_M_onTheWay_96 ?_
      refine lv_lsub hx hb d_M_onTheWay_97 ?_
      refine lv_iconst (v := (1 : Int32)) hx hb d_M_onTheWay_98 (by decide) ?_
      obtain ⟨hs5, hQ⟩ := hQ
      refine g_cSlE (va_runS (As := [.long ((w * (65536 : Int64)) * (σ.2 0 20)), .long ((w * (65536 : Int64)) - (v * (σ.2 0 20))), .int (1 : Int32)]) (rest := []) ⟨hx, hb, hml, hown, ht⟩ (c_M_quotient l ((w * (65536 : Int64)) * (σ.2 0 20)) ((w * (65536 : Int64)) - (v * (σ.2 0 20))) (1 : Int32) hs5) (va_cwS 3 ht gc_M_64 rfl rfl rfl (by decide +kernel) ⟨Nat.le_of_ble_eq_true rfl, Nat.le_of_ble_eq_true rfl⟩) (g_pr0 _) rfl rfl hl.1 rfl (lv_room (Nat.le_of_ble_eq_true rfl)) d_M_onTheWay_99 ⟨Nat.le_of_ble_eq_true rfl, Nat.le_of_ble_eq_true rfl⟩) ?_
      exact W.lret (v := f_M_quotient ((w * (65536 : Int64)) * (σ.2 0 20)) ((w * (65536 : Int64)) - (v * (σ.2 0 20))) (1 : Int32)) hx hb hr (fun t hh hW => ⟨_, rfl, hF.symm, hh⟩) (fun _ h => by cases h) d_M_onTheWay_102
    ·
      have c3 : ¬ (dn = 0) := c3
      have hF : f_M_onTheWay σ dn w u v = f_M_onTheWay_62_8 σ dn w u v := hF.trans (if_neg c3)
      have hQ : k_M_onTheWay_62_8 σ dn w u v := Eq.mp (if_neg c3) hQ
      refine lv_aload_n hx hb d_M_onTheWay_62 rfl (lv_at hl 1 rfl) ?_
      refine g_get hx hb ht in_M hown hK hP (0) r_at0 rfl 20 (by decide) rfl (ht _ kw481) (fun _ h9 => h9) (v := .long (σ.2 0 20)) rfl d_M_onTheWay_63 ?_
      refine lv_lload hx hb d_M_onTheWay_66 (lv_at hl 5 rfl) ?_
      refine lv_ldc2 (v := (65536 : Int64)) hx hb hown (ht _ kw458) d_M_onTheWay_68 ?_
      refine lv_lmul hx hb d_M_onTheWay_71 ?_
      refine lv_lload_n hx hb d_M_onTheWay_72 rfl (lv_at hl 3 rfl) ?_
      refine lv_iconst (v := (1 : Int32)) hx hb d_M_onTheWay_73 (by decide) ?_
      obtain ⟨hs9, hQ⟩ := hQ
      refine g_cSl (va_runS (As := [.long (v * (65536 : Int64)), .long w, .int (1 : Int32)]) (rest := [.long (σ.2 0 20)]) ⟨hx, hb, hml, hown, ht⟩ (c_M_quotient l (v * (65536 : Int64)) w (1 : Int32) hs9) (va_cwS 3 ht gc_M_64 rfl rfl rfl (by decide +kernel) ⟨Nat.le_of_ble_eq_true rfl, Nat.le_of_ble_eq_true rfl⟩) (g_pr0 _) rfl rfl hl.1 rfl (lv_room (Nat.le_of_ble_eq_true rfl)) d_M_onTheWay_74 ⟨Nat.le_of_ble_eq_true rfl, Nat.le_of_ble_eq_true rfl⟩) (fun r10 e11 => ?_)
      have hF : f_M_onTheWay σ dn w u v = f_M_onTheWay_74_12 σ dn w u v r10 := hF.trans (by rw [e11]; try rfl)
      have hQ : k_M_onTheWay_74_12 σ dn w u v r10 := by rw [e11]; exact hQ
      refine lv_lsub hx hb d_M_onTheWay_77 ?_
      refine lv_goto (tgt := 102) hx hb d_M_onTheWay_78 (by decide) ?_
      exact W.lret (v := (σ.2 0 20) - r10) hx hb hr (fun t hh hW => ⟨_, rfl, hF.symm, hh⟩) (fun _ h => by cases h) d_M_onTheWay_102
  ·
    have c1 : ¬ ((σ.2 0 22) ≤ (0 : Int64)) := mt (lg_cmp_le _ _).mpr c1
    have hF : f_M_onTheWay σ dn w u v = f_M_onTheWay_16_13 σ dn w u v := hF.trans (if_neg c1)
    have hQ : k_M_onTheWay_16_13 σ dn w u v := Eq.mp (if_neg c1) hQ
    refine lv_iload_n hx hb d_M_onTheWay_16 rfl (lv_at hl 2 rfl) ?_
    refine lv_if_eq (tgt := 44) hx hb d_M_onTheWay_17 (by decide) (fun c14 => ?_) (fun c14 => ?_)
    ·
      have c14 : dn = 0 := c14
      have hF : f_M_onTheWay σ dn w u v = f_M_onTheWay_44_15 σ dn w u v := hF.trans (if_pos c14)
      have hQ : k_M_onTheWay_44_15 σ dn w u v := Eq.mp (if_pos c14) hQ
      refine lv_aload_n hx hb d_M_onTheWay_44 rfl (lv_at hl 1 rfl) ?_
      refine g_get hx hb ht in_M hown hK hP (0) r_at0 rfl 20 (by decide) rfl (ht _ kw481) (fun _ h9 => h9) (v := .long (σ.2 0 20)) rfl d_M_onTheWay_45 ?_
      refine lv_lload hx hb d_M_onTheWay_48 (lv_at hl 4 rfl) ?_
      refine lv_ldc2 (v := (65536 : Int64)) hx hb hown (ht _ kw458) d_M_onTheWay_50 ?_
      refine lv_lmul hx hb d_M_onTheWay_53 ?_
      refine lv_lload_n hx hb d_M_onTheWay_54 rfl (lv_at hl 3 rfl) ?_
      obtain ⟨hs16, hQ⟩ := hQ
      refine lv_ldiv hx hb d_M_onTheWay_55 (hs16) ?_
      refine lv_ladd hx hb d_M_onTheWay_56 ?_
      exact W.lret (v := (σ.2 0 20) + ((u * (65536 : Int64)) / w)) hx hb hr (fun t hh hW => ⟨_, rfl, hF.symm, hh⟩) (fun _ h => by cases h) d_M_onTheWay_57
    ·
      have c14 : ¬ (dn = 0) := c14
      have hF : f_M_onTheWay σ dn w u v = f_M_onTheWay_20_17 σ dn w u v := hF.trans (if_neg c14)
      have hQ : k_M_onTheWay_20_17 σ dn w u v := Eq.mp (if_neg c14) hQ
      refine lv_lload hx hb d_M_onTheWay_20 (lv_at hl 0 rfl) ?_
      refine lv_aload_n hx hb d_M_onTheWay_22 rfl (lv_at hl 1 rfl) ?_
      refine g_get hx hb ht in_M hown hK hP (0) r_at0 rfl 20 (by decide) rfl (ht _ kw481) (fun _ h9 => h9) (v := .long (σ.2 0 20)) rfl d_M_onTheWay_23 ?_
      refine lv_lmul hx hb d_M_onTheWay_26 ?_
      refine lv_lload hx hb d_M_onTheWay_27 (lv_at hl 0 rfl) ?_
      refine lv_lload hx hb d_M_onTheWay_29 (lv_at hl 4 rfl) ?_
      refine lv_aload_n hx hb d_M_onTheWay_31 rfl (lv_at hl 1 rfl) ?_
      refine g_get hx hb ht in_M hown hK hP (0) r_at0 rfl 20 (by decide) rfl (ht _ kw481) (fun _ h9 => h9) (v := .long (σ.2 0 20)) rfl d_M_onTheWay_32 ?_
      refine lv_lmul hx hb d_M_onTheWay_35 ?_
      refine lv_ladd hx hb d_M_onTheWay_36 ?_
      refine lv_iconst (v := (1 : Int32)) hx hb d_M_onTheWay_37 (by decide) ?_
      obtain ⟨hs18, hQ⟩ := hQ
      refine g_cSl (va_runS (As := [.long ((w * (65536 : Int64)) * (σ.2 0 20)), .long ((w * (65536 : Int64)) + (u * (σ.2 0 20))), .int (1 : Int32)]) (rest := []) ⟨hx, hb, hml, hown, ht⟩ (c_M_quotient l ((w * (65536 : Int64)) * (σ.2 0 20)) ((w * (65536 : Int64)) + (u * (σ.2 0 20))) (1 : Int32) hs18) (va_cwS 3 ht gc_M_64 rfl rfl rfl (by decide +kernel) ⟨Nat.le_of_ble_eq_true rfl, Nat.le_of_ble_eq_true rfl⟩) (g_pr0 _) rfl rfl hl.1 rfl (lv_room (Nat.le_of_ble_eq_true rfl)) d_M_onTheWay_38 ⟨Nat.le_of_ble_eq_true rfl, Nat.le_of_ble_eq_true rfl⟩) (fun r19 e20 => ?_)
      have hF : f_M_onTheWay σ dn w u v = f_M_onTheWay_38_21 σ dn w u v r19 := hF.trans (by rw [e20]; try rfl)
      have hQ : k_M_onTheWay_38_21 σ dn w u v r19 := by rw [e20]; exact hQ
      refine lv_goto (tgt := 57) hx hb d_M_onTheWay_41 (by decide) ?_
      exact W.lret (v := r19) hx hb hr (fun t hh hW => ⟨_, rfl, hF.symm, hh⟩) (fun _ h => by cases h) d_M_onTheWay_57
