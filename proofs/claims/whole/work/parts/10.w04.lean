def f_B_markedAbove_101_5 (σ : g_S) (n : Int32) (b2 : Int32) : Int32 := b2
def f_B_markedAbove_L16 (σ : g_S) (n : Int32) : Nat → Nat → Int32 → Int32
  | 0, jk, a1 => (a1)
  | jn + 1, jk, a1 => f_B_markedAbove_L16 σ n jn (jk + 1) (if (σ.2 (jk + 14) 3) = (0 : Int64) then a1 else (if n < (σ.1 (jk + 14) 2) then (if (σ.1 (jk + 14) 1) ≤ n then (if a1 = (1000 : Int32) then σ.1 (jk + 14) 2 else (if a1 ≤ (σ.1 (jk + 14) 2) then a1 else σ.1 (jk + 14) 2)) else (if a1 = (1000 : Int32) then σ.1 (jk + 14) 1 else (if a1 ≤ (σ.1 (jk + 14) 1) then a1 else σ.1 (jk + 14) 1))) else a1))
def f_B_markedAbove (σ : g_S) (n : Int32) : Int32 := (f_B_markedAbove_101_5 σ n (f_B_markedAbove_L16 σ n 10 0 (1000 : Int32)))
set_option maxHeartbeats 4000000 in
set_option maxRecDepth 100000 in
theorem c_B_markedAbove (l : Launch) (dC : Nat → ClassId) (dI : Nat → Nat → Nat) (dA : Nat → ClassId) (ad : Nat → Nat) (tb : Nat) (σ : g_S) (n : Int32) : Met l y_B_markedAbove w_B_markedAbove ({ frames := 0, cells := 0, slots := 0, locals := 0 }) (va_Pc [.ref (ad 3), .int n] (g_R (dC, dI) cls (x_tys dA) (g_w x_sh dA ad σ) (x_Z tb))) (vp_Si (fun r => r = f_B_markedAbove σ n)) 0 0 (fun _ => False) := by
  refine Met.ofW (cc := b_B_markedAbove) (maxL := 8) (ret := (some .int)) (by decide) rfl ?_
  intro p e s m args below meth c s₁ B hml hv
  obtain ⟨rfl, hP, hK, hz⟩ := hv
  have hx := B.exec
  have hb := B.bytes
  have hr := B.returns
  have hts := atoms_spec (ws := w_B_markedAbove) B.pre
  have ht := fun (w : Cond) (h : w ∈ gA) => hts w (List.mem_cons_of_mem _ h)
  have hown : s.vm.findClass "RangedPool$LotBook" = some m.cls := findClass_of_methodNamed B.named
  have hlocks := B.notSynchronized
  have hS : va_S (fun _ => False) s.heap s.heap [] := va_S.rf
  have hl := lv_entry ([.ref (ad 3), .int n]) (n := 8) (Nat.le_of_ble_eq_true rfl)
  rw [lg_entry_eq]
  generalize (lg_sl ([.ref (ad 3), .int n]) ++ List.replicate (8 - (lg_sl ([.ref (ad 3), .int n])).length) Slot.unset).toArray = ls at hl ⊢
  have hl : lv_has ls 8 [(0, .ref (ad 3)), (1, .int n)] := hl
  have hF : f_B_markedAbove σ n = f_B_markedAbove σ n := rfl
  refine lv_sipush (v := (1000 : Int32)) hx hb d_B_markedAbove_0 (by decide) ?_
  refine lv_istore_n (lv' := [(2, .int (1000 : Int32)), (0, .ref (ad 3)), (1, .int n)]) hx hb d_B_markedAbove_3 rfl hl (by decide) rfl (fun ls hl => ?_)
  refine lv_aload_n hx hb d_B_markedAbove_4 rfl (lv_at hl 1 rfl) ?_
  refine g_get hx hb ht in_B hown hK hP (3) x_at3 rfl 0 (by decide) rfl (ht _ kw60) (fun _ h9 => h9) (v := .ref (ad 4)) rfl d_B_markedAbove_5 ?_
  refine lv_astore_n (lv' := [(3, .ref (ad 4)), (2, .int (1000 : Int32)), (0, .ref (ad 3)), (1, .int n)]) hx hb d_B_markedAbove_8 rfl hl (by decide) rfl (fun ls hl => ?_)
  refine lv_aload_n hx hb d_B_markedAbove_9 rfl (lv_at hl 0 rfl) ?_
  refine g_alen (v := (10 : Int32)) hx hb hK hP 4 x_at4 rfl rfl d_B_markedAbove_10 ?_
  refine lv_istore (lv' := [(4, .int (10 : Int32)), (3, .ref (ad 4)), (2, .int (1000 : Int32)), (0, .ref (ad 3)), (1, .int n)]) hx hb d_B_markedAbove_11 hl (by decide) rfl (fun ls hl => ?_)
  refine lv_iconst (v := (0 : Int32)) hx hb d_B_markedAbove_13 (by decide) ?_
  refine lv_istore (lv' := [(5, .int (0 : Int32)), (4, .int (10 : Int32)), (3, .ref (ad 4)), (2, .int (1000 : Int32)), (0, .ref (ad 3)), (1, .int n)]) hx hb d_B_markedAbove_14 hl (by decide) rfl (fun ls hl => ?_)
  have J101_3 : ∀ (b2 : Int32) (ls : Array Slot), b2 = (f_B_markedAbove_L16 σ n 10 0 (1000 : Int32)) → lv_has ls 8 [(2, .int b2)] → W p l e (headSpec w_B_markedAbove ({ frames := 0, cells := 0, slots := 0, locals := 0 })).room s m ([.ref (ad 3), .int n] : List Value).toArray below meth c s.heap [] 0 0 (MQ below (vp_Si (fun r => r = f_B_markedAbove σ n)) ([.ref (ad 3), .int n] : List Value).toArray s 0 0 (fun _ => False)) (F0 m 101 ls []) := by
    intro b2 ls e4 hl
    have hF : f_B_markedAbove σ n = f_B_markedAbove_101_5 σ n b2 := hF.trans (by rw [e4]; try rfl)
    refine lv_iload_n hx hb d_B_markedAbove_101 rfl (lv_at hl 0 rfl) ?_
    exact W.iret (v := b2) hx hb hr (fun t hh hW => ⟨_, rfl, hF.symm, hh⟩) (fun _ h => by cases h) d_B_markedAbove_102
  have LL16_6 : ∀ (jn : Nat) (jk : Nat) (a1 : Int32) (ls : Array Slot), jk + jn = 10 → f_B_markedAbove_L16 σ n 10 0 (1000 : Int32) = f_B_markedAbove_L16 σ n jn jk a1 → lv_has ls 8 [(5, .int (Int32.ofNat jk)), (4, .int (10 : Int32)), (3, .ref (ad 4)), (2, .int a1), (1, .int n)] → W p l e (headSpec w_B_markedAbove ({ frames := 0, cells := 0, slots := 0, locals := 0 })).room s m ([.ref (ad 3), .int n] : List Value).toArray below meth c s.heap [] 0 0 (MQ below (vp_Si (fun r => r = f_B_markedAbove σ n)) ([.ref (ad 3), .int n] : List Value).toArray s 0 0 (fun _ => False)) (F0 m 16 ls []) := by
    intro jn
    induction jn with
    | zero =>
      intro jk a1 ls hkn hF hl
      have hF : f_B_markedAbove_L16 σ n 10 0 (1000 : Int32) = (a1) := hF
      skip
      refine lv_iload hx hb d_B_markedAbove_16 (lv_at hl 0 rfl) ?_
      refine lv_iload hx hb d_B_markedAbove_18 (lv_at hl 1 rfl) ?_
      refine lv_icmp_ge (tgt := 101) hx hb d_B_markedAbove_20 (by decide) (fun _ => ?_) (fun c7 => absurd (g_geN (N := 10) (by omega)) c7)
      exact J101_3 a1 ls hF.symm (lv_sub hl [3] rfl)
    | succ jn ih =>
      intro jk a1 ls hkn hF hl
      have hF : f_B_markedAbove_L16 σ n 10 0 (1000 : Int32) = f_B_markedAbove_L16 σ n jn (jk + 1) (if (σ.2 (jk + 14) 3) = (0 : Int64) then a1 else (if n < (σ.1 (jk + 14) 2) then (if (σ.1 (jk + 14) 1) ≤ n then (if a1 = (1000 : Int32) then σ.1 (jk + 14) 2 else (if a1 ≤ (σ.1 (jk + 14) 2) then a1 else σ.1 (jk + 14) 2)) else (if a1 = (1000 : Int32) then σ.1 (jk + 14) 1 else (if a1 ≤ (σ.1 (jk + 14) 1) then a1 else σ.1 (jk + 14) 1))) else a1)) := hF
      skip
      refine lv_iload hx hb d_B_markedAbove_16 (lv_at hl 0 rfl) ?_
      refine lv_iload hx hb d_B_markedAbove_18 (lv_at hl 1 rfl) ?_
      refine lv_icmp_ge (tgt := 101) hx hb d_B_markedAbove_20 (by decide) (fun c8 => absurd c8 (g_lt (N := 10) (by omega) (by decide))) (fun _ => ?_)
      refine lv_aload_n hx hb d_B_markedAbove_23 rfl (lv_at hl 2 rfl) ?_
      refine lv_iload hx hb d_B_markedAbove_24 (lv_at hl 0 rfl) ?_
      refine g_aald hx hb hK hP 4 x_at4 rfl rfl (g_eix rfl (by omega) (by omega)) (z := jk + 14) (x_el4 (g_ena rfl (by omega)) (by omega)) d_B_markedAbove_26 ?_
      refine lv_astore (lv' := [(6, .ref (ad (jk + 14))), (5, .int (Int32.ofNat jk)), (4, .int (10 : Int32)), (3, .ref (ad 4)), (2, .int a1), (1, .int n)]) hx hb d_B_markedAbove_27 hl (by decide) rfl (fun ls hl => ?_)
      refine lv_aload hx hb d_B_markedAbove_29 (lv_at hl 0 rfl) ?_
      refine g_getN hx hb ht in_T hown hK hP (jk + 14) (x_at14 (by omega)) rfl 3 (by decide) rfl (va_Nw.use rfl (hz.1 _ nk37)) (fun _ h9 => h9) (v := .long (σ.2 (jk + 14) 3)) rfl d_B_markedAbove_31 ?_
      refine lv_lconst (v := (0 : Int64)) hx hb d_B_markedAbove_34 (by decide) ?_
      refine W.lcmp hx hb d_B_markedAbove_35 ?_
      have J95_10 : ∀ (x9 : Int32) (ls : Array Slot), x9 = (if (σ.2 (jk + 14) 3) = (0 : Int64) then a1 else (if n < (σ.1 (jk + 14) 2) then (if (σ.1 (jk + 14) 1) ≤ n then (if a1 = (1000 : Int32) then σ.1 (jk + 14) 2 else (if a1 ≤ (σ.1 (jk + 14) 2) then a1 else σ.1 (jk + 14) 2)) else (if a1 = (1000 : Int32) then σ.1 (jk + 14) 1 else (if a1 ≤ (σ.1 (jk + 14) 1) then a1 else σ.1 (jk + 14) 1))) else a1)) → lv_has ls 8 [(5, .int (Int32.ofNat jk)), (4, .int (10 : Int32)), (3, .ref (ad 4)), (2, .int x9), (1, .int n)] → W p l e (headSpec w_B_markedAbove ({ frames := 0, cells := 0, slots := 0, locals := 0 })).room s m ([.ref (ad 3), .int n] : List Value).toArray below meth c s.heap [] 0 0 (MQ below (vp_Si (fun r => r = f_B_markedAbove σ n)) ([.ref (ad 3), .int n] : List Value).toArray s 0 0 (fun _ => False)) (F0 m 95 ls []) := by
        intro x9 ls e11 hl
        rw [e11] at hl
        refine lv_iinc (v := Int32.ofNat (jk + 1)) (lv' := [(5, .int (Int32.ofNat (jk + 1))), (4, .int (10 : Int32)), (3, .ref (ad 4)), (2, .int (if (σ.2 (jk + 14) 3) = (0 : Int64) then a1 else (if n < (σ.1 (jk + 14) 2) then (if (σ.1 (jk + 14) 1) ≤ n then (if a1 = (1000 : Int32) then σ.1 (jk + 14) 2 else (if a1 ≤ (σ.1 (jk + 14) 2) then a1 else σ.1 (jk + 14) 2)) else (if a1 = (1000 : Int32) then σ.1 (jk + 14) 1 else (if a1 ≤ (σ.1 (jk + 14) 1) then a1 else σ.1 (jk + 14) 1))) else a1))), (1, .int n)]) hx hb d_B_markedAbove_95 hl (k := 0) rfl (g_inc jk) (by decide) rfl (fun ls hl => ?_)
        refine lv_goto (tgt := 16) hx hb d_B_markedAbove_98 (by decide) ?_
        exact ih (jk + 1) (if (σ.2 (jk + 14) 3) = (0 : Int64) then a1 else (if n < (σ.1 (jk + 14) 2) then (if (σ.1 (jk + 14) 1) ≤ n then (if a1 = (1000 : Int32) then σ.1 (jk + 14) 2 else (if a1 ≤ (σ.1 (jk + 14) 2) then a1 else σ.1 (jk + 14) 2)) else (if a1 = (1000 : Int32) then σ.1 (jk + 14) 1 else (if a1 ≤ (σ.1 (jk + 14) 1) then a1 else σ.1 (jk + 14) 1))) else a1)) ls (by omega) hF (lv_sub hl [0, 1, 2, 3, 4] rfl)
      refine lv_if_eq (tgt := 95) hx hb d_B_markedAbove_36 (by decide) (fun c12 => ?_) (fun c12 => ?_)
      ·
        have c12 : (σ.2 (jk + 14) 3) = (0 : Int64) := (lg_cmp_eq _ _).mp c12
        exact J95_10 a1 ls (if_pos c12).symm (lv_sub hl [1, 2, 3, 4, 5] rfl)
      ·
        have c12 : ¬ ((σ.2 (jk + 14) 3) = (0 : Int64)) := mt (lg_cmp_eq _ _).mpr c12
        refine lv_aload hx hb d_B_markedAbove_39 (lv_at hl 0 rfl) ?_
        refine g_getN hx hb ht in_T hown hK hP (jk + 14) (x_at14 (by omega)) rfl 2 (by decide) rfl (va_Nw.use rfl (hz.1 _ nk35)) (fun _ h9 => h9) (v := .int (σ.1 (jk + 14) 2)) rfl d_B_markedAbove_41 ?_
        refine lv_iload_n hx hb d_B_markedAbove_44 rfl (lv_at hl 5 rfl) ?_
        refine lv_icmp_gt (tgt := 51) hx hb d_B_markedAbove_45 (by decide) (fun c13 => ?_) (fun c13 => ?_)
        ·
          have c13 : n < (σ.1 (jk + 14) 2) := c13
          refine lv_aload hx hb d_B_markedAbove_51 (lv_at hl 0 rfl) ?_
          refine g_getN hx hb ht in_T hown hK hP (jk + 14) (x_at14 (by omega)) rfl 1 (by decide) rfl (va_Nw.use rfl (hz.1 _ nk33)) (fun _ h9 => h9) (v := .int (σ.1 (jk + 14) 1)) rfl d_B_markedAbove_53 ?_
          refine lv_iload_n hx hb d_B_markedAbove_56 rfl (lv_at hl 5 rfl) ?_
          refine lv_icmp_le (tgt := 68) hx hb d_B_markedAbove_57 (by decide) (fun c14 => ?_) (fun c14 => ?_)
          ·
            have c14 : (σ.1 (jk + 14) 1) ≤ n := c14
            refine lv_aload hx hb d_B_markedAbove_68 (lv_at hl 0 rfl) ?_
            refine g_getN hx hb ht in_T hown hK hP (jk + 14) (x_at14 (by omega)) rfl 2 (by decide) rfl (va_Nw.use rfl (hz.1 _ nk35)) (fun _ h9 => h9) (v := .int (σ.1 (jk + 14) 2)) rfl d_B_markedAbove_70 ?_
            refine lv_istore (lv' := [(7, .int (σ.1 (jk + 14) 2)), (6, .ref (ad (jk + 14))), (5, .int (Int32.ofNat jk)), (4, .int (10 : Int32)), (3, .ref (ad 4)), (2, .int a1), (1, .int n)]) hx hb d_B_markedAbove_73 hl (by decide) rfl (fun ls hl => ?_)
            refine lv_iload_n hx hb d_B_markedAbove_75 rfl (lv_at hl 5 rfl) ?_
            refine lv_sipush (v := (1000 : Int32)) hx hb d_B_markedAbove_76 (by decide) ?_
            refine lv_icmp_eq (tgt := 88) hx hb d_B_markedAbove_79 (by decide) (fun c15 => ?_) (fun c15 => ?_)
            ·
              have c15 : a1 = (1000 : Int32) := c15
              refine lv_iload hx hb d_B_markedAbove_88 (lv_at hl 0 rfl) ?_
              refine lv_goto (tgt := 94) hx hb d_B_markedAbove_90 (by decide) ?_
              refine lv_istore_n (lv' := [(2, .int (σ.1 (jk + 14) 2)), (7, .int (σ.1 (jk + 14) 2)), (6, .ref (ad (jk + 14))), (5, .int (Int32.ofNat jk)), (4, .int (10 : Int32)), (3, .ref (ad 4)), (1, .int n)]) hx hb d_B_markedAbove_94 rfl hl (by decide) rfl (fun ls hl => ?_)
              exact J95_10 (σ.1 (jk + 14) 2) ls ((((if_neg c12).trans (if_pos c13)).trans (if_pos c14)).trans (if_pos c15)).symm (lv_sub hl [3, 4, 5, 0, 6] rfl)
            ·
              have c15 : ¬ (a1 = (1000 : Int32)) := c15
              refine lv_iload hx hb d_B_markedAbove_82 (lv_at hl 0 rfl) ?_
              refine lv_iload_n hx hb d_B_markedAbove_84 rfl (lv_at hl 5 rfl) ?_
              refine lv_icmp_ge (tgt := 93) hx hb d_B_markedAbove_85 (by decide) (fun c16 => ?_) (fun c16 => ?_)
              ·
                have c16 : a1 ≤ (σ.1 (jk + 14) 2) := c16
                refine lv_iload_n hx hb d_B_markedAbove_93 rfl (lv_at hl 5 rfl) ?_
                refine lv_istore_n (lv' := [(2, .int a1), (7, .int (σ.1 (jk + 14) 2)), (6, .ref (ad (jk + 14))), (5, .int (Int32.ofNat jk)), (4, .int (10 : Int32)), (3, .ref (ad 4)), (1, .int n)]) hx hb d_B_markedAbove_94 rfl hl (by decide) rfl (fun ls hl => ?_)
                exact J95_10 a1 ls (((((if_neg c12).trans (if_pos c13)).trans (if_pos c14)).trans (if_neg c15)).trans (if_pos c16)).symm (lv_sub hl [3, 4, 5, 0, 6] rfl)
              ·
                have c16 : ¬ (a1 ≤ (σ.1 (jk + 14) 2)) := c16
                refine lv_iload hx hb d_B_markedAbove_88 (lv_at hl 0 rfl) ?_
                refine lv_goto (tgt := 94) hx hb d_B_markedAbove_90 (by decide) ?_
                refine lv_istore_n (lv' := [(2, .int (σ.1 (jk + 14) 2)), (7, .int (σ.1 (jk + 14) 2)), (6, .ref (ad (jk + 14))), (5, .int (Int32.ofNat jk)), (4, .int (10 : Int32)), (3, .ref (ad 4)), (1, .int n)]) hx hb d_B_markedAbove_94 rfl hl (by decide) rfl (fun ls hl => ?_)
                exact J95_10 (σ.1 (jk + 14) 2) ls (((((if_neg c12).trans (if_pos c13)).trans (if_pos c14)).trans (if_neg c15)).trans (if_neg c16)).symm (lv_sub hl [3, 4, 5, 0, 6] rfl)
          ·
            have c14 : ¬ ((σ.1 (jk + 14) 1) ≤ n) := c14
            refine lv_aload hx hb d_B_markedAbove_60 (lv_at hl 0 rfl) ?_
            refine g_getN hx hb ht in_T hown hK hP (jk + 14) (x_at14 (by omega)) rfl 1 (by decide) rfl (va_Nw.use rfl (hz.1 _ nk33)) (fun _ h9 => h9) (v := .int (σ.1 (jk + 14) 1)) rfl d_B_markedAbove_62 ?_
            refine lv_goto (tgt := 73) hx hb d_B_markedAbove_65 (by decide) ?_
            refine lv_istore (lv' := [(7, .int (σ.1 (jk + 14) 1)), (6, .ref (ad (jk + 14))), (5, .int (Int32.ofNat jk)), (4, .int (10 : Int32)), (3, .ref (ad 4)), (2, .int a1), (1, .int n)]) hx hb d_B_markedAbove_73 hl (by decide) rfl (fun ls hl => ?_)
            refine lv_iload_n hx hb d_B_markedAbove_75 rfl (lv_at hl 5 rfl) ?_
            refine lv_sipush (v := (1000 : Int32)) hx hb d_B_markedAbove_76 (by decide) ?_
            refine lv_icmp_eq (tgt := 88) hx hb d_B_markedAbove_79 (by decide) (fun c17 => ?_) (fun c17 => ?_)
            ·
              have c17 : a1 = (1000 : Int32) := c17
              refine lv_iload hx hb d_B_markedAbove_88 (lv_at hl 0 rfl) ?_
              refine lv_goto (tgt := 94) hx hb d_B_markedAbove_90 (by decide) ?_
              refine lv_istore_n (lv' := [(2, .int (σ.1 (jk + 14) 1)), (7, .int (σ.1 (jk + 14) 1)), (6, .ref (ad (jk + 14))), (5, .int (Int32.ofNat jk)), (4, .int (10 : Int32)), (3, .ref (ad 4)), (1, .int n)]) hx hb d_B_markedAbove_94 rfl hl (by decide) rfl (fun ls hl => ?_)
              exact J95_10 (σ.1 (jk + 14) 1) ls ((((if_neg c12).trans (if_pos c13)).trans (if_neg c14)).trans (if_pos c17)).symm (lv_sub hl [3, 4, 5, 0, 6] rfl)
            ·
              have c17 : ¬ (a1 = (1000 : Int32)) := c17
              refine lv_iload hx hb d_B_markedAbove_82 (lv_at hl 0 rfl) ?_
              refine lv_iload_n hx hb d_B_markedAbove_84 rfl (lv_at hl 5 rfl) ?_
              refine lv_icmp_ge (tgt := 93) hx hb d_B_markedAbove_85 (by decide) (fun c18 => ?_) (fun c18 => ?_)
              ·
                have c18 : a1 ≤ (σ.1 (jk + 14) 1) := c18
                refine lv_iload_n hx hb d_B_markedAbove_93 rfl (lv_at hl 5 rfl) ?_
                refine lv_istore_n (lv' := [(2, .int a1), (7, .int (σ.1 (jk + 14) 1)), (6, .ref (ad (jk + 14))), (5, .int (Int32.ofNat jk)), (4, .int (10 : Int32)), (3, .ref (ad 4)), (1, .int n)]) hx hb d_B_markedAbove_94 rfl hl (by decide) rfl (fun ls hl => ?_)
                exact J95_10 a1 ls (((((if_neg c12).trans (if_pos c13)).trans (if_neg c14)).trans (if_neg c17)).trans (if_pos c18)).symm (lv_sub hl [3, 4, 5, 0, 6] rfl)
              ·
                have c18 : ¬ (a1 ≤ (σ.1 (jk + 14) 1)) := c18
                refine lv_iload hx hb d_B_markedAbove_88 (lv_at hl 0 rfl) ?_
                refine lv_goto (tgt := 94) hx hb d_B_markedAbove_90 (by decide) ?_
                refine lv_istore_n (lv' := [(2, .int (σ.1 (jk + 14) 1)), (7, .int (σ.1 (jk + 14) 1)), (6, .ref (ad (jk + 14))), (5, .int (Int32.ofNat jk)), (4, .int (10 : Int32)), (3, .ref (ad 4)), (1, .int n)]) hx hb d_B_markedAbove_94 rfl hl (by decide) rfl (fun ls hl => ?_)
                exact J95_10 (σ.1 (jk + 14) 1) ls (((((if_neg c12).trans (if_pos c13)).trans (if_neg c14)).trans (if_neg c17)).trans (if_neg c18)).symm (lv_sub hl [3, 4, 5, 0, 6] rfl)
        ·
          have c13 : ¬ (n < (σ.1 (jk + 14) 2)) := c13
          refine lv_goto (tgt := 95) hx hb d_B_markedAbove_48 (by decide) ?_
          exact J95_10 a1 ls ((if_neg c12).trans (if_neg c13)).symm (lv_sub hl [1, 2, 3, 4, 5] rfl)
  exact LL16_6 10 0 (1000 : Int32) ls (by omega) rfl  (lv_sub hl [0, 1, 2, 3, 5] rfl)
def f_D_tokenIn_11_2 (σ : g_S) : Int32 := (1 : Int32)
def f_D_tokenIn_7_3 (σ : g_S) : Int32 := (0 : Int32)
def f_D_tokenIn (σ : g_S) : Int32 := (if (σ.1 9 1) = 0 then f_D_tokenIn_11_2 σ else f_D_tokenIn_7_3 σ)
set_option maxHeartbeats 4000000 in
set_option maxRecDepth 100000 in
theorem c_D_tokenIn (l : Launch) (dC : Nat → ClassId) (dI : Nat → Nat → Nat) (dA : Nat → ClassId) (ad : Nat → Nat) (tb : Nat) (σ : g_S) : Met l y_D_tokenIn w_D_tokenIn ({ frames := 0, cells := 0, slots := 0, locals := 0 }) (va_Pc [.ref (ad 9)] (g_R (dC, dI) cls (x_tys dA) (g_w x_sh dA ad σ) (x_Z tb))) (vp_Si (fun r => r = f_D_tokenIn σ)) 0 0 (fun _ => False) := by
  refine Met.ofW (cc := b_D_tokenIn) (maxL := 1) (ret := (some .int)) (by decide) rfl ?_
  intro p e s m args below meth c s₁ B hml hv
  obtain ⟨rfl, hP, hK, hz⟩ := hv
  have hx := B.exec
  have hb := B.bytes
  have hr := B.returns
  have hts := atoms_spec (ws := w_D_tokenIn) B.pre
  have ht := fun (w : Cond) (h : w ∈ gA) => hts w (List.mem_cons_of_mem _ h)
  have hown : s.vm.findClass "RangedPool$Trade" = some m.cls := findClass_of_methodNamed B.named
  have hlocks := B.notSynchronized
  have hS : va_S (fun _ => False) s.heap s.heap [] := va_S.rf
  have hl := lv_entry ([.ref (ad 9)]) (n := 1) (Nat.le_of_ble_eq_true rfl)
  rw [lg_entry_eq]
  generalize (lg_sl ([.ref (ad 9)]) ++ List.replicate (1 - (lg_sl ([.ref (ad 9)])).length) Slot.unset).toArray = ls at hl ⊢
  have hl : lv_has ls 1 [(0, .ref (ad 9))] := hl
  have hF : f_D_tokenIn σ = f_D_tokenIn σ := rfl
  refine lv_aload_n hx hb d_D_tokenIn_0 rfl (lv_at hl 0 rfl) ?_
  refine g_get hx hb ht in_D hown hK hP (9) x_at9 rfl 1 (by decide) rfl (ht _ kw101) (fun _ h9 => h9) (v := .int (σ.1 9 1)) rfl d_D_tokenIn_1 ?_
  refine lv_if_eq (tgt := 11) hx hb d_D_tokenIn_4 (by decide) (fun c1 => ?_) (fun c1 => ?_)
  ·
    have c1 : (σ.1 9 1) = 0 := c1
    have hF : f_D_tokenIn σ = f_D_tokenIn_11_2 σ := hF.trans (if_pos c1)
    refine lv_iconst (v := (1 : Int32)) hx hb d_D_tokenIn_11 (by decide) ?_
    exact W.iret (v := (1 : Int32)) hx hb hr (fun t hh hW => ⟨_, rfl, hF.symm, hh⟩) (fun _ h => by cases h) d_D_tokenIn_12
  ·
    have c1 : ¬ ((σ.1 9 1) = 0) := c1
    have hF : f_D_tokenIn σ = f_D_tokenIn_7_3 σ := hF.trans (if_neg c1)
    refine lv_iconst (v := (0 : Int32)) hx hb d_D_tokenIn_7 (by decide) ?_
    refine lv_goto (tgt := 12) hx hb d_D_tokenIn_8 (by decide) ?_
    exact W.iret (v := (0 : Int32)) hx hb hr (fun t hh hW => ⟨_, rfl, hF.symm, hh⟩) (fun _ h => by cases h) d_D_tokenIn_12
def f_D_targetBefore_34_8 (σ : g_S) (n : Int32) (r6 : Int32) : Int32 := (if (σ.1 9 2) < r6 then (σ.1 9 2) else r6)
def k_D_targetBefore_34_8 (σ : g_S) (n : Int32) (r6 : Int32) : Prop := True
def f_D_targetBefore_33_4 (σ : g_S) (n : Int32) : Int32 := (f_D_targetBefore_34_8 σ n (f_P_priceOf n))
def k_D_targetBefore_33_4 (σ : g_S) (n : Int32) : Prop := (k_P_priceOf n) ∧ (k_D_targetBefore_34_8 σ n (f_P_priceOf n))
def f_D_targetBefore_20_13 (σ : g_S) (n : Int32) (r11 : Int32) : Int32 := (if r11 < (σ.1 9 2) then (σ.1 9 2) else r11)
def k_D_targetBefore_20_13 (σ : g_S) (n : Int32) (r11 : Int32) : Prop := True
def f_D_targetBefore_19_9 (σ : g_S) (n : Int32) : Int32 := (f_D_targetBefore_20_13 σ n (f_P_priceOf n))
def k_D_targetBefore_19_9 (σ : g_S) (n : Int32) : Prop := (k_P_priceOf n) ∧ (k_D_targetBefore_20_13 σ n (f_P_priceOf n))
def f_D_targetBefore_12_2 (σ : g_S) (n : Int32) : Int32 := (if (σ.1 9 1) = 0 then f_D_targetBefore_33_4 σ n else f_D_targetBefore_19_9 σ n)
def k_D_targetBefore_12_2 (σ : g_S) (n : Int32) : Prop := (if (σ.1 9 1) = 0 then k_D_targetBefore_33_4 σ n else k_D_targetBefore_19_9 σ n)
def f_D_targetBefore_7_14 (σ : g_S) (n : Int32) : Int32 := σ.1 9 2
def k_D_targetBefore_7_14 (σ : g_S) (n : Int32) : Prop := True
def f_D_targetBefore (σ : g_S) (n : Int32) : Int32 := (if n = (1000 : Int32) then f_D_targetBefore_7_14 σ n else f_D_targetBefore_12_2 σ n)
def k_D_targetBefore (σ : g_S) (n : Int32) : Prop := (if n = (1000 : Int32) then k_D_targetBefore_7_14 σ n else k_D_targetBefore_12_2 σ n)
set_option maxHeartbeats 4000000 in
set_option maxRecDepth 100000 in
theorem c_D_targetBefore (l : Launch) (dC : Nat → ClassId) (dI : Nat → Nat → Nat) (dA : Nat → ClassId) (ad : Nat → Nat) (tb : Nat) (σ : g_S) (n : Int32) (hQ : k_D_targetBefore σ n) : Met l y_D_targetBefore w_D_targetBefore ({ frames := 1, cells := 0, slots := 0, locals := 24 }) (va_Pc [.ref (ad 9), .int n] (g_R (dC, dI) cls (x_tys dA) (g_w x_sh dA ad σ) (x_Z tb))) (vp_Si (fun r => r = f_D_targetBefore σ n)) 0 0 (fun _ => False) := by
  refine Met.ofW (cc := b_D_targetBefore) (maxL := 2) (ret := (some .int)) (by decide) rfl ?_
  intro p e s m args below meth c s₁ B hml hv
  obtain ⟨rfl, hP, hK, hz⟩ := hv
  have hx := B.exec
  have hb := B.bytes
  have hr := B.returns
  have hts := atoms_spec (ws := w_D_targetBefore) B.pre
  have ht := fun (w : Cond) (h : w ∈ gA) => hts w (List.mem_cons_of_mem _ h)
  have hown : s.vm.findClass "RangedPool$Trade" = some m.cls := findClass_of_methodNamed B.named
  have hlocks := B.notSynchronized
  have hS : va_S (fun _ => False) s.heap s.heap [] := va_S.rf
  have hl := lv_entry ([.ref (ad 9), .int n]) (n := 2) (Nat.le_of_ble_eq_true rfl)
  rw [lg_entry_eq]
  generalize (lg_sl ([.ref (ad 9), .int n]) ++ List.replicate (2 - (lg_sl ([.ref (ad 9), .int n])).length) Slot.unset).toArray = ls at hl ⊢
  have hl : lv_has ls 2 [(0, .ref (ad 9)), (1, .int n)] := hl
  have hF : f_D_targetBefore σ n = f_D_targetBefore σ n := rfl
  refine lv_iload_n hx hb d_D_targetBefore_0 rfl (lv_at hl 1 rfl) ?_
  refine lv_sipush (v := (1000 : Int32)) hx hb d_D_targetBefore_1 (by decide) ?_
  refine lv_icmp_ne (tgt := 12) hx hb d_D_targetBefore_4 (by decide) (fun c1 => ?_) (fun c1 => ?_)
  ·
    have c1 : ¬ (n = (1000 : Int32)) := c1
    have hF : f_D_targetBefore σ n = f_D_targetBefore_12_2 σ n := hF.trans (if_neg c1)
    have hQ : k_D_targetBefore_12_2 σ n := Eq.mp (if_neg c1) hQ
    refine lv_aload_n hx hb d_D_targetBefore_12 rfl (lv_at hl 0 rfl) ?_
    refine g_get hx hb ht in_D hown hK hP (9) x_at9 rfl 1 (by decide) rfl (ht _ kw101) (fun _ h9 => h9) (v := .int (σ.1 9 1)) rfl d_D_targetBefore_13 ?_
    refine lv_if_eq (tgt := 33) hx hb d_D_targetBefore_16 (by decide) (fun c3 => ?_) (fun c3 => ?_)
    ·
      have c3 : (σ.1 9 1) = 0 := c3
      have hF : f_D_targetBefore σ n = f_D_targetBefore_33_4 σ n := hF.trans (if_pos c3)
      have hQ : k_D_targetBefore_33_4 σ n := Eq.mp (if_pos c3) hQ
      refine lv_iload_n hx hb d_D_targetBefore_33 rfl (lv_at hl 1 rfl) ?_
      obtain ⟨hs5, hQ⟩ := hQ
      refine g_cSi (va_runSN (host := "RangedPool") (As := [.int n]) (rest := []) ⟨hx, hb, hml, hown, ht⟩ (c_P_priceOf l tb n hs5) ⟨va_cnB 1 ht gn_P_priceOf rfl rfl rfl (hz.1 _ nk316) (ht _ kw1) (by decide +kernel) ⟨Nat.le_of_ble_eq_true rfl, Nat.le_of_ble_eq_true rfl⟩, ht _ kw168, trivial⟩ (g_prZ x_Zok hS hz _) rfl rfl hl.1 rfl (lv_room (Nat.le_of_ble_eq_true rfl)) d_D_targetBefore_34 ⟨Nat.le_of_ble_eq_true rfl, Nat.le_of_ble_eq_true rfl⟩) (fun r6 e7 => ?_)
      have hF : f_D_targetBefore σ n = f_D_targetBefore_34_8 σ n r6 := hF.trans (by rw [e7]; try rfl)
      have hQ : k_D_targetBefore_34_8 σ n r6 := by rw [e7]; exact hQ
      refine lv_aload_n hx hb d_D_targetBefore_37 rfl (lv_at hl 0 rfl) ?_
      refine g_get hx hb ht in_D hown hK hP (9) x_at9 rfl 2 (by decide) rfl (ht _ kw102) (fun _ h9 => h9) (v := .int (σ.1 9 2)) rfl d_D_targetBefore_38 ?_
      refine va_mmin hx hb (hml.trans hl.1.symm) hown (ht _ kw320) (ht _ kw321) (ht _ kw7) (ht _ kw322) (Nat.le_of_ble_eq_true rfl) (Nat.le_of_ble_eq_true rfl) (Nat.le_of_ble_eq_true rfl) (Nat.le_of_ble_eq_true rfl) d_D_targetBefore_41 ?_
      exact W.iret (v := (if (σ.1 9 2) < r6 then (σ.1 9 2) else r6)) hx hb hr (fun t hh hW => ⟨_, rfl, hF.symm, hh⟩) (fun _ h => by cases h) d_D_targetBefore_44
    ·
      have c3 : ¬ ((σ.1 9 1) = 0) := c3
      have hF : f_D_targetBefore σ n = f_D_targetBefore_19_9 σ n := hF.trans (if_neg c3)
      have hQ : k_D_targetBefore_19_9 σ n := Eq.mp (if_neg c3) hQ
      refine lv_iload_n hx hb d_D_targetBefore_19 rfl (lv_at hl 1 rfl) ?_
      obtain ⟨hs10, hQ⟩ := hQ
      refine g_cSi (va_runSN (host := "RangedPool") (As := [.int n]) (rest := []) ⟨hx, hb, hml, hown, ht⟩ (c_P_priceOf l tb n hs10) ⟨va_cnB 1 ht gn_P_priceOf rfl rfl rfl (hz.1 _ nk316) (ht _ kw1) (by decide +kernel) ⟨Nat.le_of_ble_eq_true rfl, Nat.le_of_ble_eq_true rfl⟩, ht _ kw168, trivial⟩ (g_prZ x_Zok hS hz _) rfl rfl hl.1 rfl (lv_room (Nat.le_of_ble_eq_true rfl)) d_D_targetBefore_20 ⟨Nat.le_of_ble_eq_true rfl, Nat.le_of_ble_eq_true rfl⟩) (fun r11 e12 => ?_)
      have hF : f_D_targetBefore σ n = f_D_targetBefore_20_13 σ n r11 := hF.trans (by rw [e12]; try rfl)
      have hQ : k_D_targetBefore_20_13 σ n r11 := by rw [e12]; exact hQ
      refine lv_aload_n hx hb d_D_targetBefore_23 rfl (lv_at hl 0 rfl) ?_
      refine g_get hx hb ht in_D hown hK hP (9) x_at9 rfl 2 (by decide) rfl (ht _ kw102) (fun _ h9 => h9) (v := .int (σ.1 9 2)) rfl d_D_targetBefore_24 ?_
      refine va_mmax hx hb (hml.trans hl.1.symm) hown (ht _ kw317) (ht _ kw318) (ht _ kw7) (ht _ kw319) (Nat.le_of_ble_eq_true rfl) (Nat.le_of_ble_eq_true rfl) (Nat.le_of_ble_eq_true rfl) (Nat.le_of_ble_eq_true rfl) d_D_targetBefore_27 ?_
      refine lv_goto (tgt := 44) hx hb d_D_targetBefore_30 (by decide) ?_
      exact W.iret (v := (if r11 < (σ.1 9 2) then (σ.1 9 2) else r11)) hx hb hr (fun t hh hW => ⟨_, rfl, hF.symm, hh⟩) (fun _ h => by cases h) d_D_targetBefore_44
  ·
    have c1 : n = (1000 : Int32) := c1
    have hF : f_D_targetBefore σ n = f_D_targetBefore_7_14 σ n := hF.trans (if_pos c1)
    have hQ : k_D_targetBefore_7_14 σ n := Eq.mp (if_pos c1) hQ
    refine lv_aload_n hx hb d_D_targetBefore_7 rfl (lv_at hl 0 rfl) ?_
    refine g_get hx hb ht in_D hown hK hP (9) x_at9 rfl 2 (by decide) rfl (ht _ kw102) (fun _ h9 => h9) (v := .int (σ.1 9 2)) rfl d_D_targetBefore_8 ?_
    exact W.iret (v := σ.1 9 2) hx hb hr (fun t hh hW => ⟨_, rfl, hF.symm, hh⟩) (fun _ h => by cases h) d_D_targetBefore_11
def f_D_amountIn_22_2 (σ : g_S) (w : Int64) (to : Int32) : Int64 := f_P_oneBetween ((σ.1 9 4).toInt64) to.toInt64 w (1 : Int32)
def k_D_amountIn_22_2 (σ : g_S) (w : Int64) (to : Int32) : Prop := (k_P_oneBetween ((σ.1 9 4).toInt64) to.toInt64 w (1 : Int32)) ∧ True
def f_D_amountIn_16_10 (σ : g_S) (w : Int64) (to : Int32) (r8 : Int64) : Int64 := r8
def k_D_amountIn_16_10 (σ : g_S) (w : Int64) (to : Int32) (r8 : Int64) : Prop := True
def f_D_amountIn_7_6 (σ : g_S) (w : Int64) (to : Int32) : Int64 := (f_D_amountIn_16_10 σ w to (f_P_zeroBetween to.toInt64 ((σ.1 9 4).toInt64) w (1 : Int32)))
def k_D_amountIn_7_6 (σ : g_S) (w : Int64) (to : Int32) : Prop := (k_P_zeroBetween to.toInt64 ((σ.1 9 4).toInt64) w (1 : Int32)) ∧ (k_D_amountIn_16_10 σ w to (f_P_zeroBetween to.toInt64 ((σ.1 9 4).toInt64) w (1 : Int32)))
def f_D_amountIn (σ : g_S) (w : Int64) (to : Int32) : Int64 := (if (σ.1 9 1) = 0 then f_D_amountIn_22_2 σ w to else f_D_amountIn_7_6 σ w to)
def k_D_amountIn (σ : g_S) (w : Int64) (to : Int32) : Prop := (if (σ.1 9 1) = 0 then k_D_amountIn_22_2 σ w to else k_D_amountIn_7_6 σ w to)
set_option maxHeartbeats 4000000 in
set_option maxRecDepth 100000 in
theorem c_D_amountIn (l : Launch) (dC : Nat → ClassId) (dI : Nat → Nat → Nat) (dA : Nat → ClassId) (ad : Nat → Nat) (tb : Nat) (σ : g_S) (w : Int64) (to : Int32) (hQ : k_D_amountIn σ w to) : Met l y_D_amountIn w_D_amountIn ({ frames := 2, cells := 0, slots := 0, locals := 52 }) (va_Pc [.ref (ad 9), .long w, .int to] (g_R (dC, dI) cls (x_tys dA) (g_w x_sh dA ad σ) (x_Z tb))) (vp_Sl (fun r => r = f_D_amountIn σ w to)) 0 0 (fun _ => False) := by
  refine Met.ofW (cc := b_D_amountIn) (maxL := 4) (ret := (some .long)) (by decide) rfl ?_
  intro p e s m args below meth c s₁ B hml hv
  obtain ⟨rfl, hP, hK, hz⟩ := hv
  have hx := B.exec
  have hb := B.bytes
  have hr := B.returns
  have hts := atoms_spec (ws := w_D_amountIn) B.pre
  have ht := fun (w : Cond) (h : w ∈ gA) => hts w (List.mem_cons_of_mem _ h)
  have hown : s.vm.findClass "RangedPool$Trade" = some m.cls := findClass_of_methodNamed B.named
  have hlocks := B.notSynchronized
  have hS : va_S (fun _ => False) s.heap s.heap [] := va_S.rf
  have hl := lv_entry ([.ref (ad 9), .long w, .int to]) (n := 4) (Nat.le_of_ble_eq_true rfl)
  rw [lg_entry_eq]
  generalize (lg_sl ([.ref (ad 9), .long w, .int to]) ++ List.replicate (4 - (lg_sl ([.ref (ad 9), .long w, .int to])).length) Slot.unset).toArray = ls at hl ⊢
  have hl : lv_has ls 4 [(0, .ref (ad 9)), (1, .long w), (3, .int to)] := hl
  have hF : f_D_amountIn σ w to = f_D_amountIn σ w to := rfl
  refine lv_aload_n hx hb d_D_amountIn_0 rfl (lv_at hl 0 rfl) ?_
  refine g_get hx hb ht in_D hown hK hP (9) x_at9 rfl 1 (by decide) rfl (ht _ kw101) (fun _ h9 => h9) (v := .int (σ.1 9 1)) rfl d_D_amountIn_1 ?_
  refine lv_if_eq (tgt := 22) hx hb d_D_amountIn_4 (by decide) (fun c1 => ?_) (fun c1 => ?_)
  ·
    have c1 : (σ.1 9 1) = 0 := c1
    have hF : f_D_amountIn σ w to = f_D_amountIn_22_2 σ w to := hF.trans (if_pos c1)
    have hQ : k_D_amountIn_22_2 σ w to := Eq.mp (if_pos c1) hQ
    refine lv_aload_n hx hb d_D_amountIn_22 rfl (lv_at hl 0 rfl) ?_
    refine g_get hx hb ht in_D hown hK hP (9) x_at9 rfl 4 (by decide) rfl (ht _ kw104) (fun _ h9 => h9) (v := .int (σ.1 9 4)) rfl d_D_amountIn_23 ?_
    refine lv_i2l (v := (σ.1 9 4).toInt64) hx hb d_D_amountIn_26 rfl ?_
    refine lv_iload_n hx hb d_D_amountIn_27 rfl (lv_at hl 2 rfl) ?_
    refine lv_i2l (v := to.toInt64) hx hb d_D_amountIn_28 rfl ?_
    refine lv_lload_n hx hb d_D_amountIn_29 rfl (lv_at hl 1 rfl) ?_
    refine lv_iconst (v := (1 : Int32)) hx hb d_D_amountIn_30 (by decide) ?_
    obtain ⟨hs3, hQ⟩ := hQ
    refine g_cSlE (va_runSN (host := "RangedPool") (As := [.long ((σ.1 9 4).toInt64), .long to.toInt64, .long w, .int (1 : Int32)]) (rest := []) ⟨hx, hb, hml, hown, ht⟩ (c_P_oneBetween l ((σ.1 9 4).toInt64) to.toInt64 w (1 : Int32) hs3) ⟨va_cnB 4 ht gn_P_oneBetween rfl rfl rfl (hz.1 _ nk341) (ht _ kw1) (by decide +kernel) ⟨Nat.le_of_ble_eq_true rfl, Nat.le_of_ble_eq_true rfl⟩, ht _ kw240, trivial⟩ (g_pr0 _) rfl rfl hl.1 rfl (lv_room (Nat.le_of_ble_eq_true rfl)) d_D_amountIn_31 ⟨Nat.le_of_ble_eq_true rfl, Nat.le_of_ble_eq_true rfl⟩) ?_
    exact W.lret (v := f_P_oneBetween ((σ.1 9 4).toInt64) to.toInt64 w (1 : Int32)) hx hb hr (fun t hh hW => ⟨_, rfl, hF.symm, hh⟩) (fun _ h => by cases h) d_D_amountIn_34
  ·
    have c1 : ¬ ((σ.1 9 1) = 0) := c1
    have hF : f_D_amountIn σ w to = f_D_amountIn_7_6 σ w to := hF.trans (if_neg c1)
    have hQ : k_D_amountIn_7_6 σ w to := Eq.mp (if_neg c1) hQ
    refine lv_iload_n hx hb d_D_amountIn_7 rfl (lv_at hl 2 rfl) ?_
    refine lv_i2l (v := to.toInt64) hx hb d_D_amountIn_8 rfl ?_
    refine lv_aload_n hx hb d_D_amountIn_9 rfl (lv_at hl 0 rfl) ?_
    refine g_get hx hb ht in_D hown hK hP (9) x_at9 rfl 4 (by decide) rfl (ht _ kw104) (fun _ h9 => h9) (v := .int (σ.1 9 4)) rfl d_D_amountIn_10 ?_
    refine lv_i2l (v := (σ.1 9 4).toInt64) hx hb d_D_amountIn_13 rfl ?_
    refine lv_lload_n hx hb d_D_amountIn_14 rfl (lv_at hl 1 rfl) ?_
    refine lv_iconst (v := (1 : Int32)) hx hb d_D_amountIn_15 (by decide) ?_
    obtain ⟨hs7, hQ⟩ := hQ
    refine g_cSl (va_runSN (host := "RangedPool") (As := [.long to.toInt64, .long ((σ.1 9 4).toInt64), .long w, .int (1 : Int32)]) (rest := []) ⟨hx, hb, hml, hown, ht⟩ (c_P_zeroBetween l to.toInt64 ((σ.1 9 4).toInt64) w (1 : Int32) hs7) ⟨va_cnB 4 ht gn_P_zeroBetween rfl rfl rfl (hz.1 _ nk340) (ht _ kw1) (by decide +kernel) ⟨Nat.le_of_ble_eq_true rfl, Nat.le_of_ble_eq_true rfl⟩, ht _ kw229, trivial⟩ (g_pr0 _) rfl rfl hl.1 rfl (lv_room (Nat.le_of_ble_eq_true rfl)) d_D_amountIn_16 ⟨Nat.le_of_ble_eq_true rfl, Nat.le_of_ble_eq_true rfl⟩) (fun r8 e9 => ?_)
    have hF : f_D_amountIn σ w to = f_D_amountIn_16_10 σ w to r8 := hF.trans (by rw [e9]; try rfl)
    have hQ : k_D_amountIn_16_10 σ w to r8 := by rw [e9]; exact hQ
    refine lv_goto (tgt := 34) hx hb d_D_amountIn_19 (by decide) ?_
    exact W.lret (v := r8) hx hb hr (fun t hh hW => ⟨_, rfl, hF.symm, hh⟩) (fun _ h => by cases h) d_D_amountIn_34
def f_D_amountOut_22_2 (σ : g_S) (w : Int64) (to : Int32) : Int64 := f_P_zeroBetween ((σ.1 9 4).toInt64) to.toInt64 w (0 : Int32)
def k_D_amountOut_22_2 (σ : g_S) (w : Int64) (to : Int32) : Prop := (k_P_zeroBetween ((σ.1 9 4).toInt64) to.toInt64 w (0 : Int32)) ∧ True
def f_D_amountOut_16_10 (σ : g_S) (w : Int64) (to : Int32) (r8 : Int64) : Int64 := r8
def k_D_amountOut_16_10 (σ : g_S) (w : Int64) (to : Int32) (r8 : Int64) : Prop := True
def f_D_amountOut_7_6 (σ : g_S) (w : Int64) (to : Int32) : Int64 := (f_D_amountOut_16_10 σ w to (f_P_oneBetween to.toInt64 ((σ.1 9 4).toInt64) w (0 : Int32)))
def k_D_amountOut_7_6 (σ : g_S) (w : Int64) (to : Int32) : Prop := (k_P_oneBetween to.toInt64 ((σ.1 9 4).toInt64) w (0 : Int32)) ∧ (k_D_amountOut_16_10 σ w to (f_P_oneBetween to.toInt64 ((σ.1 9 4).toInt64) w (0 : Int32)))
def f_D_amountOut (σ : g_S) (w : Int64) (to : Int32) : Int64 := (if (σ.1 9 1) = 0 then f_D_amountOut_22_2 σ w to else f_D_amountOut_7_6 σ w to)
def k_D_amountOut (σ : g_S) (w : Int64) (to : Int32) : Prop := (if (σ.1 9 1) = 0 then k_D_amountOut_22_2 σ w to else k_D_amountOut_7_6 σ w to)
set_option maxHeartbeats 4000000 in
set_option maxRecDepth 100000 in
theorem c_D_amountOut (l : Launch) (dC : Nat → ClassId) (dI : Nat → Nat → Nat) (dA : Nat → ClassId) (ad : Nat → Nat) (tb : Nat) (σ : g_S) (w : Int64) (to : Int32) (hQ : k_D_amountOut σ w to) : Met l y_D_amountOut w_D_amountOut ({ frames := 2, cells := 0, slots := 0, locals := 52 }) (va_Pc [.ref (ad 9), .long w, .int to] (g_R (dC, dI) cls (x_tys dA) (g_w x_sh dA ad σ) (x_Z tb))) (vp_Sl (fun r => r = f_D_amountOut σ w to)) 0 0 (fun _ => False) := by
  refine Met.ofW (cc := b_D_amountOut) (maxL := 4) (ret := (some .long)) (by decide) rfl ?_
  intro p e s m args below meth c s₁ B hml hv
  obtain ⟨rfl, hP, hK, hz⟩ := hv
  have hx := B.exec
  have hb := B.bytes
  have hr := B.returns
  have hts := atoms_spec (ws := w_D_amountOut) B.pre
  have ht := fun (w : Cond) (h : w ∈ gA) => hts w (List.mem_cons_of_mem _ h)
  have hown : s.vm.findClass "RangedPool$Trade" = some m.cls := findClass_of_methodNamed B.named
  have hlocks := B.notSynchronized
  have hS : va_S (fun _ => False) s.heap s.heap [] := va_S.rf
  have hl := lv_entry ([.ref (ad 9), .long w, .int to]) (n := 4) (Nat.le_of_ble_eq_true rfl)
  rw [lg_entry_eq]
  generalize (lg_sl ([.ref (ad 9), .long w, .int to]) ++ List.replicate (4 - (lg_sl ([.ref (ad 9), .long w, .int to])).length) Slot.unset).toArray = ls at hl ⊢
  have hl : lv_has ls 4 [(0, .ref (ad 9)), (1, .long w), (3, .int to)] := hl
  have hF : f_D_amountOut σ w to = f_D_amountOut σ w to := rfl
  refine lv_aload_n hx hb d_D_amountOut_0 rfl (lv_at hl 0 rfl) ?_
  refine g_get hx hb ht in_D hown hK hP (9) x_at9 rfl 1 (by decide) rfl (ht _ kw101) (fun _ h9 => h9) (v := .int (σ.1 9 1)) rfl d_D_amountOut_1 ?_
  refine lv_if_eq (tgt := 22) hx hb d_D_amountOut_4 (by decide) (fun c1 => ?_) (fun c1 => ?_)
  ·
    have c1 : (σ.1 9 1) = 0 := c1
    have hF : f_D_amountOut σ w to = f_D_amountOut_22_2 σ w to := hF.trans (if_pos c1)
    have hQ : k_D_amountOut_22_2 σ w to := Eq.mp (if_pos c1) hQ
    refine lv_aload_n hx hb d_D_amountOut_22 rfl (lv_at hl 0 rfl) ?_
    refine g_get hx hb ht in_D hown hK hP (9) x_at9 rfl 4 (by decide) rfl (ht _ kw104) (fun _ h9 => h9) (v := .int (σ.1 9 4)) rfl d_D_amountOut_23 ?_
    refine lv_i2l (v := (σ.1 9 4).toInt64) hx hb d_D_amountOut_26 rfl ?_
    refine lv_iload_n hx hb d_D_amountOut_27 rfl (lv_at hl 2 rfl) ?_
    refine lv_i2l (v := to.toInt64) hx hb d_D_amountOut_28 rfl ?_
    refine lv_lload_n hx hb d_D_amountOut_29 rfl (lv_at hl 1 rfl) ?_
    refine lv_iconst (v := (0 : Int32)) hx hb d_D_amountOut_30 (by decide) ?_
    obtain ⟨hs3, hQ⟩ := hQ
    refine g_cSlE (va_runSN (host := "RangedPool") (As := [.long ((σ.1 9 4).toInt64), .long to.toInt64, .long w, .int (0 : Int32)]) (rest := []) ⟨hx, hb, hml, hown, ht⟩ (c_P_zeroBetween l ((σ.1 9 4).toInt64) to.toInt64 w (0 : Int32) hs3) ⟨va_cnB 4 ht gn_P_zeroBetween rfl rfl rfl (hz.1 _ nk340) (ht _ kw1) (by decide +kernel) ⟨Nat.le_of_ble_eq_true rfl, Nat.le_of_ble_eq_true rfl⟩, ht _ kw229, trivial⟩ (g_pr0 _) rfl rfl hl.1 rfl (lv_room (Nat.le_of_ble_eq_true rfl)) d_D_amountOut_31 ⟨Nat.le_of_ble_eq_true rfl, Nat.le_of_ble_eq_true rfl⟩) ?_
    exact W.lret (v := f_P_zeroBetween ((σ.1 9 4).toInt64) to.toInt64 w (0 : Int32)) hx hb hr (fun t hh hW => ⟨_, rfl, hF.symm, hh⟩) (fun _ h => by cases h) d_D_amountOut_34
  ·
    have c1 : ¬ ((σ.1 9 1) = 0) := c1
    have hF : f_D_amountOut σ w to = f_D_amountOut_7_6 σ w to := hF.trans (if_neg c1)
    have hQ : k_D_amountOut_7_6 σ w to := Eq.mp (if_neg c1) hQ
    refine lv_iload_n hx hb d_D_amountOut_7 rfl (lv_at hl 2 rfl) ?_
    refine lv_i2l (v := to.toInt64) hx hb d_D_amountOut_8 rfl ?_
    refine lv_aload_n hx hb d_D_amountOut_9 rfl (lv_at hl 0 rfl) ?_
    refine g_get hx hb ht in_D hown hK hP (9) x_at9 rfl 4 (by decide) rfl (ht _ kw104) (fun _ h9 => h9) (v := .int (σ.1 9 4)) rfl d_D_amountOut_10 ?_
    refine lv_i2l (v := (σ.1 9 4).toInt64) hx hb d_D_amountOut_13 rfl ?_
    refine lv_lload_n hx hb d_D_amountOut_14 rfl (lv_at hl 1 rfl) ?_
    refine lv_iconst (v := (0 : Int32)) hx hb d_D_amountOut_15 (by decide) ?_
    obtain ⟨hs7, hQ⟩ := hQ
    refine g_cSl (va_runSN (host := "RangedPool") (As := [.long to.toInt64, .long ((σ.1 9 4).toInt64), .long w, .int (0 : Int32)]) (rest := []) ⟨hx, hb, hml, hown, ht⟩ (c_P_oneBetween l to.toInt64 ((σ.1 9 4).toInt64) w (0 : Int32) hs7) ⟨va_cnB 4 ht gn_P_oneBetween rfl rfl rfl (hz.1 _ nk341) (ht _ kw1) (by decide +kernel) ⟨Nat.le_of_ble_eq_true rfl, Nat.le_of_ble_eq_true rfl⟩, ht _ kw240, trivial⟩ (g_pr0 _) rfl rfl hl.1 rfl (lv_room (Nat.le_of_ble_eq_true rfl)) d_D_amountOut_16 ⟨Nat.le_of_ble_eq_true rfl, Nat.le_of_ble_eq_true rfl⟩) (fun r8 e9 => ?_)
    have hF : f_D_amountOut σ w to = f_D_amountOut_16_10 σ w to r8 := hF.trans (by rw [e9]; try rfl)
    have hQ : k_D_amountOut_16_10 σ w to r8 := by rw [e9]; exact hQ
    refine lv_goto (tgt := 34) hx hb d_D_amountOut_19 (by decide) ?_
    exact W.lret (v := r8) hx hb hr (fun t hh hW => ⟨_, rfl, hF.symm, hh⟩) (fun _ h => by cases h) d_D_amountOut_34
def f_D_priceAfterPaying_85_12 (σ : g_S) (w : Int64) (tg : Int32) (r2 : Int64) (r10 : Int64) : Int32 := (((σ.1 9 4).toInt64) + r10).toInt32
def k_D_priceAfterPaying_85_12 (σ : g_S) (w : Int64) (tg : Int32) (r2 : Int64) (r10 : Int64) : Prop := True
def f_D_priceAfterPaying_72_8 (σ : g_S) (w : Int64) (tg : Int32) (r2 : Int64) : Int32 := (f_D_priceAfterPaying_85_12 σ w tg r2 (f_P_quotient ((((σ.2 9 3) * ((1000 : Int64) - ((σ.1 9 0).toInt64))) / (1000 : Int64)) * (65536 : Int64)) w (0 : Int32)))
def k_D_priceAfterPaying_72_8 (σ : g_S) (w : Int64) (tg : Int32) (r2 : Int64) : Prop := (k_P_quotient ((((σ.2 9 3) * ((1000 : Int64) - ((σ.1 9 0).toInt64))) / (1000 : Int64)) * (65536 : Int64)) w (0 : Int32)) ∧ (k_D_priceAfterPaying_85_12 σ w tg r2 (f_P_quotient ((((σ.2 9 3) * ((1000 : Int64) - ((σ.1 9 0).toInt64))) / (1000 : Int64)) * (65536 : Int64)) w (0 : Int32)))
def f_D_priceAfterPaying_67_17 (σ : g_S) (w : Int64) (tg : Int32) (r2 : Int64) (r15 : Int64) : Int32 := r15.toInt32
def k_D_priceAfterPaying_67_17 (σ : g_S) (w : Int64) (tg : Int32) (r2 : Int64) (r15 : Int64) : Prop := True
def f_D_priceAfterPaying_41_13 (σ : g_S) (w : Int64) (tg : Int32) (r2 : Int64) : Int32 := (f_D_priceAfterPaying_67_17 σ w tg r2 (f_P_quotient ((w * (65536 : Int64)) * ((σ.1 9 4).toInt64)) ((w * (65536 : Int64)) + ((((σ.2 9 3) * ((1000 : Int64) - ((σ.1 9 0).toInt64))) / (1000 : Int64)) * ((σ.1 9 4).toInt64))) (1 : Int32)))
def k_D_priceAfterPaying_41_13 (σ : g_S) (w : Int64) (tg : Int32) (r2 : Int64) : Prop := (k_P_quotient ((w * (65536 : Int64)) * ((σ.1 9 4).toInt64)) ((w * (65536 : Int64)) + ((((σ.2 9 3) * ((1000 : Int64) - ((σ.1 9 0).toInt64))) / (1000 : Int64)) * ((σ.1 9 4).toInt64))) (1 : Int32)) ∧ (k_D_priceAfterPaying_67_17 σ w tg r2 (f_P_quotient ((w * (65536 : Int64)) * ((σ.1 9 4).toInt64)) ((w * (65536 : Int64)) + ((((σ.2 9 3) * ((1000 : Int64) - ((σ.1 9 0).toInt64))) / (1000 : Int64)) * ((σ.1 9 4).toInt64))) (1 : Int32)))
def f_D_priceAfterPaying_34_6 (σ : g_S) (w : Int64) (tg : Int32) (r2 : Int64) : Int32 := (if (σ.1 9 1) = 0 then f_D_priceAfterPaying_72_8 σ w tg r2 else f_D_priceAfterPaying_41_13 σ w tg r2)
def k_D_priceAfterPaying_34_6 (σ : g_S) (w : Int64) (tg : Int32) (r2 : Int64) : Prop := (if (σ.1 9 1) = 0 then k_D_priceAfterPaying_72_8 σ w tg r2 else k_D_priceAfterPaying_41_13 σ w tg r2)
def f_D_priceAfterPaying_32_18 (σ : g_S) (w : Int64) (tg : Int32) (r2 : Int64) : Int32 := tg
def k_D_priceAfterPaying_32_18 (σ : g_S) (w : Int64) (tg : Int32) (r2 : Int64) : Prop := True
def f_D_priceAfterPaying_25_4 (σ : g_S) (w : Int64) (tg : Int32) (r2 : Int64) : Int32 := (if (((σ.2 9 3) * ((1000 : Int64) - ((σ.1 9 0).toInt64))) / (1000 : Int64)) < r2 then f_D_priceAfterPaying_34_6 σ w tg r2 else f_D_priceAfterPaying_32_18 σ w tg r2)
def k_D_priceAfterPaying_25_4 (σ : g_S) (w : Int64) (tg : Int32) (r2 : Int64) : Prop := (if (((σ.2 9 3) * ((1000 : Int64) - ((σ.1 9 0).toInt64))) / (1000 : Int64)) < r2 then k_D_priceAfterPaying_34_6 σ w tg r2 else k_D_priceAfterPaying_32_18 σ w tg r2)
def f_D_priceAfterPaying (σ : g_S) (w : Int64) (tg : Int32) : Int32 := (f_D_priceAfterPaying_25_4 σ w tg (f_D_amountIn σ w tg))
def k_D_priceAfterPaying (σ : g_S) (w : Int64) (tg : Int32) : Prop := (k_D_amountIn σ w tg) ∧ (k_D_priceAfterPaying_25_4 σ w tg (f_D_amountIn σ w tg))
set_option maxHeartbeats 4000000 in
set_option maxRecDepth 100000 in
theorem c_D_priceAfterPaying (l : Launch) (dC : Nat → ClassId) (dI : Nat → Nat → Nat) (dA : Nat → ClassId) (ad : Nat → Nat) (tb : Nat) (σ : g_S) (w : Int64) (tg : Int32) (hQ : k_D_priceAfterPaying σ w tg) : Met l y_D_priceAfterPaying w_D_priceAfterPaying ({ frames := 3, cells := 0, slots := 0, locals := 75 }) (va_Pc [.ref (ad 9), .long w, .int tg] (g_R (dC, dI) cls (x_tys dA) (g_w x_sh dA ad σ) (x_Z tb))) (vp_Si (fun r => r = f_D_priceAfterPaying σ w tg)) 0 0 (fun _ => False) := by
  refine Met.ofW (cc := b_D_priceAfterPaying) (maxL := 6) (ret := (some .int)) (by decide) rfl ?_
  intro p e s m args below meth c s₁ B hml hv
  obtain ⟨rfl, hP, hK, hz⟩ := hv
  have hx := B.exec
  have hb := B.bytes
  have hr := B.returns
  have hts := atoms_spec (ws := w_D_priceAfterPaying) B.pre
  have ht := fun (w : Cond) (h : w ∈ gA) => hts w (List.mem_cons_of_mem _ h)
  have hown : s.vm.findClass "RangedPool$Trade" = some m.cls := findClass_of_methodNamed B.named
  have hlocks := B.notSynchronized
  have hS : va_S (fun _ => False) s.heap s.heap [] := va_S.rf
  have hl := lv_entry ([.ref (ad 9), .long w, .int tg]) (n := 6) (Nat.le_of_ble_eq_true rfl)
  rw [lg_entry_eq]
  generalize (lg_sl ([.ref (ad 9), .long w, .int tg]) ++ List.replicate (6 - (lg_sl ([.ref (ad 9), .long w, .int tg])).length) Slot.unset).toArray = ls at hl ⊢
  have hl : lv_has ls 6 [(0, .ref (ad 9)), (1, .long w), (3, .int tg)] := hl
  have hF : f_D_priceAfterPaying σ w tg = f_D_priceAfterPaying σ w tg := rfl
  refine lv_aload_n hx hb d_D_priceAfterPaying_0 rfl (lv_at hl 0 rfl) ?_
  refine g_get hx hb ht in_D hown hK hP (9) x_at9 rfl 3 (by decide) rfl (ht _ kw103) (fun _ h9 => h9) (v := .long (σ.2 9 3)) rfl d_D_priceAfterPaying_1 ?_
  refine lv_ldc2 (v := (1000 : Int64)) hx hb hown (ht _ kw335) d_D_priceAfterPaying_4 ?_
  refine lv_aload_n hx hb d_D_priceAfterPaying_7 rfl (lv_at hl 0 rfl) ?_
  refine g_get hx hb ht in_D hown hK hP (9) x_at9 rfl 0 (by decide) rfl (ht _ kw100) (fun _ h9 => h9) (v := .int (σ.1 9 0)) rfl d_D_priceAfterPaying_8 ?_
  refine lv_i2l (v := (σ.1 9 0).toInt64) hx hb d_D_priceAfterPaying_11 rfl ?_
  refine lv_lsub hx hb d_D_priceAfterPaying_12 ?_
  refine lv_lmul hx hb d_D_priceAfterPaying_13 ?_
  refine lv_ldc2 (v := (1000 : Int64)) hx hb hown (ht _ kw335) d_D_priceAfterPaying_14 ?_
  refine lv_ldiv hx hb d_D_priceAfterPaying_17 (by decide) ?_
  refine lv_lstore (lv' := [(4, .long (((σ.2 9 3) * ((1000 : Int64) - ((σ.1 9 0).toInt64))) / (1000 : Int64))), (0, .ref (ad 9)), (1, .long w), (3, .int tg)]) hx hb d_D_priceAfterPaying_18 hl (by decide) rfl (fun ls hl => ?_)
  refine lv_lload hx hb d_D_priceAfterPaying_20 (lv_at hl 0 rfl) ?_
  refine lv_aload_n hx hb d_D_priceAfterPaying_22 rfl (lv_at hl 1 rfl) ?_
  refine lv_lload_n hx hb d_D_priceAfterPaying_23 rfl (lv_at hl 2 rfl) ?_
  refine lv_iload_n hx hb d_D_priceAfterPaying_24 rfl (lv_at hl 3 rfl) ?_
  obtain ⟨hs1, hQ⟩ := hQ
  refine g_cSl (va_runV (As := [.long w, .int tg]) (rest := [.long (((σ.2 9 3) * ((1000 : Int64) - ((σ.1 9 0).toInt64))) / (1000 : Int64))]) ⟨hx, hb, hml, hown, ht⟩ (c_D_amountIn l dC dI dA ad tb σ w tg hs1) (cwV 2 ht gc_D_68 rfl rfl rfl (by decide +kernel) ⟨Nat.le_of_ble_eq_true rfl, Nat.le_of_ble_eq_true rfl⟩) (g_pV (g_prR x_Zok hK hP hS hz _) (g_rc hK hP (9) x_at9 rfl)) rfl rfl hl.1 rfl (lv_room (Nat.le_of_ble_eq_true rfl)) d_D_priceAfterPaying_25 ⟨Nat.le_of_ble_eq_true rfl, Nat.le_of_ble_eq_true rfl⟩) (fun r2 e3 => ?_)
  have hF : f_D_priceAfterPaying σ w tg = f_D_priceAfterPaying_25_4 σ w tg r2 := hF.trans (by rw [e3]; try rfl)
  have hQ : k_D_priceAfterPaying_25_4 σ w tg r2 := by rw [e3]; exact hQ
  refine W.lcmp hx hb d_D_priceAfterPaying_28 ?_
  refine lv_if_lt (tgt := 34) hx hb d_D_priceAfterPaying_29 (by decide) (fun c5 => ?_) (fun c5 => ?_)
  ·
    have c5 : (((σ.2 9 3) * ((1000 : Int64) - ((σ.1 9 0).toInt64))) / (1000 : Int64)) < r2 := (lg_cmp_lt _ _).mp c5
    have hF : f_D_priceAfterPaying σ w tg = f_D_priceAfterPaying_34_6 σ w tg r2 := hF.trans (if_pos c5)
    have hQ : k_D_priceAfterPaying_34_6 σ w tg r2 := Eq.mp (if_pos c5) hQ
    refine lv_aload_n hx hb d_D_priceAfterPaying_34 rfl (lv_at hl 1 rfl) ?_
    refine g_get hx hb ht in_D hown hK hP (9) x_at9 rfl 1 (by decide) rfl (ht _ kw101) (fun _ h9 => h9) (v := .int (σ.1 9 1)) rfl d_D_priceAfterPaying_35 ?_
    refine lv_if_eq (tgt := 72) hx hb d_D_priceAfterPaying_38 (by decide) (fun c7 => ?_) (fun c7 => ?_)
    ·
      have c7 : (σ.1 9 1) = 0 := c7
      have hF : f_D_priceAfterPaying σ w tg = f_D_priceAfterPaying_72_8 σ w tg r2 := hF.trans (if_pos c7)
      have hQ : k_D_priceAfterPaying_72_8 σ w tg r2 := Eq.mp (if_pos c7) hQ
      refine lv_aload_n hx hb d_D_priceAfterPaying_72 rfl (lv_at hl 1 rfl) ?_
      refine g_get hx hb ht in_D hown hK hP (9) x_at9 rfl 4 (by decide) rfl (ht _ kw104) (fun _ h9 => h9) (v := .int (σ.1 9 4)) rfl d_D_priceAfterPaying_73 ?_
      refine lv_i2l (v := (σ.1 9 4).toInt64) hx hb d_D_priceAfterPaying_76 rfl ?_
      refine lv_lload hx hb d_D_priceAfterPaying_77 (lv_at hl 0 rfl) ?_
      refine lv_ldc2 (v := (65536 : Int64)) hx hb hown (ht _ kw342) d_D_priceAfterPaying_79 ?_
      refine lv_lmul hx hb d_D_priceAfterPaying_82 ?_
      refine lv_lload_n hx hb d_D_priceAfterPaying_83 rfl (lv_at hl 2 rfl) ?_
      refine lv_iconst (v := (0 : Int32)) hx hb d_D_priceAfterPaying_84 (by decide) ?_
      obtain ⟨hs9, hQ⟩ := hQ
      refine g_cSl (va_runSN (host := "RangedPool") (As := [.long ((((σ.2 9 3) * ((1000 : Int64) - ((σ.1 9 0).toInt64))) / (1000 : Int64)) * (65536 : Int64)), .long w, .int (0 : Int32)]) (rest := [.long ((σ.1 9 4).toInt64)]) ⟨hx, hb, hml, hown, ht⟩ (c_P_quotient l ((((σ.2 9 3) * ((1000 : Int64) - ((σ.1 9 0).toInt64))) / (1000 : Int64)) * (65536 : Int64)) w (0 : Int32) hs9) ⟨va_cnB 3 ht gn_P_quotient rfl rfl rfl (hz.1 _ nk343) (ht _ kw1) (by decide +kernel) ⟨Nat.le_of_ble_eq_true rfl, Nat.le_of_ble_eq_true rfl⟩, ht _ kw233, trivial⟩ (g_pr0 _) rfl rfl hl.1 rfl (lv_room (Nat.le_of_ble_eq_true rfl)) d_D_priceAfterPaying_85 ⟨Nat.le_of_ble_eq_true rfl, Nat.le_of_ble_eq_true rfl⟩) (fun r10 e11 => ?_)
      have hF : f_D_priceAfterPaying σ w tg = f_D_priceAfterPaying_85_12 σ w tg r2 r10 := hF.trans (by rw [e11]; try rfl)
      have hQ : k_D_priceAfterPaying_85_12 σ w tg r2 r10 := by rw [e11]; exact hQ
      refine lv_ladd hx hb d_D_priceAfterPaying_88 ?_
      refine lv_l2i (v := (((σ.1 9 4).toInt64) + r10).toInt32) hx hb d_D_priceAfterPaying_89 rfl ?_
      exact W.iret (v := (((σ.1 9 4).toInt64) + r10).toInt32) hx hb hr (fun t hh hW => ⟨_, rfl, hF.symm, hh⟩) (fun _ h => by cases h) d_D_priceAfterPaying_90
    ·
      have c7 : ¬ ((σ.1 9 1) = 0) := c7
      have hF : f_D_priceAfterPaying σ w tg = f_D_priceAfterPaying_41_13 σ w tg r2 := hF.trans (if_neg c7)
      have hQ : k_D_priceAfterPaying_41_13 σ w tg r2 := Eq.mp (if_neg c7) hQ
      refine lv_lload_n hx hb d_D_priceAfterPaying_41 rfl (lv_at hl 2 rfl) ?_
      refine lv_ldc2 (v := (65536 : Int64)) hx hb hown (ht _ kw342) d_D_priceAfterPaying_42 ?_
      refine lv_lmul hx hb d_D_priceAfterPaying_45 ?_
      refine lv_aload_n hx hb d_D_priceAfterPaying_46 rfl (lv_at hl 1 rfl) ?_
      refine g_get hx hb ht in_D hown hK hP (9) x_at9 rfl 4 (by decide) rfl (ht _ kw104) (fun _ h9 => h9) (v := .int (σ.1 9 4)) rfl d_D_priceAfterPaying_47 ?_
      refine lv_i2l (v := (σ.1 9 4).toInt64) hx hb d_D_priceAfterPaying_50 rfl ?_
      refine lv_lmul hx hb d_D_priceAfterPaying_51 ?_
      refine lv_lload_n hx hb d_D_priceAfterPaying_52 rfl (lv_at hl 2 rfl) ?_
      refine lv_ldc2 (v := (65536 : Int64)) hx hb hown (ht _ kw342) d_D_priceAfterPaying_53 ?_
      refine lv_lmul hx hb d_D_priceAfterPaying_56 ?_
      refine lv_lload hx hb d_D_priceAfterPaying_57 (lv_at hl 0 rfl) ?_
      refine lv_aload_n hx hb d_D_priceAfterPaying_59 rfl (lv_at hl 1 rfl) ?_
      refine g_get hx hb ht in_D hown hK hP (9) x_at9 rfl 4 (by decide) rfl (ht _ kw104) (fun _ h9 => h9) (v := .int (σ.1 9 4)) rfl d_D_priceAfterPaying_60 ?_
      refine lv_i2l (v := (σ.1 9 4).toInt64) hx hb d_D_priceAfterPaying_63 rfl ?_
      refine lv_lmul hx hb d_D_priceAfterPaying_64 ?_
      refine lv_ladd hx hb d_D_priceAfterPaying_65 ?_
      refine lv_iconst (v := (1 : Int32)) hx hb d_D_priceAfterPaying_66 (by decide) ?_
      obtain ⟨hs14, hQ⟩ := hQ
      refine g_cSl (va_runSN (host := "RangedPool") (As := [.long ((w * (65536 : Int64)) * ((σ.1 9 4).toInt64)), .long ((w * (65536 : Int64)) + ((((σ.2 9 3) * ((1000 : Int64) - ((σ.1 9 0).toInt64))) / (1000 : Int64)) * ((σ.1 9 4).toInt64))), .int (1 : Int32)]) (rest := []) ⟨hx, hb, hml, hown, ht⟩ (c_P_quotient l ((w * (65536 : Int64)) * ((σ.1 9 4).toInt64)) ((w * (65536 : Int64)) + ((((σ.2 9 3) * ((1000 : Int64) - ((σ.1 9 0).toInt64))) / (1000 : Int64)) * ((σ.1 9 4).toInt64))) (1 : Int32) hs14) ⟨va_cnB 3 ht gn_P_quotient rfl rfl rfl (hz.1 _ nk343) (ht _ kw1) (by decide +kernel) ⟨Nat.le_of_ble_eq_true rfl, Nat.le_of_ble_eq_true rfl⟩, ht _ kw233, trivial⟩ (g_pr0 _) rfl rfl hl.1 rfl (lv_room (Nat.le_of_ble_eq_true rfl)) d_D_priceAfterPaying_67 ⟨Nat.le_of_ble_eq_true rfl, Nat.le_of_ble_eq_true rfl⟩) (fun r15 e16 => ?_)
      have hF : f_D_priceAfterPaying σ w tg = f_D_priceAfterPaying_67_17 σ w tg r2 r15 := hF.trans (by rw [e16]; try rfl)
      have hQ : k_D_priceAfterPaying_67_17 σ w tg r2 r15 := by rw [e16]; exact hQ
      refine lv_l2i (v := r15.toInt32) hx hb d_D_priceAfterPaying_70 rfl ?_
      exact W.iret (v := r15.toInt32) hx hb hr (fun t hh hW => ⟨_, rfl, hF.symm, hh⟩) (fun _ h => by cases h) d_D_priceAfterPaying_71
  ·
    have c5 : ¬ ((((σ.2 9 3) * ((1000 : Int64) - ((σ.1 9 0).toInt64))) / (1000 : Int64)) < r2) := mt (lg_cmp_lt _ _).mpr c5
    have hF : f_D_priceAfterPaying σ w tg = f_D_priceAfterPaying_32_18 σ w tg r2 := hF.trans (if_neg c5)
    have hQ : k_D_priceAfterPaying_32_18 σ w tg r2 := Eq.mp (if_neg c5) hQ
    refine lv_iload_n hx hb d_D_priceAfterPaying_32 rfl (lv_at hl 3 rfl) ?_
    exact W.iret (v := tg) hx hb hr (fun t hh hW => ⟨_, rfl, hF.symm, hh⟩) (fun _ h => by cases h) d_D_priceAfterPaying_33
