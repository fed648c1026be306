def f_M_observe_130_16 (σ : g_S) (ago : Int32) (b8 : Int32) (x12 : Int64) : Int64 := (σ.2 12 b8.toNatClampNeg) + (x12 * (((σ.2 0 15) - ago.toInt64) - (σ.2 11 b8.toNatClampNeg)))
def k_M_observe_130_16 (σ : g_S) (ago : Int32) (b8 : Int32) (x12 : Int64) : Prop := (vp_in b8 8) ∧ (vp_in b8 8) ∧ True
def f_M_observe_76_11 (σ : g_S) (ago : Int32) (b8 : Int32) : Int64 := (f_M_observe_130_16 σ ago b8 (if (σ.1 0 17) ≤ (b8 + (1 : Int32)) then (σ.1 0 5).toInt64 else ((σ.2 12 ((b8 + (1 : Int32)).toNatClampNeg)) - (σ.2 12 b8.toNatClampNeg)) / ((σ.2 11 ((b8 + (1 : Int32)).toNatClampNeg)) - (σ.2 11 b8.toNatClampNeg))))
def k_M_observe_76_11 (σ : g_S) (ago : Int32) (b8 : Int32) : Prop := (if (σ.1 0 17) ≤ (b8 + (1 : Int32)) then True else (vp_in (b8 + (1 : Int32)) 8) ∧ (vp_in b8 8) ∧ (vp_in (b8 + (1 : Int32)) 8) ∧ (vp_in b8 8) ∧ (¬ ((σ.2 11 ((b8 + (1 : Int32)).toNatClampNeg)) - (σ.2 11 b8.toNatClampNeg)) = 0) ∧ True) ∧ (k_M_observe_130_16 σ ago b8 (if (σ.1 0 17) ≤ (b8 + (1 : Int32)) then (σ.1 0 5).toInt64 else ((σ.2 12 ((b8 + (1 : Int32)).toNatClampNeg)) - (σ.2 12 b8.toNatClampNeg)) / ((σ.2 11 ((b8 + (1 : Int32)).toNatClampNeg)) - (σ.2 11 b8.toNatClampNeg))))
def f_M_observe_L45 (σ : g_S) (ago : Int32) : Nat → Nat → Int32
  | 0, jk => (Int32.ofNat jk)
  | jn + 1, jk => (if ((σ.2 0 15) - ago.toInt64) < (σ.2 11 (jk + 1)) then (Int32.ofNat jk) else f_M_observe_L45 σ ago jn (jk + 1))
def f_M_observe_42_6 (σ : g_S) (ago : Int32) : Int64 := (f_M_observe_76_11 σ ago (f_M_observe_L45 σ ago ((σ.1 0 17).toNatClampNeg - 1) 0))
def k_M_observe_42_6 (σ : g_S) (ago : Int32) : Prop := (0 < σ.1 0 17 ∧ σ.1 0 17 ≤ 8) ∧ (k_M_observe_76_11 σ ago (f_M_observe_L45 σ ago ((σ.1 0 17).toNatClampNeg - 1) 0))
def f_M_observe_38_29 (σ : g_S) (ago : Int32) : Int64 := (-1000000000 : Int64)
def k_M_observe_38_29 (σ : g_S) (ago : Int32) : Prop := True
def f_M_observe_19_4 (σ : g_S) (ago : Int32) : Int64 := (if (σ.2 11 0) ≤ ((σ.2 0 15) - ago.toInt64) then f_M_observe_42_6 σ ago else f_M_observe_38_29 σ ago)
def k_M_observe_19_4 (σ : g_S) (ago : Int32) : Prop := (if (σ.2 11 0) ≤ ((σ.2 0 15) - ago.toInt64) then k_M_observe_42_6 σ ago else k_M_observe_38_29 σ ago)
def f_M_observe_15_30 (σ : g_S) (ago : Int32) : Int64 := (-2 : Int64)
def k_M_observe_15_30 (σ : g_S) (ago : Int32) : Prop := True
def f_M_observe_11_2 (σ : g_S) (ago : Int32) : Int64 := (if 0 ≤ ago then f_M_observe_19_4 σ ago else f_M_observe_15_30 σ ago)
def k_M_observe_11_2 (σ : g_S) (ago : Int32) : Prop := (if 0 ≤ ago then k_M_observe_19_4 σ ago else k_M_observe_15_30 σ ago)
def f_M_observe_7_31 (σ : g_S) (ago : Int32) : Int64 := (-1 : Int64)
def k_M_observe_7_31 (σ : g_S) (ago : Int32) : Prop := True
def f_M_observe (σ : g_S) (ago : Int32) : Int64 := (if (σ.1 0 3) = 0 then f_M_observe_7_31 σ ago else f_M_observe_11_2 σ ago)
def k_M_observe (σ : g_S) (ago : Int32) : Prop := (if (σ.1 0 3) = 0 then k_M_observe_7_31 σ ago else k_M_observe_11_2 σ ago)
set_option maxHeartbeats 4000000 in
set_option maxRecDepth 100000 in
theorem c_M_observe (l : Launch) (dC : Nat → ClassId) (dI : Nat → Nat → Nat) (dA : Nat → ClassId) (ad : Nat → Nat) (σ : g_S) (ago : Int32) (hQ : k_M_observe σ ago) : Met l y_M_observe w_M_observe ({ frames := 0, cells := 0, slots := 0, locals := 0 }) (va_Pc [.ref (ad 0), .int ago] (g_R (dC, dI) cls (r_tys dA) (g_w r_sh dA ad σ) r_Z)) (vp_Sl (fun r => r = f_M_observe σ ago)) 0 0 (fun _ => False) := by
  refine Met.ofW (cc := b_M_observe) (maxL := 7) (ret := (some .long)) (by decide) rfl ?_
  intro p e s m args below meth c s₁ B hml hv
  obtain ⟨rfl, hP, hK, hz⟩ := hv
  have hx := B.exec
  have hb := B.bytes
  have hr := B.returns
  have hts := atoms_spec (ws := w_M_observe) B.pre
  have ht := fun (w : Cond) (h : w ∈ gA) => hts w (List.mem_cons_of_mem _ h)
  have hown : s.vm.findClass "RangedPoolModel" = some m.cls := findClass_of_methodNamed B.named
  have hlocks := B.notSynchronized
  have hS : va_S (fun _ => False) s.heap s.heap [] := va_S.rf
  have hl := lv_entry ([.ref (ad 0), .int ago]) (n := 7) (Nat.le_of_ble_eq_true rfl)
  rw [lg_entry_eq]
  generalize (lg_sl ([.ref (ad 0), .int ago]) ++ List.replicate (7 - (lg_sl ([.ref (ad 0), .int ago])).length) Slot.unset).toArray = ls at hl ⊢
  have hl : lv_has ls 7 [(0, .ref (ad 0)), (1, .int ago)] := hl
  have hF : f_M_observe σ ago = f_M_observe σ ago := rfl
  refine lv_aload_n hx hb d_M_observe_0 rfl (lv_at hl 0 rfl) ?_
  refine g_get hx hb ht in_M hown hK hP (0) r_at0 rfl 3 (by decide) rfl (ht _ kw464) (fun _ h9 => h9) (v := .int (σ.1 0 3)) rfl d_M_observe_1 ?_
  refine lv_if_ne (tgt := 11) hx hb d_M_observe_4 (by decide) (fun c1 => ?_) (fun c1 => ?_)
  ·
    have c1 : ¬ ((σ.1 0 3) = 0) := c1
    have hF : f_M_observe σ ago = f_M_observe_11_2 σ ago := hF.trans (if_neg c1)
    have hQ : k_M_observe_11_2 σ ago := Eq.mp (if_neg c1) hQ
    refine lv_iload_n hx hb d_M_observe_11 rfl (lv_at hl 1 rfl) ?_
    refine lv_if_ge (tgt := 19) hx hb d_M_observe_12 (by decide) (fun c3 => ?_) (fun c3 => ?_)
    ·
      have c3 : 0 ≤ ago := c3
      have hF : f_M_observe σ ago = f_M_observe_19_4 σ ago := hF.trans (if_pos c3)
      have hQ : k_M_observe_19_4 σ ago := Eq.mp (if_pos c3) hQ
      refine lv_aload_n hx hb d_M_observe_19 rfl (lv_at hl 0 rfl) ?_
      refine g_get hx hb ht in_M hown hK hP (0) r_at0 rfl 15 (by decide) rfl (ht _ kw476) (fun _ h9 => h9) (v := .long (σ.2 0 15)) rfl d_M_observe_20 ?_
      refine lv_iload_n hx hb d_M_observe_23 rfl (lv_at hl 1 rfl) ?_
      refine lv_i2l (v := ago.toInt64) hx hb d_M_observe_24 rfl ?_
      refine lv_lsub hx hb d_M_observe_25 ?_
      refine lv_lstore_n (lv' := [(2, .long ((σ.2 0 15) - ago.toInt64)), (0, .ref (ad 0)), (1, .int ago)]) hx hb d_M_observe_26 rfl hl (by decide) rfl (fun ls hl => ?_)
      refine lv_lload_n hx hb d_M_observe_27 rfl (lv_at hl 0 rfl) ?_
      refine lv_aload_n hx hb d_M_observe_28 rfl (lv_at hl 1 rfl) ?_
      refine g_get hx hb ht in_M hown hK hP (0) r_at0 rfl 18 (by decide) rfl (ht _ kw479) (fun _ h9 => h9) (v := .ref (ad 11)) rfl d_M_observe_29 ?_
      refine lv_iconst (v := (0 : Int32)) hx hb d_M_observe_32 (by decide) ?_
      refine g_lald hx hb hK hP (11) r_at11 rfl (by unfold vp_in; decide) (j := 0) (by decide) d_M_observe_33 ?_
      refine W.lcmp hx hb d_M_observe_34 ?_
      refine lv_if_ge (tgt := 42) hx hb d_M_observe_35 (by decide) (fun c5 => ?_) (fun c5 => ?_)
      ·
        have c5 : (σ.2 11 0) ≤ ((σ.2 0 15) - ago.toInt64) := (lg_cmp_ge _ _).mp c5
        have hF : f_M_observe σ ago = f_M_observe_42_6 σ ago := hF.trans (if_pos c5)
        have hQ : k_M_observe_42_6 σ ago := Eq.mp (if_pos c5) hQ
        refine lv_iconst (v := (0 : Int32)) hx hb d_M_observe_42 (by decide) ?_
        refine lv_istore (lv' := [(4, .int (0 : Int32)), (2, .long ((σ.2 0 15) - ago.toInt64)), (0, .ref (ad 0)), (1, .int ago)]) hx hb d_M_observe_43 hl (by decide) rfl (fun ls hl => ?_)
        obtain ⟨hs7, hQ⟩ := hQ
        have hen := hs7
        have J76_9 : ∀ (b8 : Int32) (ls : Array Slot), b8 = (f_M_observe_L45 σ ago ((σ.1 0 17).toNatClampNeg - 1) 0) → lv_has ls 7 [(4, .int b8), (2, .long ((σ.2 0 15) - ago.toInt64)), (0, .ref (ad 0))] → W p l e (headSpec w_M_observe ({ frames := 0, cells := 0, slots := 0, locals := 0 })).room s m ([.ref (ad 0), .int ago] : List Value).toArray below meth c s.heap [] 0 0 (MQ below (vp_Sl (fun r => r = f_M_observe σ ago)) ([.ref (ad 0), .int ago] : List Value).toArray s 0 0 (fun _ => False)) (F0 m 76 ls []) := by
          intro b8 ls e10 hl
          have hF : f_M_observe σ ago = f_M_observe_76_11 σ ago b8 := hF.trans (by rw [e10]; try rfl)
          have hQ : k_M_observe_76_11 σ ago b8 := by rw [e10]; exact hQ
          refine lv_iload hx hb d_M_observe_76 (lv_at hl 0 rfl) ?_
          refine lv_iconst (v := (1 : Int32)) hx hb d_M_observe_78 (by decide) ?_
          refine lv_iadd hx hb d_M_observe_79 ?_
          refine lv_aload_n hx hb d_M_observe_80 rfl (lv_at hl 2 rfl) ?_
          refine g_get hx hb ht in_M hown hK hP (0) r_at0 rfl 17 (by decide) rfl (ht _ kw478) (fun _ h9 => h9) (v := .int (σ.1 0 17)) rfl d_M_observe_81 ?_
          obtain ⟨hT15, hQ⟩ := hQ
          have J130_13 : ∀ (x12 : Int64) (ls : Array Slot), x12 = (if (σ.1 0 17) ≤ (b8 + (1 : Int32)) then (σ.1 0 5).toInt64 else ((σ.2 12 ((b8 + (1 : Int32)).toNatClampNeg)) - (σ.2 12 b8.toNatClampNeg)) / ((σ.2 11 ((b8 + (1 : Int32)).toNatClampNeg)) - (σ.2 11 b8.toNatClampNeg))) → lv_has ls 7 [(4, .int b8), (2, .long ((σ.2 0 15) - ago.toInt64)), (0, .ref (ad 0))] → W p l e (headSpec w_M_observe ({ frames := 0, cells := 0, slots := 0, locals := 0 })).room s m ([.ref (ad 0), .int ago] : List Value).toArray below meth c s.heap [] 0 0 (MQ below (vp_Sl (fun r => r = f_M_observe σ ago)) ([.ref (ad 0), .int ago] : List Value).toArray s 0 0 (fun _ => False)) (F0 m 130 ls [.long x12]) := by
            intro x12 ls e14 hl
            have hF : f_M_observe σ ago = f_M_observe_130_16 σ ago b8 x12 := hF.trans (by rw [e14]; try rfl)
            have hQ : k_M_observe_130_16 σ ago b8 x12 := by rw [e14]; exact hQ
            refine lv_lstore (lv' := [(5, .long x12), (4, .int b8), (2, .long ((σ.2 0 15) - ago.toInt64)), (0, .ref (ad 0))]) hx hb d_M_observe_130 hl (by decide) rfl (fun ls hl => ?_)
            refine lv_aload_n hx hb d_M_observe_132 rfl (lv_at hl 3 rfl) ?_
            refine g_get hx hb ht in_M hown hK hP (0) r_at0 rfl 19 (by decide) rfl (ht _ kw480) (fun _ h9 => h9) (v := .ref (ad 12)) rfl d_M_observe_133 ?_
            refine lv_iload hx hb d_M_observe_136 (lv_at hl 1 rfl) ?_
            obtain ⟨hs17, hQ⟩ := hQ
            refine g_lald hx hb hK hP (12) r_at12 rfl (hs17) (j := b8.toNatClampNeg) (rfl) d_M_observe_138 ?_
            refine lv_lload hx hb d_M_observe_139 (lv_at hl 0 rfl) ?_
            refine lv_lload_n hx hb d_M_observe_141 rfl (lv_at hl 2 rfl) ?_
            refine lv_aload_n hx hb d_M_observe_142 rfl (lv_at hl 3 rfl) ?_
            refine g_get hx hb ht in_M hown hK hP (0) r_at0 rfl 18 (by decide) rfl (ht _ kw479) (fun _ h9 => h9) (v := .ref (ad 11)) rfl d_M_observe_143 ?_
            refine lv_iload hx hb d_M_observe_146 (lv_at hl 1 rfl) ?_
            obtain ⟨hs18, hQ⟩ := hQ
            refine g_lald hx hb hK hP (11) r_at11 rfl (hs18) (j := b8.toNatClampNeg) (rfl) d_M_observe_148 ?_
            refine lv_lsub hx hb d_M_observe_149 ?_
            refine lv_lmul hx hb d_M_observe_150 ?_
            refine lv_ladd hx hb d_M_observe_151 ?_
            exact W.lret (v := (σ.2 12 b8.toNatClampNeg) + (x12 * (((σ.2 0 15) - ago.toInt64) - (σ.2 11 b8.toNatClampNeg)))) hx hb hr (fun t hh hW => ⟨_, rfl, hF.symm, hh⟩) (fun _ h => by cases h) d_M_observe_152
          refine lv_icmp_ge (tgt := 125) hx hb d_M_observe_84 (by decide) (fun c19 => ?_) (fun c19 => ?_)
          ·
            have c19 : (σ.1 0 17) ≤ (b8 + (1 : Int32)) := c19
            have hT15 := Eq.mp (if_pos c19) hT15
            refine lv_aload_n hx hb d_M_observe_125 rfl (lv_at hl 2 rfl) ?_
            refine g_get hx hb ht in_M hown hK hP (0) r_at0 rfl 5 (by decide) rfl (ht _ kw466) (fun _ h9 => h9) (v := .int (σ.1 0 5)) rfl d_M_observe_126 ?_
            refine lv_i2l (v := (σ.1 0 5).toInt64) hx hb d_M_observe_129 rfl ?_
            exact J130_13 ((σ.1 0 5).toInt64) ls (if_pos c19).symm (lv_sub hl [0, 1, 2] rfl)
          ·
            have c19 : ¬ ((σ.1 0 17) ≤ (b8 + (1 : Int32))) := c19
            have hT15 := Eq.mp (if_neg c19) hT15
            refine lv_aload_n hx hb d_M_observe_87 rfl (lv_at hl 2 rfl) ?_
            refine g_get hx hb ht in_M hown hK hP (0) r_at0 rfl 19 (by decide) rfl (ht _ kw480) (fun _ h9 => h9) (v := .ref (ad 12)) rfl d_M_observe_88 ?_
            refine lv_iload hx hb d_M_observe_91 (lv_at hl 0 rfl) ?_
            refine lv_iconst (v := (1 : Int32)) hx hb d_M_observe_93 (by decide) ?_
            refine lv_iadd hx hb d_M_observe_94 ?_
            obtain ⟨hs20, hT15⟩ := hT15
            refine g_lald hx hb hK hP (12) r_at12 rfl (hs20) (j := (b8 + (1 : Int32)).toNatClampNeg) (rfl) d_M_observe_95 ?_
            refine lv_aload_n hx hb d_M_observe_96 rfl (lv_at hl 2 rfl) ?_
            refine g_get hx hb ht in_M hown hK hP (0) r_at0 rfl 19 (by decide) rfl (ht _ kw480) (fun _ h9 => h9) (v := .ref (ad 12)) rfl d_M_observe_97 ?_
            refine lv_iload hx hb d_M_observe_100 (lv_at hl 0 rfl) ?_
            obtain ⟨hs21, hT15⟩ := hT15
            refine g_lald hx hb hK hP (12) r_at12 rfl (hs21) (j := b8.toNatClampNeg) (rfl) d_M_observe_102 ?_
            refine lv_lsub hx hb d_M_observe_103 ?_
            refine lv_aload_n hx hb d_M_observe_104 rfl (lv_at hl 2 rfl) ?_
            refine g_get hx hb ht in_M hown hK hP (0) r_at0 rfl 18 (by decide) rfl (ht _ kw479) (fun _ h9 => h9) (v := .ref (ad 11)) rfl d_M_observe_105 ?_
            refine lv_iload hx hb d_M_observe_108 (lv_at hl 0 rfl) ?_
            refine lv_iconst (v := (1 : Int32)) hx hb d_M_observe_110 (by decide) ?_
            refine lv_iadd hx hb d_M_observe_111 ?_
            obtain ⟨hs22, hT15⟩ := hT15
            refine g_lald hx hb hK hP (11) r_at11 rfl (hs22) (j := (b8 + (1 : Int32)).toNatClampNeg) (rfl) d_M_observe_112 ?_
            refine lv_aload_n hx hb d_M_observe_113 rfl (lv_at hl 2 rfl) ?_
            refine g_get hx hb ht in_M hown hK hP (0) r_at0 rfl 18 (by decide) rfl (ht _ kw479) (fun _ h9 => h9) (v := .ref (ad 11)) rfl d_M_observe_114 ?_
            refine lv_iload hx hb d_M_observe_117 (lv_at hl 0 rfl) ?_
            obtain ⟨hs23, hT15⟩ := hT15
            refine g_lald hx hb hK hP (11) r_at11 rfl (hs23) (j := b8.toNatClampNeg) (rfl) d_M_observe_119 ?_
            refine lv_lsub hx hb d_M_observe_120 ?_
            obtain ⟨hs24, hT15⟩ := hT15
            refine lv_ldiv hx hb d_M_observe_121 (hs24) ?_
            refine lv_goto (tgt := 130) hx hb d_M_observe_122 (by decide) ?_
            exact J130_13 (((σ.2 12 ((b8 + (1 : Int32)).toNatClampNeg)) - (σ.2 12 b8.toNatClampNeg)) / ((σ.2 11 ((b8 + (1 : Int32)).toNatClampNeg)) - (σ.2 11 b8.toNatClampNeg))) ls (if_neg c19).symm (lv_sub hl [0, 1, 2] rfl)
        have LL45_25 : ∀ (jn : Nat) (jk : Nat) (ls : Array Slot), jk + jn = (σ.1 0 17).toNatClampNeg - 1 → f_M_observe_L45 σ ago ((σ.1 0 17).toNatClampNeg - 1) 0 = f_M_observe_L45 σ ago jn jk → lv_has ls 7 [(4, .int (Int32.ofNat jk)), (2, .long ((σ.2 0 15) - ago.toInt64)), (0, .ref (ad 0))] → W p l e (headSpec w_M_observe ({ frames := 0, cells := 0, slots := 0, locals := 0 })).room s m ([.ref (ad 0), .int ago] : List Value).toArray below meth c s.heap [] 0 0 (MQ below (vp_Sl (fun r => r = f_M_observe σ ago)) ([.ref (ad 0), .int ago] : List Value).toArray s 0 0 (fun _ => False)) (F0 m 45 ls []) := by
          intro jn
          induction jn with
          | zero =>
            intro jk ls hkn hF hl
            have hF : f_M_observe_L45 σ ago ((σ.1 0 17).toNatClampNeg - 1) 0 = (Int32.ofNat jk) := hF
            skip
            refine lv_iload hx hb d_M_observe_45 (lv_at hl 0 rfl) ?_
            refine lv_iconst (v := (1 : Int32)) hx hb d_M_observe_47 (by decide) ?_
            refine lv_iadd hx hb d_M_observe_48 ?_
            refine lv_aload_n hx hb d_M_observe_49 rfl (lv_at hl 2 rfl) ?_
            refine g_get hx hb ht in_M hown hK hP (0) r_at0 rfl 17 (by decide) rfl (ht _ kw478) (fun _ h9 => h9) (v := .int (σ.1 0 17)) rfl d_M_observe_50 ?_
            refine lv_icmp_ge (tgt := 76) hx hb d_M_observe_53 (by decide) (fun _ => ?_) (fun c26 => absurd (g_ob0 hen (by omega)) c26)
            exact J76_9 (Int32.ofNat jk) ls hF.symm (lv_sub hl [0, 1, 2] rfl)
          | succ jn ih =>
            intro jk ls hkn hF hl
            have hen2 := g_ob2 hen
            have hF : f_M_observe_L45 σ ago ((σ.1 0 17).toNatClampNeg - 1) 0 = (if ((σ.2 0 15) - ago.toInt64) < (σ.2 11 (jk + 1)) then (Int32.ofNat jk) else f_M_observe_L45 σ ago jn (jk + 1)) := hF
            skip
            refine lv_iload hx hb d_M_observe_45 (lv_at hl 0 rfl) ?_
            refine lv_iconst (v := (1 : Int32)) hx hb d_M_observe_47 (by decide) ?_
            refine lv_iadd hx hb d_M_observe_48 ?_
            refine lv_aload_n hx hb d_M_observe_49 rfl (lv_at hl 2 rfl) ?_
            refine g_get hx hb ht in_M hown hK hP (0) r_at0 rfl 17 (by decide) rfl (ht _ kw478) (fun _ h9 => h9) (v := .int (σ.1 0 17)) rfl d_M_observe_50 ?_
            refine lv_icmp_ge (tgt := 76) hx hb d_M_observe_53 (by decide) (fun c27 => absurd c27 (g_ob1 hen (by omega))) (fun _ => ?_)
            refine lv_aload_n hx hb d_M_observe_56 rfl (lv_at hl 2 rfl) ?_
            refine g_get hx hb ht in_M hown hK hP (0) r_at0 rfl 18 (by decide) rfl (ht _ kw479) (fun _ h9 => h9) (v := .ref (ad 11)) rfl d_M_observe_57 ?_
            refine lv_iload hx hb d_M_observe_60 (lv_at hl 0 rfl) ?_
            refine lv_iconst (v := (1 : Int32)) hx hb d_M_observe_62 (by decide) ?_
            refine lv_iadd hx hb d_M_observe_63 ?_
            refine g_lald hx hb hK hP (11) r_at11 rfl (g_eix (g_eadd (a := jk) (b := 1) rfl rfl) (by omega) (by omega)) (j := jk + 1) (g_ena (g_eadd (a := jk) (b := 1) rfl rfl) (by omega)) d_M_observe_64 ?_
            refine lv_lload_n hx hb d_M_observe_65 rfl (lv_at hl 1 rfl) ?_
            refine W.lcmp hx hb d_M_observe_66 ?_
            refine lv_if_gt (tgt := 76) hx hb d_M_observe_67 (by decide) (fun c28 => ?_) (fun c28 => ?_)
            ·
              have c28 : ((σ.2 0 15) - ago.toInt64) < (σ.2 11 (jk + 1)) := (lg_cmp_gt _ _).mp c28
              have hF := hF.trans (if_pos c28)
              exact J76_9 (Int32.ofNat jk) ls hF.symm (lv_sub hl [0, 1, 2] rfl)
            ·
              have c28 : ¬ (((σ.2 0 15) - ago.toInt64) < (σ.2 11 (jk + 1))) := mt (lg_cmp_gt _ _).mpr c28
              have hF := hF.trans (if_neg c28)
              refine lv_iinc (v := Int32.ofNat (jk + 1)) (lv' := [(4, .int (Int32.ofNat (jk + 1))), (2, .long ((σ.2 0 15) - ago.toInt64)), (0, .ref (ad 0))]) hx hb d_M_observe_70 hl (k := 0) rfl (g_inc jk) (by decide) rfl (fun ls hl => ?_)
              refine lv_goto (tgt := 45) hx hb d_M_observe_73 (by decide) ?_
              exact ih (jk + 1) ls (by omega) hF (lv_sub hl [0, 1, 2] rfl)
        exact LL45_25 ((σ.1 0 17).toNatClampNeg - 1) 0 ls (Nat.zero_add _) rfl  (lv_sub hl [0, 1, 2] rfl)
      ·
        have c5 : ¬ ((σ.2 11 0) ≤ ((σ.2 0 15) - ago.toInt64)) := mt (lg_cmp_ge _ _).mpr c5
        have hF : f_M_observe σ ago = f_M_observe_38_29 σ ago := hF.trans (if_neg c5)
        have hQ : k_M_observe_38_29 σ ago := Eq.mp (if_neg c5) hQ
        refine lv_ldc2 (v := (-1000000000 : Int64)) hx hb hown (ht _ kw672) d_M_observe_38 ?_
        exact W.lret (v := (-1000000000 : Int64)) hx hb hr (fun t hh hW => ⟨_, rfl, hF.symm, hh⟩) (fun _ h => by cases h) d_M_observe_41
    ·
      have c3 : ¬ (0 ≤ ago) := c3
      have hF : f_M_observe σ ago = f_M_observe_15_30 σ ago := hF.trans (if_neg c3)
      have hQ : k_M_observe_15_30 σ ago := Eq.mp (if_neg c3) hQ
      refine lv_ldc2 (v := (-2 : Int64)) hx hb hown (ht _ kw574) d_M_observe_15 ?_
      exact W.lret (v := (-2 : Int64)) hx hb hr (fun t hh hW => ⟨_, rfl, hF.symm, hh⟩) (fun _ h => by cases h) d_M_observe_18
  ·
    have c1 : (σ.1 0 3) = 0 := c1
    have hF : f_M_observe σ ago = f_M_observe_7_31 σ ago := hF.trans (if_pos c1)
    have hQ : k_M_observe_7_31 σ ago := Eq.mp (if_pos c1) hQ
    refine lv_ldc2 (v := (-1 : Int64)) hx hb hown (ht _ kw568) d_M_observe_7 ?_
    exact W.lret (v := (-1 : Int64)) hx hb hr (fun t hh hW => ⟨_, rfl, hF.symm, hh⟩) (fun _ h => by cases h) d_M_observe_10
def f_M_price0 (σ : g_S) : Int32 := (σ.2 0 4).toInt32
set_option maxHeartbeats 4000000 in
set_option maxRecDepth 100000 in
theorem c_M_price0 (l : Launch) (dC : Nat → ClassId) (dI : Nat → Nat → Nat) (dA : Nat → ClassId) (ad : Nat → Nat) (σ : g_S) : Met l y_M_price0 w_M_price0 ({ frames := 0, cells := 0, slots := 0, locals := 0 }) (va_Pc [.ref (ad 0)] (g_R (dC, dI) cls (r_tys dA) (g_w r_sh dA ad σ) r_Z)) (vp_Si (fun r => r = f_M_price0 σ)) 0 0 (fun _ => False) := by
  refine Met.ofW (cc := b_M_price0) (maxL := 1) (ret := (some .int)) (by decide) rfl ?_
  intro p e s m args below meth c s₁ B hml hv
  obtain ⟨rfl, hP, hK, hz⟩ := hv
  have hx := B.exec
  have hb := B.bytes
  have hr := B.returns
  have hts := atoms_spec (ws := w_M_price0) B.pre
  have ht := fun (w : Cond) (h : w ∈ gA) => hts w (List.mem_cons_of_mem _ h)
  have hown : s.vm.findClass "RangedPoolModel" = some m.cls := findClass_of_methodNamed B.named
  have hlocks := B.notSynchronized
  have hS : va_S (fun _ => False) s.heap s.heap [] := va_S.rf
  have hl := lv_entry ([.ref (ad 0)]) (n := 1) (Nat.le_of_ble_eq_true rfl)
  rw [lg_entry_eq]
  generalize (lg_sl ([.ref (ad 0)]) ++ List.replicate (1 - (lg_sl ([.ref (ad 0)])).length) Slot.unset).toArray = ls at hl ⊢
  have hl : lv_has ls 1 [(0, .ref (ad 0))] := hl
  have hF : f_M_price0 σ = f_M_price0 σ := rfl
  refine lv_aload_n hx hb d_M_price0_0 rfl (lv_at hl 0 rfl) ?_
  refine g_get hx hb ht in_M hown hK hP (0) r_at0 rfl 4 (by decide) rfl (ht _ kw465) (fun _ h9 => h9) (v := .long (σ.2 0 4)) rfl d_M_price0_1 ?_
  refine lv_l2i (v := (σ.2 0 4).toInt32) hx hb d_M_price0_4 rfl ?_
  exact W.iret (v := (σ.2 0 4).toInt32) hx hb hr (fun t hh hW => ⟨_, rfl, hF.symm, hh⟩) (fun _ h => by cases h) d_M_price0_5
def f_M_step (σ : g_S) : Int32 := σ.1 0 5
set_option maxHeartbeats 4000000 in
set_option maxRecDepth 100000 in
theorem c_M_step (l : Launch) (dC : Nat → ClassId) (dI : Nat → Nat → Nat) (dA : Nat → ClassId) (ad : Nat → Nat) (σ : g_S) : Met l y_M_step w_M_step ({ frames := 0, cells := 0, slots := 0, locals := 0 }) (va_Pc [.ref (ad 0)] (g_R (dC, dI) cls (r_tys dA) (g_w r_sh dA ad σ) r_Z)) (vp_Si (fun r => r = f_M_step σ)) 0 0 (fun _ => False) := by
  refine Met.ofW (cc := b_M_step) (maxL := 1) (ret := (some .int)) (by decide) rfl ?_
  intro p e s m args below meth c s₁ B hml hv
  obtain ⟨rfl, hP, hK, hz⟩ := hv
  have hx := B.exec
  have hb := B.bytes
  have hr := B.returns
  have hts := atoms_spec (ws := w_M_step) B.pre
  have ht := fun (w : Cond) (h : w ∈ gA) => hts w (List.mem_cons_of_mem _ h)
  have hown : s.vm.findClass "RangedPoolModel" = some m.cls := findClass_of_methodNamed B.named
  have hlocks := B.notSynchronized
  have hS : va_S (fun _ => False) s.heap s.heap [] := va_S.rf
  have hl := lv_entry ([.ref (ad 0)]) (n := 1) (Nat.le_of_ble_eq_true rfl)
  rw [lg_entry_eq]
  generalize (lg_sl ([.ref (ad 0)]) ++ List.replicate (1 - (lg_sl ([.ref (ad 0)])).length) Slot.unset).toArray = ls at hl ⊢
  have hl : lv_has ls 1 [(0, .ref (ad 0))] := hl
  have hF : f_M_step σ = f_M_step σ := rfl
  refine lv_aload_n hx hb d_M_step_0 rfl (lv_at hl 0 rfl) ?_
  refine g_get hx hb ht in_M hown hK hP (0) r_at0 rfl 5 (by decide) rfl (ht _ kw466) (fun _ h9 => h9) (v := .int (σ.1 0 5)) rfl d_M_step_1 ?_
  exact W.iret (v := σ.1 0 5) hx hb hr (fun t hh hW => ⟨_, rfl, hF.symm, hh⟩) (fun _ h => by cases h) d_M_step_4
def f_M_depth_5_3 (σ : g_S) (r1 : Int64) : Int32 := r1.toInt32
def f_M_depth (σ : g_S) : Int32 := (f_M_depth_5_3 σ (f_M_depthAt σ (σ.1 0 5)))
set_option maxHeartbeats 4000000 in
set_option maxRecDepth 100000 in
theorem c_M_depth (l : Launch) (dC : Nat → ClassId) (dI : Nat → Nat → Nat) (dA : Nat → ClassId) (ad : Nat → Nat) (σ : g_S) : Met l y_M_depth w_M_depth ({ frames := 1, cells := 0, slots := 0, locals := 24 }) (va_Pc [.ref (ad 0)] (g_R (dC, dI) cls (r_tys dA) (g_w r_sh dA ad σ) r_Z)) (vp_Si (fun r => r = f_M_depth σ)) 0 0 (fun _ => False) := by
  refine Met.ofW (cc := b_M_depth) (maxL := 1) (ret := (some .int)) (by decide) rfl ?_
  intro p e s m args below meth c s₁ B hml hv
  obtain ⟨rfl, hP, hK, hz⟩ := hv
  have hx := B.exec
  have hb := B.bytes
  have hr := B.returns
  have hts := atoms_spec (ws := w_M_depth) B.pre
  have ht := fun (w : Cond) (h : w ∈ gA) => hts w (List.mem_cons_of_mem _ h)
  have hown : s.vm.findClass "RangedPoolModel" = some m.cls := findClass_of_methodNamed B.named
  have hlocks := B.notSynchronized
  have hS : va_S (fun _ => False) s.heap s.heap [] := va_S.rf
  have hl := lv_entry ([.ref (ad 0)]) (n := 1) (Nat.le_of_ble_eq_true rfl)
  rw [lg_entry_eq]
  generalize (lg_sl ([.ref (ad 0)]) ++ List.replicate (1 - (lg_sl ([.ref (ad 0)])).length) Slot.unset).toArray = ls at hl ⊢
  have hl : lv_has ls 1 [(0, .ref (ad 0))] := hl
  have hF : f_M_depth σ = f_M_depth σ := rfl
  refine lv_aload_n hx hb d_M_depth_0 rfl (lv_at hl 0 rfl) ?_
  refine lv_aload_n hx hb d_M_depth_1 rfl (lv_at hl 0 rfl) ?_
  refine g_get hx hb ht in_M hown hK hP (0) r_at0 rfl 5 (by decide) rfl (ht _ kw466) (fun _ h9 => h9) (v := .int (σ.1 0 5)) rfl d_M_depth_2 ?_
  refine g_cSl (va_runV (As := [.int (σ.1 0 5)]) (rest := []) ⟨hx, hb, hml, hown, ht⟩ (c_M_depthAt l dC dI dA ad σ (σ.1 0 5)) (cwV 1 ht gc_M_167 rfl rfl rfl (by decide +kernel) ⟨Nat.le_of_ble_eq_true rfl, Nat.le_of_ble_eq_true rfl⟩) (g_pV (g_prR r_Zok hK hP hS hz _) (g_rc hK hP (0) r_at0 rfl)) rfl rfl hl.1 rfl (lv_room (Nat.le_of_ble_eq_true rfl)) d_M_depth_5 ⟨Nat.le_of_ble_eq_true rfl, Nat.le_of_ble_eq_true rfl⟩) (fun r1 e2 => ?_)
  have hF : f_M_depth σ = f_M_depth_5_3 σ r1 := hF.trans (by rw [e2]; try rfl)
  refine lv_l2i (v := r1.toInt32) hx hb d_M_depth_8 rfl ?_
  exact W.iret (v := r1.toInt32) hx hb hr (fun t hh hW => ⟨_, rfl, hF.symm, hh⟩) (fun _ h => by cases h) d_M_depth_9
def f_M_wallet_29_5 (σ : g_S) (o : Int32) (n : Int32) (r1 : Int32) : Int64 := (-2 : Int64)
def k_M_wallet_29_5 (σ : g_S) (o : Int32) (n : Int32) (r1 : Int32) : Prop := True
def f_M_wallet_29_8 (σ : g_S) (o : Int32) (n : Int32) (r1 : Int32) : Int64 := (-2 : Int64)
def k_M_wallet_29_8 (σ : g_S) (o : Int32) (n : Int32) (r1 : Int32) : Prop := True
def f_M_wallet_29_11 (σ : g_S) (o : Int32) (n : Int32) (r1 : Int32) : Int64 := (-2 : Int64)
def k_M_wallet_29_11 (σ : g_S) (o : Int32) (n : Int32) (r1 : Int32) : Prop := True
def f_M_wallet_16_12 (σ : g_S) (o : Int32) (n : Int32) (r1 : Int32) : Int64 := σ.2 2 ((((2 : Int32) * o) + n).toNatClampNeg)
def k_M_wallet_16_12 (σ : g_S) (o : Int32) (n : Int32) (r1 : Int32) : Prop := (vp_in (((2 : Int32) * o) + n) 8) ∧ True
def f_M_wallet_11_9 (σ : g_S) (o : Int32) (n : Int32) (r1 : Int32) : Int64 := (if (1 : Int32) < n then f_M_wallet_29_11 σ o n r1 else f_M_wallet_16_12 σ o n r1)
def k_M_wallet_11_9 (σ : g_S) (o : Int32) (n : Int32) (r1 : Int32) : Prop := (if (1 : Int32) < n then k_M_wallet_29_11 σ o n r1 else k_M_wallet_16_12 σ o n r1)
def f_M_wallet_7_6 (σ : g_S) (o : Int32) (n : Int32) (r1 : Int32) : Int64 := (if n < 0 then f_M_wallet_29_8 σ o n r1 else f_M_wallet_11_9 σ o n r1)
def k_M_wallet_7_6 (σ : g_S) (o : Int32) (n : Int32) (r1 : Int32) : Prop := (if n < 0 then k_M_wallet_29_8 σ o n r1 else k_M_wallet_11_9 σ o n r1)
def f_M_wallet_1_3 (σ : g_S) (o : Int32) (n : Int32) (r1 : Int32) : Int64 := (if r1 = 0 then f_M_wallet_29_5 σ o n r1 else f_M_wallet_7_6 σ o n r1)
def k_M_wallet_1_3 (σ : g_S) (o : Int32) (n : Int32) (r1 : Int32) : Prop := (if r1 = 0 then k_M_wallet_29_5 σ o n r1 else k_M_wallet_7_6 σ o n r1)
def f_M_wallet (σ : g_S) (o : Int32) (n : Int32) : Int64 := (f_M_wallet_1_3 σ o n (f_M_isOwner o))
def k_M_wallet (σ : g_S) (o : Int32) (n : Int32) : Prop := (k_M_wallet_1_3 σ o n (f_M_isOwner o))
set_option maxHeartbeats 4000000 in
set_option maxRecDepth 100000 in
theorem c_M_wallet (l : Launch) (dC : Nat → ClassId) (dI : Nat → Nat → Nat) (dA : Nat → ClassId) (ad : Nat → Nat) (σ : g_S) (o : Int32) (n : Int32) (hQ : k_M_wallet σ o n) : Met l y_M_wallet w_M_wallet ({ frames := 1, cells := 0, slots := 0, locals := 20 }) (va_Pc [.ref (ad 0), .int o, .int n] (g_R (dC, dI) cls (r_tys dA) (g_w r_sh dA ad σ) r_Z)) (vp_Sl (fun r => r = f_M_wallet σ o n)) 0 0 (fun _ => False) := by
  refine Met.ofW (cc := b_M_wallet) (maxL := 3) (ret := (some .long)) (by decide) rfl ?_
  intro p e s m args below meth c s₁ B hml hv
  obtain ⟨rfl, hP, hK, hz⟩ := hv
  have hx := B.exec
  have hb := B.bytes
  have hr := B.returns
  have hts := atoms_spec (ws := w_M_wallet) B.pre
  have ht := fun (w : Cond) (h : w ∈ gA) => hts w (List.mem_cons_of_mem _ h)
  have hown : s.vm.findClass "RangedPoolModel" = some m.cls := findClass_of_methodNamed B.named
  have hlocks := B.notSynchronized
  have hS : va_S (fun _ => False) s.heap s.heap [] := va_S.rf
  have hl := lv_entry ([.ref (ad 0), .int o, .int n]) (n := 3) (Nat.le_of_ble_eq_true rfl)
  rw [lg_entry_eq]
  generalize (lg_sl ([.ref (ad 0), .int o, .int n]) ++ List.replicate (3 - (lg_sl ([.ref (ad 0), .int o, .int n])).length) Slot.unset).toArray = ls at hl ⊢
  have hl : lv_has ls 3 [(0, .ref (ad 0)), (1, .int o), (2, .int n)] := hl
  have hF : f_M_wallet σ o n = f_M_wallet σ o n := rfl
  refine lv_iload_n hx hb d_M_wallet_0 rfl (lv_at hl 1 rfl) ?_
  refine g_cSi (va_runS (As := [.int o]) (rest := []) ⟨hx, hb, hml, hown, ht⟩ (c_M_isOwner l o) (va_cwS 1 ht gc_M_99 rfl rfl rfl (by decide +kernel) ⟨Nat.le_of_ble_eq_true rfl, Nat.le_of_ble_eq_true rfl⟩) (g_pr0 _) rfl rfl hl.1 rfl (lv_room (Nat.le_of_ble_eq_true rfl)) d_M_wallet_1 ⟨Nat.le_of_ble_eq_true rfl, Nat.le_of_ble_eq_true rfl⟩) (fun r1 e2 => ?_)
  have hF : f_M_wallet σ o n = f_M_wallet_1_3 σ o n r1 := hF.trans (by rw [e2]; try rfl)
  have hQ : k_M_wallet_1_3 σ o n r1 := by rw [e2]; exact hQ
  refine lv_if_eq (tgt := 29) hx hb d_M_wallet_4 (by decide) (fun c4 => ?_) (fun c4 => ?_)
  ·
    have c4 : r1 = 0 := c4
    have hF : f_M_wallet σ o n = f_M_wallet_29_5 σ o n r1 := hF.trans (if_pos c4)
    have hQ : k_M_wallet_29_5 σ o n r1 := Eq.mp (if_pos c4) hQ
    refine lv_ldc2 (v := (-2 : Int64)) hx hb hown (ht _ kw574) d_M_wallet_29 ?_
    exact W.lret (v := (-2 : Int64)) hx hb hr (fun t hh hW => ⟨_, rfl, hF.symm, hh⟩) (fun _ h => by cases h) d_M_wallet_32
  ·
    have c4 : ¬ (r1 = 0) := c4
    have hF : f_M_wallet σ o n = f_M_wallet_7_6 σ o n r1 := hF.trans (if_neg c4)
    have hQ : k_M_wallet_7_6 σ o n r1 := Eq.mp (if_neg c4) hQ
    refine lv_iload_n hx hb d_M_wallet_7 rfl (lv_at hl 2 rfl) ?_
    refine lv_if_lt (tgt := 29) hx hb d_M_wallet_8 (by decide) (fun c7 => ?_) (fun c7 => ?_)
    ·
      have c7 : n < 0 := c7
      have hF : f_M_wallet σ o n = f_M_wallet_29_8 σ o n r1 := hF.trans (if_pos c7)
      have hQ : k_M_wallet_29_8 σ o n r1 := Eq.mp (if_pos c7) hQ
      refine lv_ldc2 (v := (-2 : Int64)) hx hb hown (ht _ kw574) d_M_wallet_29 ?_
      exact W.lret (v := (-2 : Int64)) hx hb hr (fun t hh hW => ⟨_, rfl, hF.symm, hh⟩) (fun _ h => by cases h) d_M_wallet_32
    ·
      have c7 : ¬ (n < 0) := c7
      have hF : f_M_wallet σ o n = f_M_wallet_11_9 σ o n r1 := hF.trans (if_neg c7)
      have hQ : k_M_wallet_11_9 σ o n r1 := Eq.mp (if_neg c7) hQ
      refine lv_iload_n hx hb d_M_wallet_11 rfl (lv_at hl 2 rfl) ?_
      refine lv_iconst (v := (1 : Int32)) hx hb d_M_wallet_12 (by decide) ?_
      refine lv_icmp_gt (tgt := 29) hx hb d_M_wallet_13 (by decide) (fun c10 => ?_) (fun c10 => ?_)
      ·
        have c10 : (1 : Int32) < n := c10
        have hF : f_M_wallet σ o n = f_M_wallet_29_11 σ o n r1 := hF.trans (if_pos c10)
        have hQ : k_M_wallet_29_11 σ o n r1 := Eq.mp (if_pos c10) hQ
        refine lv_ldc2 (v := (-2 : Int64)) hx hb hown (ht _ kw574) d_M_wallet_29 ?_
        exact W.lret (v := (-2 : Int64)) hx hb hr (fun t hh hW => ⟨_, rfl, hF.symm, hh⟩) (fun _ h => by cases h) d_M_wallet_32
      ·
        have c10 : ¬ ((1 : Int32) < n) := c10
        have hF : f_M_wallet σ o n = f_M_wallet_16_12 σ o n r1 := hF.trans (if_neg c10)
        have hQ : k_M_wallet_16_12 σ o n r1 := Eq.mp (if_neg c10) hQ
        refine lv_aload_n hx hb d_M_wallet_16 rfl (lv_at hl 0 rfl) ?_
        refine g_get hx hb ht in_M hown hK hP (0) r_at0 rfl 6 (by decide) rfl (ht _ kw467) (fun _ h9 => h9) (v := .ref (ad 2)) rfl d_M_wallet_17 ?_
        refine lv_iconst (v := (2 : Int32)) hx hb d_M_wallet_20 (by decide) ?_
        refine lv_iload_n hx hb d_M_wallet_21 rfl (lv_at hl 1 rfl) ?_
        refine lv_imul hx hb d_M_wallet_22 ?_
        refine lv_iload_n hx hb d_M_wallet_23 rfl (lv_at hl 2 rfl) ?_
        refine lv_iadd hx hb d_M_wallet_24 ?_
        obtain ⟨hs13, hQ⟩ := hQ
        refine g_lald hx hb hK hP (2) r_at2 rfl (hs13) (j := (((2 : Int32) * o) + n).toNatClampNeg) (rfl) d_M_wallet_25 ?_
        refine lv_goto (tgt := 32) hx hb d_M_wallet_26 (by decide) ?_
        exact W.lret (v := σ.2 2 ((((2 : Int32) * o) + n).toNatClampNeg)) hx hb hr (fun t hh hW => ⟨_, rfl, hF.symm, hh⟩) (fun _ h => by cases h) d_M_wallet_32
def f_M_reserve_18_2 (σ : g_S) (n : Int32) : Int64 := (-2 : Int64)
def k_M_reserve_18_2 (σ : g_S) (n : Int32) : Prop := True
def f_M_reserve_18_5 (σ : g_S) (n : Int32) : Int64 := (-2 : Int64)
def k_M_reserve_18_5 (σ : g_S) (n : Int32) : Prop := True
def f_M_reserve_9_6 (σ : g_S) (n : Int32) : Int64 := σ.2 3 n.toNatClampNeg
def k_M_reserve_9_6 (σ : g_S) (n : Int32) : Prop := (vp_in n 2) ∧ True
def f_M_reserve_4_3 (σ : g_S) (n : Int32) : Int64 := (if (1 : Int32) < n then f_M_reserve_18_5 σ n else f_M_reserve_9_6 σ n)
def k_M_reserve_4_3 (σ : g_S) (n : Int32) : Prop := (if (1 : Int32) < n then k_M_reserve_18_5 σ n else k_M_reserve_9_6 σ n)
def f_M_reserve (σ : g_S) (n : Int32) : Int64 := (if n < 0 then f_M_reserve_18_2 σ n else f_M_reserve_4_3 σ n)
def k_M_reserve (σ : g_S) (n : Int32) : Prop := (if n < 0 then k_M_reserve_18_2 σ n else k_M_reserve_4_3 σ n)
set_option maxHeartbeats 4000000 in
set_option maxRecDepth 100000 in
theorem c_M_reserve (l : Launch) (dC : Nat → ClassId) (dI : Nat → Nat → Nat) (dA : Nat → ClassId) (ad : Nat → Nat) (σ : g_S) (n : Int32) (hQ : k_M_reserve σ n) : Met l y_M_reserve w_M_reserve ({ frames := 0, cells := 0, slots := 0, locals := 0 }) (va_Pc [.ref (ad 0), .int n] (g_R (dC, dI) cls (r_tys dA) (g_w r_sh dA ad σ) r_Z)) (vp_Sl (fun r => r = f_M_reserve σ n)) 0 0 (fun _ => False) := by
  refine Met.ofW (cc := b_M_reserve) (maxL := 2) (ret := (some .long)) (by decide) rfl ?_
  intro p e s m args below meth c s₁ B hml hv
  obtain ⟨rfl, hP, hK, hz⟩ := hv
  have hx := B.exec
  have hb := B.bytes
  have hr := B.returns
  have hts := atoms_spec (ws := w_M_reserve) B.pre
  have ht := fun (w : Cond) (h : w ∈ gA) => hts w (List.mem_cons_of_mem _ h)
  have hown : s.vm.findClass "RangedPoolModel" = some m.cls := findClass_of_methodNamed B.named
  have hlocks := B.notSynchronized
  have hS : va_S (fun _ => False) s.heap s.heap [] := va_S.rf
  have hl := lv_entry ([.ref (ad 0), .int n]) (n := 2) (Nat.le_of_ble_eq_true rfl)
  rw [lg_entry_eq]
  generalize (lg_sl ([.ref (ad 0), .int n]) ++ List.replicate (2 - (lg_sl ([.ref (ad 0), .int n])).length) Slot.unset).toArray = ls at hl ⊢
  have hl : lv_has ls 2 [(0, .ref (ad 0)), (1, .int n)] := hl
  have hF : f_M_reserve σ n = f_M_reserve σ n := rfl
  refine lv_iload_n hx hb d_M_reserve_0 rfl (lv_at hl 1 rfl) ?_
  refine lv_if_lt (tgt := 18) hx hb d_M_reserve_1 (by decide) (fun c1 => ?_) (fun c1 => ?_)
  ·
    have c1 : n < 0 := c1
    have hF : f_M_reserve σ n = f_M_reserve_18_2 σ n := hF.trans (if_pos c1)
    have hQ : k_M_reserve_18_2 σ n := Eq.mp (if_pos c1) hQ
    refine lv_ldc2 (v := (-2 : Int64)) hx hb hown (ht _ kw574) d_M_reserve_18 ?_
    exact W.lret (v := (-2 : Int64)) hx hb hr (fun t hh hW => ⟨_, rfl, hF.symm, hh⟩) (fun _ h => by cases h) d_M_reserve_21
  ·
    have c1 : ¬ (n < 0) := c1
    have hF : f_M_reserve σ n = f_M_reserve_4_3 σ n := hF.trans (if_neg c1)
    have hQ : k_M_reserve_4_3 σ n := Eq.mp (if_neg c1) hQ
    refine lv_iload_n hx hb d_M_reserve_4 rfl (lv_at hl 1 rfl) ?_
    refine lv_iconst (v := (1 : Int32)) hx hb d_M_reserve_5 (by decide) ?_
    refine lv_icmp_gt (tgt := 18) hx hb d_M_reserve_6 (by decide) (fun c4 => ?_) (fun c4 => ?_)
    ·
      have c4 : (1 : Int32) < n := c4
      have hF : f_M_reserve σ n = f_M_reserve_18_5 σ n := hF.trans (if_pos c4)
      have hQ : k_M_reserve_18_5 σ n := Eq.mp (if_pos c4) hQ
      refine lv_ldc2 (v := (-2 : Int64)) hx hb hown (ht _ kw574) d_M_reserve_18 ?_
      exact W.lret (v := (-2 : Int64)) hx hb hr (fun t hh hW => ⟨_, rfl, hF.symm, hh⟩) (fun _ h => by cases h) d_M_reserve_21
    ·
      have c4 : ¬ ((1 : Int32) < n) := c4
      have hF : f_M_reserve σ n = f_M_reserve_9_6 σ n := hF.trans (if_neg c4)
      have hQ : k_M_reserve_9_6 σ n := Eq.mp (if_neg c4) hQ
      refine lv_aload_n hx hb d_M_reserve_9 rfl (lv_at hl 0 rfl) ?_
      refine g_get hx hb ht in_M hown hK hP (0) r_at0 rfl 7 (by decide) rfl (ht _ kw468) (fun _ h9 => h9) (v := .ref (ad 3)) rfl d_M_reserve_10 ?_
      refine lv_iload_n hx hb d_M_reserve_13 rfl (lv_at hl 1 rfl) ?_
      obtain ⟨hs7, hQ⟩ := hQ
      refine g_lald hx hb hK hP (3) r_at3 rfl (hs7) (j := n.toNatClampNeg) (rfl) d_M_reserve_14 ?_
      refine lv_goto (tgt := 21) hx hb d_M_reserve_15 (by decide) ?_
      exact W.lret (v := σ.2 3 n.toNatClampNeg) hx hb hr (fun t hh hW => ⟨_, rfl, hF.symm, hh⟩) (fun _ h => by cases h) d_M_reserve_21
def f_M_lot_71_11 (σ : g_S) (o : Int32) (lo : Int32) (hi : Int32) (wh : Int32) (r1 : Int32) : Int64 := (-2 : Int64)
def k_M_lot_71_11 (σ : g_S) (o : Int32) (lo : Int32) (hi : Int32) (wh : Int32) (r1 : Int32) : Prop := True
def f_M_lot_57_12 (σ : g_S) (o : Int32) (lo : Int32) (hi : Int32) (wh : Int32) (r1 : Int32) : Int64 := σ.2 9 ((((2 : Int32) * r1) + (1 : Int32)).toNatClampNeg)
def k_M_lot_57_12 (σ : g_S) (o : Int32) (lo : Int32) (hi : Int32) (wh : Int32) (r1 : Int32) : Prop := (vp_in (((2 : Int32) * r1) + (1 : Int32)) 20) ∧ True
def f_M_lot_51_9 (σ : g_S) (o : Int32) (lo : Int32) (hi : Int32) (wh : Int32) (r1 : Int32) : Int64 := (if wh = (2 : Int32) then f_M_lot_57_12 σ o lo hi wh r1 else f_M_lot_71_11 σ o lo hi wh r1)
def k_M_lot_51_9 (σ : g_S) (o : Int32) (lo : Int32) (hi : Int32) (wh : Int32) (r1 : Int32) : Prop := (if wh = (2 : Int32) then k_M_lot_57_12 σ o lo hi wh r1 else k_M_lot_71_11 σ o lo hi wh r1)
def f_M_lot_39_14 (σ : g_S) (o : Int32) (lo : Int32) (hi : Int32) (wh : Int32) (r1 : Int32) : Int64 := σ.2 9 (((2 : Int32) * r1).toNatClampNeg)
def k_M_lot_39_14 (σ : g_S) (o : Int32) (lo : Int32) (hi : Int32) (wh : Int32) (r1 : Int32) : Prop := (vp_in ((2 : Int32) * r1) 20) ∧ True
def f_M_lot_33_7 (σ : g_S) (o : Int32) (lo : Int32) (hi : Int32) (wh : Int32) (r1 : Int32) : Int64 := (if wh = (1 : Int32) then f_M_lot_39_14 σ o lo hi wh r1 else f_M_lot_51_9 σ o lo hi wh r1)
def k_M_lot_33_7 (σ : g_S) (o : Int32) (lo : Int32) (hi : Int32) (wh : Int32) (r1 : Int32) : Prop := (if wh = (1 : Int32) then k_M_lot_39_14 σ o lo hi wh r1 else k_M_lot_51_9 σ o lo hi wh r1)
def f_M_lot_23_16 (σ : g_S) (o : Int32) (lo : Int32) (hi : Int32) (wh : Int32) (r1 : Int32) : Int64 := σ.2 8 r1.toNatClampNeg
def k_M_lot_23_16 (σ : g_S) (o : Int32) (lo : Int32) (hi : Int32) (wh : Int32) (r1 : Int32) : Prop := (vp_in r1 10) ∧ True
def f_M_lot_18_5 (σ : g_S) (o : Int32) (lo : Int32) (hi : Int32) (wh : Int32) (r1 : Int32) : Int64 := (if wh = 0 then f_M_lot_23_16 σ o lo hi wh r1 else f_M_lot_33_7 σ o lo hi wh r1)
def k_M_lot_18_5 (σ : g_S) (o : Int32) (lo : Int32) (hi : Int32) (wh : Int32) (r1 : Int32) : Prop := (if wh = 0 then k_M_lot_23_16 σ o lo hi wh r1 else k_M_lot_33_7 σ o lo hi wh r1)
def f_M_lot_14_18 (σ : g_S) (o : Int32) (lo : Int32) (hi : Int32) (wh : Int32) (r1 : Int32) : Int64 := (-3 : Int64)
def k_M_lot_14_18 (σ : g_S) (o : Int32) (lo : Int32) (hi : Int32) (wh : Int32) (r1 : Int32) : Prop := True
def f_M_lot_4_3 (σ : g_S) (o : Int32) (lo : Int32) (hi : Int32) (wh : Int32) (r1 : Int32) : Int64 := (if 0 ≤ r1 then f_M_lot_18_5 σ o lo hi wh r1 else f_M_lot_14_18 σ o lo hi wh r1)
def k_M_lot_4_3 (σ : g_S) (o : Int32) (lo : Int32) (hi : Int32) (wh : Int32) (r1 : Int32) : Prop := (if 0 ≤ r1 then k_M_lot_18_5 σ o lo hi wh r1 else k_M_lot_14_18 σ o lo hi wh r1)
def f_M_lot (σ : g_S) (o : Int32) (lo : Int32) (hi : Int32) (wh : Int32) : Int64 := (f_M_lot_4_3 σ o lo hi wh (f_M_find σ o lo hi))
def k_M_lot (σ : g_S) (o : Int32) (lo : Int32) (hi : Int32) (wh : Int32) : Prop := (k_M_lot_4_3 σ o lo hi wh (f_M_find σ o lo hi))
set_option maxHeartbeats 4000000 in
set_option maxRecDepth 100000 in
theorem c_M_lot (l : Launch) (dC : Nat → ClassId) (dI : Nat → Nat → Nat) (dA : Nat → ClassId) (ad : Nat → Nat) (σ : g_S) (o : Int32) (lo : Int32) (hi : Int32) (wh : Int32) (hQ : k_M_lot σ o lo hi wh) : Met l y_M_lot w_M_lot ({ frames := 1, cells := 0, slots := 0, locals := 24 }) (va_Pc [.ref (ad 0), .int o, .int lo, .int hi, .int wh] (g_R (dC, dI) cls (r_tys dA) (g_w r_sh dA ad σ) r_Z)) (vp_Sl (fun r => r = f_M_lot σ o lo hi wh)) 0 0 (fun _ => False) := by
  refine Met.ofW (cc := b_M_lot) (maxL := 6) (ret := (some .long)) (by decide) rfl ?_
  intro p e s m args below meth c s₁ B hml hv
  obtain ⟨rfl, hP, hK, hz⟩ := hv
  have hx := B.exec
  have hb := B.bytes
  have hr := B.returns
  have hts := atoms_spec (ws := w_M_lot) B.pre
  have ht := fun (w : Cond) (h : w ∈ gA) => hts w (List.mem_cons_of_mem _ h)
  have hown : s.vm.findClass "RangedPoolModel" = some m.cls := findClass_of_methodNamed B.named
  have hlocks := B.notSynchronized
  have hS : va_S (fun _ => False) s.heap s.heap [] := va_S.rf
  have hl := lv_entry ([.ref (ad 0), .int o, .int lo, .int hi, .int wh]) (n := 6) (Nat.le_of_ble_eq_true rfl)
  rw [lg_entry_eq]
  generalize (lg_sl ([.ref (ad 0), .int o, .int lo, .int hi, .int wh]) ++ List.replicate (6 - (lg_sl ([.ref (ad 0), .int o, .int lo, .int hi, .int wh])).length) Slot.unset).toArray = ls at hl ⊢
  have hl : lv_has ls 6 [(0, .ref (ad 0)), (1, .int o), (2, .int lo), (3, .int hi), (4, .int wh)] := hl
  have hF : f_M_lot σ o lo hi wh = f_M_lot σ o lo hi wh := rfl
  refine lv_aload_n hx hb d_M_lot_0 rfl (lv_at hl 0 rfl) ?_
  refine lv_iload_n hx hb d_M_lot_1 rfl (lv_at hl 1 rfl) ?_
  refine lv_iload_n hx hb d_M_lot_2 rfl (lv_at hl 2 rfl) ?_
  refine lv_iload_n hx hb d_M_lot_3 rfl (lv_at hl 3 rfl) ?_
  refine g_cSi (va_runV (As := [.int o, .int lo, .int hi]) (rest := []) ⟨hx, hb, hml, hown, ht⟩ (c_M_find l dC dI dA ad σ o lo hi) (cwV 3 ht gc_M_121 rfl rfl rfl (by decide +kernel) ⟨Nat.le_of_ble_eq_true rfl, Nat.le_of_ble_eq_true rfl⟩) (g_pV (g_prR r_Zok hK hP hS hz _) (g_rc hK hP (0) r_at0 rfl)) rfl rfl hl.1 rfl (lv_room (Nat.le_of_ble_eq_true rfl)) d_M_lot_4 ⟨Nat.le_of_ble_eq_true rfl, Nat.le_of_ble_eq_true rfl⟩) (fun r1 e2 => ?_)
  have hF : f_M_lot σ o lo hi wh = f_M_lot_4_3 σ o lo hi wh r1 := hF.trans (by rw [e2]; try rfl)
  have hQ : k_M_lot_4_3 σ o lo hi wh r1 := by rw [e2]; exact hQ
  refine lv_istore (lv' := [(5, .int r1), (0, .ref (ad 0)), (1, .int o), (2, .int lo), (3, .int hi), (4, .int wh)]) hx hb d_M_lot_7 hl (by decide) rfl (fun ls hl => ?_)
  refine lv_iload hx hb d_M_lot_9 (lv_at hl 0 rfl) ?_
  refine lv_if_ge (tgt := 18) hx hb d_M_lot_11 (by decide) (fun c4 => ?_) (fun c4 => ?_)
  ·
    have c4 : 0 ≤ r1 := c4
    have hF : f_M_lot σ o lo hi wh = f_M_lot_18_5 σ o lo hi wh r1 := hF.trans (if_pos c4)
    have hQ : k_M_lot_18_5 σ o lo hi wh r1 := Eq.mp (if_pos c4) hQ
    refine lv_iload hx hb d_M_lot_18 (lv_at hl 5 rfl) ?_
    refine lv_if_ne (tgt := 33) hx hb d_M_lot_20 (by decide) (fun c6 => ?_) (fun c6 => ?_)
    ·
      have c6 : ¬ (wh = 0) := c6
      have hF : f_M_lot σ o lo hi wh = f_M_lot_33_7 σ o lo hi wh r1 := hF.trans (if_neg c6)
      have hQ : k_M_lot_33_7 σ o lo hi wh r1 := Eq.mp (if_neg c6) hQ
      refine lv_iload hx hb d_M_lot_33 (lv_at hl 5 rfl) ?_
      refine lv_iconst (v := (1 : Int32)) hx hb d_M_lot_35 (by decide) ?_
      refine lv_icmp_ne (tgt := 51) hx hb d_M_lot_36 (by decide) (fun c8 => ?_) (fun c8 => ?_)
      ·
        have c8 : ¬ (wh = (1 : Int32)) := c8
        have hF : f_M_lot σ o lo hi wh = f_M_lot_51_9 σ o lo hi wh r1 := hF.trans (if_neg c8)
        have hQ : k_M_lot_51_9 σ o lo hi wh r1 := Eq.mp (if_neg c8) hQ
        refine lv_iload hx hb d_M_lot_51 (lv_at hl 5 rfl) ?_
        refine lv_iconst (v := (2 : Int32)) hx hb d_M_lot_53 (by decide) ?_
        refine lv_icmp_ne (tgt := 71) hx hb d_M_lot_54 (by decide) (fun c10 => ?_) (fun c10 => ?_)
        ·
          have c10 : ¬ (wh = (2 : Int32)) := c10
          have hF : f_M_lot σ o lo hi wh = f_M_lot_71_11 σ o lo hi wh r1 := hF.trans (if_neg c10)
          have hQ : k_M_lot_71_11 σ o lo hi wh r1 := Eq.mp (if_neg c10) hQ
          refine lv_ldc2 (v := (-2 : Int64)) hx hb hown (ht _ kw574) d_M_lot_71 ?_
          exact W.lret (v := (-2 : Int64)) hx hb hr (fun t hh hW => ⟨_, rfl, hF.symm, hh⟩) (fun _ h => by cases h) d_M_lot_74
        ·
          have c10 : wh = (2 : Int32) := c10
          have hF : f_M_lot σ o lo hi wh = f_M_lot_57_12 σ o lo hi wh r1 := hF.trans (if_pos c10)
          have hQ : k_M_lot_57_12 σ o lo hi wh r1 := Eq.mp (if_pos c10) hQ
          refine lv_aload_n hx hb d_M_lot_57 rfl (lv_at hl 1 rfl) ?_
          refine g_get hx hb ht in_M hown hK hP (0) r_at0 rfl 13 (by decide) rfl (ht _ kw474) (fun _ h9 => h9) (v := .ref (ad 9)) rfl d_M_lot_58 ?_
          refine lv_iconst (v := (2 : Int32)) hx hb d_M_lot_61 (by decide) ?_
          refine lv_iload hx hb d_M_lot_62 (lv_at hl 0 rfl) ?_
          refine lv_imul hx hb d_M_lot_64 ?_
          refine lv_iconst (v := (1 : Int32)) hx hb d_M_lot_65 (by decide) ?_
          refine lv_iadd hx hb d_M_lot_66 ?_
          obtain ⟨hs13, hQ⟩ := hQ
          refine g_lald hx hb hK hP (9) r_at9 rfl (hs13) (j := (((2 : Int32) * r1) + (1 : Int32)).toNatClampNeg) (rfl) d_M_lot_67 ?_
          refine lv_goto (tgt := 74) hx hb d_M_lot_68 (by decide) ?_
          exact W.lret (v := σ.2 9 ((((2 : Int32) * r1) + (1 : Int32)).toNatClampNeg)) hx hb hr (fun t hh hW => ⟨_, rfl, hF.symm, hh⟩) (fun _ h => by cases h) d_M_lot_74
      ·
        have c8 : wh = (1 : Int32) := c8
        have hF : f_M_lot σ o lo hi wh = f_M_lot_39_14 σ o lo hi wh r1 := hF.trans (if_pos c8)
        have hQ : k_M_lot_39_14 σ o lo hi wh r1 := Eq.mp (if_pos c8) hQ
        refine lv_aload_n hx hb d_M_lot_39 rfl (lv_at hl 1 rfl) ?_
        refine g_get hx hb ht in_M hown hK hP (0) r_at0 rfl 13 (by decide) rfl (ht _ kw474) (fun _ h9 => h9) (v := .ref (ad 9)) rfl d_M_lot_40 ?_
        refine lv_iconst (v := (2 : Int32)) hx hb d_M_lot_43 (by decide) ?_
        refine lv_iload hx hb d_M_lot_44 (lv_at hl 0 rfl) ?_
        refine lv_imul hx hb d_M_lot_46 ?_
        obtain ⟨hs15, hQ⟩ := hQ
        refine g_lald hx hb hK hP (9) r_at9 rfl (hs15) (j := ((2 : Int32) * r1).toNatClampNeg) (rfl) d_M_lot_47 ?_
        refine lv_goto (tgt := 74) hx hb d_M_lot_48 (by decide) ?_
        exact W.lret (v := σ.2 9 (((2 : Int32) * r1).toNatClampNeg)) hx hb hr (fun t hh hW => ⟨_, rfl, hF.symm, hh⟩) (fun _ h => by cases h) d_M_lot_74
    ·
      have c6 : wh = 0 := c6
      have hF : f_M_lot σ o lo hi wh = f_M_lot_23_16 σ o lo hi wh r1 := hF.trans (if_pos c6)
      have hQ : k_M_lot_23_16 σ o lo hi wh r1 := Eq.mp (if_pos c6) hQ
      refine lv_aload_n hx hb d_M_lot_23 rfl (lv_at hl 1 rfl) ?_
      refine g_get hx hb ht in_M hown hK hP (0) r_at0 rfl 12 (by decide) rfl (ht _ kw473) (fun _ h9 => h9) (v := .ref (ad 8)) rfl d_M_lot_24 ?_
      refine lv_iload hx hb d_M_lot_27 (lv_at hl 0 rfl) ?_
      obtain ⟨hs17, hQ⟩ := hQ
      refine g_lald hx hb hK hP (8) r_at8 rfl (hs17) (j := r1.toNatClampNeg) (rfl) d_M_lot_29 ?_
      refine lv_goto (tgt := 74) hx hb d_M_lot_30 (by decide) ?_
      exact W.lret (v := σ.2 8 r1.toNatClampNeg) hx hb hr (fun t hh hW => ⟨_, rfl, hF.symm, hh⟩) (fun _ h => by cases h) d_M_lot_74
  ·
    have c4 : ¬ (0 ≤ r1) := c4
    have hF : f_M_lot σ o lo hi wh = f_M_lot_14_18 σ o lo hi wh r1 := hF.trans (if_neg c4)
    have hQ : k_M_lot_14_18 σ o lo hi wh r1 := Eq.mp (if_neg c4) hQ
    refine lv_ldc2 (v := (-3 : Int64)) hx hb hown (ht _ kw612) d_M_lot_14 ?_
    exact W.lret (v := (-3 : Int64)) hx hb hr (fun t hh hW => ⟨_, rfl, hF.symm, hh⟩) (fun _ h => by cases h) d_M_lot_17
def f_M_net_88_5 (σ : g_S) (n : Int32) (b2 : Int64) : Int32 := b2.toInt32
def f_M_net_L5 (σ : g_S) (n : Int32) : Nat → Nat → Int64 → Int64
  | 0, jk, a1 => (a1)
  | jn + 1, jk, a1 => f_M_net_L5 σ n jn (jk + 1) ((a1 + (if (σ.1 4 jk) = 0 then (0 : Int64) else (if (σ.1 6 jk) = n then σ.2 8 jk else (0 : Int64)))) - (if (σ.1 4 jk) = 0 then (0 : Int64) else (if (σ.1 7 jk) = n then σ.2 8 jk else (0 : Int64))))
def f_M_net (σ : g_S) (n : Int32) : Int32 := (f_M_net_88_5 σ n (f_M_net_L5 σ n 10 0 (0 : Int64)))
set_option maxHeartbeats 4000000 in
set_option maxRecDepth 100000 in
theorem c_M_net (l : Launch) (dC : Nat → ClassId) (dI : Nat → Nat → Nat) (dA : Nat → ClassId) (ad : Nat → Nat) (σ : g_S) (n : Int32) : Met l y_M_net w_M_net ({ frames := 0, cells := 0, slots := 0, locals := 0 }) (va_Pc [.ref (ad 0), .int n] (g_R (dC, dI) cls (r_tys dA) (g_w r_sh dA ad σ) r_Z)) (vp_Si (fun r => r = f_M_net σ n)) 0 0 (fun _ => False) := by
  refine Met.ofW (cc := b_M_net) (maxL := 5) (ret := (some .int)) (by decide) rfl ?_
  intro p e s m args below meth c s₁ B hml hv
  obtain ⟨rfl, hP, hK, hz⟩ := hv
  have hx := B.exec
  have hb := B.bytes
  have hr := B.returns
  have hts := atoms_spec (ws := w_M_net) B.pre
  have ht := fun (w : Cond) (h : w ∈ gA) => hts w (List.mem_cons_of_mem _ h)
  have hown : s.vm.findClass "RangedPoolModel" = some m.cls := findClass_of_methodNamed B.named
  have hlocks := B.notSynchronized
  have hS : va_S (fun _ => False) s.heap s.heap [] := va_S.rf
  have hl := lv_entry ([.ref (ad 0), .int n]) (n := 5) (Nat.le_of_ble_eq_true rfl)
  rw [lg_entry_eq]
  generalize (lg_sl ([.ref (ad 0), .int n]) ++ List.replicate (5 - (lg_sl ([.ref (ad 0), .int n])).length) Slot.unset).toArray = ls at hl ⊢
  have hl : lv_has ls 5 [(0, .ref (ad 0)), (1, .int n)] := hl
  have hF : f_M_net σ n = f_M_net σ n := rfl
  refine lv_lconst (v := (0 : Int64)) hx hb d_M_net_0 (by decide) ?_
  refine lv_lstore_n (lv' := [(2, .long (0 : Int64)), (0, .ref (ad 0)), (1, .int n)]) hx hb d_M_net_1 rfl hl (by decide) rfl (fun ls hl => ?_)
  refine lv_iconst (v := (0 : Int32)) hx hb d_M_net_2 (by decide) ?_
  refine lv_istore (lv' := [(4, .int (0 : Int32)), (2, .long (0 : Int64)), (0, .ref (ad 0)), (1, .int n)]) hx hb d_M_net_3 hl (by decide) rfl (fun ls hl => ?_)
  have J88_3 : ∀ (b2 : Int64) (ls : Array Slot), b2 = (f_M_net_L5 σ n 10 0 (0 : Int64)) → lv_has ls 5 [(2, .long b2)] → W p l e (headSpec w_M_net ({ frames := 0, cells := 0, slots := 0, locals := 0 })).room s m ([.ref (ad 0), .int n] : List Value).toArray below meth c s.heap [] 0 0 (MQ below (vp_Si (fun r => r = f_M_net σ n)) ([.ref (ad 0), .int n] : List Value).toArray s 0 0 (fun _ => False)) (F0 m 88 ls []) := by
    intro b2 ls e4 hl
    have hF : f_M_net σ n = f_M_net_88_5 σ n b2 := hF.trans (by rw [e4]; try rfl)
    refine lv_lload_n hx hb d_M_net_88 rfl (lv_at hl 0 rfl) ?_
    refine lv_l2i (v := b2.toInt32) hx hb d_M_net_89 rfl ?_
    exact W.iret (v := b2.toInt32) hx hb hr (fun t hh hW => ⟨_, rfl, hF.symm, hh⟩) (fun _ h => by cases h) d_M_net_90
  have LL5_6 : ∀ (jn : Nat) (jk : Nat) (a1 : Int64) (ls : Array Slot), jk + jn = 10 → f_M_net_L5 σ n 10 0 (0 : Int64) = f_M_net_L5 σ n jn jk a1 → lv_has ls 5 [(4, .int (Int32.ofNat jk)), (2, .long a1), (0, .ref (ad 0)), (1, .int n)] → W p l e (headSpec w_M_net ({ frames := 0, cells := 0, slots := 0, locals := 0 })).room s m ([.ref (ad 0), .int n] : List Value).toArray below meth c s.heap [] 0 0 (MQ below (vp_Si (fun r => r = f_M_net σ n)) ([.ref (ad 0), .int n] : List Value).toArray s 0 0 (fun _ => False)) (F0 m 5 ls []) := by
    intro jn
    induction jn with
    | zero =>
      intro jk a1 ls hkn hF hl
      have hF : f_M_net_L5 σ n 10 0 (0 : Int64) = (a1) := hF
      skip
      refine lv_iload hx hb d_M_net_5 (lv_at hl 0 rfl) ?_
      refine lv_bipush (v := (10 : Int32)) hx hb d_M_net_7 (by decide) ?_
      refine lv_icmp_ge (tgt := 88) hx hb d_M_net_9 (by decide) (fun _ => ?_) (fun c7 => absurd (g_geN (N := 10) (by omega)) c7)
      exact J88_3 a1 ls hF.symm (lv_sub hl [1] rfl)
    | succ jn ih =>
      intro jk a1 ls hkn hF hl
      have hF : f_M_net_L5 σ n 10 0 (0 : Int64) = f_M_net_L5 σ n jn (jk + 1) ((a1 + (if (σ.1 4 jk) = 0 then (0 : Int64) else (if (σ.1 6 jk) = n then σ.2 8 jk else (0 : Int64)))) - (if (σ.1 4 jk) = 0 then (0 : Int64) else (if (σ.1 7 jk) = n then σ.2 8 jk else (0 : Int64)))) := hF
      skip
      refine lv_iload hx hb d_M_net_5 (lv_at hl 0 rfl) ?_
      refine lv_bipush (v := (10 : Int32)) hx hb d_M_net_7 (by decide) ?_
      refine lv_icmp_ge (tgt := 88) hx hb d_M_net_9 (by decide) (fun c8 => absurd c8 (g_lt (N := 10) (by omega) (by decide))) (fun _ => ?_)
      refine lv_lload_n hx hb d_M_net_12 rfl (lv_at hl 1 rfl) ?_
      refine lv_aload_n hx hb d_M_net_13 rfl (lv_at hl 2 rfl) ?_
      refine g_get hx hb ht in_M hown hK hP (0) r_at0 rfl 8 (by decide) rfl (ht _ kw469) (fun _ h9 => h9) (v := .ref (ad 4)) rfl d_M_net_14 ?_
      refine lv_iload hx hb d_M_net_17 (lv_at hl 0 rfl) ?_
      refine g_zald hx hb hK hP (4) r_at4 rfl (g_eix rfl (by omega) (by omega)) (j := jk) (g_ena rfl (by omega)) d_M_net_19 ?_
      have J45_10 : ∀ (x9 : Int64) (ls : Array Slot), x9 = (if (σ.1 4 jk) = 0 then (0 : Int64) else (if (σ.1 6 jk) = n then σ.2 8 jk else (0 : Int64))) → lv_has ls 5 [(4, .int (Int32.ofNat jk)), (0, .ref (ad 0)), (1, .int n)] → W p l e (headSpec w_M_net ({ frames := 0, cells := 0, slots := 0, locals := 0 })).room s m ([.ref (ad 0), .int n] : List Value).toArray below meth c s.heap [] 0 0 (MQ below (vp_Si (fun r => r = f_M_net σ n)) ([.ref (ad 0), .int n] : List Value).toArray s 0 0 (fun _ => False)) (F0 m 45 ls [.long x9, .long a1]) := by
        intro x9 ls e11 hl
        rw [e11]
        refine lv_ladd hx hb d_M_net_45 ?_
        refine lv_lstore_n (lv' := [(2, .long (a1 + (if (σ.1 4 jk) = 0 then (0 : Int64) else (if (σ.1 6 jk) = n then σ.2 8 jk else (0 : Int64))))), (4, .int (Int32.ofNat jk)), (0, .ref (ad 0)), (1, .int n)]) hx hb d_M_net_46 rfl hl (by decide) rfl (fun ls hl => ?_)
        refine lv_lload_n hx hb d_M_net_47 rfl (lv_at hl 0 rfl) ?_
        refine lv_aload_n hx hb d_M_net_48 rfl (lv_at hl 2 rfl) ?_
        refine g_get hx hb ht in_M hown hK hP (0) r_at0 rfl 8 (by decide) rfl (ht _ kw469) (fun _ h9 => h9) (v := .ref (ad 4)) rfl d_M_net_49 ?_
        refine lv_iload hx hb d_M_net_52 (lv_at hl 1 rfl) ?_
        refine g_zald hx hb hK hP (4) r_at4 rfl (g_eix rfl (by omega) (by omega)) (j := jk) (g_ena rfl (by omega)) d_M_net_54 ?_
        have J80_13 : ∀ (x12 : Int64) (ls : Array Slot), x12 = (if (σ.1 4 jk) = 0 then (0 : Int64) else (if (σ.1 7 jk) = n then σ.2 8 jk else (0 : Int64))) → lv_has ls 5 [(4, .int (Int32.ofNat jk)), (0, .ref (ad 0)), (1, .int n)] → W p l e (headSpec w_M_net ({ frames := 0, cells := 0, slots := 0, locals := 0 })).room s m ([.ref (ad 0), .int n] : List Value).toArray below meth c s.heap [] 0 0 (MQ below (vp_Si (fun r => r = f_M_net σ n)) ([.ref (ad 0), .int n] : List Value).toArray s 0 0 (fun _ => False)) (F0 m 80 ls [.long x12, .long (a1 + (if (σ.1 4 jk) = 0 then (0 : Int64) else (if (σ.1 6 jk) = n then σ.2 8 jk else (0 : Int64))))]) := by
          intro x12 ls e14 hl
          rw [e14]
          refine lv_lsub hx hb d_M_net_80 ?_
          refine lv_lstore_n (lv' := [(2, .long ((a1 + (if (σ.1 4 jk) = 0 then (0 : Int64) else (if (σ.1 6 jk) = n then σ.2 8 jk else (0 : Int64)))) - (if (σ.1 4 jk) = 0 then (0 : Int64) else (if (σ.1 7 jk) = n then σ.2 8 jk else (0 : Int64))))), (4, .int (Int32.ofNat jk)), (0, .ref (ad 0)), (1, .int n)]) hx hb d_M_net_81 rfl hl (by decide) rfl (fun ls hl => ?_)
          refine lv_iinc (v := Int32.ofNat (jk + 1)) (lv' := [(4, .int (Int32.ofNat (jk + 1))), (2, .long ((a1 + (if (σ.1 4 jk) = 0 then (0 : Int64) else (if (σ.1 6 jk) = n then σ.2 8 jk else (0 : Int64)))) - (if (σ.1 4 jk) = 0 then (0 : Int64) else (if (σ.1 7 jk) = n then σ.2 8 jk else (0 : Int64))))), (0, .ref (ad 0)), (1, .int n)]) hx hb d_M_net_82 hl (k := 1) rfl (g_inc jk) (by decide) rfl (fun ls hl => ?_)
          refine lv_goto (tgt := 5) hx hb d_M_net_85 (by decide) ?_
          exact ih (jk + 1) ((a1 + (if (σ.1 4 jk) = 0 then (0 : Int64) else (if (σ.1 6 jk) = n then σ.2 8 jk else (0 : Int64)))) - (if (σ.1 4 jk) = 0 then (0 : Int64) else (if (σ.1 7 jk) = n then σ.2 8 jk else (0 : Int64)))) ls (by omega) hF (lv_sub hl [0, 1, 2, 3] rfl)
        refine lv_if_eq (tgt := 79) hx hb d_M_net_55 (by decide) (fun c15 => ?_) (fun c15 => ?_)
        ·
          have c15 : (σ.1 4 jk) = 0 := c15
          refine lv_lconst (v := (0 : Int64)) hx hb d_M_net_79 (by decide) ?_
          exact J80_13 (0 : Int64) ls (if_pos c15).symm (lv_sub hl [1, 2, 3] rfl)
        ·
          have c15 : ¬ ((σ.1 4 jk) = 0) := c15
          refine lv_aload_n hx hb d_M_net_58 rfl (lv_at hl 2 rfl) ?_
          refine g_get hx hb ht in_M hown hK hP (0) r_at0 rfl 11 (by decide) rfl (ht _ kw472) (fun _ h9 => h9) (v := .ref (ad 7)) rfl d_M_net_59 ?_
          refine lv_iload hx hb d_M_net_62 (lv_at hl 1 rfl) ?_
          refine g_iald hx hb hK hP (7) r_at7 rfl (g_eix rfl (by omega) (by omega)) (j := jk) (g_ena rfl (by omega)) d_M_net_64 ?_
          refine lv_iload_n hx hb d_M_net_65 rfl (lv_at hl 3 rfl) ?_
          refine lv_icmp_ne (tgt := 79) hx hb d_M_net_66 (by decide) (fun c16 => ?_) (fun c16 => ?_)
          ·
            have c16 : ¬ ((σ.1 7 jk) = n) := c16
            refine lv_lconst (v := (0 : Int64)) hx hb d_M_net_79 (by decide) ?_
            exact J80_13 (0 : Int64) ls ((if_neg c15).trans (if_neg c16)).symm (lv_sub hl [1, 2, 3] rfl)
          ·
            have c16 : (σ.1 7 jk) = n := c16
            refine lv_aload_n hx hb d_M_net_69 rfl (lv_at hl 2 rfl) ?_
            refine g_get hx hb ht in_M hown hK hP (0) r_at0 rfl 12 (by decide) rfl (ht _ kw473) (fun _ h9 => h9) (v := .ref (ad 8)) rfl d_M_net_70 ?_
            refine lv_iload hx hb d_M_net_73 (lv_at hl 1 rfl) ?_
            refine g_lald hx hb hK hP (8) r_at8 rfl (g_eix rfl (by omega) (by omega)) (j := jk) (g_ena rfl (by omega)) d_M_net_75 ?_
            refine lv_goto (tgt := 80) hx hb d_M_net_76 (by decide) ?_
            exact J80_13 (σ.2 8 jk) ls ((if_neg c15).trans (if_pos c16)).symm (lv_sub hl [1, 2, 3] rfl)
      refine lv_if_eq (tgt := 44) hx hb d_M_net_20 (by decide) (fun c17 => ?_) (fun c17 => ?_)
      ·
        have c17 : (σ.1 4 jk) = 0 := c17
        refine lv_lconst (v := (0 : Int64)) hx hb d_M_net_44 (by decide) ?_
        exact J45_10 (0 : Int64) ls (if_pos c17).symm (lv_sub hl [0, 2, 3] rfl)
      ·
        have c17 : ¬ ((σ.1 4 jk) = 0) := c17
        refine lv_aload_n hx hb d_M_net_23 rfl (lv_at hl 2 rfl) ?_
        refine g_get hx hb ht in_M hown hK hP (0) r_at0 rfl 10 (by decide) rfl (ht _ kw471) (fun _ h9 => h9) (v := .ref (ad 6)) rfl d_M_net_24 ?_
        refine lv_iload hx hb d_M_net_27 (lv_at hl 0 rfl) ?_
        refine g_iald hx hb hK hP (6) r_at6 rfl (g_eix rfl (by omega) (by omega)) (j := jk) (g_ena rfl (by omega)) d_M_net_29 ?_
        refine lv_iload_n hx hb d_M_net_30 rfl (lv_at hl 3 rfl) ?_
        refine lv_icmp_ne (tgt := 44) hx hb d_M_net_31 (by decide) (fun c18 => ?_) (fun c18 => ?_)
        ·
          have c18 : ¬ ((σ.1 6 jk) = n) := c18
          refine lv_lconst (v := (0 : Int64)) hx hb d_M_net_44 (by decide) ?_
          exact J45_10 (0 : Int64) ls ((if_neg c17).trans (if_neg c18)).symm (lv_sub hl [0, 2, 3] rfl)
        ·
          have c18 : (σ.1 6 jk) = n := c18
          refine lv_aload_n hx hb d_M_net_34 rfl (lv_at hl 2 rfl) ?_
          refine g_get hx hb ht in_M hown hK hP (0) r_at0 rfl 12 (by decide) rfl (ht _ kw473) (fun _ h9 => h9) (v := .ref (ad 8)) rfl d_M_net_35 ?_
          refine lv_iload hx hb d_M_net_38 (lv_at hl 0 rfl) ?_
          refine g_lald hx hb hK hP (8) r_at8 rfl (g_eix rfl (by omega) (by omega)) (j := jk) (g_ena rfl (by omega)) d_M_net_40 ?_
          refine lv_goto (tgt := 45) hx hb d_M_net_41 (by decide) ?_
          exact J45_10 (σ.2 8 jk) ls ((if_neg c17).trans (if_pos c18)).symm (lv_sub hl [0, 2, 3] rfl)
  exact LL5_6 10 0 (0 : Int64) ls (by omega) rfl  (lv_sub hl [0, 1, 2, 3] rfl)
