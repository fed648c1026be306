def f_P_open_14_2 (σ : g_S) (n : Int32) : Int32 × g_S := ((0 : Int32), σ)
def k_P_open_14_2 (σ : g_S) (n : Int32) : Prop := True
def f_P_open_39_17 (σ : g_S) (n : Int32) (r4 : Int32) (r10 : Int32) (τ16 : g_S) : Int32 × g_S := ((1 : Int32), τ16)
def k_P_open_39_17 (σ : g_S) (n : Int32) (r4 : Int32) (r10 : Int32) (τ16 : g_S) : Prop := True
def f_P_open_23_12 (σ : g_S) (n : Int32) (r4 : Int32) (r10 : Int32) : Int32 × g_S := (f_P_open_39_17 σ n r4 r10 (f_H_mark (g_I (g_I (g_I σ 0 7 (1 : Int32)) 0 8 r10) 0 9 n) n))
def k_P_open_23_12 (σ : g_S) (n : Int32) (r4 : Int32) (r10 : Int32) : Prop := (k_H_mark (g_I (g_I (g_I σ 0 7 (1 : Int32)) 0 8 r10) 0 9 n) n) ∧ (k_P_open_39_17 σ n r4 r10 (f_H_mark (g_I (g_I (g_I σ 0 7 (1 : Int32)) 0 8 r10) 0 9 n) n))
def f_P_open_16_8 (σ : g_S) (n : Int32) (r4 : Int32) : Int32 × g_S := (f_P_open_23_12 σ n r4 (f_P_priceOf n))
def k_P_open_16_8 (σ : g_S) (n : Int32) (r4 : Int32) : Prop := (k_P_priceOf n) ∧ (k_P_open_23_12 σ n r4 (f_P_priceOf n))
def f_P_open_14_18 (σ : g_S) (n : Int32) (r4 : Int32) : Int32 × g_S := ((0 : Int32), σ)
def k_P_open_14_18 (σ : g_S) (n : Int32) (r4 : Int32) : Prop := True
def f_P_open_8_6 (σ : g_S) (n : Int32) (r4 : Int32) : Int32 × g_S := (if r4 = 0 then f_P_open_14_18 σ n r4 else f_P_open_16_8 σ n r4)
def k_P_open_8_6 (σ : g_S) (n : Int32) (r4 : Int32) : Prop := (if r4 = 0 then k_P_open_14_18 σ n r4 else k_P_open_16_8 σ n r4)
def f_P_open_7_3 (σ : g_S) (n : Int32) : Int32 × g_S := (f_P_open_8_6 σ n (f_P_isStep n))
def k_P_open_7_3 (σ : g_S) (n : Int32) : Prop := (k_P_open_8_6 σ n (f_P_isStep n))
def f_P_open (σ : g_S) (n : Int32) : Int32 × g_S := (if (σ.1 0 7) = 0 then f_P_open_7_3 σ n else f_P_open_14_2 σ n)
def k_P_open (σ : g_S) (n : Int32) : Prop := (if (σ.1 0 7) = 0 then k_P_open_7_3 σ n else k_P_open_14_2 σ n)
set_option maxHeartbeats 4000000 in
set_option maxRecDepth 100000 in
theorem c_P_open (l : Launch) (dC : Nat → ClassId) (dI : Nat → Nat → Nat) (dA : Nat → ClassId) (ad : Nat → Nat) (tb : Nat) (sz : Nat) (σ : g_S) (n : Int32) (hQ : k_P_open σ n) : Met l y_P_open w_P_open ({ frames := 2, cells := 0, slots := 0, locals := 42 }) (va_Pc [.ref (ad 0), .int n] (g_W (dC, dI) cls (x_tys dA) (g_w x_sh dA ad σ) sz (x_Z tb))) (va_Qi (fun r τ => (r, τ) = f_P_open σ n) (fun τ t => va_P (dC, dI) cls (g_w x_sh dA ad τ) t.heap) (va_A (g_w x_sh dA ad σ) sz)) 0 0 (va_A (g_w x_sh dA ad σ) sz) := by
  refine Met.ofW (cc := b_P_open) (maxL := 2) (ret := (some .boolean)) (by decide) rfl ?_
  intro p e s m args below meth c s₁ B hml hv
  obtain ⟨rfl, hsz, hP, hK, hD0, hz⟩ := hv
  have hx := B.exec
  have hb := B.bytes
  have hr := B.returns
  have hts := atoms_spec (ws := w_P_open) B.pre
  have ht := fun (w : Cond) (h : w ∈ gA) => hts w (List.mem_cons_of_mem _ h)
  have hown : s.vm.findClass "RangedPool" = some m.cls := findClass_of_methodNamed B.named
  have hlocks := B.notSynchronized
  subst hsz
  have hD := hD0.self (sz := s.heap.size)
  have hA : ∀ q : Nat, s.heap.size ≤ q → va_A (g_w x_sh dA ad σ) s.heap.size q := fun q h => Or.inr h
  generalize hAe : va_A (g_w x_sh dA ad σ) s.heap.size = A at hD hA hz ⊢
  have hS : va_S A s.heap s.heap [] := va_S.rf
  have hl := lv_entry ([.ref (ad 0), .int n]) (n := 2) (Nat.le_of_ble_eq_true rfl)
  rw [lg_entry_eq]
  generalize (lg_sl ([.ref (ad 0), .int n]) ++ List.replicate (2 - (lg_sl ([.ref (ad 0), .int n])).length) Slot.unset).toArray = ls at hl ⊢
  have hl : lv_has ls 2 [(0, .ref (ad 0)), (1, .int n)] := hl
  have hF : f_P_open σ n = f_P_open σ n := rfl
  refine lv_aload_n hx hb d_P_open_0 rfl (lv_at hl 0 rfl) ?_
  refine g_get hx hb ht in_P hown hK hP (0) x_at0 rfl 7 (by decide) rfl (ht _ kw136) (fun _ h9 => h9) (v := .int (σ.1 0 7)) rfl d_P_open_1 ?_
  refine lv_if_ne (tgt := 14) hx hb d_P_open_4 (by decide) (fun c1 => ?_) (fun c1 => ?_)
  ·
    have c1 : ¬ ((σ.1 0 7) = 0) := c1
    have hF : f_P_open σ n = f_P_open_14_2 σ n := hF.trans (if_neg c1)
    have hQ : k_P_open_14_2 σ n := Eq.mp (if_neg c1) hQ
    refine lv_iconst (v := (0 : Int32)) hx hb d_P_open_14 (by decide) ?_
    exact W.zret (ty := .boolean) (v := (0 : Int32)) hx hb hr (g_zr (by decide)) (fun t hh hW => ⟨⟨(0 : Int32), σ, rfl, hF.symm, by show va_P (dC, dI) cls (g_w x_sh dA ad σ) t.heap; rw [hh]; exact hP⟩, hS.F hh⟩) hS.2.2 d_P_open_15
  ·
    have c1 : (σ.1 0 7) = 0 := c1
    have hF : f_P_open σ n = f_P_open_7_3 σ n := hF.trans (if_pos c1)
    have hQ : k_P_open_7_3 σ n := Eq.mp (if_pos c1) hQ
    refine lv_iload_n hx hb d_P_open_7 rfl (lv_at hl 1 rfl) ?_
    refine g_cSi (va_runS (As := [.int n]) (rest := []) ⟨hx, hb, hml, hown, ht⟩ (c_P_isStep l n) (va_cwS 1 ht gc_P_56 rfl rfl rfl (by decide +kernel) ⟨Nat.le_of_ble_eq_true rfl, Nat.le_of_ble_eq_true rfl⟩) (g_pr0 _) rfl rfl hl.1 rfl (lv_room (Nat.le_of_ble_eq_true rfl)) d_P_open_8 ⟨Nat.le_of_ble_eq_true rfl, Nat.le_of_ble_eq_true rfl⟩) (fun r4 e5 => ?_)
    have hF : f_P_open σ n = f_P_open_8_6 σ n r4 := hF.trans (by rw [e5]; try rfl)
    have hQ : k_P_open_8_6 σ n r4 := by rw [e5]; exact hQ
    refine lv_if_ne (tgt := 16) hx hb d_P_open_11 (by decide) (fun c7 => ?_) (fun c7 => ?_)
    ·
      have c7 : ¬ (r4 = 0) := c7
      have hF : f_P_open σ n = f_P_open_16_8 σ n r4 := hF.trans (if_neg c7)
      have hQ : k_P_open_16_8 σ n r4 := Eq.mp (if_neg c7) hQ
      refine lv_aload_n hx hb d_P_open_16 rfl (lv_at hl 0 rfl) ?_
      refine lv_iconst (v := (1 : Int32)) hx hb d_P_open_17 (by decide) ?_
      refine g_putI (v := (1 : Int32)) (ty := .boolean) hx hb ht in_P yt_P yt_P_ok n_P hown hK hP hD hS (0) x_at0 rfl 7 (by decide) rfl (ht _ kw136) (fun _ h9 => h9) rfl (by decide +kernel) (g_nar (by decide)) (g_fitz (by decide)) d_P_open_18 (fun H locs hP hD hS => ?_)
      refine lv_aload_n hx hb d_P_open_21 rfl (lv_at hl 0 rfl) ?_
      refine lv_iload_n hx hb d_P_open_22 rfl (lv_at hl 1 rfl) ?_
      obtain ⟨hs9, hQ⟩ := hQ
      refine g_cSi (va_runS (As := [.int n]) (rest := [.ref (ad 0)]) ⟨hx, hb, hml, hown, ht⟩ (c_P_priceOf l tb n hs9) (va_cwS 1 ht gc_P_59 rfl rfl rfl (by decide +kernel) ⟨Nat.le_of_ble_eq_true rfl, Nat.le_of_ble_eq_true rfl⟩) (g_prZ x_Zok hS hz _) rfl rfl hl.1 rfl (lv_room (Nat.le_of_ble_eq_true rfl)) d_P_open_23 ⟨Nat.le_of_ble_eq_true rfl, Nat.le_of_ble_eq_true rfl⟩) (fun r10 e11 => ?_)
      have hF : f_P_open σ n = f_P_open_23_12 σ n r4 r10 := hF.trans (by rw [e11]; try rfl)
      have hQ : k_P_open_23_12 σ n r4 r10 := by rw [e11]; exact hQ
      refine g_putI (v := r10) (ty := .int) hx hb ht in_P yt_P yt_P_ok n_P hown hK hP hD hS (0) x_at0 rfl 8 (by decide) rfl (ht _ kw137) (fun _ h9 => h9) rfl (by decide +kernel) (rfl) (rfl) d_P_open_26 (fun H locs hP hD hS => ?_)
      refine lv_aload_n hx hb d_P_open_29 rfl (lv_at hl 0 rfl) ?_
      refine lv_iload_n hx hb d_P_open_30 rfl (lv_at hl 1 rfl) ?_
      refine g_putI (v := n) (ty := .int) hx hb ht in_P yt_P yt_P_ok n_P hown hK hP hD hS (0) x_at0 rfl 9 (by decide) rfl (ht _ kw138) (fun _ h9 => h9) rfl (by decide +kernel) (rfl) (rfl) d_P_open_31 (fun H locs hP hD hS => ?_)
      refine lv_aload_n hx hb d_P_open_34 rfl (lv_at hl 0 rfl) ?_
      refine g_get hx hb ht in_P hown hK hP (0) x_at0 rfl 5 (by decide) rfl (ht _ kw134) (fun _ h9 => h9) (v := .ref (ad 5)) rfl d_P_open_35 ?_
      refine lv_iload_n hx hb d_P_open_38 rfl (lv_at hl 1 rfl) ?_
      obtain ⟨hs13, hQ⟩ := hQ
      refine g_cWv (va_runVN (host := "RangedPool") (As := [.int n]) (rest := []) ⟨hx, hb, hml, hown, ht⟩ (c_H_mark l dC dI dA ad tb H.size (g_I (g_I (g_I σ 0 7 (1 : Int32)) 0 8 r10) 0 9 n) n hs13) ⟨va_cnB 1 ht gn_H_mark rfl rfl rfl (hz.1 _ nk172) (ht _ kw4) (by decide +kernel) ⟨Nat.le_of_ble_eq_true rfl, Nat.le_of_ble_eq_true rfl⟩, ht _ kw174, ht _ ks0⟩ (g_pV (g_prW x_Zok hK hP hD hS hA hz _) (g_rc hK hP (5) x_at5 rfl)) rfl rfl hl.1 rfl (lv_room (Nat.le_of_ble_eq_true rfl)) d_P_open_39 ⟨Nat.le_of_ble_eq_true rfl, Nat.le_of_ble_eq_true rfl⟩) hD hS hA (fun τ16 H locs e15 hP hD hS => ?_)
      have hF : f_P_open σ n = f_P_open_39_17 σ n r4 r10 τ16 := hF.trans (by rw [e15]; try rfl)
      have hQ : k_P_open_39_17 σ n r4 r10 τ16 := by rw [e15]; exact hQ
      refine lv_iconst (v := (1 : Int32)) hx hb d_P_open_42 (by decide) ?_
      exact W.zret (ty := .boolean) (v := (1 : Int32)) hx hb hr (g_zr (by decide)) (fun t hh hW => ⟨⟨(1 : Int32), τ16, rfl, hF.symm, by show va_P (dC, dI) cls (g_w x_sh dA ad τ16) t.heap; rw [hh]; exact hP⟩, hS.F hh⟩) hS.2.2 d_P_open_43
    ·
      have c7 : r4 = 0 := c7
      have hF : f_P_open σ n = f_P_open_14_18 σ n r4 := hF.trans (if_pos c7)
      have hQ : k_P_open_14_18 σ n r4 := Eq.mp (if_pos c7) hQ
      refine lv_iconst (v := (0 : Int32)) hx hb d_P_open_14 (by decide) ?_
      exact W.zret (ty := .boolean) (v := (0 : Int32)) hx hb hr (g_zr (by decide)) (fun t hh hW => ⟨⟨(0 : Int32), σ, rfl, hF.symm, by show va_P (dC, dI) cls (g_w x_sh dA ad σ) t.heap; rw [hh]; exact hP⟩, hS.F hh⟩) hS.2.2 d_P_open_15
def f_P_fund_24_5 (σ : g_S) (o : Int32) (n : Int32) (am : Int32) (r1 : Int32) : Int32 × g_S := ((0 : Int32), σ)
def k_P_fund_24_5 (σ : g_S) (o : Int32) (n : Int32) (am : Int32) (r1 : Int32) : Prop := True
def f_P_fund_24_11 (σ : g_S) (o : Int32) (n : Int32) (am : Int32) (r1 : Int32) (r7 : Int32) : Int32 × g_S := ((0 : Int32), σ)
def k_P_fund_24_11 (σ : g_S) (o : Int32) (n : Int32) (am : Int32) (r1 : Int32) (r7 : Int32) : Prop := True
def f_P_fund_24_14 (σ : g_S) (o : Int32) (n : Int32) (am : Int32) (r1 : Int32) (r7 : Int32) : Int32 × g_S := ((0 : Int32), σ)
def k_P_fund_24_14 (σ : g_S) (o : Int32) (n : Int32) (am : Int32) (r1 : Int32) (r7 : Int32) : Prop := True
def f_P_fund_26_17 (σ : g_S) (o : Int32) (n : Int32) (am : Int32) (r1 : Int32) (r7 : Int32) : Int32 × g_S := ((1 : Int32), g_L σ (o.toNatClampNeg + 10) n.toNatClampNeg ((σ.2 (o.toNatClampNeg + 10) n.toNatClampNeg) + am.toInt64))
def k_P_fund_26_17 (σ : g_S) (o : Int32) (n : Int32) (am : Int32) (r1 : Int32) (r7 : Int32) : Prop := (vp_in o 4) ∧ (vp_in n 2) ∧ (vp_in n 2) ∧ True
def f_P_fund_24_21 (σ : g_S) (o : Int32) (n : Int32) (am : Int32) (r1 : Int32) (r7 : Int32) : Int32 × g_S := ((0 : Int32), σ)
def k_P_fund_24_21 (σ : g_S) (o : Int32) (n : Int32) (am : Int32) (r1 : Int32) (r7 : Int32) : Prop := True
def f_P_fund_18_15 (σ : g_S) (o : Int32) (n : Int32) (am : Int32) (r1 : Int32) (r7 : Int32) : Int32 × g_S := (if am ≤ (1000000000 : Int32) then f_P_fund_26_17 σ o n am r1 r7 else f_P_fund_24_21 σ o n am r1 r7)
def k_P_fund_18_15 (σ : g_S) (o : Int32) (n : Int32) (am : Int32) (r1 : Int32) (r7 : Int32) : Prop := (if am ≤ (1000000000 : Int32) then k_P_fund_26_17 σ o n am r1 r7 else k_P_fund_24_21 σ o n am r1 r7)
def f_P_fund_14_12 (σ : g_S) (o : Int32) (n : Int32) (am : Int32) (r1 : Int32) (r7 : Int32) : Int32 × g_S := (if am < 0 then f_P_fund_24_14 σ o n am r1 r7 else f_P_fund_18_15 σ o n am r1 r7)
def k_P_fund_14_12 (σ : g_S) (o : Int32) (n : Int32) (am : Int32) (r1 : Int32) (r7 : Int32) : Prop := (if am < 0 then k_P_fund_24_14 σ o n am r1 r7 else k_P_fund_18_15 σ o n am r1 r7)
def f_P_fund_8_9 (σ : g_S) (o : Int32) (n : Int32) (am : Int32) (r1 : Int32) (r7 : Int32) : Int32 × g_S := (if r7 = 0 then f_P_fund_24_11 σ o n am r1 r7 else f_P_fund_14_12 σ o n am r1 r7)
def k_P_fund_8_9 (σ : g_S) (o : Int32) (n : Int32) (am : Int32) (r1 : Int32) (r7 : Int32) : Prop := (if r7 = 0 then k_P_fund_24_11 σ o n am r1 r7 else k_P_fund_14_12 σ o n am r1 r7)
def f_P_fund_7_6 (σ : g_S) (o : Int32) (n : Int32) (am : Int32) (r1 : Int32) : Int32 × g_S := (f_P_fund_8_9 σ o n am r1 (f_P_isToken n))
def k_P_fund_7_6 (σ : g_S) (o : Int32) (n : Int32) (am : Int32) (r1 : Int32) : Prop := (k_P_fund_8_9 σ o n am r1 (f_P_isToken n))
def f_P_fund_1_3 (σ : g_S) (o : Int32) (n : Int32) (am : Int32) (r1 : Int32) : Int32 × g_S := (if r1 = 0 then f_P_fund_24_5 σ o n am r1 else f_P_fund_7_6 σ o n am r1)
def k_P_fund_1_3 (σ : g_S) (o : Int32) (n : Int32) (am : Int32) (r1 : Int32) : Prop := (if r1 = 0 then k_P_fund_24_5 σ o n am r1 else k_P_fund_7_6 σ o n am r1)
def f_P_fund (σ : g_S) (o : Int32) (n : Int32) (am : Int32) : Int32 × g_S := (f_P_fund_1_3 σ o n am (f_P_isOwner o))
def k_P_fund (σ : g_S) (o : Int32) (n : Int32) (am : Int32) : Prop := (k_P_fund_1_3 σ o n am (f_P_isOwner o))
set_option maxHeartbeats 4000000 in
set_option maxRecDepth 100000 in
theorem c_P_fund (l : Launch) (dC : Nat → ClassId) (dI : Nat → Nat → Nat) (dA : Nat → ClassId) (ad : Nat → Nat) (tb : Nat) (sz : Nat) (σ : g_S) (o : Int32) (n : Int32) (am : Int32) (hQ : k_P_fund σ o n am) : Met l y_P_fund w_P_fund ({ frames := 1, cells := 0, slots := 0, locals := 20 }) (va_Pc [.ref (ad 0), .int o, .int n, .int am] (g_W (dC, dI) cls (x_tys dA) (g_w x_sh dA ad σ) sz (x_Z tb))) (va_Qi (fun r τ => (r, τ) = f_P_fund σ o n am) (fun τ t => va_P (dC, dI) cls (g_w x_sh dA ad τ) t.heap) (va_A (g_w x_sh dA ad σ) sz)) 0 0 (va_A (g_w x_sh dA ad σ) sz) := by
  refine Met.ofW (cc := b_P_fund) (maxL := 4) (ret := (some .boolean)) (by decide) rfl ?_
  intro p e s m args below meth c s₁ B hml hv
  obtain ⟨rfl, hsz, hP, hK, hD0, hz⟩ := hv
  have hx := B.exec
  have hb := B.bytes
  have hr := B.returns
  have hts := atoms_spec (ws := w_P_fund) B.pre
  have ht := fun (w : Cond) (h : w ∈ gA) => hts w (List.mem_cons_of_mem _ h)
  have hown : s.vm.findClass "RangedPool" = some m.cls := findClass_of_methodNamed B.named
  have hlocks := B.notSynchronized
  subst hsz
  have hD := hD0.self (sz := s.heap.size)
  have hA : ∀ q : Nat, s.heap.size ≤ q → va_A (g_w x_sh dA ad σ) s.heap.size q := fun q h => Or.inr h
  generalize hAe : va_A (g_w x_sh dA ad σ) s.heap.size = A at hD hA hz ⊢
  have hS : va_S A s.heap s.heap [] := va_S.rf
  have hl := lv_entry ([.ref (ad 0), .int o, .int n, .int am]) (n := 4) (Nat.le_of_ble_eq_true rfl)
  rw [lg_entry_eq]
  generalize (lg_sl ([.ref (ad 0), .int o, .int n, .int am]) ++ List.replicate (4 - (lg_sl ([.ref (ad 0), .int o, .int n, .int am])).length) Slot.unset).toArray = ls at hl ⊢
  have hl : lv_has ls 4 [(0, .ref (ad 0)), (1, .int o), (2, .int n), (3, .int am)] := hl
  have hF : f_P_fund σ o n am = f_P_fund σ o n am := rfl
  refine lv_iload_n hx hb d_P_fund_0 rfl (lv_at hl 1 rfl) ?_
  refine g_cSi (va_runS (As := [.int o]) (rest := []) ⟨hx, hb, hml, hown, ht⟩ (c_P_isOwner l o) (va_cwS 1 ht gc_P_72 rfl rfl rfl (by decide +kernel) ⟨Nat.le_of_ble_eq_true rfl, Nat.le_of_ble_eq_true rfl⟩) (g_pr0 _) rfl rfl hl.1 rfl (lv_room (Nat.le_of_ble_eq_true rfl)) d_P_fund_1 ⟨Nat.le_of_ble_eq_true rfl, Nat.le_of_ble_eq_true rfl⟩) (fun r1 e2 => ?_)
  have hF : f_P_fund σ o n am = f_P_fund_1_3 σ o n am r1 := hF.trans (by rw [e2]; try rfl)
  have hQ : k_P_fund_1_3 σ o n am r1 := by rw [e2]; exact hQ
  refine lv_if_eq (tgt := 24) hx hb d_P_fund_4 (by decide) (fun c4 => ?_) (fun c4 => ?_)
  ·
    have c4 : r1 = 0 := c4
    have hF : f_P_fund σ o n am = f_P_fund_24_5 σ o n am r1 := hF.trans (if_pos c4)
    have hQ : k_P_fund_24_5 σ o n am r1 := Eq.mp (if_pos c4) hQ
    refine lv_iconst (v := (0 : Int32)) hx hb d_P_fund_24 (by decide) ?_
    exact W.zret (ty := .boolean) (v := (0 : Int32)) hx hb hr (g_zr (by decide)) (fun t hh hW => ⟨⟨(0 : Int32), σ, rfl, hF.symm, by show va_P (dC, dI) cls (g_w x_sh dA ad σ) t.heap; rw [hh]; exact hP⟩, hS.F hh⟩) hS.2.2 d_P_fund_25
  ·
    have c4 : ¬ (r1 = 0) := c4
    have hF : f_P_fund σ o n am = f_P_fund_7_6 σ o n am r1 := hF.trans (if_neg c4)
    have hQ : k_P_fund_7_6 σ o n am r1 := Eq.mp (if_neg c4) hQ
    refine lv_iload_n hx hb d_P_fund_7 rfl (lv_at hl 2 rfl) ?_
    refine g_cSi (va_runS (As := [.int n]) (rest := []) ⟨hx, hb, hml, hown, ht⟩ (c_P_isToken l n) (va_cwS 1 ht gc_P_75 rfl rfl rfl (by decide +kernel) ⟨Nat.le_of_ble_eq_true rfl, Nat.le_of_ble_eq_true rfl⟩) (g_pr0 _) rfl rfl hl.1 rfl (lv_room (Nat.le_of_ble_eq_true rfl)) d_P_fund_8 ⟨Nat.le_of_ble_eq_true rfl, Nat.le_of_ble_eq_true rfl⟩) (fun r7 e8 => ?_)
    have hF : f_P_fund σ o n am = f_P_fund_8_9 σ o n am r1 r7 := hF.trans (by rw [e8]; try rfl)
    have hQ : k_P_fund_8_9 σ o n am r1 r7 := by rw [e8]; exact hQ
    refine lv_if_eq (tgt := 24) hx hb d_P_fund_11 (by decide) (fun c10 => ?_) (fun c10 => ?_)
    ·
      have c10 : r7 = 0 := c10
      have hF : f_P_fund σ o n am = f_P_fund_24_11 σ o n am r1 r7 := hF.trans (if_pos c10)
      have hQ : k_P_fund_24_11 σ o n am r1 r7 := Eq.mp (if_pos c10) hQ
      refine lv_iconst (v := (0 : Int32)) hx hb d_P_fund_24 (by decide) ?_
      exact W.zret (ty := .boolean) (v := (0 : Int32)) hx hb hr (g_zr (by decide)) (fun t hh hW => ⟨⟨(0 : Int32), σ, rfl, hF.symm, by show va_P (dC, dI) cls (g_w x_sh dA ad σ) t.heap; rw [hh]; exact hP⟩, hS.F hh⟩) hS.2.2 d_P_fund_25
    ·
      have c10 : ¬ (r7 = 0) := c10
      have hF : f_P_fund σ o n am = f_P_fund_14_12 σ o n am r1 r7 := hF.trans (if_neg c10)
      have hQ : k_P_fund_14_12 σ o n am r1 r7 := Eq.mp (if_neg c10) hQ
      refine lv_iload_n hx hb d_P_fund_14 rfl (lv_at hl 3 rfl) ?_
      refine lv_if_lt (tgt := 24) hx hb d_P_fund_15 (by decide) (fun c13 => ?_) (fun c13 => ?_)
      ·
        have c13 : am < 0 := c13
        have hF : f_P_fund σ o n am = f_P_fund_24_14 σ o n am r1 r7 := hF.trans (if_pos c13)
        have hQ : k_P_fund_24_14 σ o n am r1 r7 := Eq.mp (if_pos c13) hQ
        refine lv_iconst (v := (0 : Int32)) hx hb d_P_fund_24 (by decide) ?_
        exact W.zret (ty := .boolean) (v := (0 : Int32)) hx hb hr (g_zr (by decide)) (fun t hh hW => ⟨⟨(0 : Int32), σ, rfl, hF.symm, by show va_P (dC, dI) cls (g_w x_sh dA ad σ) t.heap; rw [hh]; exact hP⟩, hS.F hh⟩) hS.2.2 d_P_fund_25
      ·
        have c13 : ¬ (am < 0) := c13
        have hF : f_P_fund σ o n am = f_P_fund_18_15 σ o n am r1 r7 := hF.trans (if_neg c13)
        have hQ : k_P_fund_18_15 σ o n am r1 r7 := Eq.mp (if_neg c13) hQ
        refine lv_iload_n hx hb d_P_fund_18 rfl (lv_at hl 3 rfl) ?_
        refine lv_ldc (v := (1000000000 : Int32)) hx hb hown (ht _ kw190) d_P_fund_19 ?_
        refine lv_icmp_le (tgt := 26) hx hb d_P_fund_21 (by decide) (fun c16 => ?_) (fun c16 => ?_)
        ·
          have c16 : am ≤ (1000000000 : Int32) := c16
          have hF : f_P_fund σ o n am = f_P_fund_26_17 σ o n am r1 r7 := hF.trans (if_pos c16)
          have hQ : k_P_fund_26_17 σ o n am r1 r7 := Eq.mp (if_pos c16) hQ
          refine lv_aload_n hx hb d_P_fund_26 rfl (lv_at hl 0 rfl) ?_
          refine g_get hx hb ht in_P hown hK hP (0) x_at0 rfl 2 (by decide) rfl (ht _ kw131) (fun _ h9 => h9) (v := .ref (ad 1)) rfl d_P_fund_27 ?_
          refine lv_iload_n hx hb d_P_fund_30 rfl (lv_at hl 1 rfl) ?_
          obtain ⟨hs18, hQ⟩ := hQ
          refine g_aald hx hb hK hP 1 x_at1 rfl rfl (hs18) (z := o.toNatClampNeg + 10) (x_el1 (rfl) (g_nlt hs18)) d_P_fund_31 ?_
          refine lv_iload_n hx hb d_P_fund_32 rfl (lv_at hl 2 rfl) ?_
          refine lv_dup2_11 hx hb d_P_fund_33 rfl rfl ?_
          obtain ⟨hs19, hQ⟩ := hQ
          refine g_lald hx hb hK hP (o.toNatClampNeg + 10) (x_at10 (g_nlt hs18)) rfl (hs19) (j := n.toNatClampNeg) (rfl) d_P_fund_34 ?_
          refine lv_iload_n hx hb d_P_fund_35 rfl (lv_at hl 3 rfl) ?_
          refine lv_i2l (v := am.toInt64) hx hb d_P_fund_36 rfl ?_
          refine lv_ladd hx hb d_P_fund_37 ?_
          obtain ⟨hs20, hQ⟩ := hQ
          refine g_last (x := (σ.2 (o.toNatClampNeg + 10) n.toNatClampNeg) + am.toInt64) hx hb hK hP hD hS (o.toNatClampNeg + 10) (x_at10 (g_nlt hs18)) rfl (hs20) (j := n.toNatClampNeg) (rfl) d_P_fund_38 (fun H locs hP hD hS => ?_)
          refine lv_iconst (v := (1 : Int32)) hx hb d_P_fund_39 (by decide) ?_
          exact W.zret (ty := .boolean) (v := (1 : Int32)) hx hb hr (g_zr (by decide)) (fun t hh hW => ⟨⟨(1 : Int32), g_L σ (o.toNatClampNeg + 10) n.toNatClampNeg ((σ.2 (o.toNatClampNeg + 10) n.toNatClampNeg) + am.toInt64), rfl, hF.symm, by show va_P (dC, dI) cls (g_w x_sh dA ad (g_L σ (o.toNatClampNeg + 10) n.toNatClampNeg ((σ.2 (o.toNatClampNeg + 10) n.toNatClampNeg) + am.toInt64))) t.heap; rw [hh]; exact hP⟩, hS.F hh⟩) hS.2.2 d_P_fund_40
        ·
          have c16 : ¬ (am ≤ (1000000000 : Int32)) := c16
          have hF : f_P_fund σ o n am = f_P_fund_24_21 σ o n am r1 r7 := hF.trans (if_neg c16)
          have hQ : k_P_fund_24_21 σ o n am r1 r7 := Eq.mp (if_neg c16) hQ
          refine lv_iconst (v := (0 : Int32)) hx hb d_P_fund_24 (by decide) ?_
          exact W.zret (ty := .boolean) (v := (0 : Int32)) hx hb hr (g_zr (by decide)) (fun t hh hW => ⟨⟨(0 : Int32), σ, rfl, hF.symm, by show va_P (dC, dI) cls (g_w x_sh dA ad σ) t.heap; rw [hh]; exact hP⟩, hS.F hh⟩) hS.2.2 d_P_fund_25
def f_P_mint_40_7 (σ : g_S) (o : Int32) (lo : Int32) (hi : Int32) (q : Int32) (r3 : Int32) : Int64 × g_S := ((-2 : Int64), σ)
def k_P_mint_40_7 (σ : g_S) (o : Int32) (lo : Int32) (hi : Int32) (q : Int32) (r3 : Int32) : Prop := True
def f_P_mint_40_14 (σ : g_S) (o : Int32) (lo : Int32) (hi : Int32) (q : Int32) (r3 : Int32) (r10 : Int32) : Int64 × g_S := ((-2 : Int64), σ)
def k_P_mint_40_14 (σ : g_S) (o : Int32) (lo : Int32) (hi : Int32) (q : Int32) (r3 : Int32) (r10 : Int32) : Prop := True
def f_P_mint_40_17 (σ : g_S) (o : Int32) (lo : Int32) (hi : Int32) (q : Int32) (r3 : Int32) (r10 : Int32) : Int64 × g_S := ((-2 : Int64), σ)
def k_P_mint_40_17 (σ : g_S) (o : Int32) (lo : Int32) (hi : Int32) (q : Int32) (r3 : Int32) (r10 : Int32) : Prop := True
def f_P_mint_161_66 (σ : g_S) (o : Int32) (lo : Int32) (hi : Int32) (q : Int32) (r3 : Int32) (r10 : Int32) (k23 : Nat) (r27 : Int64) (r33 : Int64) (r37 : Int64) (r41 : Int32) (τ49 : g_S) (τ54 : g_S) (r56 : Int32) (τ59 : g_S) (τ65 : g_S) : Int64 × g_S := (f_P_pair r33 r37, g_L τ65 (k23 + 14) 3 ((τ65.2 (k23 + 14) 3) + q.toInt64))
def k_P_mint_161_66 (σ : g_S) (o : Int32) (lo : Int32) (hi : Int32) (q : Int32) (r3 : Int32) (r10 : Int32) (k23 : Nat) (r27 : Int64) (r33 : Int64) (r37 : Int64) (r41 : Int32) (τ49 : g_S) (τ54 : g_S) (r56 : Int32) (τ59 : g_S) (τ65 : g_S) : Prop := True
def f_P_mint_159_62 (σ : g_S) (o : Int32) (lo : Int32) (hi : Int32) (q : Int32) (r3 : Int32) (r10 : Int32) (k23 : Nat) (r27 : Int64) (r33 : Int64) (r37 : Int64) (r41 : Int32) (τ49 : g_S) (τ54 : g_S) (r56 : Int32) (τ59 : g_S) : Int64 × g_S := (f_P_mint_161_66 σ o lo hi q r3 r10 k23 r27 r33 r37 r41 τ49 τ54 r56 τ59 (f_T_settle τ59 k23))
def k_P_mint_159_62 (σ : g_S) (o : Int32) (lo : Int32) (hi : Int32) (q : Int32) (r3 : Int32) (r10 : Int32) (k23 : Nat) (r27 : Int64) (r33 : Int64) (r37 : Int64) (r41 : Int32) (τ49 : g_S) (τ54 : g_S) (r56 : Int32) (τ59 : g_S) : Prop := (k_P_mint_161_66 σ o lo hi q r3 r10 k23 r27 r33 r37 r41 τ49 τ54 r56 τ59 (f_T_settle τ59 k23))
def f_P_mint_145_58 (σ : g_S) (o : Int32) (lo : Int32) (hi : Int32) (q : Int32) (r3 : Int32) (r10 : Int32) (k23 : Nat) (r27 : Int64) (r33 : Int64) (r37 : Int64) (r41 : Int32) (τ49 : g_S) (τ54 : g_S) (r56 : Int32) : Int64 × g_S := (f_P_mint_159_62 σ o lo hi q r3 r10 k23 r27 r33 r37 r41 τ49 τ54 r56 (if r56 = 0 then f_T_begin τ54 k23 o lo hi else τ54))
def k_P_mint_145_58 (σ : g_S) (o : Int32) (lo : Int32) (hi : Int32) (q : Int32) (r3 : Int32) (r10 : Int32) (k23 : Nat) (r27 : Int64) (r33 : Int64) (r37 : Int64) (r41 : Int32) (τ49 : g_S) (τ54 : g_S) (r56 : Int32) : Prop := (k_P_mint_159_62 σ o lo hi q r3 r10 k23 r27 r33 r37 r41 τ49 τ54 r56 (if r56 = 0 then f_T_begin τ54 k23 o lo hi else τ54))
def f_P_mint_140_55 (σ : g_S) (o : Int32) (lo : Int32) (hi : Int32) (q : Int32) (r3 : Int32) (r10 : Int32) (k23 : Nat) (r27 : Int64) (r33 : Int64) (r37 : Int64) (r41 : Int32) (τ49 : g_S) (τ54 : g_S) : Int64 × g_S := (f_P_mint_145_58 σ o lo hi q r3 r10 k23 r27 r33 r37 r41 τ49 τ54 (f_T_isThere τ54 k23))
def k_P_mint_140_55 (σ : g_S) (o : Int32) (lo : Int32) (hi : Int32) (q : Int32) (r3 : Int32) (r10 : Int32) (k23 : Nat) (r27 : Int64) (r33 : Int64) (r37 : Int64) (r41 : Int32) (τ49 : g_S) (τ54 : g_S) : Prop := (k_P_mint_145_58 σ o lo hi q r3 r10 k23 r27 r33 r37 r41 τ49 τ54 (f_T_isThere τ54 k23))
def f_P_mint_131_50 (σ : g_S) (o : Int32) (lo : Int32) (hi : Int32) (q : Int32) (r3 : Int32) (r10 : Int32) (k23 : Nat) (r27 : Int64) (r33 : Int64) (r37 : Int64) (r41 : Int32) (τ49 : g_S) : Int64 × g_S := (f_P_mint_140_55 σ o lo hi q r3 r10 k23 r27 r33 r37 r41 τ49 (f_P_pay τ49 o r33 r37))
def k_P_mint_131_50 (σ : g_S) (o : Int32) (lo : Int32) (hi : Int32) (q : Int32) (r3 : Int32) (r10 : Int32) (k23 : Nat) (r27 : Int64) (r33 : Int64) (r37 : Int64) (r41 : Int32) (τ49 : g_S) : Prop := (k_P_pay τ49 o r33 r37) ∧ (k_P_mint_140_55 σ o lo hi q r3 r10 k23 r27 r33 r37 r41 τ49 (f_P_pay τ49 o r33 r37))
def f_P_mint_123_45 (σ : g_S) (o : Int32) (lo : Int32) (hi : Int32) (q : Int32) (r3 : Int32) (r10 : Int32) (k23 : Nat) (r27 : Int64) (r33 : Int64) (r37 : Int64) (r41 : Int32) : Int64 × g_S := (f_P_mint_131_50 σ o lo hi q r3 r10 k23 r27 r33 r37 r41 (f_H_mark σ (σ.1 0 9)))
def k_P_mint_123_45 (σ : g_S) (o : Int32) (lo : Int32) (hi : Int32) (q : Int32) (r3 : Int32) (r10 : Int32) (k23 : Nat) (r27 : Int64) (r33 : Int64) (r37 : Int64) (r41 : Int32) : Prop := (k_H_mark σ (σ.1 0 9)) ∧ (k_P_mint_131_50 σ o lo hi q r3 r10 k23 r27 r33 r37 r41 (f_H_mark σ (σ.1 0 9)))
def f_P_mint_119_73 (σ : g_S) (o : Int32) (lo : Int32) (hi : Int32) (q : Int32) (r3 : Int32) (r10 : Int32) (k23 : Nat) (r27 : Int64) (r33 : Int64) (r37 : Int64) (r41 : Int32) : Int64 × g_S := ((-5 : Int64), σ)
def k_P_mint_119_73 (σ : g_S) (o : Int32) (lo : Int32) (hi : Int32) (q : Int32) (r3 : Int32) (r10 : Int32) (k23 : Nat) (r27 : Int64) (r33 : Int64) (r37 : Int64) (r41 : Int32) : Prop := True
def f_P_mint_113_43 (σ : g_S) (o : Int32) (lo : Int32) (hi : Int32) (q : Int32) (r3 : Int32) (r10 : Int32) (k23 : Nat) (r27 : Int64) (r33 : Int64) (r37 : Int64) (r41 : Int32) : Int64 × g_S := (if r41 = 0 then f_P_mint_119_73 σ o lo hi q r3 r10 k23 r27 r33 r37 r41 else f_P_mint_123_45 σ o lo hi q r3 r10 k23 r27 r33 r37 r41)
def k_P_mint_113_43 (σ : g_S) (o : Int32) (lo : Int32) (hi : Int32) (q : Int32) (r3 : Int32) (r10 : Int32) (k23 : Nat) (r27 : Int64) (r33 : Int64) (r37 : Int64) (r41 : Int32) : Prop := (if r41 = 0 then k_P_mint_119_73 σ o lo hi q r3 r10 k23 r27 r33 r37 r41 else k_P_mint_123_45 σ o lo hi q r3 r10 k23 r27 r33 r37 r41)
def f_P_mint_102_39 (σ : g_S) (o : Int32) (lo : Int32) (hi : Int32) (q : Int32) (r3 : Int32) (r10 : Int32) (k23 : Nat) (r27 : Int64) (r33 : Int64) (r37 : Int64) : Int64 × g_S := (f_P_mint_113_43 σ o lo hi q r3 r10 k23 r27 r33 r37 (f_P_canPay σ o r33 r37))
def k_P_mint_102_39 (σ : g_S) (o : Int32) (lo : Int32) (hi : Int32) (q : Int32) (r3 : Int32) (r10 : Int32) (k23 : Nat) (r27 : Int64) (r33 : Int64) (r37 : Int64) : Prop := (k_P_canPay σ o r33 r37) ∧ (k_P_mint_113_43 σ o lo hi q r3 r10 k23 r27 r33 r37 (f_P_canPay σ o r33 r37))
def f_P_mint_90_35 (σ : g_S) (o : Int32) (lo : Int32) (hi : Int32) (q : Int32) (r3 : Int32) (r10 : Int32) (k23 : Nat) (r27 : Int64) (r33 : Int64) : Int64 × g_S := (f_P_mint_102_39 σ o lo hi q r3 r10 k23 r27 r33 (f_P_oneOfRange σ lo hi q.toInt64 (1 : Int32)))
def k_P_mint_90_35 (σ : g_S) (o : Int32) (lo : Int32) (hi : Int32) (q : Int32) (r3 : Int32) (r10 : Int32) (k23 : Nat) (r27 : Int64) (r33 : Int64) : Prop := (k_P_oneOfRange σ lo hi q.toInt64 (1 : Int32)) ∧ (k_P_mint_102_39 σ o lo hi q r3 r10 k23 r27 r33 (f_P_oneOfRange σ lo hi q.toInt64 (1 : Int32)))
def f_P_mint_83_31 (σ : g_S) (o : Int32) (lo : Int32) (hi : Int32) (q : Int32) (r3 : Int32) (r10 : Int32) (k23 : Nat) (r27 : Int64) : Int64 × g_S := (f_P_mint_90_35 σ o lo hi q r3 r10 k23 r27 (f_P_zeroOfRange σ lo hi q.toInt64 (1 : Int32)))
def k_P_mint_83_31 (σ : g_S) (o : Int32) (lo : Int32) (hi : Int32) (q : Int32) (r3 : Int32) (r10 : Int32) (k23 : Nat) (r27 : Int64) : Prop := (k_P_zeroOfRange σ lo hi q.toInt64 (1 : Int32)) ∧ (k_P_mint_90_35 σ o lo hi q r3 r10 k23 r27 (f_P_zeroOfRange σ lo hi q.toInt64 (1 : Int32)))
def f_P_mint_79_74 (σ : g_S) (o : Int32) (lo : Int32) (hi : Int32) (q : Int32) (r3 : Int32) (r10 : Int32) (k23 : Nat) (r27 : Int64) : Int64 × g_S := ((-4 : Int64), σ)
def k_P_mint_79_74 (σ : g_S) (o : Int32) (lo : Int32) (hi : Int32) (q : Int32) (r3 : Int32) (r10 : Int32) (k23 : Nat) (r27 : Int64) : Prop := True
def f_P_mint_65_29 (σ : g_S) (o : Int32) (lo : Int32) (hi : Int32) (q : Int32) (r3 : Int32) (r10 : Int32) (k23 : Nat) (r27 : Int64) : Int64 × g_S := (if (r27 + q.toInt64) ≤ (1000000 : Int64) then f_P_mint_83_31 σ o lo hi q r3 r10 k23 r27 else f_P_mint_79_74 σ o lo hi q r3 r10 k23 r27)
def k_P_mint_65_29 (σ : g_S) (o : Int32) (lo : Int32) (hi : Int32) (q : Int32) (r3 : Int32) (r10 : Int32) (k23 : Nat) (r27 : Int64) : Prop := (if (r27 + q.toInt64) ≤ (1000000 : Int64) then k_P_mint_83_31 σ o lo hi q r3 r10 k23 r27 else k_P_mint_79_74 σ o lo hi q r3 r10 k23 r27)
def f_P_mint_51_25 (σ : g_S) (o : Int32) (lo : Int32) (hi : Int32) (q : Int32) (r3 : Int32) (r10 : Int32) : Int64 × g_S := ((-4 : Int64), σ)
def k_P_mint_51_25 (σ : g_S) (o : Int32) (lo : Int32) (hi : Int32) (q : Int32) (r3 : Int32) (r10 : Int32) : Prop := True
def f_P_mint_51_26 (σ : g_S) (o : Int32) (lo : Int32) (hi : Int32) (q : Int32) (r3 : Int32) (r10 : Int32) (k23 : Nat) : Int64 × g_S := (f_P_mint_65_29 σ o lo hi q r3 r10 k23 (f_B_totalLiquidity σ))
def k_P_mint_51_26 (σ : g_S) (o : Int32) (lo : Int32) (hi : Int32) (q : Int32) (r3 : Int32) (r10 : Int32) (k23 : Nat) : Prop := (k_P_mint_65_29 σ o lo hi q r3 r10 k23 (f_B_totalLiquidity σ))
def f_P_mint_44_20 (σ : g_S) (o : Int32) (lo : Int32) (hi : Int32) (q : Int32) (r3 : Int32) (r10 : Int32) : Int64 × g_S := (Option.elim (f_B_findOrFree σ o lo hi) (f_P_mint_51_25 σ o lo hi q r3 r10) (fun k23 => f_P_mint_51_26 σ o lo hi q r3 r10 k23))
def k_P_mint_44_20 (σ : g_S) (o : Int32) (lo : Int32) (hi : Int32) (q : Int32) (r3 : Int32) (r10 : Int32) : Prop := (Option.elim (f_B_findOrFree σ o lo hi) (k_P_mint_51_25 σ o lo hi q r3 r10) (fun k23 => k_P_mint_51_26 σ o lo hi q r3 r10 k23))
def f_P_mint_40_75 (σ : g_S) (o : Int32) (lo : Int32) (hi : Int32) (q : Int32) (r3 : Int32) (r10 : Int32) : Int64 × g_S := ((-2 : Int64), σ)
def k_P_mint_40_75 (σ : g_S) (o : Int32) (lo : Int32) (hi : Int32) (q : Int32) (r3 : Int32) (r10 : Int32) : Prop := True
def f_P_mint_33_18 (σ : g_S) (o : Int32) (lo : Int32) (hi : Int32) (q : Int32) (r3 : Int32) (r10 : Int32) : Int64 × g_S := (if q ≤ (1000000 : Int32) then f_P_mint_44_20 σ o lo hi q r3 r10 else f_P_mint_40_75 σ o lo hi q r3 r10)
def k_P_mint_33_18 (σ : g_S) (o : Int32) (lo : Int32) (hi : Int32) (q : Int32) (r3 : Int32) (r10 : Int32) : Prop := (if q ≤ (1000000 : Int32) then k_P_mint_44_20 σ o lo hi q r3 r10 else k_P_mint_40_75 σ o lo hi q r3 r10)
def f_P_mint_27_15 (σ : g_S) (o : Int32) (lo : Int32) (hi : Int32) (q : Int32) (r3 : Int32) (r10 : Int32) : Int64 × g_S := (if q < (1 : Int32) then f_P_mint_40_17 σ o lo hi q r3 r10 else f_P_mint_33_18 σ o lo hi q r3 r10)
def k_P_mint_27_15 (σ : g_S) (o : Int32) (lo : Int32) (hi : Int32) (q : Int32) (r3 : Int32) (r10 : Int32) : Prop := (if q < (1 : Int32) then k_P_mint_40_17 σ o lo hi q r3 r10 else k_P_mint_33_18 σ o lo hi q r3 r10)
def f_P_mint_21_12 (σ : g_S) (o : Int32) (lo : Int32) (hi : Int32) (q : Int32) (r3 : Int32) (r10 : Int32) : Int64 × g_S := (if r10 = 0 then f_P_mint_40_14 σ o lo hi q r3 r10 else f_P_mint_27_15 σ o lo hi q r3 r10)
def k_P_mint_21_12 (σ : g_S) (o : Int32) (lo : Int32) (hi : Int32) (q : Int32) (r3 : Int32) (r10 : Int32) : Prop := (if r10 = 0 then k_P_mint_40_14 σ o lo hi q r3 r10 else k_P_mint_27_15 σ o lo hi q r3 r10)
def f_P_mint_18_8 (σ : g_S) (o : Int32) (lo : Int32) (hi : Int32) (q : Int32) (r3 : Int32) : Int64 × g_S := (f_P_mint_21_12 σ o lo hi q r3 (f_P_isRange σ lo hi))
def k_P_mint_18_8 (σ : g_S) (o : Int32) (lo : Int32) (hi : Int32) (q : Int32) (r3 : Int32) : Prop := (k_P_isRange σ lo hi) ∧ (k_P_mint_21_12 σ o lo hi q r3 (f_P_isRange σ lo hi))
def f_P_mint_12_5 (σ : g_S) (o : Int32) (lo : Int32) (hi : Int32) (q : Int32) (r3 : Int32) : Int64 × g_S := (if r3 = 0 then f_P_mint_40_7 σ o lo hi q r3 else f_P_mint_18_8 σ o lo hi q r3)
def k_P_mint_12_5 (σ : g_S) (o : Int32) (lo : Int32) (hi : Int32) (q : Int32) (r3 : Int32) : Prop := (if r3 = 0 then k_P_mint_40_7 σ o lo hi q r3 else k_P_mint_18_8 σ o lo hi q r3)
def f_P_mint_11_2 (σ : g_S) (o : Int32) (lo : Int32) (hi : Int32) (q : Int32) : Int64 × g_S := (f_P_mint_12_5 σ o lo hi q (f_P_isOwner o))
def k_P_mint_11_2 (σ : g_S) (o : Int32) (lo : Int32) (hi : Int32) (q : Int32) : Prop := (k_P_mint_12_5 σ o lo hi q (f_P_isOwner o))
def f_P_mint_7_76 (σ : g_S) (o : Int32) (lo : Int32) (hi : Int32) (q : Int32) : Int64 × g_S := ((-1 : Int64), σ)
def k_P_mint_7_76 (σ : g_S) (o : Int32) (lo : Int32) (hi : Int32) (q : Int32) : Prop := True
def f_P_mint (σ : g_S) (o : Int32) (lo : Int32) (hi : Int32) (q : Int32) : Int64 × g_S := (if (σ.1 0 7) = 0 then f_P_mint_7_76 σ o lo hi q else f_P_mint_11_2 σ o lo hi q)
def k_P_mint (σ : g_S) (o : Int32) (lo : Int32) (hi : Int32) (q : Int32) : Prop := (if (σ.1 0 7) = 0 then k_P_mint_7_76 σ o lo hi q else k_P_mint_11_2 σ o lo hi q)
set_option maxHeartbeats 4000000 in
set_option maxRecDepth 100000 in
theorem c_P_mint (l : Launch) (dC : Nat → ClassId) (dI : Nat → Nat → Nat) (dA : Nat → ClassId) (ad : Nat → Nat) (tb : Nat) (sz : Nat) (σ : g_S) (o : Int32) (lo : Int32) (hi : Int32) (q : Int32) (hQ : k_P_mint σ o lo hi q) : Met l y_P_mint w_P_mint ({ frames := 3, cells := 0, slots := 0, locals := 78 }) (va_Pc [.ref (ad 0), .int o, .int lo, .int hi, .int q] (g_W (dC, dI) cls (x_tys dA) (g_w x_sh dA ad σ) sz (x_Z tb))) (va_Ql (fun r τ => (r, τ) = f_P_mint σ o lo hi q) (fun τ t => va_P (dC, dI) cls (g_w x_sh dA ad τ) t.heap) (va_A (g_w x_sh dA ad σ) sz)) 0 0 (va_A (g_w x_sh dA ad σ) sz) := by
  refine Met.ofW (cc := b_P_mint) (maxL := 10) (ret := (some .long)) (by decide) rfl ?_
  intro p e s m args below meth c s₁ B hml hv
  obtain ⟨rfl, hsz, hP, hK, hD0, hz⟩ := hv
  have hx := B.exec
  have hb := B.bytes
  have hr := B.returns
  have hts := atoms_spec (ws := w_P_mint) B.pre
  have ht := fun (w : Cond) (h : w ∈ gA) => hts w (List.mem_cons_of_mem _ h)
  have hown : s.vm.findClass "RangedPool" = some m.cls := findClass_of_methodNamed B.named
  have hlocks := B.notSynchronized
  subst hsz
  have hD := hD0.self (sz := s.heap.size)
  have hA : ∀ q : Nat, s.heap.size ≤ q → va_A (g_w x_sh dA ad σ) s.heap.size q := fun q h => Or.inr h
  generalize hAe : va_A (g_w x_sh dA ad σ) s.heap.size = A at hD hA hz ⊢
  have hS : va_S A s.heap s.heap [] := va_S.rf
  have hl := lv_entry ([.ref (ad 0), .int o, .int lo, .int hi, .int q]) (n := 10) (Nat.le_of_ble_eq_true rfl)
  rw [lg_entry_eq]
  generalize (lg_sl ([.ref (ad 0), .int o, .int lo, .int hi, .int q]) ++ List.replicate (10 - (lg_sl ([.ref (ad 0), .int o, .int lo, .int hi, .int q])).length) Slot.unset).toArray = ls at hl ⊢
  have hl : lv_has ls 10 [(0, .ref (ad 0)), (1, .int o), (2, .int lo), (3, .int hi), (4, .int q)] := hl
  have hF : f_P_mint σ o lo hi q = f_P_mint σ o lo hi q := rfl
  refine lv_aload_n hx hb d_P_mint_0 rfl (lv_at hl 0 rfl) ?_
  refine g_get hx hb ht in_P hown hK hP (0) x_at0 rfl 7 (by decide) rfl (ht _ kw136) (fun _ h9 => h9) (v := .int (σ.1 0 7)) rfl d_P_mint_1 ?_
  refine lv_if_ne (tgt := 11) hx hb d_P_mint_4 (by decide) (fun c1 => ?_) (fun c1 => ?_)
  ·
    have c1 : ¬ ((σ.1 0 7) = 0) := c1
    have hF : f_P_mint σ o lo hi q = f_P_mint_11_2 σ o lo hi q := hF.trans (if_neg c1)
    have hQ : k_P_mint_11_2 σ o lo hi q := Eq.mp (if_neg c1) hQ
    refine lv_iload_n hx hb d_P_mint_11 rfl (lv_at hl 1 rfl) ?_
    refine g_cSi (va_runS (As := [.int o]) (rest := []) ⟨hx, hb, hml, hown, ht⟩ (c_P_isOwner l o) (va_cwS 1 ht gc_P_72 rfl rfl rfl (by decide +kernel) ⟨Nat.le_of_ble_eq_true rfl, Nat.le_of_ble_eq_true rfl⟩) (g_pr0 _) rfl rfl hl.1 rfl (lv_room (Nat.le_of_ble_eq_true rfl)) d_P_mint_12 ⟨Nat.le_of_ble_eq_true rfl, Nat.le_of_ble_eq_true rfl⟩) (fun r3 e4 => ?_)
    have hF : f_P_mint σ o lo hi q = f_P_mint_12_5 σ o lo hi q r3 := hF.trans (by rw [e4]; try rfl)
    have hQ : k_P_mint_12_5 σ o lo hi q r3 := by rw [e4]; exact hQ
    refine lv_if_eq (tgt := 40) hx hb d_P_mint_15 (by decide) (fun c6 => ?_) (fun c6 => ?_)
    ·
      have c6 : r3 = 0 := c6
      have hF : f_P_mint σ o lo hi q = f_P_mint_40_7 σ o lo hi q r3 := hF.trans (if_pos c6)
      have hQ : k_P_mint_40_7 σ o lo hi q r3 := Eq.mp (if_pos c6) hQ
      refine lv_ldc2 (v := (-2 : Int64)) hx hb hown (ht _ kw201) d_P_mint_40 ?_
      exact W.lret (v := (-2 : Int64)) hx hb hr (fun t hh hW => ⟨⟨(-2 : Int64), σ, rfl, hF.symm, by show va_P (dC, dI) cls (g_w x_sh dA ad σ) t.heap; rw [hh]; exact hP⟩, hS.F hh⟩) hS.2.2 d_P_mint_43
    ·
      have c6 : ¬ (r3 = 0) := c6
      have hF : f_P_mint σ o lo hi q = f_P_mint_18_8 σ o lo hi q r3 := hF.trans (if_neg c6)
      have hQ : k_P_mint_18_8 σ o lo hi q r3 := Eq.mp (if_neg c6) hQ
      refine lv_aload_n hx hb d_P_mint_18 rfl (lv_at hl 0 rfl) ?_
      refine lv_iload_n hx hb d_P_mint_19 rfl (lv_at hl 2 rfl) ?_
      refine lv_iload_n hx hb d_P_mint_20 rfl (lv_at hl 3 rfl) ?_
      obtain ⟨hs9, hQ⟩ := hQ
      refine g_cSi (va_runV (As := [.int lo, .int hi]) (rest := []) ⟨hx, hb, hml, hown, ht⟩ (c_P_isRange l dC dI dA ad tb σ lo hi hs9) (cwV 2 ht gc_P_81 rfl rfl rfl (by decide +kernel) ⟨Nat.le_of_ble_eq_true rfl, Nat.le_of_ble_eq_true rfl⟩) (g_pV (g_prR x_Zok hK hP hS hz _) (g_rc hK hP (0) x_at0 rfl)) rfl rfl hl.1 rfl (lv_room (Nat.le_of_ble_eq_true rfl)) d_P_mint_21 ⟨Nat.le_of_ble_eq_true rfl, Nat.le_of_ble_eq_true rfl⟩) (fun r10 e11 => ?_)
      have hF : f_P_mint σ o lo hi q = f_P_mint_21_12 σ o lo hi q r3 r10 := hF.trans (by rw [e11]; try rfl)
      have hQ : k_P_mint_21_12 σ o lo hi q r3 r10 := by rw [e11]; exact hQ
      refine lv_if_eq (tgt := 40) hx hb d_P_mint_24 (by decide) (fun c13 => ?_) (fun c13 => ?_)
      ·
        have c13 : r10 = 0 := c13
        have hF : f_P_mint σ o lo hi q = f_P_mint_40_14 σ o lo hi q r3 r10 := hF.trans (if_pos c13)
        have hQ : k_P_mint_40_14 σ o lo hi q r3 r10 := Eq.mp (if_pos c13) hQ
        refine lv_ldc2 (v := (-2 : Int64)) hx hb hown (ht _ kw201) d_P_mint_40 ?_
        exact W.lret (v := (-2 : Int64)) hx hb hr (fun t hh hW => ⟨⟨(-2 : Int64), σ, rfl, hF.symm, by show va_P (dC, dI) cls (g_w x_sh dA ad σ) t.heap; rw [hh]; exact hP⟩, hS.F hh⟩) hS.2.2 d_P_mint_43
      ·
        have c13 : ¬ (r10 = 0) := c13
        have hF : f_P_mint σ o lo hi q = f_P_mint_27_15 σ o lo hi q r3 r10 := hF.trans (if_neg c13)
        have hQ : k_P_mint_27_15 σ o lo hi q r3 r10 := Eq.mp (if_neg c13) hQ
        refine lv_iload hx hb d_P_mint_27 (lv_at hl 4 rfl) ?_
        refine lv_iconst (v := (1 : Int32)) hx hb d_P_mint_29 (by decide) ?_
        refine lv_icmp_lt (tgt := 40) hx hb d_P_mint_30 (by decide) (fun c16 => ?_) (fun c16 => ?_)
        ·
          have c16 : q < (1 : Int32) := c16
          have hF : f_P_mint σ o lo hi q = f_P_mint_40_17 σ o lo hi q r3 r10 := hF.trans (if_pos c16)
          have hQ : k_P_mint_40_17 σ o lo hi q r3 r10 := Eq.mp (if_pos c16) hQ
          refine lv_ldc2 (v := (-2 : Int64)) hx hb hown (ht _ kw201) d_P_mint_40 ?_
          exact W.lret (v := (-2 : Int64)) hx hb hr (fun t hh hW => ⟨⟨(-2 : Int64), σ, rfl, hF.symm, by show va_P (dC, dI) cls (g_w x_sh dA ad σ) t.heap; rw [hh]; exact hP⟩, hS.F hh⟩) hS.2.2 d_P_mint_43
        ·
          have c16 : ¬ (q < (1 : Int32)) := c16
          have hF : f_P_mint σ o lo hi q = f_P_mint_33_18 σ o lo hi q r3 r10 := hF.trans (if_neg c16)
          have hQ : k_P_mint_33_18 σ o lo hi q r3 r10 := Eq.mp (if_neg c16) hQ
          refine lv_iload hx hb d_P_mint_33 (lv_at hl 4 rfl) ?_
          refine lv_ldc (v := (1000000 : Int32)) hx hb hown (ht _ kw200) d_P_mint_35 ?_
          refine lv_icmp_le (tgt := 44) hx hb d_P_mint_37 (by decide) (fun c19 => ?_) (fun c19 => ?_)
          ·
            have c19 : q ≤ (1000000 : Int32) := c19
            have hF : f_P_mint σ o lo hi q = f_P_mint_44_20 σ o lo hi q r3 r10 := hF.trans (if_pos c19)
            have hQ : k_P_mint_44_20 σ o lo hi q r3 r10 := Eq.mp (if_pos c19) hQ
            refine lv_aload_n hx hb d_P_mint_44 rfl (lv_at hl 0 rfl) ?_
            refine g_get hx hb ht in_P hown hK hP (0) x_at0 rfl 4 (by decide) rfl (ht _ kw133) (fun _ h9 => h9) (v := .ref (ad 3)) rfl d_P_mint_45 ?_
            refine lv_iload_n hx hb d_P_mint_48 rfl (lv_at hl 1 rfl) ?_
            refine lv_iload_n hx hb d_P_mint_49 rfl (lv_at hl 2 rfl) ?_
            refine lv_iload_n hx hb d_P_mint_50 rfl (lv_at hl 3 rfl) ?_
            refine g_cSq (b0 := 14) (va_runVN (host := "RangedPool") (As := [.int o, .int lo, .int hi]) (rest := []) ⟨hx, hb, hml, hown, ht⟩ (c_B_findOrFree l dC dI dA ad tb σ o lo hi) ⟨va_cnB 3 ht gn_B_findOrFree rfl rfl rfl (hz.1 _ nk202) (ht _ kw2) (by decide +kernel) ⟨Nat.le_of_ble_eq_true rfl, Nat.le_of_ble_eq_true rfl⟩, ht _ kw204, ht _ ks3⟩ (g_pV (g_prR x_Zok hK hP hS hz _) (g_rc hK hP (3) x_at3 rfl)) rfl rfl hl.1 rfl (lv_room (Nat.le_of_ble_eq_true rfl)) d_P_mint_51 ⟨Nat.le_of_ble_eq_true rfl, Nat.le_of_ble_eq_true rfl⟩) (fun q24 => ?_) (fun k23 q24 => ?_)
            ·
              have hF : f_P_mint σ o lo hi q = f_P_mint_51_25 σ o lo hi q r3 r10 := hF.trans (congrArg (fun z => Option.elim z (f_P_mint_51_25 σ o lo hi q r3 r10) (fun k23 => f_P_mint_51_26 σ o lo hi q r3 r10 k23)) q24)
              have hQ : k_P_mint_51_25 σ o lo hi q r3 r10 := Eq.mp (congrArg (fun z => Option.elim z (k_P_mint_51_25 σ o lo hi q r3 r10) (fun k23 => k_P_mint_51_26 σ o lo hi q r3 r10 k23)) q24) hQ
              refine lv_astoreN (lv' := [(5, .null), (0, .ref (ad 0)), (1, .int o), (2, .int lo), (3, .int hi), (4, .int q)]) hx hb d_P_mint_54 hl (by decide) rfl (fun ls hl => ?_)
              refine lv_aloadN hx hb d_P_mint_56 (lv_at hl 0 rfl) ?_
              refine lv_ifnullN (tgt := 79) hx hb d_P_mint_58 (by decide) ?_
              refine lv_ldc2 (v := (-4 : Int64)) hx hb hown (ht _ kw223) d_P_mint_79 ?_
              exact W.lret (v := (-4 : Int64)) hx hb hr (fun t hh hW => ⟨⟨(-4 : Int64), σ, rfl, hF.symm, by show va_P (dC, dI) cls (g_w x_sh dA ad σ) t.heap; rw [hh]; exact hP⟩, hS.F hh⟩) hS.2.2 d_P_mint_82
            ·
              have hF : f_P_mint σ o lo hi q = f_P_mint_51_26 σ o lo hi q r3 r10 k23 := hF.trans (congrArg (fun z => Option.elim z (f_P_mint_51_25 σ o lo hi q r3 r10) (fun k23 => f_P_mint_51_26 σ o lo hi q r3 r10 k23)) q24)
              have hQ : k_P_mint_51_26 σ o lo hi q r3 r10 k23 := Eq.mp (congrArg (fun z => Option.elim z (k_P_mint_51_25 σ o lo hi q r3 r10) (fun k23 => k_P_mint_51_26 σ o lo hi q r3 r10 k23)) q24) hQ
              refine lv_astore (lv' := [(5, .ref (ad (k23 + 14))), (0, .ref (ad 0)), (1, .int o), (2, .int lo), (3, .int hi), (4, .int q)]) hx hb d_P_mint_54 hl (by decide) rfl (fun ls hl => ?_)
              refine lv_aload hx hb d_P_mint_56 (lv_at hl 0 rfl) ?_
              refine lv_ifnull hx hb d_P_mint_58 ?_
              refine lv_aload_n hx hb d_P_mint_61 rfl (lv_at hl 1 rfl) ?_
              refine g_get hx hb ht in_P hown hK hP (0) x_at0 rfl 4 (by decide) rfl (ht _ kw133) (fun _ h9 => h9) (v := .ref (ad 3)) rfl d_P_mint_62 ?_
              refine g_cSl (va_runVN (host := "RangedPool") (As := []) (rest := []) ⟨hx, hb, hml, hown, ht⟩ (c_B_totalLiquidity l dC dI dA ad tb σ) ⟨va_cnB 0 ht gn_B_totalLiquidity rfl rfl rfl (hz.1 _ nk218) (ht _ kw2) (by decide +kernel) ⟨Nat.le_of_ble_eq_true rfl, Nat.le_of_ble_eq_true rfl⟩, ht _ kw220, ht _ ks7⟩ (g_pV (g_prR x_Zok hK hP hS hz _) (g_rc hK hP (3) x_at3 rfl)) rfl rfl hl.1 rfl (lv_room (Nat.le_of_ble_eq_true rfl)) d_P_mint_65 ⟨Nat.le_of_ble_eq_true rfl, Nat.le_of_ble_eq_true rfl⟩) (fun r27 e28 => ?_)
              have hF : f_P_mint σ o lo hi q = f_P_mint_65_29 σ o lo hi q r3 r10 k23 r27 := hF.trans (by rw [e28]; try rfl)
              have hQ : k_P_mint_65_29 σ o lo hi q r3 r10 k23 r27 := by rw [e28]; exact hQ
              refine lv_iload hx hb d_P_mint_68 (lv_at hl 5 rfl) ?_
              refine lv_i2l (v := q.toInt64) hx hb d_P_mint_70 rfl ?_
              refine lv_ladd hx hb d_P_mint_71 ?_
              refine lv_ldc2 (v := (1000000 : Int64)) hx hb hown (ht _ kw222) d_P_mint_72 ?_
              refine W.lcmp hx hb d_P_mint_75 ?_
              refine lv_if_le (tgt := 83) hx hb d_P_mint_76 (by decide) (fun c30 => ?_) (fun c30 => ?_)
              ·
                have c30 : (r27 + q.toInt64) ≤ (1000000 : Int64) := (lg_cmp_le _ _).mp c30
                have hF : f_P_mint σ o lo hi q = f_P_mint_83_31 σ o lo hi q r3 r10 k23 r27 := hF.trans (if_pos c30)
                have hQ : k_P_mint_83_31 σ o lo hi q r3 r10 k23 r27 := Eq.mp (if_pos c30) hQ
                refine lv_aload_n hx hb d_P_mint_83 rfl (lv_at hl 1 rfl) ?_
                refine lv_iload_n hx hb d_P_mint_84 rfl (lv_at hl 3 rfl) ?_
                refine lv_iload_n hx hb d_P_mint_85 rfl (lv_at hl 4 rfl) ?_
                refine lv_iload hx hb d_P_mint_86 (lv_at hl 5 rfl) ?_
                refine lv_i2l (v := q.toInt64) hx hb d_P_mint_88 rfl ?_
                refine lv_iconst (v := (1 : Int32)) hx hb d_P_mint_89 (by decide) ?_
                obtain ⟨hs32, hQ⟩ := hQ
                refine g_cSl (va_runV (As := [.int lo, .int hi, .long q.toInt64, .int (1 : Int32)]) (rest := []) ⟨hx, hb, hml, hown, ht⟩ (c_P_zeroOfRange l dC dI dA ad tb σ lo hi q.toInt64 (1 : Int32) hs32) (cwV 4 ht gc_P_100 rfl rfl rfl (by decide +kernel) ⟨Nat.le_of_ble_eq_true rfl, Nat.le_of_ble_eq_true rfl⟩) (g_pV (g_prR x_Zok hK hP hS hz _) (g_rc hK hP (0) x_at0 rfl)) rfl rfl hl.1 rfl (lv_room (Nat.le_of_ble_eq_true rfl)) d_P_mint_90 ⟨Nat.le_of_ble_eq_true rfl, Nat.le_of_ble_eq_true rfl⟩) (fun r33 e34 => ?_)
                have hF : f_P_mint σ o lo hi q = f_P_mint_90_35 σ o lo hi q r3 r10 k23 r27 r33 := hF.trans (by rw [e34]; try rfl)
                have hQ : k_P_mint_90_35 σ o lo hi q r3 r10 k23 r27 r33 := by rw [e34]; exact hQ
                refine lv_lstore (lv' := [(6, .long r33), (5, .ref (ad (k23 + 14))), (0, .ref (ad 0)), (1, .int o), (2, .int lo), (3, .int hi), (4, .int q)]) hx hb d_P_mint_93 hl (by decide) rfl (fun ls hl => ?_)
                refine lv_aload_n hx hb d_P_mint_95 rfl (lv_at hl 2 rfl) ?_
                refine lv_iload_n hx hb d_P_mint_96 rfl (lv_at hl 4 rfl) ?_
                refine lv_iload_n hx hb d_P_mint_97 rfl (lv_at hl 5 rfl) ?_
                refine lv_iload hx hb d_P_mint_98 (lv_at hl 6 rfl) ?_
                refine lv_i2l (v := q.toInt64) hx hb d_P_mint_100 rfl ?_
                refine lv_iconst (v := (1 : Int32)) hx hb d_P_mint_101 (by decide) ?_
                obtain ⟨hs36, hQ⟩ := hQ
                refine g_cSl (va_runV (As := [.int lo, .int hi, .long q.toInt64, .int (1 : Int32)]) (rest := []) ⟨hx, hb, hml, hown, ht⟩ (c_P_oneOfRange l dC dI dA ad tb σ lo hi q.toInt64 (1 : Int32) hs36) (cwV 4 ht gc_P_104 rfl rfl rfl (by decide +kernel) ⟨Nat.le_of_ble_eq_true rfl, Nat.le_of_ble_eq_true rfl⟩) (g_pV (g_prR x_Zok hK hP hS hz _) (g_rc hK hP (0) x_at0 rfl)) rfl rfl hl.1 rfl (lv_room (Nat.le_of_ble_eq_true rfl)) d_P_mint_102 ⟨Nat.le_of_ble_eq_true rfl, Nat.le_of_ble_eq_true rfl⟩) (fun r37 e38 => ?_)
                have hF : f_P_mint σ o lo hi q = f_P_mint_102_39 σ o lo hi q r3 r10 k23 r27 r33 r37 := hF.trans (by rw [e38]; try rfl)
                have hQ : k_P_mint_102_39 σ o lo hi q r3 r10 k23 r27 r33 r37 := by rw [e38]; exact hQ
                refine lv_lstore (lv' := [(8, .long r37), (6, .long r33), (5, .ref (ad (k23 + 14))), (0, .ref (ad 0)), (1, .int o), (2, .int lo), (3, .int hi), (4, .int q)]) hx hb d_P_mint_105 hl (by decide) rfl (fun ls hl => ?_)
                refine lv_aload_n hx hb d_P_mint_107 rfl (lv_at hl 3 rfl) ?_
                refine lv_iload_n hx hb d_P_mint_108 rfl (lv_at hl 4 rfl) ?_
                refine lv_lload hx hb d_P_mint_109 (lv_at hl 1 rfl) ?_
                refine lv_lload hx hb d_P_mint_111 (lv_at hl 0 rfl) ?_
                obtain ⟨hs40, hQ⟩ := hQ
                refine g_cSi (va_runV (As := [.int o, .long r33, .long r37]) (rest := []) ⟨hx, hb, hml, hown, ht⟩ (c_P_canPay l dC dI dA ad tb σ o r33 r37 hs40) (cwV 3 ht gc_P_107 rfl rfl rfl (by decide +kernel) ⟨Nat.le_of_ble_eq_true rfl, Nat.le_of_ble_eq_true rfl⟩) (g_pV (g_prR x_Zok hK hP hS hz _) (g_rc hK hP (0) x_at0 rfl)) rfl rfl hl.1 rfl (lv_room (Nat.le_of_ble_eq_true rfl)) d_P_mint_113 ⟨Nat.le_of_ble_eq_true rfl, Nat.le_of_ble_eq_true rfl⟩) (fun r41 e42 => ?_)
                have hF : f_P_mint σ o lo hi q = f_P_mint_113_43 σ o lo hi q r3 r10 k23 r27 r33 r37 r41 := hF.trans (by rw [e42]; try rfl)
                have hQ : k_P_mint_113_43 σ o lo hi q r3 r10 k23 r27 r33 r37 r41 := by rw [e42]; exact hQ
                refine lv_if_ne (tgt := 123) hx hb d_P_mint_116 (by decide) (fun c44 => ?_) (fun c44 => ?_)
                ·
                  have c44 : ¬ (r41 = 0) := c44
                  have hF : f_P_mint σ o lo hi q = f_P_mint_123_45 σ o lo hi q r3 r10 k23 r27 r33 r37 r41 := hF.trans (if_neg c44)
                  have hQ : k_P_mint_123_45 σ o lo hi q r3 r10 k23 r27 r33 r37 r41 := Eq.mp (if_neg c44) hQ
                  refine lv_aload_n hx hb d_P_mint_123 rfl (lv_at hl 3 rfl) ?_
                  refine g_get hx hb ht in_P hown hK hP (0) x_at0 rfl 5 (by decide) rfl (ht _ kw134) (fun _ h9 => h9) (v := .ref (ad 5)) rfl d_P_mint_124 ?_
                  refine lv_aload_n hx hb d_P_mint_127 rfl (lv_at hl 3 rfl) ?_
                  refine g_get hx hb ht in_P hown hK hP (0) x_at0 rfl 9 (by decide) rfl (ht _ kw138) (fun _ h9 => h9) (v := .int (σ.1 0 9)) rfl d_P_mint_128 ?_
                  obtain ⟨hs46, hQ⟩ := hQ
                  refine g_cWv (va_runVN (host := "RangedPool") (As := [.int (σ.1 0 9)]) (rest := []) ⟨hx, hb, hml, hown, ht⟩ (c_H_mark l dC dI dA ad tb s.heap.size σ (σ.1 0 9) hs46) ⟨va_cnB 1 ht gn_H_mark rfl rfl rfl (hz.1 _ nk172) (ht _ kw4) (by decide +kernel) ⟨Nat.le_of_ble_eq_true rfl, Nat.le_of_ble_eq_true rfl⟩, ht _ kw174, ht _ ks0⟩ (g_pV (g_prW x_Zok hK hP hD hS hA hz _) (g_rc hK hP (5) x_at5 rfl)) rfl rfl hl.1 rfl (lv_room (Nat.le_of_ble_eq_true rfl)) d_P_mint_131 ⟨Nat.le_of_ble_eq_true rfl, Nat.le_of_ble_eq_true rfl⟩) hD hS hA (fun τ49 H locs e48 hP hD hS => ?_)
                  have hF : f_P_mint σ o lo hi q = f_P_mint_131_50 σ o lo hi q r3 r10 k23 r27 r33 r37 r41 τ49 := hF.trans (by rw [e48]; try rfl)
                  have hQ : k_P_mint_131_50 σ o lo hi q r3 r10 k23 r27 r33 r37 r41 τ49 := by rw [e48]; exact hQ
                  refine lv_aload_n hx hb d_P_mint_134 rfl (lv_at hl 3 rfl) ?_
                  refine lv_iload_n hx hb d_P_mint_135 rfl (lv_at hl 4 rfl) ?_
                  refine lv_lload hx hb d_P_mint_136 (lv_at hl 1 rfl) ?_
                  refine lv_lload hx hb d_P_mint_138 (lv_at hl 0 rfl) ?_
                  obtain ⟨hs51, hQ⟩ := hQ
                  refine g_cWv (va_runV (As := [.int o, .long r33, .long r37]) (rest := []) ⟨hx, hb, hml, hown, ht⟩ (c_P_pay l dC dI dA ad tb H.size τ49 o r33 r37 hs51) (cwV 3 ht gc_P_113 rfl rfl rfl (by decide +kernel) ⟨Nat.le_of_ble_eq_true rfl, Nat.le_of_ble_eq_true rfl⟩) (g_pV (g_prW x_Zok hK hP hD hS hA hz _) (g_rc hK hP (0) x_at0 rfl)) rfl rfl hl.1 rfl (lv_room (Nat.le_of_ble_eq_true rfl)) d_P_mint_140 ⟨Nat.le_of_ble_eq_true rfl, Nat.le_of_ble_eq_true rfl⟩) hD hS hA (fun τ54 H locs e53 hP hD hS => ?_)
                  have hF : f_P_mint σ o lo hi q = f_P_mint_140_55 σ o lo hi q r3 r10 k23 r27 r33 r37 r41 τ49 τ54 := hF.trans (by rw [e53]; try rfl)
                  have hQ : k_P_mint_140_55 σ o lo hi q r3 r10 k23 r27 r33 r37 r41 τ49 τ54 := by rw [e53]; exact hQ
                  refine lv_aload hx hb d_P_mint_143 (lv_at hl 2 rfl) ?_
                  refine g_cSi (va_runVN (host := "RangedPool") (As := []) (rest := []) ⟨hx, hb, hml, hown, ht⟩ (c_T_isThere l dC dI dA ad tb τ54 k23 (lt_B_findOrFree q24)) ⟨va_cnB 0 ht gn_T_isThere rfl rfl rfl (hz.1 _ nk255) (ht _ kw3) (by decide +kernel) ⟨Nat.le_of_ble_eq_true rfl, Nat.le_of_ble_eq_true rfl⟩, ht _ kw212, ht _ ks5⟩ (g_pV (g_prR x_Zok hK hP hS hz _) (g_rc hK hP (k23 + 14) (x_at14 (lt_B_findOrFree q24)) rfl)) rfl rfl hl.1 rfl (lv_room (Nat.le_of_ble_eq_true rfl)) d_P_mint_145 ⟨Nat.le_of_ble_eq_true rfl, Nat.le_of_ble_eq_true rfl⟩) (fun r56 e57 => ?_)
                  have hF : f_P_mint σ o lo hi q = f_P_mint_145_58 σ o lo hi q r3 r10 k23 r27 r33 r37 r41 τ49 τ54 r56 := hF.trans (by rw [e57]; try rfl)
                  have hQ : k_P_mint_145_58 σ o lo hi q r3 r10 k23 r27 r33 r37 r41 τ49 τ54 r56 := by rw [e57]; exact hQ
                  have J159_60 : ∀ (τ59 : g_S) (ls : Array Slot) (H : Heap) (locs : List Loc), τ59 = (if r56 = 0 then f_T_begin τ54 k23 o lo hi else τ54) → lv_has ls 10 [(8, .long r37), (6, .long r33), (5, .ref (ad (k23 + 14))), (4, .int q)] → va_P (dC, dI) cls (g_w x_sh dA ad τ59) H → va_D A (g_w x_sh dA ad τ59) → va_S A s.heap H locs → W p l e (headSpec w_P_mint ({ frames := 3, cells := 0, slots := 0, locals := 78 })).room s m ([.ref (ad 0), .int o, .int lo, .int hi, .int q] : List Value).toArray below meth c H locs 0 0 (MQ below (va_Ql (fun r τ => (r, τ) = f_P_mint σ o lo hi q) (fun τ t => va_P (dC, dI) cls (g_w x_sh dA ad τ) t.heap) A) ([.ref (ad 0), .int o, .int lo, .int hi, .int q] : List Value).toArray s 0 0 A) (F0 m 159 ls []) := by
                    intro τ59 ls H locs e61 hl hP hD hS
                    have hF : f_P_mint σ o lo hi q = f_P_mint_159_62 σ o lo hi q r3 r10 k23 r27 r33 r37 r41 τ49 τ54 r56 τ59 := hF.trans (by rw [e61]; try rfl)
                    have hQ : k_P_mint_159_62 σ o lo hi q r3 r10 k23 r27 r33 r37 r41 τ49 τ54 r56 τ59 := by rw [e61]; exact hQ
                    refine lv_aload hx hb d_P_mint_159 (lv_at hl 2 rfl) ?_
                    refine g_cWv (va_runVN (host := "RangedPool") (As := []) (rest := []) ⟨hx, hb, hml, hown, ht⟩ (c_T_settle l dC dI dA ad tb H.size τ59 k23 (lt_B_findOrFree q24)) ⟨va_cnB 0 ht gn_T_settle rfl rfl rfl (hz.1 _ nk260) (ht _ kw3) (by decide +kernel) ⟨Nat.le_of_ble_eq_true rfl, Nat.le_of_ble_eq_true rfl⟩, ht _ kw262, ht _ ks14⟩ (g_pV (g_prW x_Zok hK hP hD hS hA hz _) (g_rc hK hP (k23 + 14) (x_at14 (lt_B_findOrFree q24)) rfl)) rfl rfl hl.1 rfl (lv_room (Nat.le_of_ble_eq_true rfl)) d_P_mint_161 ⟨Nat.le_of_ble_eq_true rfl, Nat.le_of_ble_eq_true rfl⟩) hD hS hA (fun τ65 H locs e64 hP hD hS => ?_)
                    have hF : f_P_mint σ o lo hi q = f_P_mint_161_66 σ o lo hi q r3 r10 k23 r27 r33 r37 r41 τ49 τ54 r56 τ59 τ65 := hF.trans (by rw [e64]; try rfl)
                    have hQ : k_P_mint_161_66 σ o lo hi q r3 r10 k23 r27 r33 r37 r41 τ49 τ54 r56 τ59 τ65 := by rw [e64]; exact hQ
                    refine lv_aload hx hb d_P_mint_164 (lv_at hl 2 rfl) ?_
                    refine lv_dup hx hb d_P_mint_166 rfl ?_
                    refine g_getN hx hb ht in_T hown hK hP (k23 + 14) (x_at14 (lt_B_findOrFree q24)) rfl 3 (by decide) rfl (va_Nw.use rfl (hz.1 _ nk38)) (fun _ h9 => h9) (v := .long (τ65.2 (k23 + 14) 3)) rfl d_P_mint_167 ?_
                    refine lv_iload hx hb d_P_mint_170 (lv_at hl 3 rfl) ?_
                    refine lv_i2l (v := q.toInt64) hx hb d_P_mint_172 rfl ?_
                    refine lv_ladd hx hb d_P_mint_173 ?_
                    refine g_putLN (v := (τ65.2 (k23 + 14) 3) + q.toInt64) (ty := .long) hx hb ht in_T yt_T yt_T_ok n_T hown hK hP hD hS (k23 + 14) (x_at14 (lt_B_findOrFree q24)) rfl 3 (by decide) rfl (va_Nw.use rfl (hz.1 _ nk38)) (fun _ h9 => h9) rfl (by decide +kernel) (rfl) (rfl) d_P_mint_174 (fun H locs hP hD hS => ?_)
                    refine lv_lload hx hb d_P_mint_177 (lv_at hl 1 rfl) ?_
                    refine lv_lload hx hb d_P_mint_179 (lv_at hl 0 rfl) ?_
                    refine g_cSlE (va_runS (As := [.long r33, .long r37]) (rest := []) ⟨hx, hb, hml, hown, ht⟩ (c_P_pair l r33 r37) (va_cwS 2 ht gc_P_134 rfl rfl rfl (by decide +kernel) ⟨Nat.le_of_ble_eq_true rfl, Nat.le_of_ble_eq_true rfl⟩) (g_pr0 _) rfl rfl hl.1 rfl (lv_room (Nat.le_of_ble_eq_true rfl)) d_P_mint_181 ⟨Nat.le_of_ble_eq_true rfl, Nat.le_of_ble_eq_true rfl⟩) ?_
                    exact W.lret (v := f_P_pair r33 r37) hx hb hr (fun t hh hW => ⟨⟨f_P_pair r33 r37, g_L τ65 (k23 + 14) 3 ((τ65.2 (k23 + 14) 3) + q.toInt64), rfl, hF.symm, by show va_P (dC, dI) cls (g_w x_sh dA ad (g_L τ65 (k23 + 14) 3 ((τ65.2 (k23 + 14) 3) + q.toInt64))) t.heap; rw [hh]; exact hP⟩, hS.F hh⟩) hS.2.2 d_P_mint_184
                  refine lv_if_ne (tgt := 159) hx hb d_P_mint_148 (by decide) (fun c69 => ?_) (fun c69 => ?_)
                  ·
                    have c69 : ¬ (r56 = 0) := c69
                    exact J159_60 τ54 ls H locs (if_neg c69).symm (lv_sub hl [0, 1, 2, 7] rfl) hP hD hS
                  ·
                    have c69 : r56 = 0 := c69
                    refine lv_aload hx hb d_P_mint_151 (lv_at hl 2 rfl) ?_
                    refine lv_iload_n hx hb d_P_mint_153 rfl (lv_at hl 4 rfl) ?_
                    refine lv_iload_n hx hb d_P_mint_154 rfl (lv_at hl 5 rfl) ?_
                    refine lv_iload_n hx hb d_P_mint_155 rfl (lv_at hl 6 rfl) ?_
                    refine g_cWvE (va_runVN (host := "RangedPool") (As := [.int o, .int lo, .int hi]) (rest := []) ⟨hx, hb, hml, hown, ht⟩ (c_T_begin l dC dI dA ad tb H.size τ54 k23 o lo hi (lt_B_findOrFree q24)) ⟨va_cnB 3 ht gn_T_begin rfl rfl rfl (hz.1 _ nk256) (ht _ kw3) (by decide +kernel) ⟨Nat.le_of_ble_eq_true rfl, Nat.le_of_ble_eq_true rfl⟩, ht _ kw258, ht _ ks13⟩ (g_pV (g_prW x_Zok hK hP hD hS hA hz _) (g_rc hK hP (k23 + 14) (x_at14 (lt_B_findOrFree q24)) rfl)) rfl rfl hl.1 rfl (lv_room (Nat.le_of_ble_eq_true rfl)) d_P_mint_156 ⟨Nat.le_of_ble_eq_true rfl, Nat.le_of_ble_eq_true rfl⟩) hD hS hA (fun H locs hP hD hS => ?_)
                    exact J159_60 (f_T_begin τ54 k23 o lo hi) ls H locs (if_pos c69).symm (lv_sub hl [0, 1, 2, 7] rfl) hP hD hS
                ·
                  have c44 : r41 = 0 := c44
                  have hF : f_P_mint σ o lo hi q = f_P_mint_119_73 σ o lo hi q r3 r10 k23 r27 r33 r37 r41 := hF.trans (if_pos c44)
                  have hQ : k_P_mint_119_73 σ o lo hi q r3 r10 k23 r27 r33 r37 r41 := Eq.mp (if_pos c44) hQ
                  refine lv_ldc2 (v := (-5 : Int64)) hx hb hown (ht _ kw246) d_P_mint_119 ?_
                  exact W.lret (v := (-5 : Int64)) hx hb hr (fun t hh hW => ⟨⟨(-5 : Int64), σ, rfl, hF.symm, by show va_P (dC, dI) cls (g_w x_sh dA ad σ) t.heap; rw [hh]; exact hP⟩, hS.F hh⟩) hS.2.2 d_P_mint_122
              ·
                have c30 : ¬ ((r27 + q.toInt64) ≤ (1000000 : Int64)) := mt (lg_cmp_le _ _).mpr c30
                have hF : f_P_mint σ o lo hi q = f_P_mint_79_74 σ o lo hi q r3 r10 k23 r27 := hF.trans (if_neg c30)
                have hQ : k_P_mint_79_74 σ o lo hi q r3 r10 k23 r27 := Eq.mp (if_neg c30) hQ
                refine lv_ldc2 (v := (-4 : Int64)) hx hb hown (ht _ kw223) d_P_mint_79 ?_
                exact W.lret (v := (-4 : Int64)) hx hb hr (fun t hh hW => ⟨⟨(-4 : Int64), σ, rfl, hF.symm, by show va_P (dC, dI) cls (g_w x_sh dA ad σ) t.heap; rw [hh]; exact hP⟩, hS.F hh⟩) hS.2.2 d_P_mint_82
          ·
            have c19 : ¬ (q ≤ (1000000 : Int32)) := c19
            have hF : f_P_mint σ o lo hi q = f_P_mint_40_75 σ o lo hi q r3 r10 := hF.trans (if_neg c19)
            have hQ : k_P_mint_40_75 σ o lo hi q r3 r10 := Eq.mp (if_neg c19) hQ
            refine lv_ldc2 (v := (-2 : Int64)) hx hb hown (ht _ kw201) d_P_mint_40 ?_
            exact W.lret (v := (-2 : Int64)) hx hb hr (fun t hh hW => ⟨⟨(-2 : Int64), σ, rfl, hF.symm, by show va_P (dC, dI) cls (g_w x_sh dA ad σ) t.heap; rw [hh]; exact hP⟩, hS.F hh⟩) hS.2.2 d_P_mint_43
  ·
    have c1 : (σ.1 0 7) = 0 := c1
    have hF : f_P_mint σ o lo hi q = f_P_mint_7_76 σ o lo hi q := hF.trans (if_pos c1)
    have hQ : k_P_mint_7_76 σ o lo hi q := Eq.mp (if_pos c1) hQ
    refine lv_ldc2 (v := (-1 : Int64)) hx hb hown (ht _ kw195) d_P_mint_7 ?_
    exact W.lret (v := (-1 : Int64)) hx hb hr (fun t hh hW => ⟨⟨(-1 : Int64), σ, rfl, hF.symm, by show va_P (dC, dI) cls (g_w x_sh dA ad σ) t.heap; rw [hh]; exact hP⟩, hS.F hh⟩) hS.2.2 d_P_mint_10
