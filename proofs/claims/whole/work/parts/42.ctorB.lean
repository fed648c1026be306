set_option maxHeartbeats 4000000 in
set_option maxRecDepth 100000 in
theorem c_B_init (l : Launch) (dC : Nat → ClassId) (dI : Nat → Nat → Nat) (q0 sz : Nat) (cL : ClassId) : Met l y_B_init w_B_init ({ frames := 2, cells := 31, slots := 120, locals := 32 }) (va_Pc [.ref q0] (fun U => U.heap.size = sz ∧ va_P (dC, dI) cls [(q0, .inr (2, [.null]))] U.heap ∧ va_K (dC, dI) cls [(cL, .long)] U ∧ va_D (fun _ => True) [(q0, .inr (2, [.null]))] ∧ va_AO "RangedPool$Lot" U ∧ ∀ w ∈ x_nest, va_Nw w U)) (va_Qv (fun _ : (Nat → Nat) × ClassId => True) (fun (u : (Nat → Nat) × ClassId) t => va_P (dC, dI) cls (b_w q0 u.1 u.2 cL 10) t.heap ∧ va_K (dC, dI) cls [(u.2, .object "RangedPool$Lot")] t ∧ va_D (va_A [(q0, .inr (2, [.null]))] sz) (b_w q0 u.1 u.2 cL 10)) (va_A [(q0, .inr (2, [.null]))] sz)) 31 120 (va_A [(q0, .inr (2, [.null]))] sz) := by
  refine Met.ofW (cc := b_B_init) (maxL := 2) (ret := none) (by decide) rfl ?_
  intro p e s m args below meth c s₁ B hml hv
  obtain ⟨rfl, hsz, hP, hK, hD0, hAO, hz⟩ := hv
  have hx := B.exec
  have hb := B.bytes
  have hr := B.returns
  have hts := atoms_spec (ws := w_B_init) B.pre
  have ht := fun (w : Cond) (h : w ∈ gA) => hts w (List.mem_cons_of_mem _ h)
  have hown : s.vm.findClass "RangedPool$LotBook" = some m.cls := findClass_of_methodNamed B.named
  have hlocks := B.notSynchronized
  have hin : meth.name = "<init>" := (name_of_methodNamed B.named B.method).1
  subst hsz
  have hD := hD0.self (sz := s.heap.size)
  generalize hAe : va_A [(q0, .inr (2, [.null]))] s.heap.size = A at hD ⊢
  have hA : ∀ q : Nat, s.heap.size ≤ q → A q := fun q h => by rw [← hAe]; exact Or.inr h
  have hS : va_S A s.heap s.heap [] := va_S.rf
  have hP : va_P (dC, dI) cls [(q0, .inr (2, [.null]))] s.heap := hP
  have hD : va_D A [(q0, .inr (2, [.null]))] := hD
  have hl := lv_entry ([.ref q0]) (n := 2) (Nat.le_of_ble_eq_true rfl)
  rw [lg_entry_eq]
  generalize (lg_sl ([.ref q0]) ++ List.replicate (2 - (lg_sl ([.ref q0])).length) Slot.unset).toArray = ls at hl ⊢
  have hl : lv_has ls 2 [(0, .ref q0)] := hl
  refine lv_aload_n hx hb d_B_init_0 rfl (lv_at hl 0 rfl) ?_
  refine W.objInit hx hb hown (ht _ kw23) (ht _ kw14) (ht _ kw15) rfl (by rw [hml]; exact hl.1) rfl d_B_init_1 (Nat.le_of_ble_eq_true rfl) (Nat.le_of_ble_eq_true rfl) ?_
  refine W.eq (g2 := F0 m 4 ls []) rfl ?_
  refine lv_aload_n hx hb d_B_init_4 rfl (lv_at hl 0 rfl) ?_
  refine lv_bipush (v := (10 : Int32)) hx hb d_B_init_5 (by decide) ?_
  refine va_newq (N' := 10) hx hb hown (ht _ kw24) hAO hK hP hD hS hA (by decide) rfl (by decide) (Nat.le_of_ble_eq_true rfl) (Nat.le_of_ble_eq_true rfl) d_B_init_7 (fun qa cQ H hK hP hD hS => ?_)
  have hK : va_K (dC, dI) cls [(cL, .long), (cQ, .object "RangedPool$Lot")] s := hK
  have hP : va_P (dC, dI) cls [(q0, .inr (2, [.null])), (qa, .inl (cQ, 10, .inr (.inr (.inr (.inr (fun _ => none))))))] H := hP
  have hD : va_D A [(q0, .inr (2, [.null])), (qa, .inl (cQ, 10, .inr (.inr (.inr (.inr (fun _ => none))))))] := hD
  refine va_putF (D := (dC, dI)) (ci := 2) (v := .ref qa) (ty := .array (.object "RangedPool$Lot")) (C := "RangedPool$LotBook") (T := F_B) (N := 1) hx hb ht in_B yt_B yt_B_ok n_B hown hK hP hD hS 0 rfl rfl 0 (by decide) (ht _ kw60) (fun _ h9 => h9) rfl hin rfl (by decide +kernel) rfl rfl (Nat.le_of_ble_eq_true rfl) d_B_init_10 (fun H locs hP hD hS => ?_)
  have hP : va_P (dC, dI) cls (b_w q0 (fun _ => qa) cQ cL 0) H := hP
  have hD : va_D A (b_w q0 (fun _ => qa) cQ cL 0) := hD
  refine lv_iconst (v := (0 : Int32)) hx hb d_B_init_13 (by decide) ?_
  refine lv_istore_n (lv' := [(1, .int (0 : Int32)), (0, .ref q0)]) hx hb d_B_init_14 rfl hl (by decide) rfl (fun ls hl => ?_)
  have LL : ∀ (jn jk : Nat) (ad : Nat → Nat) (ls : Array Slot) (H : Heap) (locs : List Loc), jk + jn = 10 → lv_has ls 2 [(1, .int (Int32.ofNat jk)), (0, .ref q0)] → va_P (dC, dI) cls (b_w q0 ad cQ cL jk) H → va_D A (b_w q0 ad cQ cL jk) → va_S A s.heap H locs → W p l e (headSpec w_B_init ({ frames := 2, cells := 31, slots := 120, locals := 32 })).room s m ([.ref q0] : List Value).toArray below meth c H locs (1 + 3 * jk) (10 + 11 * jk) (MQ below (va_Qv (fun _ : (Nat → Nat) × ClassId => True) (fun (u : (Nat → Nat) × ClassId) t => va_P (dC, dI) cls (b_w q0 u.1 u.2 cL 10) t.heap ∧ va_K (dC, dI) cls [(u.2, .object "RangedPool$Lot")] t ∧ va_D A (b_w q0 u.1 u.2 cL 10)) A) ([.ref q0] : List Value).toArray s 31 120 A) (F0 m 15 ls []) := by
    intro jn
    induction jn with
    | zero =>
      intro jk ad ls H locs hkn hl hP hD hS
      have hk : jk = 10 := by omega
      subst hk
      refine lv_iload_n hx hb d_B_init_15 rfl (lv_at hl 0 rfl) ?_
      refine lv_bipush (v := (10 : Int32)) hx hb d_B_init_16 (by decide) ?_
      refine lv_icmp_ge (tgt := 40) hx hb d_B_init_18 (by decide) (fun _ => ?_) (fun c7 => absurd (by decide) c7)
      exact W.vret hx hb hr (fun t ht hW => ⟨⟨(ad, cQ), rfl, trivial, by rw [ht]; exact hP, va_K.moved hW.alike (hK.sub [1] rfl), hD⟩, hS.F ht⟩) hS.2.2 d_B_init_40
    | succ jn ih =>
      intro jk ad ls H locs hkn hl hP hD hS
      refine lv_iload_n hx hb d_B_init_15 rfl (lv_at hl 0 rfl) ?_
      refine lv_bipush (v := (10 : Int32)) hx hb d_B_init_16 (by decide) ?_
      refine lv_icmp_ge (tgt := 40) hx hb d_B_init_18 (by decide) (fun c8 => absurd c8 (g_lt (N := 10) (by omega) (by decide))) (fun _ => ?_)
      refine lv_aload_n hx hb d_B_init_21 rfl (lv_at hl 1 rfl) ?_
      refine va_get (D := (dC, dI)) (ci := 2) (v := .ref (ad 4)) (C := "RangedPool$LotBook") (T := F_B) (N := 1) hx hb ht in_B hown hK hP 0 rfl rfl 0 (by decide) (ht _ kw60) (fun _ h9 => h9) rfl d_B_init_22 ?_
      refine lv_iload_n hx hb d_B_init_25 rfl (lv_at hl 0 rfl) ?_
      refine va_new (ci := 1) (fs := [.int 0, .int 0, .int 0, .long 0, .null, .null, .long 0]) (C := "RangedPool$Lot") (T := F_T) (N := 7) hx hb ht in_T yt_T yt_T_ok hown (ht _ kw24) (ht _ kw26) (ht _ kw3) hK hP hD hS hA rfl (fun j hj => by rcases (show j = 0 ∨ j = 1 ∨ j = 2 ∨ j = 3 ∨ j = 4 ∨ j = 5 ∨ j = 6 by omega) with rfl | rfl | rfl | rfl | rfl | rfl | rfl <;> rfl) (by show 1 + 3 * jk + 1 ≤ 31; omega) (by show 10 + 11 * jk + 7 ≤ 120; omega) d_B_init_26 (fun q H hP hD hS => ?_)
      refine lv_dup hx hb d_B_init_29 rfl ?_
      have hPc := g_lastP hP
      have hDc := g_lastD hD
      have hKc := hK.sub (tys' := [(cL, .long)]) [0] rfl
      have hFc := g_lastF hD hS hA
      refine va_callv (va_runIN (host := "RangedPool") (As := []) (rest := [.ref q, .int (Int32.ofNat jk), .ref (ad 4)]) ⟨hx, hb, hml, hown, ht⟩ (c_T_init l dC dI q H.size cL) ⟨va_cnB 0 ht gn_T_init rfl rfl rfl (hz _ nk27) (ht _ kw3) (by decide +kernel) ⟨Nat.le_of_ble_eq_true rfl, Nat.le_of_ble_eq_true rfl⟩, rfl, ht _ kw28⟩ ⟨fun a U g mk q => by obtain ⟨q0, q1, qP, qK, qD⟩ := q; exact ⟨q0, q1, qP, va_K.moved (u := U) (U := U.calling g mk a) (Vm.Alike.refl U.vm) qK, qD⟩, fun U hU hW => ⟨rfl, by rw [hU], by rw [hU]; exact hPc, va_K.moved hW.alike hKc, hDc.weaken (fun _ _ _ _ => trivial)⟩⟩ rfl rfl hl.1 rfl (lv_room (Nat.le_of_ble_eq_true rfl)) d_B_init_30 ⟨by show 1 + 3 * jk + 1 + 2 ≤ 31; omega, by show 10 + 11 * jk + 7 + 4 ≤ 120; omega⟩) hS (fun q _ h => hFc q h) hFc (fun u t H1 locs ht0 hvm hw hB hz1 hk1 hS => ?_)
      obtain ⟨q1, q2⟩ := u
      obtain ⟨hP1, hD1⟩ := hB
      rw [ht0] at hP1
      obtain ⟨hP, hD⟩ := g_joinE hP hD hk1 hFc hP1 hD1
      refine va_astq hx hb hK hP hD hS 1 1 (2 + 3 * jk) 1 rfl rfl (vs := [.int 0, .int 0, .int 0, .long 0, .ref q1, .ref q2, .long 0]) b_at rfl (g_eix rfl (by omega) (by omega)) d_B_init_33 (fun H locs hP hD hS => ?_)
      rw [g_ena rfl (by omega), b_step (by omega)] at hP hD
      refine lv_iinc (v := Int32.ofNat (jk + 1)) (lv' := [(1, .int (Int32.ofNat (jk + 1))), (0, .ref q0)]) hx hb d_B_init_34 hl (k := 0) rfl (g_inc jk) (by decide) rfl (fun ls hl => ?_)
      refine lv_goto (tgt := 15) hx hb d_B_init_37 (by decide) ?_
      refine W.widen (k := 1 + 3 * (jk + 1)) (n := 10 + 11 * (jk + 1)) (by omega) (by omega) ?_
      exact ih (jk + 1) _ ls H locs (by omega) hl hP hD hS
  exact LL 10 0 (fun _ => qa) ls H locs (by omega) hl hP hD hS
