/-! constructors: help -/
theorem g_KA {D : va_G} {cl : List vw_C} {tys : List (ClassId × FieldType)} {U : State} (h : va_K D cl tys U) {i j : Nat} {a b : ClassId} {ty : FieldType} (hi : tys[i]? = some (a, ty)) (hj : tys[j]? = some (b, ty)) : a = b := by
  have h1 := (h.2 i _ hi).2
  have h2 := (h.2 j _ hj).2
  have key : ∀ t : FieldType, va_RA U a t → va_RA U b t → a = b := by
    intro t x y
    cases t with
    | object C =>
      obtain ⟨_, _, _, _, _, x1⟩ := x
      obtain ⟨_, _, _, _, _, y1⟩ := y
      exact Option.some.inj (x1.symm.trans y1)
    | _ => exact Option.some.inj (Eq.trans (Eq.symm x) y)
  exact key ty h1 h2
/-- the callee's cells stand last -/
theorem g_joinE {A0 : Nat → Prop} {D : va_G} {cl : List vw_C} {w0 wc w1 : va_W} {H H1 : Heap} (hP : va_P D cl (w0 ++ wc) H) (hD : va_D A0 (w0 ++ wc)) (hk : ∀ q : Nat, q < H.size → ¬ va_A wc H.size q → H1[q]? = H[q]?) (hF : ∀ q, va_A wc H.size q → A0 q) (hP1 : va_P D cl w1 H1) (hD1 : va_D (va_A wc H.size) w1) : va_P D cl (w0 ++ w1) H1 ∧ va_D A0 (w0 ++ w1) := by
  have h0 : ∀ (k : Nat) (q : Nat × va_E), w0[k]? = some q → (w0 ++ wc)[k]? = some q := fun k q h => by
    rw [List.getElem?_append_left (List.getElem?_eq_some_iff.mp h).1]
    exact h
  have hc : ∀ (k : Nat) (q : Nat × va_E), wc[k]? = some q → (w0 ++ wc)[w0.length + k]? = some q := fun k q h => by
    rw [List.getElem?_append_right (by omega), Nat.add_sub_cancel_left]
    exact h
  have hlt : ∀ (k : Nat) (q : Nat × va_E), w0[k]? = some q → q.1 < H.size := fun k q h => (hP k q (h0 k q h)).lt
  have hout : ∀ (k : Nat) (q : Nat × va_E), w0[k]? = some q → ¬ va_A wc H.size q.1 := fun k q h hA => by
    rcases hA with ⟨j, e, hj⟩ | hA
    · have h1 := hD.1 k (w0.length + j) q (q.1, e) (h0 k q h) (hc j _ hj) rfl
      have h2 := (List.getElem?_eq_some_iff.mp h).1
      omega
    · have h2 := hlt k q h
      omega
  refine ⟨va_P.app (va_P.kept (fun k q h => hP k q (h0 k q h)) (fun k q h => hk q.1 (hlt k q h) (hout k q h))) hP1, va_D.app ⟨fun i j p q hi hj e => hD.1 i j p q (h0 i p hi) (h0 j q hj) e, fun k q h => hD.2 k q (h0 k q h)⟩ (hD1.weaken (fun k q _ h => hF q.1 h)) ?_⟩
  intro i j p q hi hj e
  exact hout i p hi (by rw [e]; exact hD1.2 j q hj)
theorem g_lastP {D : va_G} {cl : List vw_C} {w0 wc : va_W} {H : Heap} (h : va_P D cl (w0 ++ wc) H) : va_P D cl wc H := fun k q hk => h (w0.length + k) q (by
  rw [List.getElem?_append_right (by omega), Nat.add_sub_cancel_left]
  exact hk)
theorem g_lastD {A : Nat → Prop} {w0 wc : va_W} (h : va_D A (w0 ++ wc)) : va_D A wc := by
  have hc : ∀ (k : Nat) (q : Nat × va_E), wc[k]? = some q → (w0 ++ wc)[w0.length + k]? = some q := fun k q hk => by
    rw [List.getElem?_append_right (by omega), Nat.add_sub_cancel_left]
    exact hk
  exact ⟨fun i j p q hi hj e => by have := h.1 _ _ p q (hc i p hi) (hc j q hj) e; omega, fun k q hk => h.2 _ q (hc k q hk)⟩
theorem g_lastF {A : Nat → Prop} {w0 wc : va_W} {H0 H : Heap} {locs : List Loc} (hD : va_D A (w0 ++ wc)) (hS : va_S A H0 H locs) (hA : ∀ q : Nat, H0.size ≤ q → A q) : ∀ q, va_A wc H.size q → A q := g_freeW (g_lastD hD) hS hA
/-- a place for a lot: the object and its two arrays -/
def b_3 (ad : Nat → Nat) (cL : ClassId) (k : Nat) : va_W := [(ad (k + 14), .inr (1, [.int 0, .int 0, .int 0, .long 0, .ref (ad (k + 24)), .ref (ad (k + 34)), .long 0])), (ad (k + 24), .inl (cL, 2, .inr (.inl (fun _ => 0)))), (ad (k + 34), .inl (cL, 2, .inr (.inl (fun _ => 0))))]
def b_l (ad : Nat → Nat) (cL : ClassId) : Nat → va_W
  | 0 => []
  | n + 1 => b_l ad cL n ++ b_3 ad cL n
def b_f (ad : Nat → Nat) (n : Nat) : Nat → Option Nat := fun j => if j < n then some (ad (j + 14)) else none
def b_w (q0 : Nat) (ad : Nat → Nat) (cQ cL : ClassId) (n : Nat) : va_W := [(q0, .inr (2, [.ref (ad 4)])), (ad 4, .inl (cQ, 10, .inr (.inr (.inr (.inr (b_f ad n))))))] ++ b_l ad cL n
theorem b_l_len (ad : Nat → Nat) (cL : ClassId) : ∀ n, (b_l ad cL n).length = 3 * n := by
  intro n
  induction n with
  | zero => rfl
  | succ n ih =>
    show (b_l ad cL n ++ b_3 ad cL n).length = _
    rw [List.length_append, ih]
    show 3 * n + 3 = _
    omega
theorem b_3_eq {ad ad' : Nat → Nat} {cL : ClassId} {k : Nat} (h1 : ad' (k + 14) = ad (k + 14)) (h2 : ad' (k + 24) = ad (k + 24)) (h3 : ad' (k + 34) = ad (k + 34)) : b_3 ad' cL k = b_3 ad cL k := by
  unfold b_3
  rw [h1, h2, h3]
theorem b_l_eq {ad ad' : Nat → Nat} {cL : ClassId} : ∀ n, (∀ k, k < n → ad' (k + 14) = ad (k + 14) ∧ ad' (k + 24) = ad (k + 24) ∧ ad' (k + 34) = ad (k + 34)) → b_l ad' cL n = b_l ad cL n := by
  intro n
  induction n with
  | zero => intro _; rfl
  | succ n ih =>
    intro h
    show b_l ad' cL n ++ b_3 ad' cL n = b_l ad cL n ++ b_3 ad cL n
    rw [ih (fun k hk => h k (by omega))]
    obtain ⟨h1, h2, h3⟩ := h n (by omega)
    rw [b_3_eq h1 h2 h3]
def b_up (ad : Nat → Nat) (n q q1 q2 : Nat) : Nat → Nat := fun p => if p = n + 14 then q else if p = n + 24 then q1 else if p = n + 34 then q2 else ad p
/-- one more lot -/
theorem b_step {q0 : Nat} {ad : Nat → Nat} {cQ cL : ClassId} {n q q1 q2 : Nat} (hn : n < 10) :
    (b_w q0 ad cQ cL n ++ ([(q, .inr (1, [.int 0, .int 0, .int 0, .long 0, .ref q1, .ref q2, .long 0])), (q1, .inl (cL, 2, .inr (.inl (fun _ => 0)))), (q2, .inl (cL, 2, .inr (.inl (fun _ => 0))))] : va_W)).set 1 (ad 4, .inl (cQ, 10, .inr (.inr (.inr (.inr (va_up (b_f ad n) n (some q))))))) = b_w q0 (b_up ad n q q1 q2) cQ cL (n + 1) := by
  have e4 : b_up ad n q q1 q2 4 = ad 4 := by
    unfold b_up
    rw [if_neg (by omega), if_neg (by omega), if_neg (by omega)]
  have a1 : b_up ad n q q1 q2 (n + 14) = q := by unfold b_up; rw [if_pos rfl]
  have a2 : b_up ad n q q1 q2 (n + 24) = q1 := by unfold b_up; rw [if_neg (by omega), if_pos rfl]
  have a3 : b_up ad n q q1 q2 (n + 34) = q2 := by unfold b_up; rw [if_neg (by omega), if_neg (by omega), if_pos rfl]
  have ho : ∀ k, k < n → b_up ad n q q1 q2 (k + 14) = ad (k + 14) ∧ b_up ad n q q1 q2 (k + 24) = ad (k + 24) ∧ b_up ad n q q1 q2 (k + 34) = ad (k + 34) := by
    intro k hk
    unfold b_up
    refine ⟨?_, ?_, ?_⟩
    · rw [if_neg (by omega), if_neg (by omega), if_neg (by omega)]
    · rw [if_neg (by omega), if_neg (by omega), if_neg (by omega)]
    · rw [if_neg (by omega), if_neg (by omega), if_neg (by omega)]
  have hf : va_up (b_f ad n) n (some q) = b_f (b_up ad n q q1 q2) (n + 1) := by
    funext j
    unfold va_up b_f
    by_cases hj : j = n
    · subst hj
      rw [if_pos rfl, if_pos (by omega), a1]
    · rw [if_neg hj]
      by_cases hl : j < n
      · rw [if_pos hl, if_pos (by omega), (ho j hl).1]
      · rw [if_neg hl, if_neg (by omega)]
  have h3 : b_3 (b_up ad n q q1 q2) cL n = [(q, .inr (1, [.int 0, .int 0, .int 0, .long 0, .ref q1, .ref q2, .long 0])), (q1, .inl (cL, 2, .inr (.inl (fun _ => 0)))), (q2, .inl (cL, 2, .inr (.inl (fun _ => 0))))] := by
    unfold b_3
    rw [a1, a2, a3]
  unfold b_w
  rw [e4, hf]
  show _ = [_, _] ++ (b_l (b_up ad n q q1 q2) cL n ++ b_3 (b_up ad n q q1 q2) cL n)
  rw [h3, b_l_eq n ho]
  rfl
theorem b_w_len (q0 : Nat) (ad : Nat → Nat) (cQ cL : ClassId) (n : Nat) : (b_w q0 ad cQ cL n).length = 2 + 3 * n := by
  unfold b_w
  rw [List.length_append, b_l_len]
  rfl
theorem b_at {q0 : Nat} {ad : Nat → Nat} {cQ cL : ClassId} {n : Nat} {x : Nat × va_E} {w : va_W} : (b_w q0 ad cQ cL n ++ x :: w)[2 + 3 * n]? = some x := by
  rw [List.getElem?_append_right (by rw [b_w_len]; exact Nat.le_refl _), b_w_len, Nat.sub_self]
  rfl
theorem g_c25e {k : Nat} (h : k = 25) : (24 : Int32) < Int32.ofNat k := by
  subst h
  decide
theorem g_gtN {k N : Nat} (h : k ≤ N) (hN : N < 2147483648) : ¬ Int32.ofNat N < Int32.ofNat k := by
  rw [Int32.ofNat_lt_iff_lt (by omega) (by omega)]
  omega
section GF
variable {p : Program} {l : Launch} {e : Env} {R : Room} {s : State} {m : MethodId} {args : Array Value} {below : List Frame} {meth : Method} {c : Code} {H : Heap} {locs : List Loc} {cells slots : Nat} {Q : State → Prop}
variable {cc : ByteArray} {pc : Nat} {ls : Array Slot} {rest : List Value} {D : va_G} {cl : List vw_C} {A : Nat → Prop} {tys : List (ClassId × FieldType)} {H0 : Heap} {sh : g_Sh} {dA : Nat → ClassId} {ad : Nat → Nat} {σ : g_S}
/-- a final field, in the constructor -/
theorem g_putIF (hexec : p.tables.exec = Jvm.exec) (hb : c.code = cc) {own ref C : String} {T : u_T} {N ci index : Nat} {Ts : List Cond} (hts : ∀ w ∈ Ts, w.before args s = true) (hin : ∀ w ∈ u_ws C T N, w ∈ Ts) (ty0 : Nat → FieldType) (hty : ∀ k, k < N → parseFieldDescriptor (T k).2.2.1 = some (ty0 k)) (hnm : ∀ a, a < N → ∀ b, b < N → a ≠ b → (T a).2.1 ≠ (T b).2.1) (hown : s.vm.findClass own = some m.cls) (hK : va_K D cl tys s) (hP : va_P D cl (g_w sh dA ad σ) H) (hD : va_D A (g_w sh dA ad σ)) (hS0 : va_S A H0 H locs) (q0 : Nat) {cs : List Nat} (hs : sh[q0]? = some (0, ci, cs)) (hc : cl[ci]? = some (C, T, N)) (k : Nat) (hk : k < N) (hcs : cs[k]? = some 0) (hlink : (Cond.fieldLink own index ref (T k).2.1 (T k).2.2.1).before args s = true) (hsame : ∀ x, s.fieldFound? (T k).1 (T k).2.1 (T k).2.2.1 = some x → s.fieldFound? ref (T k).2.1 (T k).2.2.1 = some x) (hfin : (T k).2.2.2 = true) (hin2 : meth.name = "<init>") (hdecl : (T k).1 = own) {ty : FieldType} {v : Int32} (hd : parseFieldDescriptor (T k).2.2.1 = some ty) (hn : narrow ty (.int v) = .int v) (hfit : fits ty (.int v) = true) (hdg : decode cc pc = .ok (.putfield index, 3))
    (kk : ∀ (H1 : Heap) (locs1 : List Loc), va_P D cl (g_w sh dA ad (g_I σ q0 k v)) H1 → va_D A (g_w sh dA ad (g_I σ q0 k v)) → va_S A H0 H1 locs1 → W p l e R s m args below meth c H1 locs1 cells slots Q (F0 m (pc + 3) ls rest)) : W p l e R s m args below meth c H locs cells slots Q (F0 m pc ls (.int v :: .ref (ad q0) :: rest)) := by
  refine va_putF hexec hb hts hin ty0 hty hnm hown hK hP hD hS0 q0 (g_at_o hs) hc k hk hlink hsame hfin hin2 hdecl hd hn hfit (by rw [g_fs_len]; exact (List.getElem?_eq_some_iff.mp hcs).1) hdg (fun H1 locs1 a1 a2 a3 => ?_)
  rw [g_set_oI hs hcs] at a1 a2
  exact kk H1 locs1 a1 a2 a3
end GF
