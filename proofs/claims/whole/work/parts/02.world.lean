/-! A world by a shape: the cells of one system at fixed addresses, its numbers by place and slot. -/
/-- the numbers: ints (booleans too) and longs, by the cell's place and the slot or index -/
abbrev g_S : Type := (Nat → Nat → Int32) × (Nat → Nat → Int64)
def g_2 {α : Type} (f : Nat → Nat → α) (p k : Nat) (v : α) : Nat → Nat → α := fun p' k' => if p' = p ∧ k' = k then v else f p' k'
theorem g_2_self {α : Type} (f : Nat → Nat → α) (p k : Nat) (v : α) : g_2 f p k v p k = v := by simp [g_2]
theorem g_2_ne {α : Type} (f : Nat → Nat → α) {p k p' k' : Nat} (v : α) (h : ¬ (p' = p ∧ k' = k)) : g_2 f p k v p' k' = f p' k' := by simp [g_2, h]
theorem g_2_p {α : Type} (f : Nat → Nat → α) {p k p' : Nat} (v : α) (h : p' ≠ p) : g_2 f p k v p' = f p' := by
  funext j
  simp [g_2, h]
theorem g_2_row {α : Type} (f : Nat → Nat → α) (p k : Nat) (v : α) : g_2 f p k v p = fun j => if j = k then v else f p j := by
  funext j
  simp [g_2]
def g_I (σ : g_S) (p k : Nat) (v : Int32) : g_S := (g_2 σ.1 p k v, σ.2)
def g_L (σ : g_S) (p k : Nat) (v : Int64) : g_S := (σ.1, g_2 σ.2 p k v)
/-- a cell's kind: 0, class, slots (0 an int, 1 a long, q + 2 the cell at place q); 1, 2, 3 and a length: ints, booleans, longs; t + 4, length, places: references, array class t + 3 -/
abbrev g_Sh : Type := List (Nat × Nat × List Nat)
def g_v (ad : Nat → Nat) (σ : g_S) (p k : Nat) : Nat → Value
  | 0 => .int (σ.1 p k)
  | 1 => .long (σ.2 p k)
  | q + 2 => .ref (ad q)
def g_mi {α β : Type} (f : Nat → α → β) : Nat → List α → List β
  | _, [] => []
  | i, a :: l => f i a :: g_mi f (i + 1) l
theorem g_mi_get {α β : Type} (f : Nat → α → β) : ∀ (l : List α) (i k : Nat), (g_mi f i l)[k]? = (l[k]?).map (f (i + k)) := by
  intro l
  induction l with
  | nil => intro i k; rfl
  | cons a l ih =>
    intro i k
    match k with
    | 0 => rfl
    | k + 1 =>
      show (g_mi f (i + 1) l)[k]? = (l[k]?).map (f (i + (k + 1)))
      rw [ih (i + 1) k, show i + 1 + k = i + (k + 1) by omega]
theorem g_mi_len {α β : Type} (f : Nat → α → β) : ∀ (l : List α) (i : Nat), (g_mi f i l).length = l.length := by
  intro l
  induction l with
  | nil => intro i; rfl
  | cons a l ih =>
    intro i
    show (g_mi f (i + 1) l).length + 1 = l.length + 1
    rw [ih]
theorem g_mi_at {α β : Type} (f : Nat → α → β) (l : List α) (k : Nat) : (g_mi f 0 l)[k]? = (l[k]?).map (f k) := by
  rw [g_mi_get, Nat.zero_add]
def g_fs (ad : Nat → Nat) (σ : g_S) (p : Nat) (cs : List Nat) : List Value := g_mi (fun k c => g_v ad σ p k c) 0 cs
def g_e (dA : Nat → ClassId) (ad : Nat → Nat) (σ : g_S) (p : Nat) (c : Nat × Nat × List Nat) : va_E := match c.1 with
  | 0 => .inr (c.2.1, g_fs ad σ p c.2.2)
  | 1 => .inl (dA 0, c.2.1, .inl (σ.1 p))
  | 2 => .inl (dA 1, c.2.1, .inl (σ.1 p))
  | 3 => .inl (dA 2, c.2.1, .inr (.inl (σ.2 p)))
  | t + 4 => .inl (dA (t + 3), c.2.1, .inr (.inr (.inr (.inr (fun j => (c.2.2[j]?).map ad)))))
def g_w (sh : g_Sh) (dA : Nat → ClassId) (ad : Nat → Nat) (σ : g_S) : va_W := g_mi (fun p c => (ad p, g_e dA ad σ p c)) 0 sh
section GW
variable {sh : g_Sh} {dA : Nat → ClassId} {ad : Nat → Nat} {σ τ : g_S} {A : Nat → Prop}
theorem g_w_at {p : Nat} {c : Nat × Nat × List Nat} (h : sh[p]? = some c) : (g_w sh dA ad σ)[p]? = some (ad p, g_e dA ad σ p c) := by
  simp [g_w, g_mi_at, h]
theorem g_w_adr {p : Nat} {q : Nat × va_E} (h : (g_w sh dA ad σ)[p]? = some q) : ∃ c, sh[p]? = some c ∧ q = (ad p, g_e dA ad σ p c) := by
  simp only [g_w, g_mi_at, Option.map_eq_some_iff] at h
  obtain ⟨c, h1, h2⟩ := h
  exact ⟨c, h1, h2.symm⟩
theorem g_at_o {p ci : Nat} {cs : List Nat} (h : sh[p]? = some (0, ci, cs)) : (g_w sh dA ad σ)[p]? = some (ad p, .inr (ci, g_fs ad σ p cs)) := g_w_at h
theorem g_at_i {p n : Nat} {cs : List Nat} (h : sh[p]? = some (1, n, cs)) : (g_w sh dA ad σ)[p]? = some (ad p, .inl (dA 0, n, .inl (σ.1 p))) := g_w_at h
theorem g_at_z {p n : Nat} {cs : List Nat} (h : sh[p]? = some (2, n, cs)) : (g_w sh dA ad σ)[p]? = some (ad p, .inl (dA 1, n, .inl (σ.1 p))) := g_w_at h
theorem g_at_l {p n : Nat} {cs : List Nat} (h : sh[p]? = some (3, n, cs)) : (g_w sh dA ad σ)[p]? = some (ad p, .inl (dA 2, n, .inr (.inl (σ.2 p)))) := g_w_at h
theorem g_at_q {p n t : Nat} {cs : List Nat} (h : sh[p]? = some (t + 4, n, cs)) : (g_w sh dA ad σ)[p]? = some (ad p, .inl (dA (t + 3), n, .inr (.inr (.inr (.inr (fun j => (cs[j]?).map ad)))))) := g_w_at h
theorem g_fs_at {p k c : Nat} {cs : List Nat} (h : cs[k]? = some c) : (g_fs ad σ p cs)[k]? = some (g_v ad σ p k c) := by
  simp [g_fs, g_mi_at, h]
theorem g_fs_len {p : Nat} {cs : List Nat} : (g_fs ad σ p cs).length = cs.length := g_mi_len _ _ _
theorem g_D (h : va_D A (g_w sh dA ad σ)) : va_D A (g_w sh dA ad τ) := by
  refine ⟨fun i j p q hi hj e => ?_, fun k q hk => ?_⟩
  · obtain ⟨ci, h1, rfl⟩ := g_w_adr hi
    obtain ⟨cj, h2, rfl⟩ := g_w_adr hj
    exact h.1 i j _ _ (g_w_at h1) (g_w_at h2) e
  · obtain ⟨c, h1, rfl⟩ := g_w_adr hk
    exact h.2 k (ad k, g_e dA ad σ k c) (g_w_at h1)
theorem g_A {sz : Nat} : va_A (g_w sh dA ad σ) sz = va_A (g_w sh dA ad τ) sz := by
  have key : ∀ (σ τ : g_S) (q : Nat), va_A (g_w sh dA ad σ) sz q → va_A (g_w sh dA ad τ) sz q := by
    intro σ τ q h
    rcases h with ⟨k, e, h⟩ | h
    · obtain ⟨c, h1, h2⟩ := g_w_adr h
      obtain ⟨rfl, -⟩ := Prod.mk.inj h2
      exact Or.inl ⟨k, _, g_w_at h1⟩
    · exact Or.inr h
  funext q
  exact propext ⟨key σ τ q, key τ σ q⟩
theorem g_e_I {p k i : Nat} {v : Int32} {c : Nat × Nat × List Nat} (h : i ≠ p) : g_e dA ad (g_I σ p k v) i c = g_e dA ad σ i c := by
  have h1 : (g_I σ p k v).1 i = σ.1 i := g_2_p _ _ h
  have h2 : (g_I σ p k v).2 = σ.2 := rfl
  have h3 : g_fs ad (g_I σ p k v) i c.2.2 = g_fs ad σ i c.2.2 := by
    unfold g_fs
    congr 1
    funext k' c'
    match c' with
    | 0 => simp only [g_v, h1]
    | 1 => rfl
    | q + 2 => rfl
  unfold g_e
  simp only [h1, h2, h3]
theorem g_e_L {p k i : Nat} {v : Int64} {c : Nat × Nat × List Nat} (h : i ≠ p) : g_e dA ad (g_L σ p k v) i c = g_e dA ad σ i c := by
  have h1 : (g_L σ p k v).2 i = σ.2 i := g_2_p _ _ h
  have h2 : (g_L σ p k v).1 = σ.1 := rfl
  have h3 : g_fs ad (g_L σ p k v) i c.2.2 = g_fs ad σ i c.2.2 := by
    unfold g_fs
    congr 1
    funext k' c'
    match c' with
    | 0 => rfl
    | 1 => simp only [g_v, h1]
    | q + 2 => rfl
  unfold g_e
  simp only [h1, h2, h3]
theorem g_set {p : Nat} {c : Nat × Nat × List Nat} {e : va_E} (h : sh[p]? = some c) (hp : e = g_e dA ad τ p c) (ho : ∀ i c', i ≠ p → g_e dA ad τ i c' = g_e dA ad σ i c') : (g_w sh dA ad σ).set p (ad p, e) = g_w sh dA ad τ := by
  apply List.ext_getElem?
  intro i
  have hl : p < (g_w sh dA ad σ).length := (List.getElem?_eq_some_iff.mp (g_w_at h)).1
  by_cases hi : i = p
  · subst hi
    rw [List.getElem?_set_self hl, g_w_at h, hp]
  · rw [List.getElem?_set_ne (Ne.symm hi)]
    simp only [g_w, g_mi_at]
    cases hc : sh[i]? with
    | none => rfl
    | some c' => simp only [Option.map_some, ho i c' hi]
theorem g_fs_I {p k : Nat} {cs : List Nat} {v : Int32} (hk : cs[k]? = some 0) : (g_fs ad σ p cs).set k (.int v) = g_fs ad (g_I σ p k v) p cs := by
  apply List.ext_getElem?
  intro j
  have hl : k < (g_fs ad σ p cs).length := by rw [g_fs_len]; exact (List.getElem?_eq_some_iff.mp hk).1
  by_cases hj : j = k
  · subst hj
    rw [List.getElem?_set_self hl, g_fs_at hk]
    simp [g_v, g_I, g_2]
  · rw [List.getElem?_set_ne (Ne.symm hj)]
    simp only [g_fs, g_mi_at]
    cases hc : cs[j]? with
    | none => rfl
    | some c' =>
      simp only [Option.map_some]
      match c' with
      | 0 => simp [g_v, g_I, g_2, hj]
      | 1 => rfl
      | q + 2 => rfl
theorem g_fs_L {p k : Nat} {cs : List Nat} {v : Int64} (hk : cs[k]? = some 1) : (g_fs ad σ p cs).set k (.long v) = g_fs ad (g_L σ p k v) p cs := by
  apply List.ext_getElem?
  intro j
  have hl : k < (g_fs ad σ p cs).length := by rw [g_fs_len]; exact (List.getElem?_eq_some_iff.mp hk).1
  by_cases hj : j = k
  · subst hj
    rw [List.getElem?_set_self hl, g_fs_at hk]
    simp [g_v, g_L, g_2]
  · rw [List.getElem?_set_ne (Ne.symm hj)]
    simp only [g_fs, g_mi_at]
    cases hc : cs[j]? with
    | none => rfl
    | some c' =>
      simp only [Option.map_some]
      match c' with
      | 0 => rfl
      | 1 => simp [g_v, g_L, g_2, hj]
      | q + 2 => rfl
theorem g_set_oI {p ci k : Nat} {cs : List Nat} {v : Int32} (h : sh[p]? = some (0, ci, cs)) (hk : cs[k]? = some 0) : (g_w sh dA ad σ).set p (ad p, .inr (ci, (g_fs ad σ p cs).set k (.int v))) = g_w sh dA ad (g_I σ p k v) := by
  refine g_set h ?_ (fun i c' hi => g_e_I hi)
  rw [g_fs_I hk]
  rfl
theorem g_set_oL {p ci k : Nat} {cs : List Nat} {v : Int64} (h : sh[p]? = some (0, ci, cs)) (hk : cs[k]? = some 1) : (g_w sh dA ad σ).set p (ad p, .inr (ci, (g_fs ad σ p cs).set k (.long v))) = g_w sh dA ad (g_L σ p k v) := by
  refine g_set h ?_ (fun i c' hi => g_e_L hi)
  rw [g_fs_L hk]
  rfl
theorem g_set_i {p n k : Nat} {cs : List Nat} {v : Int32} (h : sh[p]? = some (1, n, cs)) : (g_w sh dA ad σ).set p (ad p, .inl (dA 0, n, .inl (upd (σ.1 p) k v))) = g_w sh dA ad (g_I σ p k v) := by
  refine g_set h ?_ (fun i c' hi => g_e_I hi)
  show _ = Sum.inl (dA 0, n, Sum.inl (g_2 σ.1 p k v p))
  rw [g_2_row]
  rfl
theorem g_set_z {p n k : Nat} {cs : List Nat} {v : Int32} (h : sh[p]? = some (2, n, cs)) : (g_w sh dA ad σ).set p (ad p, .inl (dA 1, n, .inl (upd (σ.1 p) k v))) = g_w sh dA ad (g_I σ p k v) := by
  refine g_set h ?_ (fun i c' hi => g_e_I hi)
  show _ = Sum.inl (dA 1, n, Sum.inl (g_2 σ.1 p k v p))
  rw [g_2_row]
  rfl
theorem g_set_l {p n k : Nat} {cs : List Nat} {v : Int64} (h : sh[p]? = some (3, n, cs)) : (g_w sh dA ad σ).set p (ad p, .inl (dA 2, n, .inr (.inl (vp_updL (σ.2 p) k v)))) = g_w sh dA ad (g_L σ p k v) := by
  refine g_set h ?_ (fun i c' hi => g_e_L hi)
  show _ = Sum.inl (dA 2, n, Sum.inr (Sum.inl (g_2 σ.2 p k v p)))
  rw [g_2_row]
  rfl
end GW
/-! rows: an instruction on such a world -/
section GR
variable {p : Program} {l : Launch} {e : Env} {R : Room} {s : State} {m : MethodId} {args : Array Value} {below : List Frame} {meth : Method} {c : Code} {H : Heap} {locs : List Loc} {cells slots : Nat} {Q : State → Prop}
variable {cc : ByteArray} {pc : Nat} {ls : Array Slot} {rest : List Value} {D : va_G} {cl : List vw_C} {A : Nat → Prop} {tys : List (ClassId × FieldType)} {H0 : Heap} {sh : g_Sh} {dA : Nat → ClassId} {ad : Nat → Nat} {σ : g_S}
theorem g_get (hexec : p.tables.exec = Jvm.exec) (hb : c.code = cc) {own ref C : String} {T : u_T} {N ci index : Nat} {Ts : List Cond} (hts : ∀ w ∈ Ts, w.before args s = true) (hin : ∀ w ∈ u_ws C T N, w ∈ Ts) (hown : s.vm.findClass own = some m.cls) (hK : va_K D cl tys s) (hP : va_P D cl (g_w sh dA ad σ) H) (q0 : Nat) {cs : List Nat} (hs : sh[q0]? = some (0, ci, cs)) (hc : cl[ci]? = some (C, T, N)) (k : Nat) (hk : k < N) {cd : Nat} (hcs : cs[k]? = some cd) (hlink : (Cond.fieldLink own index ref (T k).2.1 (T k).2.2.1).before args s = true) (hsame : ∀ x, s.fieldFound? (T k).1 (T k).2.1 (T k).2.2.1 = some x → s.fieldFound? ref (T k).2.1 (T k).2.2.1 = some x) {v : Value} (hv : g_v ad σ q0 k cd = v) (hdg : decode cc pc = .ok (.getfield index, 3))
    (kk : W p l e R s m args below meth c H locs cells slots Q (F0 m (pc + 3) ls (v :: rest))) : W p l e R s m args below meth c H locs cells slots Q (F0 m pc ls (.ref (ad q0) :: rest)) :=
  va_get hexec hb hts hin hown hK hP q0 (g_at_o hs) hc k hk hlink hsame ((g_fs_at hcs).trans (congrArg some hv)) hdg kk
theorem g_getN (hexec : p.tables.exec = Jvm.exec) (hb : c.code = cc) {own ref C host : String} {T : u_T} {N ci index : Nat} {Ts : List Cond} (hts : ∀ w ∈ Ts, w.before args s = true) (hin : ∀ w ∈ u_ws C T N, w ∈ Ts) (hown : s.vm.findClass own = some m.cls) (hK : va_K D cl tys s) (hP : va_P D cl (g_w sh dA ad σ) H) (q0 : Nat) {cs : List Nat} (hs : sh[q0]? = some (0, ci, cs)) (hc : cl[ci]? = some (C, T, N)) (k : Nat) (hk : k < N) {cd : Nat} (hcs : cs[k]? = some cd) (hlink : (Cond.fieldLinkNest own index ref (T k).2.1 (T k).2.2.1 host).before args s = true) (hsame : ∀ x, s.fieldFound? (T k).1 (T k).2.1 (T k).2.2.1 = some x → s.fieldFound? ref (T k).2.1 (T k).2.2.1 = some x) {v : Value} (hv : g_v ad σ q0 k cd = v) (hdg : decode cc pc = .ok (.getfield index, 3))
    (kk : W p l e R s m args below meth c H locs cells slots Q (F0 m (pc + 3) ls (v :: rest))) : W p l e R s m args below meth c H locs cells slots Q (F0 m pc ls (.ref (ad q0) :: rest)) :=
  va_getN hexec hb hts hin hown hK hP q0 (g_at_o hs) hc k hk hlink hsame ((g_fs_at hcs).trans (congrArg some hv)) hdg kk
theorem g_putI (hexec : p.tables.exec = Jvm.exec) (hb : c.code = cc) {own ref C : String} {T : u_T} {N ci index : Nat} {Ts : List Cond} (hts : ∀ w ∈ Ts, w.before args s = true) (hin : ∀ w ∈ u_ws C T N, w ∈ Ts) (ty0 : Nat → FieldType) (hty : ∀ k, k < N → parseFieldDescriptor (T k).2.2.1 = some (ty0 k)) (hnm : ∀ a, a < N → ∀ b, b < N → a ≠ b → (T a).2.1 ≠ (T b).2.1) (hown : s.vm.findClass own = some m.cls) (hK : va_K D cl tys s) (hP : va_P D cl (g_w sh dA ad σ) H) (hD : va_D A (g_w sh dA ad σ)) (hS0 : va_S A H0 H locs) (q0 : Nat) {cs : List Nat} (hs : sh[q0]? = some (0, ci, cs)) (hc : cl[ci]? = some (C, T, N)) (k : Nat) (hk : k < N) (hcs : cs[k]? = some 0) (hlink : (Cond.fieldLink own index ref (T k).2.1 (T k).2.2.1).before args s = true) (hsame : ∀ x, s.fieldFound? (T k).1 (T k).2.1 (T k).2.2.1 = some x → s.fieldFound? ref (T k).2.1 (T k).2.2.1 = some x) (hfin : (T k).2.2.2 = false) {ty : FieldType} {v : Int32} (hd : parseFieldDescriptor (T k).2.2.1 = some ty) (hn : narrow ty (.int v) = .int v) (hfit : fits ty (.int v) = true) (hdg : decode cc pc = .ok (.putfield index, 3))
    (kk : ∀ (H1 : Heap) (locs1 : List Loc), va_P D cl (g_w sh dA ad (g_I σ q0 k v)) H1 → va_D A (g_w sh dA ad (g_I σ q0 k v)) → va_S A H0 H1 locs1 → W p l e R s m args below meth c H1 locs1 cells slots Q (F0 m (pc + 3) ls rest)) : W p l e R s m args below meth c H locs cells slots Q (F0 m pc ls (.int v :: .ref (ad q0) :: rest)) := by
  refine va_put hexec hb hts hin ty0 hty hnm hown hK hP hD hS0 q0 (g_at_o hs) hc k hk hlink hsame hfin hd hn hfit (by rw [g_fs_len]; exact (List.getElem?_eq_some_iff.mp hcs).1) hdg (fun H1 locs1 a1 a2 a3 => ?_)
  rw [g_set_oI hs hcs] at a1 a2
  exact kk H1 locs1 a1 a2 a3
theorem g_putIN (hexec : p.tables.exec = Jvm.exec) (hb : c.code = cc) {own ref C host : String} {T : u_T} {N ci index : Nat} {Ts : List Cond} (hts : ∀ w ∈ Ts, w.before args s = true) (hin : ∀ w ∈ u_ws C T N, w ∈ Ts) (ty0 : Nat → FieldType) (hty : ∀ k, k < N → parseFieldDescriptor (T k).2.2.1 = some (ty0 k)) (hnm : ∀ a, a < N → ∀ b, b < N → a ≠ b → (T a).2.1 ≠ (T b).2.1) (hown : s.vm.findClass own = some m.cls) (hK : va_K D cl tys s) (hP : va_P D cl (g_w sh dA ad σ) H) (hD : va_D A (g_w sh dA ad σ)) (hS0 : va_S A H0 H locs) (q0 : Nat) {cs : List Nat} (hs : sh[q0]? = some (0, ci, cs)) (hc : cl[ci]? = some (C, T, N)) (k : Nat) (hk : k < N) (hcs : cs[k]? = some 0) (hlink : (Cond.fieldLinkNest own index ref (T k).2.1 (T k).2.2.1 host).before args s = true) (hsame : ∀ x, s.fieldFound? (T k).1 (T k).2.1 (T k).2.2.1 = some x → s.fieldFound? ref (T k).2.1 (T k).2.2.1 = some x) (hfin : (T k).2.2.2 = false) {ty : FieldType} {v : Int32} (hd : parseFieldDescriptor (T k).2.2.1 = some ty) (hn : narrow ty (.int v) = .int v) (hfit : fits ty (.int v) = true) (hdg : decode cc pc = .ok (.putfield index, 3))
    (kk : ∀ (H1 : Heap) (locs1 : List Loc), va_P D cl (g_w sh dA ad (g_I σ q0 k v)) H1 → va_D A (g_w sh dA ad (g_I σ q0 k v)) → va_S A H0 H1 locs1 → W p l e R s m args below meth c H1 locs1 cells slots Q (F0 m (pc + 3) ls rest)) : W p l e R s m args below meth c H locs cells slots Q (F0 m pc ls (.int v :: .ref (ad q0) :: rest)) := by
  refine va_putN hexec hb hts hin ty0 hty hnm hown hK hP hD hS0 q0 (g_at_o hs) hc k hk hlink hsame hfin hd hn hfit (by rw [g_fs_len]; exact (List.getElem?_eq_some_iff.mp hcs).1) hdg (fun H1 locs1 a1 a2 a3 => ?_)
  rw [g_set_oI hs hcs] at a1 a2
  exact kk H1 locs1 a1 a2 a3
theorem g_putL (hexec : p.tables.exec = Jvm.exec) (hb : c.code = cc) {own ref C : String} {T : u_T} {N ci index : Nat} {Ts : List Cond} (hts : ∀ w ∈ Ts, w.before args s = true) (hin : ∀ w ∈ u_ws C T N, w ∈ Ts) (ty0 : Nat → FieldType) (hty : ∀ k, k < N → parseFieldDescriptor (T k).2.2.1 = some (ty0 k)) (hnm : ∀ a, a < N → ∀ b, b < N → a ≠ b → (T a).2.1 ≠ (T b).2.1) (hown : s.vm.findClass own = some m.cls) (hK : va_K D cl tys s) (hP : va_P D cl (g_w sh dA ad σ) H) (hD : va_D A (g_w sh dA ad σ)) (hS0 : va_S A H0 H locs) (q0 : Nat) {cs : List Nat} (hs : sh[q0]? = some (0, ci, cs)) (hc : cl[ci]? = some (C, T, N)) (k : Nat) (hk : k < N) (hcs : cs[k]? = some 1) (hlink : (Cond.fieldLink own index ref (T k).2.1 (T k).2.2.1).before args s = true) (hsame : ∀ x, s.fieldFound? (T k).1 (T k).2.1 (T k).2.2.1 = some x → s.fieldFound? ref (T k).2.1 (T k).2.2.1 = some x) (hfin : (T k).2.2.2 = false) {ty : FieldType} {v : Int64} (hd : parseFieldDescriptor (T k).2.2.1 = some ty) (hn : narrow ty (.long v) = .long v) (hfit : fits ty (.long v) = true) (hdg : decode cc pc = .ok (.putfield index, 3))
    (kk : ∀ (H1 : Heap) (locs1 : List Loc), va_P D cl (g_w sh dA ad (g_L σ q0 k v)) H1 → va_D A (g_w sh dA ad (g_L σ q0 k v)) → va_S A H0 H1 locs1 → W p l e R s m args below meth c H1 locs1 cells slots Q (F0 m (pc + 3) ls rest)) : W p l e R s m args below meth c H locs cells slots Q (F0 m pc ls (.long v :: .ref (ad q0) :: rest)) := by
  refine va_put hexec hb hts hin ty0 hty hnm hown hK hP hD hS0 q0 (g_at_o hs) hc k hk hlink hsame hfin hd hn hfit (by rw [g_fs_len]; exact (List.getElem?_eq_some_iff.mp hcs).1) hdg (fun H1 locs1 a1 a2 a3 => ?_)
  rw [g_set_oL hs hcs] at a1 a2
  exact kk H1 locs1 a1 a2 a3
theorem g_putLN (hexec : p.tables.exec = Jvm.exec) (hb : c.code = cc) {own ref C host : String} {T : u_T} {N ci index : Nat} {Ts : List Cond} (hts : ∀ w ∈ Ts, w.before args s = true) (hin : ∀ w ∈ u_ws C T N, w ∈ Ts) (ty0 : Nat → FieldType) (hty : ∀ k, k < N → parseFieldDescriptor (T k).2.2.1 = some (ty0 k)) (hnm : ∀ a, a < N → ∀ b, b < N → a ≠ b → (T a).2.1 ≠ (T b).2.1) (hown : s.vm.findClass own = some m.cls) (hK : va_K D cl tys s) (hP : va_P D cl (g_w sh dA ad σ) H) (hD : va_D A (g_w sh dA ad σ)) (hS0 : va_S A H0 H locs) (q0 : Nat) {cs : List Nat} (hs : sh[q0]? = some (0, ci, cs)) (hc : cl[ci]? = some (C, T, N)) (k : Nat) (hk : k < N) (hcs : cs[k]? = some 1) (hlink : (Cond.fieldLinkNest own index ref (T k).2.1 (T k).2.2.1 host).before args s = true) (hsame : ∀ x, s.fieldFound? (T k).1 (T k).2.1 (T k).2.2.1 = some x → s.fieldFound? ref (T k).2.1 (T k).2.2.1 = some x) (hfin : (T k).2.2.2 = false) {ty : FieldType} {v : Int64} (hd : parseFieldDescriptor (T k).2.2.1 = some ty) (hn : narrow ty (.long v) = .long v) (hfit : fits ty (.long v) = true) (hdg : decode cc pc = .ok (.putfield index, 3))
    (kk : ∀ (H1 : Heap) (locs1 : List Loc), va_P D cl (g_w sh dA ad (g_L σ q0 k v)) H1 → va_D A (g_w sh dA ad (g_L σ q0 k v)) → va_S A H0 H1 locs1 → W p l e R s m args below meth c H1 locs1 cells slots Q (F0 m (pc + 3) ls rest)) : W p l e R s m args below meth c H locs cells slots Q (F0 m pc ls (.long v :: .ref (ad q0) :: rest)) := by
  refine va_putN hexec hb hts hin ty0 hty hnm hown hK hP hD hS0 q0 (g_at_o hs) hc k hk hlink hsame hfin hd hn hfit (by rw [g_fs_len]; exact (List.getElem?_eq_some_iff.mp hcs).1) hdg (fun H1 locs1 a1 a2 a3 => ?_)
  rw [g_set_oL hs hcs] at a1 a2
  exact kk H1 locs1 a1 a2 a3
theorem g_iald (hexec : p.tables.exec = Jvm.exec) (hb : c.code = cc) (hK : va_K D cl tys s) (hP : va_P D cl (g_w sh dA ad σ) H) (q0 : Nat) {n : Nat} {cs : List Nat} (hs : sh[q0]? = some (1, n, cs)) (ht : tys[0]? = some (dA 0, .int)) {i : Int32} (hin : vp_in i n) {j : Nat} (hj : i.toNatClampNeg = j) (hdg : decode cc pc = .ok (.iaload, 1))
    (kk : W p l e R s m args below meth c H locs cells slots Q (F0 m (pc + 1) ls (.int (σ.1 q0 j) :: rest))) : W p l e R s m args below meth c H locs cells slots Q (F0 m pc ls (.int i :: .ref (ad q0) :: rest)) := by
  subst hj
  exact va_iald hexec hb hK hP q0 0 (g_at_i hs) ht hin hdg kk
theorem g_zald (hexec : p.tables.exec = Jvm.exec) (hb : c.code = cc) (hK : va_K D cl tys s) (hP : va_P D cl (g_w sh dA ad σ) H) (q0 : Nat) {n : Nat} {cs : List Nat} (hs : sh[q0]? = some (2, n, cs)) (ht : tys[1]? = some (dA 1, .boolean)) {i : Int32} (hin : vp_in i n) {j : Nat} (hj : i.toNatClampNeg = j) (hdg : decode cc pc = .ok (.baload, 1))
    (kk : W p l e R s m args below meth c H locs cells slots Q (F0 m (pc + 1) ls (.int (σ.1 q0 j) :: rest))) : W p l e R s m args below meth c H locs cells slots Q (F0 m pc ls (.int i :: .ref (ad q0) :: rest)) := by
  subst hj
  exact va_zald hexec hb hK hP q0 1 (g_at_z hs) ht hin hdg kk
theorem g_lald (hexec : p.tables.exec = Jvm.exec) (hb : c.code = cc) (hK : va_K D cl tys s) (hP : va_P D cl (g_w sh dA ad σ) H) (q0 : Nat) {n : Nat} {cs : List Nat} (hs : sh[q0]? = some (3, n, cs)) (ht : tys[2]? = some (dA 2, .long)) {i : Int32} (hin : vp_in i n) {j : Nat} (hj : i.toNatClampNeg = j) (hdg : decode cc pc = .ok (.laload, 1))
    (kk : W p l e R s m args below meth c H locs cells slots Q (F0 m (pc + 1) ls (.long (σ.2 q0 j) :: rest))) : W p l e R s m args below meth c H locs cells slots Q (F0 m pc ls (.int i :: .ref (ad q0) :: rest)) := by
  subst hj
  exact va_lald hexec hb hK hP q0 2 (g_at_l hs) ht hin hdg kk
theorem g_iast (hexec : p.tables.exec = Jvm.exec) (hb : c.code = cc) (hK : va_K D cl tys s) (hP : va_P D cl (g_w sh dA ad σ) H) (hD : va_D A (g_w sh dA ad σ)) (hS : va_S A H0 H locs) (q0 : Nat) {n : Nat} {cs : List Nat} (hs : sh[q0]? = some (1, n, cs)) (ht : tys[0]? = some (dA 0, .int)) {i x : Int32} (hin : vp_in i n) {j : Nat} (hj : i.toNatClampNeg = j) (hdg : decode cc pc = .ok (.iastore, 1))
    (kk : ∀ (H1 : Heap) (locs1 : List Loc), va_P D cl (g_w sh dA ad (g_I σ q0 j x)) H1 → va_D A (g_w sh dA ad (g_I σ q0 j x)) → va_S A H0 H1 locs1 → W p l e R s m args below meth c H1 locs1 cells slots Q (F0 m (pc + 1) ls rest)) : W p l e R s m args below meth c H locs cells slots Q (F0 m pc ls (.int x :: .int i :: .ref (ad q0) :: rest)) := by
  subst hj
  refine va_iast hexec hb hK hP hD hS q0 0 (g_at_i hs) ht hin hdg (fun H1 locs1 a1 a2 a3 => ?_)
  rw [g_set_i hs] at a1 a2
  exact kk H1 locs1 a1 a2 a3
theorem g_zast (hexec : p.tables.exec = Jvm.exec) (hb : c.code = cc) (hK : va_K D cl tys s) (hP : va_P D cl (g_w sh dA ad σ) H) (hD : va_D A (g_w sh dA ad σ)) (hS : va_S A H0 H locs) (q0 : Nat) {n : Nat} {cs : List Nat} (hs : sh[q0]? = some (2, n, cs)) (ht : tys[1]? = some (dA 1, .boolean)) {i x : Int32} (hx : vp_nar .boolean x = x) (hin : vp_in i n) {j : Nat} (hj : i.toNatClampNeg = j) (hdg : decode cc pc = .ok (.bastore, 1))
    (kk : ∀ (H1 : Heap) (locs1 : List Loc), va_P D cl (g_w sh dA ad (g_I σ q0 j x)) H1 → va_D A (g_w sh dA ad (g_I σ q0 j x)) → va_S A H0 H1 locs1 → W p l e R s m args below meth c H1 locs1 cells slots Q (F0 m (pc + 1) ls rest)) : W p l e R s m args below meth c H locs cells slots Q (F0 m pc ls (.int x :: .int i :: .ref (ad q0) :: rest)) := by
  subst hj
  refine va_zast hexec hb hK hP hD hS q0 1 (g_at_z hs) ht hin hdg (fun H1 locs1 a1 a2 a3 => ?_)
  rw [hx, g_set_z hs] at a1 a2
  exact kk H1 locs1 a1 a2 a3
theorem g_last (hexec : p.tables.exec = Jvm.exec) (hb : c.code = cc) (hK : va_K D cl tys s) (hP : va_P D cl (g_w sh dA ad σ) H) (hD : va_D A (g_w sh dA ad σ)) (hS : va_S A H0 H locs) (q0 : Nat) {n : Nat} {cs : List Nat} (hs : sh[q0]? = some (3, n, cs)) (ht : tys[2]? = some (dA 2, .long)) {i : Int32} {x : Int64} (hin : vp_in i n) {j : Nat} (hj : i.toNatClampNeg = j) (hdg : decode cc pc = .ok (.lastore, 1))
    (kk : ∀ (H1 : Heap) (locs1 : List Loc), va_P D cl (g_w sh dA ad (g_L σ q0 j x)) H1 → va_D A (g_w sh dA ad (g_L σ q0 j x)) → va_S A H0 H1 locs1 → W p l e R s m args below meth c H1 locs1 cells slots Q (F0 m (pc + 1) ls rest)) : W p l e R s m args below meth c H locs cells slots Q (F0 m pc ls (.long x :: .int i :: .ref (ad q0) :: rest)) := by
  subst hj
  refine va_last hexec hb hK hP hD hS q0 2 (g_at_l hs) ht hin hdg (fun H1 locs1 a1 a2 a3 => ?_)
  rw [g_set_l hs] at a1 a2
  exact kk H1 locs1 a1 a2 a3
theorem g_alen (hexec : p.tables.exec = Jvm.exec) (hb : c.code = cc) (hK : va_K D cl tys s) (hP : va_P D cl (g_w sh dA ad σ) H) (q0 : Nat) {n t : Nat} {cs : List Nat} (hs : sh[q0]? = some (t + 4, n, cs)) {ty : FieldType} (ht : tys[t + 3]? = some (dA (t + 3), ty)) {v : Int32} (hv : Int32.ofNat n = v) (hdg : decode cc pc = .ok (.arraylength, 1))
    (kk : W p l e R s m args below meth c H locs cells slots Q (F0 m (pc + 1) ls (.int v :: rest))) : W p l e R s m args below meth c H locs cells slots Q (F0 m pc ls (.ref (ad q0) :: rest)) := va_alen hexec hb hK hP q0 (t + 3) (g_at_q hs) ht hv hdg kk
/-- an element of an array of references, known to be the cell at place z -/
theorem g_aald (hexec : p.tables.exec = Jvm.exec) (hb : c.code = cc) (hK : va_K D cl tys s) (hP : va_P D cl (g_w sh dA ad σ) H) (q0 : Nat) {n t : Nat} {cs : List Nat} (hs : sh[q0]? = some (t + 4, n, cs)) {ty : FieldType} (hty : ty.isReference = true) (ht : tys[t + 3]? = some (dA (t + 3), ty)) {i : Int32} (hin : vp_in i n) {z : Nat} (hz : cs[i.toNatClampNeg]? = some z) (hdg : decode cc pc = .ok (.aaload, 1))
    (kk : W p l e R s m args below meth c H locs cells slots Q (F0 m (pc + 1) ls (.ref (ad z) :: rest))) : W p l e R s m args below meth c H locs cells slots Q (F0 m pc ls (.int i :: .ref (ad q0) :: rest)) := by
  have hlt : i.toNatClampNeg < n := Nat.not_le.mp fun q => hin (Or.inr q)
  have hcell := hP q0 _ (g_at_q (dA := dA) (ad := ad) (σ := σ) hs)
  refine W.aald (v := .ref (ad z)) (ty := ty) hexec hb hcell ((hK.2 (t + 3) _ ht).1 n (fun j => va_rf ((cs[j]?).map ad))) hty (fun q => by cases q) (by show ¬ (i < 0 ∨ (arrV _ _ _).slots.size ≤ _); rw [arrV_size]; exact hin) (by show (arrV _ _ _).slots[_]? = _; rw [arrV_read _ _ hlt]; show some (va_rf ((cs[i.toNatClampNeg]?).map ad)) = _; rw [hz]; rfl) rfl rfl hdg kk
end GR
