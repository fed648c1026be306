/-! contracts over such a world: what they ask, what they leave, and the calls -/
/-- Z: what a system needs besides its cells (static tables, nest words), for cells A that may change -/
def g_Zok (Z : (Nat → Prop) → State → Prop) : Prop :=
  (∀ (A : Nat → Prop) (U : State) (g : JFrame) (mk : MethodId) (a : Array Value), Z A U → Z A (U.calling g mk a)) ∧
  ∀ (A B : Nat → Prop) (s U : State), s.WarmedH U.vm → (∀ q : Nat, q < s.heap.size → ¬ A q → U.heap[q]? = s.heap[q]?) → (∀ q, B q → A q) → Z A s → Z B U
/-- a method that only reads -/
def g_R (D : va_G) (cl : List vw_C) (tys : List (ClassId × FieldType)) (w : va_W) (Z : (Nat → Prop) → State → Prop) (U : State) : Prop := va_P D cl w U.heap ∧ va_K D cl tys U ∧ Z (fun _ => False) U
/-- a method that writes -/
def g_W (D : va_G) (cl : List vw_C) (tys : List (ClassId × FieldType)) (w : va_W) (sz : Nat) (Z : (Nat → Prop) → State → Prop) (U : State) : Prop := U.heap.size = sz ∧ va_P D cl w U.heap ∧ va_K D cl tys U ∧ va_D (fun _ => True) w ∧ Z (va_A w sz) U
section GC
variable {p : Program} {l : Launch} {e : Env} {R : Room} {s : State} {m : MethodId} {args : Array Value} {below : List Frame} {meth : Method} {c : Code} {H : Heap} {locs : List Loc} {cells slots : Nat} {Q : State → Prop}
variable {pc : Nat} {ls : Array Slot} {rest st0 : List Value} {a : Array Value} {D : va_G} {cl : List vw_C} {A : Nat → Prop} {tys : List (ClassId × FieldType)} {H0 : Heap} {sh : g_Sh} {dA : Nat → ClassId} {ad : Nat → Nat} {σ : g_S} {Z : (Nat → Prop) → State → Prop}
theorem g_blR (hZ : g_Zok Z) (av : List Value) (w : va_W) : FrameBlind (va_Pc av (g_R D cl tys w Z)) := by
  intro a U g mk h
  obtain ⟨h1, h2, h3, h4⟩ := h
  exact ⟨h1, h2, va_K.moved (u := U) (U := U.calling g mk a) (Vm.Alike.refl U.vm) h3, hZ.1 _ U g mk a h4⟩
theorem g_blW (hZ : g_Zok Z) (av : List Value) (w : va_W) (sz : Nat) : FrameBlind (va_Pc av (g_W D cl tys w sz Z)) := by
  intro a U g mk h
  obtain ⟨h1, h0, h2, h3, h4, h5⟩ := h
  exact ⟨h1, h0, h2, va_K.moved (u := U) (U := U.calling g mk a) (Vm.Alike.refl U.vm) h3, h4, hZ.1 _ U g mk a h5⟩
theorem g_bl0 (av : List Value) : FrameBlind (va_Pc av (fun _ => True)) := fun _ _ _ _ h => h
theorem g_pr0 (av : List Value) : PreS s H (va_Pc av (fun _ => True)) av := ⟨g_bl0 av, fun _ _ _ => ⟨rfl, trivial⟩⟩
/-- statics alone -/
theorem g_blZ (hZ : g_Zok Z) (av : List Value) : FrameBlind (va_Pc av (Z (fun _ => False))) := fun a U g mk h => ⟨h.1, hZ.1 _ U g mk a h.2⟩
theorem g_prZ (hZ : g_Zok Z) (hS : va_S A s.heap H locs) (hz : Z A s) (av : List Value) : PreS s H (va_Pc av (Z (fun _ => False))) av :=
  ⟨g_blZ hZ av, fun U hU hW => ⟨rfl, hZ.2 A _ s U hW (fun q h1 h2 => by rw [hU]; exact hS.2.1 q h1 h2) (fun _ h => h.elim) hz⟩⟩
theorem g_prR (hZ : g_Zok Z) (hK : va_K D cl tys s) {w : va_W} (hP : va_P D cl w H) (hS : va_S A s.heap H locs) (hz : Z A s) (av : List Value) : PreS s H (va_Pc av (g_R D cl tys w Z)) av :=
  ⟨g_blR hZ av w, fun U hU hW => ⟨rfl, by rw [hU]; exact hP, va_K.moved hW.alike hK, hZ.2 A _ s U hW (fun q h1 h2 => by rw [hU]; exact hS.2.1 q h1 h2) (fun _ h => h.elim) hz⟩⟩
theorem g_freeW {w : va_W} (hD : va_D A w) (hS : va_S A H0 H locs) (hA : ∀ q : Nat, H0.size ≤ q → A q) : ∀ q, va_A w H.size q → A q := by
  intro q h
  rcases h with ⟨k, e, h⟩ | h
  · exact hD.2 k _ h
  · exact hA q (Nat.le_trans hS.1 h)
theorem g_prW (hZ : g_Zok Z) (hK : va_K D cl tys s) {w : va_W} (hP : va_P D cl w H) (hD : va_D A w) (hS : va_S A s.heap H locs) (hA : ∀ q : Nat, s.heap.size ≤ q → A q) (hz : Z A s) (av : List Value) : PreS s H (va_Pc av (g_W D cl tys w H.size Z)) av :=
  ⟨g_blW hZ av w H.size, fun U hU hW => ⟨rfl, by rw [hU], by rw [hU]; exact hP, va_K.moved hW.alike hK, hD.weaken (fun _ _ _ _ => trivial), hZ.2 A _ s U hW (fun q h1 h2 => by rw [hU]; exact hS.2.1 q h1 h2) (g_freeW hD hS hA) hz⟩⟩
/-- the receiver: an object of the world -/
theorem g_rc (hK : va_K D cl tys s) (hP : va_P D cl (g_w sh dA ad σ) H) (q0 : Nat) {ci : Nat} {cs : List Nat} {r : vw_C} (hs : sh[q0]? = some (0, ci, cs)) (hc : cl[ci]? = some r) : ∃ cell : Cell, H[ad q0]? = some cell ∧ cell.vm.isStatics = false ∧ s.vm.findClass r.1 = some cell.cls := va_recv hK hP hc (g_at_o hs)
theorem g_pV {b : Addr} {C : String} {Pc : Array Value → State → Prop} {As : List Value} (h : PreS s H Pc (.ref b :: As)) (hr : ∃ cell : Cell, H[b]? = some cell ∧ cell.vm.isStatics = false ∧ s.vm.findClass C = some cell.cls) : PreV s H C b Pc As := ⟨h.1, hr, h.2⟩
/-- calls that leave the heap as it is -/
theorem g_cSi {post : Int32 → Prop} (hr : va_Run p l e R s m args below meth c H locs cells slots 0 0 (F0 m pc ls st0) rest (vp_Si post a) (fun _ => False))
    (kk : ∀ r : Int32, post r → W p l e R s m args below meth c H locs cells slots Q (F0 m (pc + 3) ls (.int r :: rest))) : W p l e R s m args below meth c H locs cells slots Q (F0 m pc ls st0) := by
  intro T hT X
  obtain ⟨v, st₀, t, T', L, h0, X', hL, e1, e2, ⟨r, hv, hp, hh⟩, st⟩ := hr T hT X
  cases hv
  obtain ⟨t2, a1, b1⟩ := kk r hp T' (by rw [e1, hh, h0]) (Stand.forget X' (fun q h => (hL q h).elim))
  exact ⟨t2, st t2 a1, b1⟩
theorem g_cSl {post : Int64 → Prop} (hr : va_Run p l e R s m args below meth c H locs cells slots 0 0 (F0 m pc ls st0) rest (vp_Sl post a) (fun _ => False))
    (kk : ∀ r : Int64, post r → W p l e R s m args below meth c H locs cells slots Q (F0 m (pc + 3) ls (.long r :: rest))) : W p l e R s m args below meth c H locs cells slots Q (F0 m pc ls st0) := by
  intro T hT X
  obtain ⟨v, st₀, t, T', L, h0, X', hL, e1, e2, ⟨r, hv, hp, hh⟩, st⟩ := hr T hT X
  cases hv
  obtain ⟨t2, a1, b1⟩ := kk r hp T' (by rw [e1, hh, h0]) (Stand.forget X' (fun q h => (hL q h).elim))
  exact ⟨t2, st t2 a1, b1⟩
/-- an answer that is null or one of the cells from place b0 on -/
theorem g_cSq {f : Option Nat} {b0 : Nat} (hr : va_Run p l e R s m args below meth c H locs cells slots 0 0 (F0 m pc ls st0) rest (va_Sq (fun r => r = f.map (fun k => ad (k + b0))) a) (fun _ => False))
    (kn : f = none → W p l e R s m args below meth c H locs cells slots Q (F0 m (pc + 3) ls (.null :: rest)))
    (ks : ∀ k : Nat, f = some k → W p l e R s m args below meth c H locs cells slots Q (F0 m (pc + 3) ls (.ref (ad (k + b0)) :: rest))) : W p l e R s m args below meth c H locs cells slots Q (F0 m pc ls st0) := by
  intro T hT X
  obtain ⟨v, st₀, t, T', L, h0, X', hL, e1, e2, ⟨r, hv, hp, hh⟩, st⟩ := hr T hT X
  cases hv
  cases hf : f with
  | none =>
    rw [hf] at hp
    subst hp
    obtain ⟨t2, a1, b1⟩ := kn hf T' (by rw [e1, hh, h0]) (Stand.forget X' (fun q h => (hL q h).elim))
    exact ⟨t2, st t2 a1, b1⟩
  | some k =>
    rw [hf] at hp
    subst hp
    obtain ⟨t2, a1, b1⟩ := ks k hf T' (by rw [e1, hh, h0]) (Stand.forget X' (fun q h => (hL q h).elim))
    exact ⟨t2, st t2 a1, b1⟩
/-- calls that leave another state of the same cells -/
theorem g_cWi {post : Int32 → g_S → Prop} (hr : va_Run p l e R s m args below meth c H locs cells slots 0 0 (F0 m pc ls st0) rest (va_Qi post (fun τ t => va_P D cl (g_w sh dA ad τ) t.heap) (va_A (g_w sh dA ad σ) H.size) a) (va_A (g_w sh dA ad σ) H.size)) (hD : va_D A (g_w sh dA ad σ)) (hS : va_S A H0 H locs) (hA : ∀ q : Nat, H0.size ≤ q → A q)
    (kk : ∀ (r : Int32) (τ : g_S) (H1 : Heap) (locs1 : List Loc), post r τ → va_P D cl (g_w sh dA ad τ) H1 → va_D A (g_w sh dA ad τ) → va_S A H0 H1 locs1 → W p l e R s m args below meth c H1 locs1 cells slots Q (F0 m (pc + 3) ls (.int r :: rest))) : W p l e R s m args below meth c H locs cells slots Q (F0 m pc ls st0) := by
  refine va_calli hr hS (fun q _ h => g_freeW hD hS hA q h) (g_freeW hD hS hA) (fun r τ t H1 locs1 ht _ hp hB _ _ hS1 => ?_)
  rw [ht] at hB
  exact kk r τ H1 locs1 hp hB (g_D hD) hS1
theorem g_cWl {post : Int64 → g_S → Prop} (hr : va_Run p l e R s m args below meth c H locs cells slots 0 0 (F0 m pc ls st0) rest (va_Ql post (fun τ t => va_P D cl (g_w sh dA ad τ) t.heap) (va_A (g_w sh dA ad σ) H.size) a) (va_A (g_w sh dA ad σ) H.size)) (hD : va_D A (g_w sh dA ad σ)) (hS : va_S A H0 H locs) (hA : ∀ q : Nat, H0.size ≤ q → A q)
    (kk : ∀ (r : Int64) (τ : g_S) (H1 : Heap) (locs1 : List Loc), post r τ → va_P D cl (g_w sh dA ad τ) H1 → va_D A (g_w sh dA ad τ) → va_S A H0 H1 locs1 → W p l e R s m args below meth c H1 locs1 cells slots Q (F0 m (pc + 3) ls (.long r :: rest))) : W p l e R s m args below meth c H locs cells slots Q (F0 m pc ls st0) := by
  refine va_calll hr hS (fun q _ h => g_freeW hD hS hA q h) (g_freeW hD hS hA) (fun r τ t H1 locs1 ht _ hp hB _ _ hS1 => ?_)
  rw [ht] at hB
  exact kk r τ H1 locs1 hp hB (g_D hD) hS1
theorem g_cWv {post : g_S → Prop} (hr : va_Run p l e R s m args below meth c H locs cells slots 0 0 (F0 m pc ls st0) rest (va_Qv post (fun τ t => va_P D cl (g_w sh dA ad τ) t.heap) (va_A (g_w sh dA ad σ) H.size) a) (va_A (g_w sh dA ad σ) H.size)) (hD : va_D A (g_w sh dA ad σ)) (hS : va_S A H0 H locs) (hA : ∀ q : Nat, H0.size ≤ q → A q)
    (kk : ∀ (τ : g_S) (H1 : Heap) (locs1 : List Loc), post τ → va_P D cl (g_w sh dA ad τ) H1 → va_D A (g_w sh dA ad τ) → va_S A H0 H1 locs1 → W p l e R s m args below meth c H1 locs1 cells slots Q (F0 m (pc + 3) ls rest)) : W p l e R s m args below meth c H locs cells slots Q (F0 m pc ls st0) := by
  refine va_callv hr hS (fun q _ h => g_freeW hD hS hA q h) (g_freeW hD hS hA) (fun τ t H1 locs1 ht _ hp hB _ _ hS1 => ?_)
  rw [ht] at hB
  exact kk τ H1 locs1 hp hB (g_D hD) hS1
/-- the same, the answer put in its place -/
theorem g_cSiE {v : Int32} (hr : va_Run p l e R s m args below meth c H locs cells slots 0 0 (F0 m pc ls st0) rest (vp_Si (fun r => r = v) a) (fun _ => False))
    (kk : W p l e R s m args below meth c H locs cells slots Q (F0 m (pc + 3) ls (.int v :: rest))) : W p l e R s m args below meth c H locs cells slots Q (F0 m pc ls st0) := g_cSi hr (fun r h => by rw [h]; exact kk)
theorem g_cSlE {v : Int64} (hr : va_Run p l e R s m args below meth c H locs cells slots 0 0 (F0 m pc ls st0) rest (vp_Sl (fun r => r = v) a) (fun _ => False))
    (kk : W p l e R s m args below meth c H locs cells slots Q (F0 m (pc + 3) ls (.long v :: rest))) : W p l e R s m args below meth c H locs cells slots Q (F0 m pc ls st0) := g_cSl hr (fun r h => by rw [h]; exact kk)
theorem g_cWiE {v : Int32 × g_S} (hr : va_Run p l e R s m args below meth c H locs cells slots 0 0 (F0 m pc ls st0) rest (va_Qi (fun r τ => (r, τ) = v) (fun τ t => va_P D cl (g_w sh dA ad τ) t.heap) (va_A (g_w sh dA ad σ) H.size) a) (va_A (g_w sh dA ad σ) H.size)) (hD : va_D A (g_w sh dA ad σ)) (hS : va_S A H0 H locs) (hA : ∀ q : Nat, H0.size ≤ q → A q)
    (kk : ∀ (H1 : Heap) (locs1 : List Loc), va_P D cl (g_w sh dA ad v.2) H1 → va_D A (g_w sh dA ad v.2) → va_S A H0 H1 locs1 → W p l e R s m args below meth c H1 locs1 cells slots Q (F0 m (pc + 3) ls (.int v.1 :: rest))) : W p l e R s m args below meth c H locs cells slots Q (F0 m pc ls st0) := g_cWi hr hD hS hA (fun r τ H1 locs1 h a1 a2 a3 => by cases h; exact kk H1 locs1 a1 a2 a3)
theorem g_cWlE {v : Int64 × g_S} (hr : va_Run p l e R s m args below meth c H locs cells slots 0 0 (F0 m pc ls st0) rest (va_Ql (fun r τ => (r, τ) = v) (fun τ t => va_P D cl (g_w sh dA ad τ) t.heap) (va_A (g_w sh dA ad σ) H.size) a) (va_A (g_w sh dA ad σ) H.size)) (hD : va_D A (g_w sh dA ad σ)) (hS : va_S A H0 H locs) (hA : ∀ q : Nat, H0.size ≤ q → A q)
    (kk : ∀ (H1 : Heap) (locs1 : List Loc), va_P D cl (g_w sh dA ad v.2) H1 → va_D A (g_w sh dA ad v.2) → va_S A H0 H1 locs1 → W p l e R s m args below meth c H1 locs1 cells slots Q (F0 m (pc + 3) ls (.long v.1 :: rest))) : W p l e R s m args below meth c H locs cells slots Q (F0 m pc ls st0) := g_cWl hr hD hS hA (fun r τ H1 locs1 h a1 a2 a3 => by cases h; exact kk H1 locs1 a1 a2 a3)
theorem g_cWvE {v : g_S} (hr : va_Run p l e R s m args below meth c H locs cells slots 0 0 (F0 m pc ls st0) rest (va_Qv (fun τ => τ = v) (fun τ t => va_P D cl (g_w sh dA ad τ) t.heap) (va_A (g_w sh dA ad σ) H.size) a) (va_A (g_w sh dA ad σ) H.size)) (hD : va_D A (g_w sh dA ad σ)) (hS : va_S A H0 H locs) (hA : ∀ q : Nat, H0.size ≤ q → A q)
    (kk : ∀ (H1 : Heap) (locs1 : List Loc), va_P D cl (g_w sh dA ad v) H1 → va_D A (g_w sh dA ad v) → va_S A H0 H1 locs1 → W p l e R s m args below meth c H1 locs1 cells slots Q (F0 m (pc + 3) ls rest)) : W p l e R s m args below meth c H locs cells slots Q (F0 m pc ls st0) := g_cWv hr hD hS hA (fun τ H1 locs1 h a1 a2 a3 => by subst h; exact kk H1 locs1 a1 a2 a3)
end GC
