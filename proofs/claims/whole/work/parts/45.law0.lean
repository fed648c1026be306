/-! the law: calls on one system while the other one stands -/
section GK
variable {p : Program} {l : Launch} {e : Env} {R : Room} {s : State} {m : MethodId} {args : Array Value} {below : List Frame} {meth : Method} {c : Code} {H : Heap} {locs : List Loc} {cells slots : Nat} {Q : State → Prop}
variable {pc : Nat} {ls : Array Slot} {rest st0 : List Value} {a : Array Value} {D : va_G} {cl : List vw_C} {A : Nat → Prop} {H0 : Heap} {sh sh2 : g_Sh} {dA dA2 : Nat → ClassId} {ad ad2 : Nat → Nat} {σ σ2 : g_S}
theorem g_keep {H1 : Heap} (hP2 : va_P D cl (g_w sh2 dA2 ad2 σ2) H) (hk : ∀ q : Nat, q < H.size → ¬ va_A (g_w sh dA ad σ) H.size q → H1[q]? = H[q]?) (hap : ∀ i j, i < sh.length → j < sh2.length → ad i ≠ ad2 j) : va_P D cl (g_w sh2 dA2 ad2 σ2) H1 := by
  refine va_P.kept hP2 (fun j q hj => ?_)
  have hlt := (hP2 j q hj).lt
  refine hk q.1 hlt (fun hA => ?_)
  obtain ⟨c2, g1, g2⟩ := g_w_adr hj
  rcases hA with ⟨i, e, hi⟩ | hA
  · obtain ⟨c1, f1, f2⟩ := g_w_adr hi
    have e1 : q.1 = ad i := congrArg Prod.fst f2
    have e2 : q.1 = ad2 j := by rw [g2]
    exact hap i j (List.getElem?_eq_some_iff.mp f1).1 (List.getElem?_eq_some_iff.mp g1).1 (e1.symm.trans e2)
  · omega
theorem g_kWi {post : Int32 → g_S → Prop} (hr : va_Run p l e R s m args below meth c H locs cells slots 0 0 (F0 m pc ls st0) rest (va_Qi post (fun τ t => va_P D cl (g_w sh dA ad τ) t.heap) (va_A (g_w sh dA ad σ) H.size) a) (va_A (g_w sh dA ad σ) H.size)) (hD : va_D A (g_w sh dA ad σ)) (hS : va_S A H0 H locs) (hA : ∀ q : Nat, H0.size ≤ q → A q) (hP2 : va_P D cl (g_w sh2 dA2 ad2 σ2) H) (hap : ∀ i j, i < sh.length → j < sh2.length → ad i ≠ ad2 j)
    (kk : ∀ (r : Int32) (τ : g_S) (H1 : Heap) (locs1 : List Loc), post r τ → va_P D cl (g_w sh dA ad τ) H1 → va_D A (g_w sh dA ad τ) → va_S A H0 H1 locs1 → va_P D cl (g_w sh2 dA2 ad2 σ2) H1 → W p l e R s m args below meth c H1 locs1 cells slots Q (F0 m (pc + 3) ls (.int r :: rest))) : W p l e R s m args below meth c H locs cells slots Q (F0 m pc ls st0) := by
  refine va_calli hr hS (fun q _ h => g_freeW hD hS hA q h) (g_freeW hD hS hA) (fun r τ t H1 locs1 ht _ hp hB _ hk hS1 => ?_)
  rw [ht] at hB
  exact kk r τ H1 locs1 hp hB (g_D hD) hS1 (g_keep hP2 hk hap)
theorem g_kWl {post : Int64 → g_S → Prop} (hr : va_Run p l e R s m args below meth c H locs cells slots 0 0 (F0 m pc ls st0) rest (va_Ql post (fun τ t => va_P D cl (g_w sh dA ad τ) t.heap) (va_A (g_w sh dA ad σ) H.size) a) (va_A (g_w sh dA ad σ) H.size)) (hD : va_D A (g_w sh dA ad σ)) (hS : va_S A H0 H locs) (hA : ∀ q : Nat, H0.size ≤ q → A q) (hP2 : va_P D cl (g_w sh2 dA2 ad2 σ2) H) (hap : ∀ i j, i < sh.length → j < sh2.length → ad i ≠ ad2 j)
    (kk : ∀ (r : Int64) (τ : g_S) (H1 : Heap) (locs1 : List Loc), post r τ → va_P D cl (g_w sh dA ad τ) H1 → va_D A (g_w sh dA ad τ) → va_S A H0 H1 locs1 → va_P D cl (g_w sh2 dA2 ad2 σ2) H1 → W p l e R s m args below meth c H1 locs1 cells slots Q (F0 m (pc + 3) ls (.long r :: rest))) : W p l e R s m args below meth c H locs cells slots Q (F0 m pc ls st0) := by
  refine va_calll hr hS (fun q _ h => g_freeW hD hS hA q h) (g_freeW hD hS hA) (fun r τ t H1 locs1 ht _ hp hB _ hk hS1 => ?_)
  rw [ht] at hB
  exact kk r τ H1 locs1 hp hB (g_D hD) hS1 (g_keep hP2 hk hap)
end GK
