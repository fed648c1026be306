/-! the two systems' shapes -/
def x_sh : g_Sh := [(0, 4, [0, 0, 3, 4, 5, 7, 11, 0, 0, 0]), (5, 4, [10, 11, 12, 13]), (3, 2, []), (0, 2, [6]), (4, 10, [14, 15, 16, 17, 18, 19, 20, 21, 22, 23]), (0, 0, [1, 1, 0, 8, 9, 10]), (3, 8, []), (3, 8, []), (1, 8, []), (0, 3, [0, 0, 0, 1, 0, 0, 1, 1]), (3, 2, []), (3, 2, []), (3, 2, []), (3, 2, [])] ++ (List.range 10).map (fun k => (0, 1, [0, 0, 0, 1, k + 26, k + 36, 1])) ++ List.replicate 20 (3, 2, [])
theorem x_at0 : x_sh[0]? = some (0, 4, [0, 0, 3, 4, 5, 7, 11, 0, 0, 0]) := by decide
theorem x_at1 : x_sh[1]? = some (1 + 4, 4, [10, 11, 12, 13]) := by decide
theorem x_at2 : x_sh[2]? = some (3, 2, []) := by decide
theorem x_at3 : x_sh[3]? = some (0, 2, [6]) := by decide
theorem x_at4 : x_sh[4]? = some (0 + 4, 10, [14, 15, 16, 17, 18, 19, 20, 21, 22, 23]) := by decide
theorem x_at5 : x_sh[5]? = some (0, 0, [1, 1, 0, 8, 9, 10]) := by decide
theorem x_at6 : x_sh[6]? = some (3, 8, []) := by decide
theorem x_at7 : x_sh[7]? = some (3, 8, []) := by decide
theorem x_at8 : x_sh[8]? = some (1, 8, []) := by decide
theorem x_at9 : x_sh[9]? = some (0, 3, [0, 0, 0, 1, 0, 0, 1, 1]) := by decide
theorem x_at10' : ∀ k : Fin 4, x_sh[k.val + 10]? = some (3, 2, []) := by decide
theorem x_at10 {k : Nat} (h : k < 4) : x_sh[k + 10]? = some (3, 2, []) := x_at10' ⟨k, h⟩
theorem x_at14' : ∀ k : Fin 10, x_sh[k.val + 14]? = some (0, 1, [0, 0, 0, 1, k.val + 26, k.val + 36, 1]) := by decide
theorem x_at14 {k : Nat} (h : k < 10) : x_sh[k + 14]? = some (0, 1, [0, 0, 0, 1, k + 26, k + 36, 1]) := x_at14' ⟨k, h⟩
theorem x_at24' : ∀ k : Fin 10, x_sh[k.val + 24]? = some (3, 2, []) := by decide
theorem x_at24 {k : Nat} (h : k < 10) : x_sh[k + 24]? = some (3, 2, []) := x_at24' ⟨k, h⟩
theorem x_at34' : ∀ k : Fin 10, x_sh[k.val + 34]? = some (3, 2, []) := by decide
theorem x_at34 {k : Nat} (h : k < 10) : x_sh[k + 34]? = some (3, 2, []) := x_at34' ⟨k, h⟩
theorem x_el1' : ∀ k : Fin 4, ([10, 11, 12, 13] : List Nat)[k.val]? = some (k.val + 10) := by decide
theorem x_el1 {i : Int32} {j : Nat} (h : i.toNatClampNeg = j) (hj : j < 4) : ([10, 11, 12, 13] : List Nat)[i.toNatClampNeg]? = some (j + 10) := by
  rw [h]
  exact x_el1' ⟨j, hj⟩
theorem x_el4' : ∀ k : Fin 10, ([14, 15, 16, 17, 18, 19, 20, 21, 22, 23] : List Nat)[k.val]? = some (k.val + 14) := by decide
theorem x_el4 {i : Int32} {j : Nat} (h : i.toNatClampNeg = j) (hj : j < 10) : ([14, 15, 16, 17, 18, 19, 20, 21, 22, 23] : List Nat)[i.toNatClampNeg]? = some (j + 14) := by
  rw [h]
  exact x_el4' ⟨j, hj⟩
def x_tys (dA : Nat → ClassId) : List (ClassId × FieldType) := [(dA 0, .int), (dA 0, .int), (dA 2, .long), (dA 3, .object "RangedPool$Lot"), (dA 4, .array .long)]
def r_sh : g_Sh := [(0, 5, [0, 0, 3, 0, 1, 0, 4, 5, 6, 7, 8, 9, 10, 11, 12, 1, 1, 0, 13, 14, 1, 0, 1, 1, 1, 15]), (3, 49, []), (3, 8, []), (3, 2, []), (2, 10, []), (1, 10, []), (1, 10, []), (1, 10, []), (3, 10, []), (3, 20, []), (3, 20, []), (3, 8, []), (3, 8, []), (3, 10, [])]
theorem r_at0 : r_sh[0]? = some (0, 5, [0, 0, 3, 0, 1, 0, 4, 5, 6, 7, 8, 9, 10, 11, 12, 1, 1, 0, 13, 14, 1, 0, 1, 1, 1, 15]) := by decide
theorem r_at1 : r_sh[1]? = some (3, 49, []) := by decide
theorem r_at2 : r_sh[2]? = some (3, 8, []) := by decide
theorem r_at3 : r_sh[3]? = some (3, 2, []) := by decide
theorem r_at4 : r_sh[4]? = some (2, 10, []) := by decide
theorem r_at5 : r_sh[5]? = some (1, 10, []) := by decide
theorem r_at6 : r_sh[6]? = some (1, 10, []) := by decide
theorem r_at7 : r_sh[7]? = some (1, 10, []) := by decide
theorem r_at8 : r_sh[8]? = some (3, 10, []) := by decide
theorem r_at9 : r_sh[9]? = some (3, 20, []) := by decide
theorem r_at10 : r_sh[10]? = some (3, 20, []) := by decide
theorem r_at11 : r_sh[11]? = some (3, 8, []) := by decide
theorem r_at12 : r_sh[12]? = some (3, 8, []) := by decide
theorem r_at13 : r_sh[13]? = some (3, 10, []) := by decide
def r_tys (dA : Nat → ClassId) : List (ClassId × FieldType) := [(dA 0, .int), (dA 1, .boolean), (dA 2, .long)]
/-- P(-24) .. P(24) -/
def x_tab (j : Nat) : Int32 := ([36223, 37129, 38058, 39010, 39986, 40986, 42011, 43062, 44139, 45243, 46375, 47535, 48724, 49943, 51192, 52472, 53784, 55129, 56508, 57921, 59370, 60855, 62377, 63937, 65536, 67174, 68853, 70574, 72338, 74146, 75999, 77898, 79845, 81841, 83887, 85984, 88133, 90336, 92594, 94908, 97280, 99712, 102204, 104759, 107377, 110061, 112812, 115632, 118522] : List Int32).getD j 0
/-- what the class needs besides its cells: nest words, the static table at tb -/
def x_Z (tb : Nat) : (Nat → Prop) → State → Prop := fun A U => (∀ w ∈ x_nest, va_Nw w U) ∧ va_Z "RangedPool" "STEP_PRICES" "[I" (.ref tb) A U U.heap ∧ va_T .int tb 49 (fun j => .int (x_tab j)) A U U.heap
def r_Z : (Nat → Prop) → State → Prop := fun _ _ => True
def g_isN : Cond → Bool
  | .fieldLinkNest _ _ _ _ _ _ => true
  | .methodLinkNest _ _ _ _ => true
  | _ => false
theorem g_isN_tab {w : Cond} (h : g_isN w = true) : w.onTables = true := by
  cases w <;> first | rfl | cases h
theorem g_isN_warm {w : Cond} (h : g_isN w = true) {s U : State} (hW : s.WarmedH U.vm) (hZ : va_Nw w s) : va_Nw w U := by
  cases w <;> first | exact va_Nw.warmF hW hZ | exact va_Nw.warmM hW hZ | cases h
theorem x_nestN : ∀ w ∈ x_nest, g_isN w = true := by decide +kernel
theorem x_Zok {tb : Nat} : g_Zok (x_Z tb) := by
  refine ⟨fun A U g mk a h => ?_, fun A B s U hW hq hAB h => ?_⟩
  · obtain ⟨h1, h2, h3⟩ := h
    exact ⟨fun w hw => va_Nw.same (u := U) (U := U.calling g mk a) (g_isN_tab (x_nestN w hw)) rfl (h1 w hw), va_Z.moved (u := U) (U := U.calling g mk a) (Vm.Alike.refl U.vm) h2, va_T.moved (u := U) (U := U.calling g mk a) (Vm.Alike.refl U.vm) h3⟩
  · obtain ⟨h1, h2, h3⟩ := h
    exact ⟨fun w hw => g_isN_warm (x_nestN w hw) hW (h1 w hw), ((va_Z.moved hW.alike h2).kept hq).narrow hAB, ((va_T.moved hW.alike h3).kept hq).narrow hAB⟩
theorem r_Zok : g_Zok r_Z := ⟨fun _ _ _ _ _ _ => trivial, fun _ _ _ _ _ _ _ _ => trivial⟩
