/-- what the calls must keep: V x r i, the class's numbers x and the reference's r behind i calls -/
def v_c_open (V : g_S → g_S → Nat → Prop) : Prop := ∀ (x r : g_S) (i : Nat) (n : Int32), V x r i → i < 512 → k_P_open x n ∧ k_M_open r n ∧ (f_P_open x n).1 = (f_M_open r n).1 ∧ V (f_P_open x n).2 (f_M_open r n).2 (i + 1)
def v_c_fund (V : g_S → g_S → Nat → Prop) : Prop := ∀ (x r : g_S) (i : Nat) (o : Int32) (n : Int32) (am : Int32), V x r i → i < 512 → k_P_fund x o n am ∧ k_M_fund r o n am ∧ (f_P_fund x o n am).1 = (f_M_fund r o n am).1 ∧ V (f_P_fund x o n am).2 (f_M_fund r o n am).2 (i + 1)
def v_c_mint (V : g_S → g_S → Nat → Prop) : Prop := ∀ (x r : g_S) (i : Nat) (o : Int32) (lo : Int32) (hi : Int32) (q : Int32), V x r i → i < 512 → k_P_mint x o lo hi q ∧ k_M_mint r o lo hi q ∧ (f_P_mint x o lo hi q).1 = (f_M_mint r o lo hi q).1 ∧ V (f_P_mint x o lo hi q).2 (f_M_mint r o lo hi q).2 (i + 1)
def v_c_burn (V : g_S → g_S → Nat → Prop) : Prop := ∀ (x r : g_S) (i : Nat) (o : Int32) (lo : Int32) (hi : Int32) (q : Int32), V x r i → i < 512 → k_P_burn x o lo hi q ∧ k_M_burn r o lo hi q ∧ (f_P_burn x o lo hi q).1 = (f_M_burn r o lo hi q).1 ∧ V (f_P_burn x o lo hi q).2 (f_M_burn r o lo hi q).2 (i + 1)
def v_c_collect (V : g_S → g_S → Nat → Prop) : Prop := ∀ (x r : g_S) (i : Nat) (o : Int32) (lo : Int32) (hi : Int32), V x r i → i < 512 → k_P_collect x o lo hi ∧ k_M_collect r o lo hi ∧ (f_P_collect x o lo hi).1 = (f_M_collect r o lo hi).1 ∧ V (f_P_collect x o lo hi).2 (f_M_collect r o lo hi).2 (i + 1)
def v_c_swap (V : g_S → g_S → Nat → Prop) : Prop := ∀ (x r : g_S) (i : Nat) (o : Int32) (dn : Int32) (am : Int32) (lim : Int32), V x r i → i < 512 → dn = 0 ∨ dn = 1 → k_P_swap x o dn am lim ∧ k_M_swap r o dn am lim ∧ (f_P_swap x o dn am lim).1 = (f_M_swap r o dn am lim).1 ∧ V (f_P_swap x o dn am lim).2 (f_M_swap r o dn am lim).2 (i + 1)
def v_c_quote (V : g_S → g_S → Nat → Prop) : Prop := ∀ (x r : g_S) (i : Nat) (dn : Int32) (am : Int32) (lim : Int32), V x r i → i < 512 → dn = 0 ∨ dn = 1 → k_P_quote x dn am lim ∧ k_M_quote r dn am lim ∧ (f_P_quote x dn am lim).1 = (f_M_quote r dn am lim).1 ∧ V (f_P_quote x dn am lim).2 (f_M_quote r dn am lim).2 (i + 1)
def v_c_flash (V : g_S → g_S → Nat → Prop) : Prop := ∀ (x r : g_S) (i : Nat) (o : Int32) (z : Int32) (y : Int32), V x r i → i < 512 → k_P_flash x o z y ∧ k_M_flash r o z y ∧ (f_P_flash x o z y).1 = (f_M_flash r o z y).1 ∧ V (f_P_flash x o z y).2 (f_M_flash r o z y).2 (i + 1)
def v_c_advance (V : g_S → g_S → Nat → Prop) : Prop := ∀ (x r : g_S) (i : Nat) (n : Int32), V x r i → i < 512 → (f_P_advance x n).1 = (f_M_advance r n).1 ∧ V (f_P_advance x n).2 (f_M_advance r n).2 (i + 1)
def v_c_observe (V : g_S → g_S → Nat → Prop) : Prop := ∀ (x r : g_S) (i : Nat) (ago : Int32), V x r i → i < 512 → k_P_observe x ago ∧ k_M_observe r ago ∧ f_P_observe x ago = f_M_observe r ago
def v_c_price (V : g_S → g_S → Nat → Prop) : Prop := ∀ (x r : g_S) (i : Nat) , V x r i → i < 512 → f_P_price x  = f_M_price0 r 
def v_c_step (V : g_S → g_S → Nat → Prop) : Prop := ∀ (x r : g_S) (i : Nat) , V x r i → i < 512 → f_P_step x  = f_M_step r 
def v_c_depth (V : g_S → g_S → Nat → Prop) : Prop := ∀ (x r : g_S) (i : Nat) , V x r i → i < 512 → f_P_depth x  = f_M_depth r 
def v_c_wallet (V : g_S → g_S → Nat → Prop) : Prop := ∀ (x r : g_S) (i : Nat) (o : Int32) (n : Int32), V x r i → i < 512 → k_P_wallet x o n ∧ k_M_wallet r o n ∧ f_P_wallet x o n = f_M_wallet r o n
def v_c_reserve (V : g_S → g_S → Nat → Prop) : Prop := ∀ (x r : g_S) (i : Nat) (n : Int32), V x r i → i < 512 → k_P_reserve x n ∧ k_M_reserve r n ∧ f_P_reserve x n = f_M_reserve r n
def v_c_lot (V : g_S → g_S → Nat → Prop) : Prop := ∀ (x r : g_S) (i : Nat) (o : Int32) (lo : Int32) (hi : Int32) (wh : Int32), V x r i → i < 512 → k_M_lot r o lo hi wh ∧ f_P_lot x o lo hi wh = f_M_lot r o lo hi wh
def v_c_net (V : g_S → g_S → Nat → Prop) : Prop := ∀ (x r : g_S) (i : Nat) (n : Int32), V x r i → i < 512 → f_P_net x n = f_M_net r n
def v_calls (V : g_S → g_S → Nat → Prop) : Prop := v_c_open V ∧ v_c_fund V ∧ v_c_mint V ∧ v_c_burn V ∧ v_c_collect V ∧ v_c_swap V ∧ v_c_quote V ∧ v_c_flash V ∧ v_c_advance V ∧ v_c_observe V ∧ v_c_price V ∧ v_c_step V ∧ v_c_depth V ∧ v_c_wallet V ∧ v_c_reserve V ∧ v_c_lot V ∧ v_c_net V ∧ ∀ (x r : g_S) (i : Nat), V x r i → V x r (i + 1)
theorem h_inc5 (i : Nat) : Int32.ofNat (5 * i + 2) + Int32.ofInt 5 = Int32.ofNat (5 * (i + 1) + 2) := by
  rw [show 5 * (i + 1) + 2 = (5 * i + 2) + 5 by omega, Int32.ofNat_add (5 * i + 2) 5]
  rfl
theorem h_more {L i : Nat} (hL : L ≤ 2562) (hi : i ≤ L) (h : ¬ Int32.ofNat L - (5 : Int32) < Int32.ofNat (5 * i + 2)) : 5 * i + 7 ≤ L := by
  rw [Int32.lt_iff_toInt_lt, Int32.toInt_sub, Int32.toInt_ofNat_of_lt (by omega), Int32.toInt_ofNat_of_lt (by omega), show (5 : Int32).toInt = 5 from rfl, Int.bmod_eq_of_le_mul_two (by omega) (by omega)] at h
  omega
theorem g_out17 {x : Int32} (h0 : ¬ x = 0) (h1 : ¬ x = 1) (h2 : ¬ x = 2) (h3 : ¬ x = 3) (h4 : ¬ x = 4) (h5 : ¬ x = 5) (h6 : ¬ x = 6) (h7 : ¬ x = 7) (h8 : ¬ x = 8) (h9 : ¬ x = 9) (h10 : ¬ x = 10) (h11 : ¬ x = 11) (h12 : ¬ x = 12) (h13 : ¬ x = 13) (h14 : ¬ x = 14) (h15 : ¬ x = 15) (h16 : ¬ x = 16) : x.toInt < 0 ∨ (16 : Int) < x.toInt := by
  rw [← Int32.toInt_inj] at h0 h1 h2 h3 h4 h5 h6 h7 h8 h9 h10 h11 h12 h13 h14 h15 h16
  have e0 : (0 : Int32).toInt = 0 := rfl
  have e1 : (1 : Int32).toInt = 1 := rfl
  have e2 : (2 : Int32).toInt = 2 := rfl
  have e3 : (3 : Int32).toInt = 3 := rfl
  have e4 : (4 : Int32).toInt = 4 := rfl
  have e5 : (5 : Int32).toInt = 5 := rfl
  have e6 : (6 : Int32).toInt = 6 := rfl
  have e7 : (7 : Int32).toInt = 7 := rfl
  have e8 : (8 : Int32).toInt = 8 := rfl
  have e9 : (9 : Int32).toInt = 9 := rfl
  have e10 : (10 : Int32).toInt = 10 := rfl
  have e11 : (11 : Int32).toInt = 11 := rfl
  have e12 : (12 : Int32).toInt = 12 := rfl
  have e13 : (13 : Int32).toInt = 13 := rfl
  have e14 : (14 : Int32).toInt = 14 := rfl
  have e15 : (15 : Int32).toInt = 15 := rfl
  have e16 : (16 : Int32).toInt = 16 := rfl
  omega
set_option maxHeartbeats 8000000 in
set_option maxRecDepth 100000 in
theorem law_loop {V : g_S → g_S → Nat → Prop} (hV : v_calls V) {p : Program} {l : Launch} {e : Env} {s : State} {m : MethodId} {below : List Frame} {meth : Method} {c : Code} {dC : Nat → ClassId} {dI : Nat → Nat → Nat} {dX dR : Nat → ClassId} {adx adr : Nat → Nat} {tb b L : Nat} {xs : Nat → Int32} (hL : L ≤ 2562) (C0 : lw_At p s m meth c b L xs) (hKx : va_K (dC, dI) cls (x_tys dX) s) (hKr : va_K (dC, dI) cls (r_tys dR) s) (hz : x_Z tb (fun q : Nat => s.heap.size ≤ q) s) (hap : ∀ i j, i < x_sh.length → j < r_sh.length → adx i ≠ adr j) :
    ∀ (n i : Nat) (x r : g_S) (H : Heap) (locs : List Loc) (ls : Array Slot), i ≤ L → L + 1 ≤ i + n → V x r i → va_P (dC, dI) cls (g_w x_sh dX adx x) H → va_D (fun q : Nat => s.heap.size ≤ q) (g_w x_sh dX adx x) → va_P (dC, dI) cls (g_w r_sh dR adr r) H → va_D (fun q : Nat => s.heap.size ≤ q) (g_w r_sh dR adr r) → va_S (fun q : Nat => s.heap.size ≤ q) s.heap H locs → lv_has ls 4 [(3, .int (Int32.ofNat (5 * i + 2))), (0, .ref b), (1, .ref (adx 0)), (2, .ref (adr 0))] → W p l e room_1 s m #[Value.ref b] below meth c H locs 58 384 (lw_Z below #[Value.ref b] s) (F0 m 38 ls []) := by
  obtain ⟨hx, hb, hr, hml, hown, hts, hX, hbl, hlocks, hgv⟩ := C0
  have hown : s.vm.findClass "RangedPoolLaw" = some m.cls := hown
  have ht := fun (w : Cond) (h : w ∈ gA) => hts w (gA_in w h)
  have hA : ∀ q : Nat, s.heap.size ≤ q → (fun q : Nat => s.heap.size ≤ q) q := fun _ h => h
  have hbA : ¬ (fun q : Nat => s.heap.size ≤ q) b := Nat.not_le.mpr hbl
  have hzr : r_Z (fun q : Nat => s.heap.size ≤ q) s := trivial
  have hap' : ∀ i j, i < r_sh.length → j < x_sh.length → adr i ≠ adx j := fun i j h1 h2 q => hap j i h2 h1 q.symm
  obtain ⟨hV_open, hV_fund, hV_mint, hV_burn, hV_collect, hV_swap, hV_quote, hV_flash, hV_advance, hV_observe, hV_price, hV_step, hV_depth, hV_wallet, hV_reserve, hV_lot, hV_net, hVm⟩ := hV
  intro n
  induction n with
  | zero =>
    intro i x r H locs ls h1 h2
    exact absurd h2 (by omega)
  | succ n ih =>
    intro i x r H locs ls hi hin hVi hPx hDx hPr hDr hS hl
    refine lv_iload_n hx hb d_law_38 rfl (lv_at hl 0 rfl) ?_
    refine lv_aload_n hx hb d_law_39 rfl (lv_at hl 1 rfl) ?_
    refine va_slen hx hb hX hbl hbA hS d_law_40 ?_
    refine lv_iconst (v := (5 : Int32)) hx hb d_law_41 (by decide) ?_
    refine lv_isub hx hb d_law_42 ?_
    refine lv_icmp_gt (tgt := 755) hx hb d_law_43 (by decide) (fun c0 => ?_) (fun c0 => ?_)
    ·
      refine lv_iconst (v := (1 : Int32)) hx hb d_law_755 (by decide) ?_
      refine va_forget (fun q hq => hS.2.2 q hq) ?_
      refine W.widen (k := 600000) (n := 7302250) (by decide) (by decide) ?_
      exact lw_ret hx hb hr hlocks d_law_756
    ·
      have h7 := h_more hL hi c0
      have TAIL : ∀ (x r : g_S) (H : Heap) (locs : List Loc) (ls : Array Slot), V x r (i + 1) → va_P (dC, dI) cls (g_w x_sh dX adx x) H → va_D (fun q : Nat => s.heap.size ≤ q) (g_w x_sh dX adx x) → va_P (dC, dI) cls (g_w r_sh dR adr r) H → va_D (fun q : Nat => s.heap.size ≤ q) (g_w r_sh dR adr r) → va_S (fun q : Nat => s.heap.size ≤ q) s.heap H locs → lv_has ls 4 [(3, .int (Int32.ofNat (5 * i + 2))), (0, .ref b), (1, .ref (adx 0)), (2, .ref (adr 0))] → W p l e room_1 s m #[Value.ref b] below meth c H locs 58 384 (lw_Z below #[Value.ref b] s) (F0 m 749 ls []) := by
        intro x r H locs ls hVi hPx hDx hPr hDr hS hl
        refine lv_iinc (v := Int32.ofNat (5 * (i + 1) + 2)) (lv' := [(3, .int (Int32.ofNat (5 * (i + 1) + 2))), (0, .ref b), (1, .ref (adx 0)), (2, .ref (adr 0))]) hx hb d_law_749 hl (k := 0) rfl (h_inc5 i) (by decide) rfl (fun ls hl => ?_)
        refine lv_goto (tgt := 38) hx hb d_law_752 (by decide) ?_
        exact ih (i + 1) x r H locs ls (by omega) (by omega) hVi hPx hDx hPr hDr hS hl
      refine lv_aload_n hx hb d_law_46 rfl (lv_at hl 1 rfl) ?_
      refine lv_iload_n hx hb d_law_47 rfl (lv_at hl 0 rfl) ?_
      refine va_sld hx hb hX hbl hbA hS (g_eix (j := 5 * i + 2) rfl (by omega) (by omega)) d_law_48 ?_
      refine lv_bipush (v := (31 : Int32)) hx hb d_law_49 (by decide) ?_
      refine lv_iand hx hb d_law_51 ?_
      refine lv_topi (fun y ey => ?_)
      by_cases c_0 : y = 0
      ·
        refine lv_tableIn (tgt := 136) hx hb d_law_52 (by rw [c_0]; decide) (by rw [c_0]; decide) (by rw [c_0]; rfl) (by decide) ?_
        refine lv_aload_n hx hb d_law_136 rfl (lv_at hl 2 rfl) ?_
        refine lv_aload_n hx hb d_law_137 rfl (lv_at hl 1 rfl) ?_
        refine lv_iload_n hx hb d_law_138 rfl (lv_at hl 0 rfl) ?_
        refine lv_iconst (v := (1 : Int32)) hx hb d_law_139 (by decide) ?_
        refine lv_iadd hx hb d_law_140 ?_
        refine va_sld hx hb hX hbl hbA hS (g_eix (g_eadd (a := 5 * i + 2) (b := 1) rfl rfl) (by omega) (by omega)) d_law_141 ?_
        obtain ⟨kx0, km0, hE, hV1⟩ := hV_open x r i (xs ((Int32.ofNat (5 * i + 2)) + (1 : Int32)).toNatClampNeg) hVi (by omega)
        refine g_kWi (va_runV (As := [.int (xs ((Int32.ofNat (5 * i + 2)) + (1 : Int32)).toNatClampNeg)]) (rest := []) ⟨hx, hb, hml, hown, ht⟩ (c_P_open l dC dI dX adx tb H.size x (xs ((Int32.ofNat (5 * i + 2)) + (1 : Int32)).toNatClampNeg) kx0) (cwV 1 ht gc_L_21 rfl rfl rfl (by decide +kernel) ⟨Nat.le_of_ble_eq_true rfl, Nat.le_of_ble_eq_true rfl⟩) (g_pV (g_prW x_Zok hKx hPx hDx hS hA hz _) (g_rc hKx hPx 0 x_at0 rfl)) rfl rfl hl.1 rfl (lv_room (Nat.le_of_ble_eq_true rfl)) d_law_142 ⟨Nat.le_of_ble_eq_true rfl, Nat.le_of_ble_eq_true rfl⟩) hDx hS hA hPr hap (fun rX τX H locs eX hPx hDx hS hPr => ?_)
        refine lv_aload_n hx hb d_law_145 rfl (lv_at hl 3 rfl) ?_
        refine lv_aload_n hx hb d_law_146 rfl (lv_at hl 1 rfl) ?_
        refine lv_iload_n hx hb d_law_147 rfl (lv_at hl 0 rfl) ?_
        refine lv_iconst (v := (1 : Int32)) hx hb d_law_148 (by decide) ?_
        refine lv_iadd hx hb d_law_149 ?_
        refine va_sld hx hb hX hbl hbA hS (g_eix (g_eadd (a := 5 * i + 2) (b := 1) rfl rfl) (by omega) (by omega)) d_law_150 ?_
        refine g_kWi (va_runV (As := [.int (xs ((Int32.ofNat (5 * i + 2)) + (1 : Int32)).toNatClampNeg)]) (rest := [.int rX]) ⟨hx, hb, hml, hown, ht⟩ (c_M_open l dC dI dR adr H.size r (xs ((Int32.ofNat (5 * i + 2)) + (1 : Int32)).toNatClampNeg) km0) (cwV 1 ht gc_L_25 rfl rfl rfl (by decide +kernel) ⟨Nat.le_of_ble_eq_true rfl, Nat.le_of_ble_eq_true rfl⟩) (g_pV (g_prW r_Zok hKr hPr hDr hS hA hzr _) (g_rc hKr hPr 0 r_at0 rfl)) rfl rfl hl.1 rfl (lv_room (Nat.le_of_ble_eq_true rfl)) d_law_151 ⟨Nat.le_of_ble_eq_true rfl, Nat.le_of_ble_eq_true rfl⟩) hDr hS hA hPx hap' (fun rM τM H locs eM hPr hDr hS hPx => ?_)
        have hXM : rX = rM := (congrArg Prod.fst eX).trans (hE.trans (congrArg Prod.fst eM).symm)
        refine lv_icmp_eq (tgt := 749) hx hb d_law_154 (by decide) (fun _ => ?_) (fun c9 => absurd hXM c9)
        have hV2 : V τX τM (i + 1) := by rw [show τX = _ from congrArg Prod.snd eX, show τM = _ from congrArg Prod.snd eM]; exact hV1
        exact TAIL τX τM H locs ls hV2 hPx hDx hPr hDr hS hl
      by_cases c_1 : y = 1
      ·
        refine lv_tableIn (tgt := 159) hx hb d_law_52 (by rw [c_1]; decide) (by rw [c_1]; decide) (by rw [c_1]; rfl) (by decide) ?_
        refine lv_aload_n hx hb d_law_159 rfl (lv_at hl 2 rfl) ?_
        refine lv_aload_n hx hb d_law_160 rfl (lv_at hl 1 rfl) ?_
        refine lv_iload_n hx hb d_law_161 rfl (lv_at hl 0 rfl) ?_
        refine lv_iconst (v := (1 : Int32)) hx hb d_law_162 (by decide) ?_
        refine lv_iadd hx hb d_law_163 ?_
        refine va_sld hx hb hX hbl hbA hS (g_eix (g_eadd (a := 5 * i + 2) (b := 1) rfl rfl) (by omega) (by omega)) d_law_164 ?_
        refine lv_aload_n hx hb d_law_165 rfl (lv_at hl 1 rfl) ?_
        refine lv_iload_n hx hb d_law_166 rfl (lv_at hl 0 rfl) ?_
        refine lv_iconst (v := (2 : Int32)) hx hb d_law_167 (by decide) ?_
        refine lv_iadd hx hb d_law_168 ?_
        refine va_sld hx hb hX hbl hbA hS (g_eix (g_eadd (a := 5 * i + 2) (b := 2) rfl rfl) (by omega) (by omega)) d_law_169 ?_
        refine lv_aload_n hx hb d_law_170 rfl (lv_at hl 1 rfl) ?_
        refine lv_iload_n hx hb d_law_171 rfl (lv_at hl 0 rfl) ?_
        refine lv_iconst (v := (3 : Int32)) hx hb d_law_172 (by decide) ?_
        refine lv_iadd hx hb d_law_173 ?_
        refine va_sld hx hb hX hbl hbA hS (g_eix (g_eadd (a := 5 * i + 2) (b := 3) rfl rfl) (by omega) (by omega)) d_law_174 ?_
        obtain ⟨kx0, km0, hE, hV1⟩ := hV_fund x r i (xs ((Int32.ofNat (5 * i + 2)) + (1 : Int32)).toNatClampNeg) (xs ((Int32.ofNat (5 * i + 2)) + (2 : Int32)).toNatClampNeg) (xs ((Int32.ofNat (5 * i + 2)) + (3 : Int32)).toNatClampNeg) hVi (by omega)
        refine g_kWi (va_runV (As := [.int (xs ((Int32.ofNat (5 * i + 2)) + (1 : Int32)).toNatClampNeg), .int (xs ((Int32.ofNat (5 * i + 2)) + (2 : Int32)).toNatClampNeg), .int (xs ((Int32.ofNat (5 * i + 2)) + (3 : Int32)).toNatClampNeg)]) (rest := []) ⟨hx, hb, hml, hown, ht⟩ (c_P_fund l dC dI dX adx tb H.size x (xs ((Int32.ofNat (5 * i + 2)) + (1 : Int32)).toNatClampNeg) (xs ((Int32.ofNat (5 * i + 2)) + (2 : Int32)).toNatClampNeg) (xs ((Int32.ofNat (5 * i + 2)) + (3 : Int32)).toNatClampNeg) kx0) (cwV 3 ht gc_L_26 rfl rfl rfl (by decide +kernel) ⟨Nat.le_of_ble_eq_true rfl, Nat.le_of_ble_eq_true rfl⟩) (g_pV (g_prW x_Zok hKx hPx hDx hS hA hz _) (g_rc hKx hPx 0 x_at0 rfl)) rfl rfl hl.1 rfl (lv_room (Nat.le_of_ble_eq_true rfl)) d_law_175 ⟨Nat.le_of_ble_eq_true rfl, Nat.le_of_ble_eq_true rfl⟩) hDx hS hA hPr hap (fun rX τX H locs eX hPx hDx hS hPr => ?_)
        refine lv_aload_n hx hb d_law_178 rfl (lv_at hl 3 rfl) ?_
        refine lv_aload_n hx hb d_law_179 rfl (lv_at hl 1 rfl) ?_
        refine lv_iload_n hx hb d_law_180 rfl (lv_at hl 0 rfl) ?_
        refine lv_iconst (v := (1 : Int32)) hx hb d_law_181 (by decide) ?_
        refine lv_iadd hx hb d_law_182 ?_
        refine va_sld hx hb hX hbl hbA hS (g_eix (g_eadd (a := 5 * i + 2) (b := 1) rfl rfl) (by omega) (by omega)) d_law_183 ?_
        refine lv_aload_n hx hb d_law_184 rfl (lv_at hl 1 rfl) ?_
        refine lv_iload_n hx hb d_law_185 rfl (lv_at hl 0 rfl) ?_
        refine lv_iconst (v := (2 : Int32)) hx hb d_law_186 (by decide) ?_
        refine lv_iadd hx hb d_law_187 ?_
        refine va_sld hx hb hX hbl hbA hS (g_eix (g_eadd (a := 5 * i + 2) (b := 2) rfl rfl) (by omega) (by omega)) d_law_188 ?_
        refine lv_aload_n hx hb d_law_189 rfl (lv_at hl 1 rfl) ?_
        refine lv_iload_n hx hb d_law_190 rfl (lv_at hl 0 rfl) ?_
        refine lv_iconst (v := (3 : Int32)) hx hb d_law_191 (by decide) ?_
        refine lv_iadd hx hb d_law_192 ?_
        refine va_sld hx hb hX hbl hbA hS (g_eix (g_eadd (a := 5 * i + 2) (b := 3) rfl rfl) (by omega) (by omega)) d_law_193 ?_
        refine g_kWi (va_runV (As := [.int (xs ((Int32.ofNat (5 * i + 2)) + (1 : Int32)).toNatClampNeg), .int (xs ((Int32.ofNat (5 * i + 2)) + (2 : Int32)).toNatClampNeg), .int (xs ((Int32.ofNat (5 * i + 2)) + (3 : Int32)).toNatClampNeg)]) (rest := [.int rX]) ⟨hx, hb, hml, hown, ht⟩ (c_M_fund l dC dI dR adr H.size r (xs ((Int32.ofNat (5 * i + 2)) + (1 : Int32)).toNatClampNeg) (xs ((Int32.ofNat (5 * i + 2)) + (2 : Int32)).toNatClampNeg) (xs ((Int32.ofNat (5 * i + 2)) + (3 : Int32)).toNatClampNeg) km0) (cwV 3 ht gc_L_30 rfl rfl rfl (by decide +kernel) ⟨Nat.le_of_ble_eq_true rfl, Nat.le_of_ble_eq_true rfl⟩) (g_pV (g_prW r_Zok hKr hPr hDr hS hA hzr _) (g_rc hKr hPr 0 r_at0 rfl)) rfl rfl hl.1 rfl (lv_room (Nat.le_of_ble_eq_true rfl)) d_law_194 ⟨Nat.le_of_ble_eq_true rfl, Nat.le_of_ble_eq_true rfl⟩) hDr hS hA hPx hap' (fun rM τM H locs eM hPr hDr hS hPx => ?_)
        have hXM : rX = rM := (congrArg Prod.fst eX).trans (hE.trans (congrArg Prod.fst eM).symm)
        refine lv_icmp_eq (tgt := 749) hx hb d_law_197 (by decide) (fun _ => ?_) (fun c9 => absurd hXM c9)
        have hV2 : V τX τM (i + 1) := by rw [show τX = _ from congrArg Prod.snd eX, show τM = _ from congrArg Prod.snd eM]; exact hV1
        exact TAIL τX τM H locs ls hV2 hPx hDx hPr hDr hS hl
      by_cases c_2 : y = 2
      ·
        refine lv_tableIn (tgt := 202) hx hb d_law_52 (by rw [c_2]; decide) (by rw [c_2]; decide) (by rw [c_2]; rfl) (by decide) ?_
        refine lv_aload_n hx hb d_law_202 rfl (lv_at hl 2 rfl) ?_
        refine lv_aload_n hx hb d_law_203 rfl (lv_at hl 1 rfl) ?_
        refine lv_iload_n hx hb d_law_204 rfl (lv_at hl 0 rfl) ?_
        refine lv_iconst (v := (1 : Int32)) hx hb d_law_205 (by decide) ?_
        refine lv_iadd hx hb d_law_206 ?_
        refine va_sld hx hb hX hbl hbA hS (g_eix (g_eadd (a := 5 * i + 2) (b := 1) rfl rfl) (by omega) (by omega)) d_law_207 ?_
        refine lv_aload_n hx hb d_law_208 rfl (lv_at hl 1 rfl) ?_
        refine lv_iload_n hx hb d_law_209 rfl (lv_at hl 0 rfl) ?_
        refine lv_iconst (v := (2 : Int32)) hx hb d_law_210 (by decide) ?_
        refine lv_iadd hx hb d_law_211 ?_
        refine va_sld hx hb hX hbl hbA hS (g_eix (g_eadd (a := 5 * i + 2) (b := 2) rfl rfl) (by omega) (by omega)) d_law_212 ?_
        refine lv_aload_n hx hb d_law_213 rfl (lv_at hl 1 rfl) ?_
        refine lv_iload_n hx hb d_law_214 rfl (lv_at hl 0 rfl) ?_
        refine lv_iconst (v := (3 : Int32)) hx hb d_law_215 (by decide) ?_
        refine lv_iadd hx hb d_law_216 ?_
        refine va_sld hx hb hX hbl hbA hS (g_eix (g_eadd (a := 5 * i + 2) (b := 3) rfl rfl) (by omega) (by omega)) d_law_217 ?_
        refine lv_aload_n hx hb d_law_218 rfl (lv_at hl 1 rfl) ?_
        refine lv_iload_n hx hb d_law_219 rfl (lv_at hl 0 rfl) ?_
        refine lv_iconst (v := (4 : Int32)) hx hb d_law_220 (by decide) ?_
        refine lv_iadd hx hb d_law_221 ?_
        refine va_sld hx hb hX hbl hbA hS (g_eix (g_eadd (a := 5 * i + 2) (b := 4) rfl rfl) (by omega) (by omega)) d_law_222 ?_
        obtain ⟨kx0, km0, hE, hV1⟩ := hV_mint x r i (xs ((Int32.ofNat (5 * i + 2)) + (1 : Int32)).toNatClampNeg) (xs ((Int32.ofNat (5 * i + 2)) + (2 : Int32)).toNatClampNeg) (xs ((Int32.ofNat (5 * i + 2)) + (3 : Int32)).toNatClampNeg) (xs ((Int32.ofNat (5 * i + 2)) + (4 : Int32)).toNatClampNeg) hVi (by omega)
        refine g_kWl (va_runV (As := [.int (xs ((Int32.ofNat (5 * i + 2)) + (1 : Int32)).toNatClampNeg), .int (xs ((Int32.ofNat (5 * i + 2)) + (2 : Int32)).toNatClampNeg), .int (xs ((Int32.ofNat (5 * i + 2)) + (3 : Int32)).toNatClampNeg), .int (xs ((Int32.ofNat (5 * i + 2)) + (4 : Int32)).toNatClampNeg)]) (rest := []) ⟨hx, hb, hml, hown, ht⟩ (c_P_mint l dC dI dX adx tb H.size x (xs ((Int32.ofNat (5 * i + 2)) + (1 : Int32)).toNatClampNeg) (xs ((Int32.ofNat (5 * i + 2)) + (2 : Int32)).toNatClampNeg) (xs ((Int32.ofNat (5 * i + 2)) + (3 : Int32)).toNatClampNeg) (xs ((Int32.ofNat (5 * i + 2)) + (4 : Int32)).toNatClampNeg) kx0) (cwV 4 ht gc_L_31 rfl rfl rfl (by decide +kernel) ⟨Nat.le_of_ble_eq_true rfl, Nat.le_of_ble_eq_true rfl⟩) (g_pV (g_prW x_Zok hKx hPx hDx hS hA hz _) (g_rc hKx hPx 0 x_at0 rfl)) rfl rfl hl.1 rfl (lv_room (Nat.le_of_ble_eq_true rfl)) d_law_223 ⟨Nat.le_of_ble_eq_true rfl, Nat.le_of_ble_eq_true rfl⟩) hDx hS hA hPr hap (fun rX τX H locs eX hPx hDx hS hPr => ?_)
        refine lv_aload_n hx hb d_law_226 rfl (lv_at hl 3 rfl) ?_
        refine lv_aload_n hx hb d_law_227 rfl (lv_at hl 1 rfl) ?_
        refine lv_iload_n hx hb d_law_228 rfl (lv_at hl 0 rfl) ?_
        refine lv_iconst (v := (1 : Int32)) hx hb d_law_229 (by decide) ?_
        refine lv_iadd hx hb d_law_230 ?_
        refine va_sld hx hb hX hbl hbA hS (g_eix (g_eadd (a := 5 * i + 2) (b := 1) rfl rfl) (by omega) (by omega)) d_law_231 ?_
        refine lv_aload_n hx hb d_law_232 rfl (lv_at hl 1 rfl) ?_
        refine lv_iload_n hx hb d_law_233 rfl (lv_at hl 0 rfl) ?_
        refine lv_iconst (v := (2 : Int32)) hx hb d_law_234 (by decide) ?_
        refine lv_iadd hx hb d_law_235 ?_
        refine va_sld hx hb hX hbl hbA hS (g_eix (g_eadd (a := 5 * i + 2) (b := 2) rfl rfl) (by omega) (by omega)) d_law_236 ?_
        refine lv_aload_n hx hb d_law_237 rfl (lv_at hl 1 rfl) ?_
        refine lv_iload_n hx hb d_law_238 rfl (lv_at hl 0 rfl) ?_
        refine lv_iconst (v := (3 : Int32)) hx hb d_law_239 (by decide) ?_
        refine lv_iadd hx hb d_law_240 ?_
        refine va_sld hx hb hX hbl hbA hS (g_eix (g_eadd (a := 5 * i + 2) (b := 3) rfl rfl) (by omega) (by omega)) d_law_241 ?_
        refine lv_aload_n hx hb d_law_242 rfl (lv_at hl 1 rfl) ?_
        refine lv_iload_n hx hb d_law_243 rfl (lv_at hl 0 rfl) ?_
        refine lv_iconst (v := (4 : Int32)) hx hb d_law_244 (by decide) ?_
        refine lv_iadd hx hb d_law_245 ?_
        refine va_sld hx hb hX hbl hbA hS (g_eix (g_eadd (a := 5 * i + 2) (b := 4) rfl rfl) (by omega) (by omega)) d_law_246 ?_
        refine g_kWl (va_runV (As := [.int (xs ((Int32.ofNat (5 * i + 2)) + (1 : Int32)).toNatClampNeg), .int (xs ((Int32.ofNat (5 * i + 2)) + (2 : Int32)).toNatClampNeg), .int (xs ((Int32.ofNat (5 * i + 2)) + (3 : Int32)).toNatClampNeg), .int (xs ((Int32.ofNat (5 * i + 2)) + (4 : Int32)).toNatClampNeg)]) (rest := [.long rX]) ⟨hx, hb, hml, hown, ht⟩ (c_M_mint l dC dI dR adr H.size r (xs ((Int32.ofNat (5 * i + 2)) + (1 : Int32)).toNatClampNeg) (xs ((Int32.ofNat (5 * i + 2)) + (2 : Int32)).toNatClampNeg) (xs ((Int32.ofNat (5 * i + 2)) + (3 : Int32)).toNatClampNeg) (xs ((Int32.ofNat (5 * i + 2)) + (4 : Int32)).toNatClampNeg) km0) (cwV 4 ht gc_L_35 rfl rfl rfl (by decide +kernel) ⟨Nat.le_of_ble_eq_true rfl, Nat.le_of_ble_eq_true rfl⟩) (g_pV (g_prW r_Zok hKr hPr hDr hS hA hzr _) (g_rc hKr hPr 0 r_at0 rfl)) rfl rfl hl.1 rfl (lv_room (Nat.le_of_ble_eq_true rfl)) d_law_247 ⟨Nat.le_of_ble_eq_true rfl, Nat.le_of_ble_eq_true rfl⟩) hDr hS hA hPx hap' (fun rM τM H locs eM hPr hDr hS hPx => ?_)
        refine W.lcmp hx hb d_law_250 ?_
        have hXM : rX = rM := (congrArg Prod.fst eX).trans (hE.trans (congrArg Prod.fst eM).symm)
        refine lv_if_eq (tgt := 749) hx hb d_law_251 (by decide) (fun _ => ?_) (fun c9 => absurd ((lg_cmp_eq _ _).mpr hXM) c9)
        have hV2 : V τX τM (i + 1) := by rw [show τX = _ from congrArg Prod.snd eX, show τM = _ from congrArg Prod.snd eM]; exact hV1
        exact TAIL τX τM H locs ls hV2 hPx hDx hPr hDr hS hl
      by_cases c_3 : y = 3
      ·
        refine lv_tableIn (tgt := 256) hx hb d_law_52 (by rw [c_3]; decide) (by rw [c_3]; decide) (by rw [c_3]; rfl) (by decide) ?_
        refine lv_aload_n hx hb d_law_256 rfl (lv_at hl 2 rfl) ?_
        refine lv_aload_n hx hb d_law_257 rfl (lv_at hl 1 rfl) ?_
        refine lv_iload_n hx hb d_law_258 rfl (lv_at hl 0 rfl) ?_
        refine lv_iconst (v := (1 : Int32)) hx hb d_law_259 (by decide) ?_
        refine lv_iadd hx hb d_law_260 ?_
        refine va_sld hx hb hX hbl hbA hS (g_eix (g_eadd (a := 5 * i + 2) (b := 1) rfl rfl) (by omega) (by omega)) d_law_261 ?_
        refine lv_aload_n hx hb d_law_262 rfl (lv_at hl 1 rfl) ?_
        refine lv_iload_n hx hb d_law_263 rfl (lv_at hl 0 rfl) ?_
        refine lv_iconst (v := (2 : Int32)) hx hb d_law_264 (by decide) ?_
        refine lv_iadd hx hb d_law_265 ?_
        refine va_sld hx hb hX hbl hbA hS (g_eix (g_eadd (a := 5 * i + 2) (b := 2) rfl rfl) (by omega) (by omega)) d_law_266 ?_
        refine lv_aload_n hx hb d_law_267 rfl (lv_at hl 1 rfl) ?_
        refine lv_iload_n hx hb d_law_268 rfl (lv_at hl 0 rfl) ?_
        refine lv_iconst (v := (3 : Int32)) hx hb d_law_269 (by decide) ?_
        refine lv_iadd hx hb d_law_270 ?_
        refine va_sld hx hb hX hbl hbA hS (g_eix (g_eadd (a := 5 * i + 2) (b := 3) rfl rfl) (by omega) (by omega)) d_law_271 ?_
        refine lv_aload_n hx hb d_law_272 rfl (lv_at hl 1 rfl) ?_
        refine lv_iload_n hx hb d_law_273 rfl (lv_at hl 0 rfl) ?_
        refine lv_iconst (v := (4 : Int32)) hx hb d_law_274 (by decide) ?_
        refine lv_iadd hx hb d_law_275 ?_
        refine va_sld hx hb hX hbl hbA hS (g_eix (g_eadd (a := 5 * i + 2) (b := 4) rfl rfl) (by omega) (by omega)) d_law_276 ?_
        obtain ⟨kx0, km0, hE, hV1⟩ := hV_burn x r i (xs ((Int32.ofNat (5 * i + 2)) + (1 : Int32)).toNatClampNeg) (xs ((Int32.ofNat (5 * i + 2)) + (2 : Int32)).toNatClampNeg) (xs ((Int32.ofNat (5 * i + 2)) + (3 : Int32)).toNatClampNeg) (xs ((Int32.ofNat (5 * i + 2)) + (4 : Int32)).toNatClampNeg) hVi (by omega)
        refine g_kWl (va_runV (As := [.int (xs ((Int32.ofNat (5 * i + 2)) + (1 : Int32)).toNatClampNeg), .int (xs ((Int32.ofNat (5 * i + 2)) + (2 : Int32)).toNatClampNeg), .int (xs ((Int32.ofNat (5 * i + 2)) + (3 : Int32)).toNatClampNeg), .int (xs ((Int32.ofNat (5 * i + 2)) + (4 : Int32)).toNatClampNeg)]) (rest := []) ⟨hx, hb, hml, hown, ht⟩ (c_P_burn l dC dI dX adx tb H.size x (xs ((Int32.ofNat (5 * i + 2)) + (1 : Int32)).toNatClampNeg) (xs ((Int32.ofNat (5 * i + 2)) + (2 : Int32)).toNatClampNeg) (xs ((Int32.ofNat (5 * i + 2)) + (3 : Int32)).toNatClampNeg) (xs ((Int32.ofNat (5 * i + 2)) + (4 : Int32)).toNatClampNeg) kx0) (cwV 4 ht gc_L_36 rfl rfl rfl (by decide +kernel) ⟨Nat.le_of_ble_eq_true rfl, Nat.le_of_ble_eq_true rfl⟩) (g_pV (g_prW x_Zok hKx hPx hDx hS hA hz _) (g_rc hKx hPx 0 x_at0 rfl)) rfl rfl hl.1 rfl (lv_room (Nat.le_of_ble_eq_true rfl)) d_law_277 ⟨Nat.le_of_ble_eq_true rfl, Nat.le_of_ble_eq_true rfl⟩) hDx hS hA hPr hap (fun rX τX H locs eX hPx hDx hS hPr => ?_)
        refine lv_aload_n hx hb d_law_280 rfl (lv_at hl 3 rfl) ?_
        refine lv_aload_n hx hb d_law_281 rfl (lv_at hl 1 rfl) ?_
        refine lv_iload_n hx hb d_law_282 rfl (lv_at hl 0 rfl) ?_
        refine lv_iconst (v := (1 : Int32)) hx hb d_law_283 (by decide) ?_
        refine lv_iadd hx hb d_law_284 ?_
        refine va_sld hx hb hX hbl hbA hS (g_eix (g_eadd (a := 5 * i + 2) (b := 1) rfl rfl) (by omega) (by omega)) d_law_285 ?_
        refine lv_aload_n hx hb d_law_286 rfl (lv_at hl 1 rfl) ?_
        refine lv_iload_n hx hb d_law_287 rfl (lv_at hl 0 rfl) ?_
        refine lv_iconst (v := (2 : Int32)) hx hb d_law_288 (by decide) ?_
        refine lv_iadd hx hb d_law_289 ?_
        refine va_sld hx hb hX hbl hbA hS (g_eix (g_eadd (a := 5 * i + 2) (b := 2) rfl rfl) (by omega) (by omega)) d_law_290 ?_
        refine lv_aload_n hx hb d_law_291 rfl (lv_at hl 1 rfl) ?_
        refine lv_iload_n hx hb d_law_292 rfl (lv_at hl 0 rfl) ?_
        refine lv_iconst (v := (3 : Int32)) hx hb d_law_293 (by decide) ?_
        refine lv_iadd hx hb d_law_294 ?_
        refine va_sld hx hb hX hbl hbA hS (g_eix (g_eadd (a := 5 * i + 2) (b := 3) rfl rfl) (by omega) (by omega)) d_law_295 ?_
        refine lv_aload_n hx hb d_law_296 rfl (lv_at hl 1 rfl) ?_
        refine lv_iload_n hx hb d_law_297 rfl (lv_at hl 0 rfl) ?_
        refine lv_iconst (v := (4 : Int32)) hx hb d_law_298 (by decide) ?_
        refine lv_iadd hx hb d_law_299 ?_
        refine va_sld hx hb hX hbl hbA hS (g_eix (g_eadd (a := 5 * i + 2) (b := 4) rfl rfl) (by omega) (by omega)) d_law_300 ?_
        refine g_kWl (va_runV (As := [.int (xs ((Int32.ofNat (5 * i + 2)) + (1 : Int32)).toNatClampNeg), .int (xs ((Int32.ofNat (5 * i + 2)) + (2 : Int32)).toNatClampNeg), .int (xs ((Int32.ofNat (5 * i + 2)) + (3 : Int32)).toNatClampNeg), .int (xs ((Int32.ofNat (5 * i + 2)) + (4 : Int32)).toNatClampNeg)]) (rest := [.long rX]) ⟨hx, hb, hml, hown, ht⟩ (c_M_burn l dC dI dR adr H.size r (xs ((Int32.ofNat (5 * i + 2)) + (1 : Int32)).toNatClampNeg) (xs ((Int32.ofNat (5 * i + 2)) + (2 : Int32)).toNatClampNeg) (xs ((Int32.ofNat (5 * i + 2)) + (3 : Int32)).toNatClampNeg) (xs ((Int32.ofNat (5 * i + 2)) + (4 : Int32)).toNatClampNeg) km0) (cwV 4 ht gc_L_39 rfl rfl rfl (by decide +kernel) ⟨Nat.le_of_ble_eq_true rfl, Nat.le_of_ble_eq_true rfl⟩) (g_pV (g_prW r_Zok hKr hPr hDr hS hA hzr _) (g_rc hKr hPr 0 r_at0 rfl)) rfl rfl hl.1 rfl (lv_room (Nat.le_of_ble_eq_true rfl)) d_law_301 ⟨Nat.le_of_ble_eq_true rfl, Nat.le_of_ble_eq_true rfl⟩) hDr hS hA hPx hap' (fun rM τM H locs eM hPr hDr hS hPx => ?_)
        refine W.lcmp hx hb d_law_304 ?_
        have hXM : rX = rM := (congrArg Prod.fst eX).trans (hE.trans (congrArg Prod.fst eM).symm)
        refine lv_if_eq (tgt := 749) hx hb d_law_305 (by decide) (fun _ => ?_) (fun c9 => absurd ((lg_cmp_eq _ _).mpr hXM) c9)
        have hV2 : V τX τM (i + 1) := by rw [show τX = _ from congrArg Prod.snd eX, show τM = _ from congrArg Prod.snd eM]; exact hV1
        exact TAIL τX τM H locs ls hV2 hPx hDx hPr hDr hS hl
      by_cases c_4 : y = 4
      ·
        refine lv_tableIn (tgt := 310) hx hb d_law_52 (by rw [c_4]; decide) (by rw [c_4]; decide) (by rw [c_4]; rfl) (by decide) ?_
        refine lv_aload_n hx hb d_law_310 rfl (lv_at hl 2 rfl) ?_
        refine lv_aload_n hx hb d_law_311 rfl (lv_at hl 1 rfl) ?_
        refine lv_iload_n hx hb d_law_312 rfl (lv_at hl 0 rfl) ?_
        refine lv_iconst (v := (1 : Int32)) hx hb d_law_313 (by decide) ?_
        refine lv_iadd hx hb d_law_314 ?_
        refine va_sld hx hb hX hbl hbA hS (g_eix (g_eadd (a := 5 * i + 2) (b := 1) rfl rfl) (by omega) (by omega)) d_law_315 ?_
        refine lv_aload_n hx hb d_law_316 rfl (lv_at hl 1 rfl) ?_
        refine lv_iload_n hx hb d_law_317 rfl (lv_at hl 0 rfl) ?_
        refine lv_iconst (v := (2 : Int32)) hx hb d_law_318 (by decide) ?_
        refine lv_iadd hx hb d_law_319 ?_
        refine va_sld hx hb hX hbl hbA hS (g_eix (g_eadd (a := 5 * i + 2) (b := 2) rfl rfl) (by omega) (by omega)) d_law_320 ?_
        refine lv_aload_n hx hb d_law_321 rfl (lv_at hl 1 rfl) ?_
        refine lv_iload_n hx hb d_law_322 rfl (lv_at hl 0 rfl) ?_
        refine lv_iconst (v := (3 : Int32)) hx hb d_law_323 (by decide) ?_
        refine lv_iadd hx hb d_law_324 ?_
        refine va_sld hx hb hX hbl hbA hS (g_eix (g_eadd (a := 5 * i + 2) (b := 3) rfl rfl) (by omega) (by omega)) d_law_325 ?_
        obtain ⟨kx0, km0, hE, hV1⟩ := hV_collect x r i (xs ((Int32.ofNat (5 * i + 2)) + (1 : Int32)).toNatClampNeg) (xs ((Int32.ofNat (5 * i + 2)) + (2 : Int32)).toNatClampNeg) (xs ((Int32.ofNat (5 * i + 2)) + (3 : Int32)).toNatClampNeg) hVi (by omega)
        refine g_kWl (va_runV (As := [.int (xs ((Int32.ofNat (5 * i + 2)) + (1 : Int32)).toNatClampNeg), .int (xs ((Int32.ofNat (5 * i + 2)) + (2 : Int32)).toNatClampNeg), .int (xs ((Int32.ofNat (5 * i + 2)) + (3 : Int32)).toNatClampNeg)]) (rest := []) ⟨hx, hb, hml, hown, ht⟩ (c_P_collect l dC dI dX adx tb H.size x (xs ((Int32.ofNat (5 * i + 2)) + (1 : Int32)).toNatClampNeg) (xs ((Int32.ofNat (5 * i + 2)) + (2 : Int32)).toNatClampNeg) (xs ((Int32.ofNat (5 * i + 2)) + (3 : Int32)).toNatClampNeg) kx0) (cwV 3 ht gc_L_40 rfl rfl rfl (by decide +kernel) ⟨Nat.le_of_ble_eq_true rfl, Nat.le_of_ble_eq_true rfl⟩) (g_pV (g_prW x_Zok hKx hPx hDx hS hA hz _) (g_rc hKx hPx 0 x_at0 rfl)) rfl rfl hl.1 rfl (lv_room (Nat.le_of_ble_eq_true rfl)) d_law_326 ⟨Nat.le_of_ble_eq_true rfl, Nat.le_of_ble_eq_true rfl⟩) hDx hS hA hPr hap (fun rX τX H locs eX hPx hDx hS hPr => ?_)
        refine lv_aload_n hx hb d_law_329 rfl (lv_at hl 3 rfl) ?_
        refine lv_aload_n hx hb d_law_330 rfl (lv_at hl 1 rfl) ?_
        refine lv_iload_n hx hb d_law_331 rfl (lv_at hl 0 rfl) ?_
        refine lv_iconst (v := (1 : Int32)) hx hb d_law_332 (by decide) ?_
        refine lv_iadd hx hb d_law_333 ?_
        refine va_sld hx hb hX hbl hbA hS (g_eix (g_eadd (a := 5 * i + 2) (b := 1) rfl rfl) (by omega) (by omega)) d_law_334 ?_
        refine lv_aload_n hx hb d_law_335 rfl (lv_at hl 1 rfl) ?_
        refine lv_iload_n hx hb d_law_336 rfl (lv_at hl 0 rfl) ?_
        refine lv_iconst (v := (2 : Int32)) hx hb d_law_337 (by decide) ?_
        refine lv_iadd hx hb d_law_338 ?_
        refine va_sld hx hb hX hbl hbA hS (g_eix (g_eadd (a := 5 * i + 2) (b := 2) rfl rfl) (by omega) (by omega)) d_law_339 ?_
        refine lv_aload_n hx hb d_law_340 rfl (lv_at hl 1 rfl) ?_
        refine lv_iload_n hx hb d_law_341 rfl (lv_at hl 0 rfl) ?_
        refine lv_iconst (v := (3 : Int32)) hx hb d_law_342 (by decide) ?_
        refine lv_iadd hx hb d_law_343 ?_
        refine va_sld hx hb hX hbl hbA hS (g_eix (g_eadd (a := 5 * i + 2) (b := 3) rfl rfl) (by omega) (by omega)) d_law_344 ?_
        refine g_kWl (va_runV (As := [.int (xs ((Int32.ofNat (5 * i + 2)) + (1 : Int32)).toNatClampNeg), .int (xs ((Int32.ofNat (5 * i + 2)) + (2 : Int32)).toNatClampNeg), .int (xs ((Int32.ofNat (5 * i + 2)) + (3 : Int32)).toNatClampNeg)]) (rest := [.long rX]) ⟨hx, hb, hml, hown, ht⟩ (c_M_collect l dC dI dR adr H.size r (xs ((Int32.ofNat (5 * i + 2)) + (1 : Int32)).toNatClampNeg) (xs ((Int32.ofNat (5 * i + 2)) + (2 : Int32)).toNatClampNeg) (xs ((Int32.ofNat (5 * i + 2)) + (3 : Int32)).toNatClampNeg) km0) (cwV 3 ht gc_L_44 rfl rfl rfl (by decide +kernel) ⟨Nat.le_of_ble_eq_true rfl, Nat.le_of_ble_eq_true rfl⟩) (g_pV (g_prW r_Zok hKr hPr hDr hS hA hzr _) (g_rc hKr hPr 0 r_at0 rfl)) rfl rfl hl.1 rfl (lv_room (Nat.le_of_ble_eq_true rfl)) d_law_345 ⟨Nat.le_of_ble_eq_true rfl, Nat.le_of_ble_eq_true rfl⟩) hDr hS hA hPx hap' (fun rM τM H locs eM hPr hDr hS hPx => ?_)
        refine W.lcmp hx hb d_law_348 ?_
        have hXM : rX = rM := (congrArg Prod.fst eX).trans (hE.trans (congrArg Prod.fst eM).symm)
        refine lv_if_eq (tgt := 749) hx hb d_law_349 (by decide) (fun _ => ?_) (fun c9 => absurd ((lg_cmp_eq _ _).mpr hXM) c9)
        have hV2 : V τX τM (i + 1) := by rw [show τX = _ from congrArg Prod.snd eX, show τM = _ from congrArg Prod.snd eM]; exact hV1
        exact TAIL τX τM H locs ls hV2 hPx hDx hPr hDr hS hl
      by_cases c_5 : y = 5
      ·
        refine lv_tableIn (tgt := 354) hx hb d_law_52 (by rw [c_5]; decide) (by rw [c_5]; decide) (by rw [c_5]; rfl) (by decide) ?_
        by_cases hb0 : xs ((Int32.ofNat (5 * i + 2)) + (2 : Int32)).toNatClampNeg = 0
        ·
          refine lv_aload_n hx hb d_law_354 rfl (lv_at hl 2 rfl) ?_
          refine lv_aload_n hx hb d_law_355 rfl (lv_at hl 1 rfl) ?_
          refine lv_iload_n hx hb d_law_356 rfl (lv_at hl 0 rfl) ?_
          refine lv_iconst (v := (1 : Int32)) hx hb d_law_357 (by decide) ?_
          refine lv_iadd hx hb d_law_358 ?_
          refine va_sld hx hb hX hbl hbA hS (g_eix (g_eadd (a := 5 * i + 2) (b := 1) rfl rfl) (by omega) (by omega)) d_law_359 ?_
          refine lv_aload_n hx hb d_law_360 rfl (lv_at hl 1 rfl) ?_
          refine lv_iload_n hx hb d_law_361 rfl (lv_at hl 0 rfl) ?_
          refine lv_iconst (v := (2 : Int32)) hx hb d_law_362 (by decide) ?_
          refine lv_iadd hx hb d_law_363 ?_
          refine va_sld hx hb hX hbl hbA hS (g_eix (g_eadd (a := 5 * i + 2) (b := 2) rfl rfl) (by omega) (by omega)) d_law_364 ?_
          refine lv_if_eq (tgt := 372) hx hb d_law_365 (by decide) (fun _ => ?_) (fun c9 => absurd hb0 c9)
          refine lv_iconst (v := (0 : Int32)) hx hb d_law_372 (by decide) ?_
          refine lv_aload_n hx hb d_law_373 rfl (lv_at hl 1 rfl) ?_
          refine lv_iload_n hx hb d_law_374 rfl (lv_at hl 0 rfl) ?_
          refine lv_iconst (v := (3 : Int32)) hx hb d_law_375 (by decide) ?_
          refine lv_iadd hx hb d_law_376 ?_
          refine va_sld hx hb hX hbl hbA hS (g_eix (g_eadd (a := 5 * i + 2) (b := 3) rfl rfl) (by omega) (by omega)) d_law_377 ?_
          refine lv_aload_n hx hb d_law_378 rfl (lv_at hl 1 rfl) ?_
          refine lv_iload_n hx hb d_law_379 rfl (lv_at hl 0 rfl) ?_
          refine lv_iconst (v := (4 : Int32)) hx hb d_law_380 (by decide) ?_
          refine lv_iadd hx hb d_law_381 ?_
          refine va_sld hx hb hX hbl hbA hS (g_eix (g_eadd (a := 5 * i + 2) (b := 4) rfl rfl) (by omega) (by omega)) d_law_382 ?_
          obtain ⟨kx0, km0, hE, hV1⟩ := hV_swap x r i (xs ((Int32.ofNat (5 * i + 2)) + (1 : Int32)).toNatClampNeg) (0 : Int32) (xs ((Int32.ofNat (5 * i + 2)) + (3 : Int32)).toNatClampNeg) (xs ((Int32.ofNat (5 * i + 2)) + (4 : Int32)).toNatClampNeg) hVi (by omega) (Or.inl rfl)
          refine g_kWl (va_runV (As := [.int (xs ((Int32.ofNat (5 * i + 2)) + (1 : Int32)).toNatClampNeg), .int (0 : Int32), .int (xs ((Int32.ofNat (5 * i + 2)) + (3 : Int32)).toNatClampNeg), .int (xs ((Int32.ofNat (5 * i + 2)) + (4 : Int32)).toNatClampNeg)]) (rest := []) ⟨hx, hb, hml, hown, ht⟩ (c_P_swap l dC dI dX adx tb H.size x (xs ((Int32.ofNat (5 * i + 2)) + (1 : Int32)).toNatClampNeg) (0 : Int32) (xs ((Int32.ofNat (5 * i + 2)) + (3 : Int32)).toNatClampNeg) (xs ((Int32.ofNat (5 * i + 2)) + (4 : Int32)).toNatClampNeg) kx0) (cwV 4 ht gc_L_45 rfl rfl rfl (by decide +kernel) ⟨Nat.le_of_ble_eq_true rfl, Nat.le_of_ble_eq_true rfl⟩) (g_pV (g_prW x_Zok hKx hPx hDx hS hA hz _) (g_rc hKx hPx 0 x_at0 rfl)) rfl rfl hl.1 rfl (lv_room (Nat.le_of_ble_eq_true rfl)) d_law_383 ⟨Nat.le_of_ble_eq_true rfl, Nat.le_of_ble_eq_true rfl⟩) hDx hS hA hPr hap (fun rX τX H locs eX hPx hDx hS hPr => ?_)
          refine lv_aload_n hx hb d_law_386 rfl (lv_at hl 3 rfl) ?_
          refine lv_aload_n hx hb d_law_387 rfl (lv_at hl 1 rfl) ?_
          refine lv_iload_n hx hb d_law_388 rfl (lv_at hl 0 rfl) ?_
          refine lv_iconst (v := (1 : Int32)) hx hb d_law_389 (by decide) ?_
          refine lv_iadd hx hb d_law_390 ?_
          refine va_sld hx hb hX hbl hbA hS (g_eix (g_eadd (a := 5 * i + 2) (b := 1) rfl rfl) (by omega) (by omega)) d_law_391 ?_
          refine lv_aload_n hx hb d_law_392 rfl (lv_at hl 1 rfl) ?_
          refine lv_iload_n hx hb d_law_393 rfl (lv_at hl 0 rfl) ?_
          refine lv_iconst (v := (2 : Int32)) hx hb d_law_394 (by decide) ?_
          refine lv_iadd hx hb d_law_395 ?_
          refine va_sld hx hb hX hbl hbA hS (g_eix (g_eadd (a := 5 * i + 2) (b := 2) rfl rfl) (by omega) (by omega)) d_law_396 ?_
          refine lv_if_eq (tgt := 404) hx hb d_law_397 (by decide) (fun _ => ?_) (fun c9 => absurd hb0 c9)
          refine lv_iconst (v := (0 : Int32)) hx hb d_law_404 (by decide) ?_
          refine lv_aload_n hx hb d_law_405 rfl (lv_at hl 1 rfl) ?_
          refine lv_iload_n hx hb d_law_406 rfl (lv_at hl 0 rfl) ?_
          refine lv_iconst (v := (3 : Int32)) hx hb d_law_407 (by decide) ?_
          refine lv_iadd hx hb d_law_408 ?_
          refine va_sld hx hb hX hbl hbA hS (g_eix (g_eadd (a := 5 * i + 2) (b := 3) rfl rfl) (by omega) (by omega)) d_law_409 ?_
          refine lv_aload_n hx hb d_law_410 rfl (lv_at hl 1 rfl) ?_
          refine lv_iload_n hx hb d_law_411 rfl (lv_at hl 0 rfl) ?_
          refine lv_iconst (v := (4 : Int32)) hx hb d_law_412 (by decide) ?_
          refine lv_iadd hx hb d_law_413 ?_
          refine va_sld hx hb hX hbl hbA hS (g_eix (g_eadd (a := 5 * i + 2) (b := 4) rfl rfl) (by omega) (by omega)) d_law_414 ?_
          refine g_kWl (va_runV (As := [.int (xs ((Int32.ofNat (5 * i + 2)) + (1 : Int32)).toNatClampNeg), .int (0 : Int32), .int (xs ((Int32.ofNat (5 * i + 2)) + (3 : Int32)).toNatClampNeg), .int (xs ((Int32.ofNat (5 * i + 2)) + (4 : Int32)).toNatClampNeg)]) (rest := [.long rX]) ⟨hx, hb, hml, hown, ht⟩ (c_M_swap l dC dI dR adr H.size r (xs ((Int32.ofNat (5 * i + 2)) + (1 : Int32)).toNatClampNeg) (0 : Int32) (xs ((Int32.ofNat (5 * i + 2)) + (3 : Int32)).toNatClampNeg) (xs ((Int32.ofNat (5 * i + 2)) + (4 : Int32)).toNatClampNeg) km0) (cwV 4 ht gc_L_49 rfl rfl rfl (by decide +kernel) ⟨Nat.le_of_ble_eq_true rfl, Nat.le_of_ble_eq_true rfl⟩) (g_pV (g_prW r_Zok hKr hPr hDr hS hA hzr _) (g_rc hKr hPr 0 r_at0 rfl)) rfl rfl hl.1 rfl (lv_room (Nat.le_of_ble_eq_true rfl)) d_law_415 ⟨Nat.le_of_ble_eq_true rfl, Nat.le_of_ble_eq_true rfl⟩) hDr hS hA hPx hap' (fun rM τM H locs eM hPr hDr hS hPx => ?_)
          refine W.lcmp hx hb d_law_418 ?_
          have hXM : rX = rM := (congrArg Prod.fst eX).trans (hE.trans (congrArg Prod.fst eM).symm)
          refine lv_if_eq (tgt := 749) hx hb d_law_419 (by decide) (fun _ => ?_) (fun c9 => absurd ((lg_cmp_eq _ _).mpr hXM) c9)
          have hV2 : V τX τM (i + 1) := by rw [show τX = _ from congrArg Prod.snd eX, show τM = _ from congrArg Prod.snd eM]; exact hV1
          exact TAIL τX τM H locs ls hV2 hPx hDx hPr hDr hS hl
        ·
          refine lv_aload_n hx hb d_law_354 rfl (lv_at hl 2 rfl) ?_
          refine lv_aload_n hx hb d_law_355 rfl (lv_at hl 1 rfl) ?_
          refine lv_iload_n hx hb d_law_356 rfl (lv_at hl 0 rfl) ?_
          refine lv_iconst (v := (1 : Int32)) hx hb d_law_357 (by decide) ?_
          refine lv_iadd hx hb d_law_358 ?_
          refine va_sld hx hb hX hbl hbA hS (g_eix (g_eadd (a := 5 * i + 2) (b := 1) rfl rfl) (by omega) (by omega)) d_law_359 ?_
          refine lv_aload_n hx hb d_law_360 rfl (lv_at hl 1 rfl) ?_
          refine lv_iload_n hx hb d_law_361 rfl (lv_at hl 0 rfl) ?_
          refine lv_iconst (v := (2 : Int32)) hx hb d_law_362 (by decide) ?_
          refine lv_iadd hx hb d_law_363 ?_
          refine va_sld hx hb hX hbl hbA hS (g_eix (g_eadd (a := 5 * i + 2) (b := 2) rfl rfl) (by omega) (by omega)) d_law_364 ?_
          refine lv_if_eq (tgt := 372) hx hb d_law_365 (by decide) (fun c9 => absurd c9 hb0) (fun _ => ?_)
          refine lv_iconst (v := (1 : Int32)) hx hb d_law_368 (by decide) ?_
          refine lv_goto (tgt := 373) hx hb d_law_369 (by decide) ?_
          refine lv_aload_n hx hb d_law_373 rfl (lv_at hl 1 rfl) ?_
          refine lv_iload_n hx hb d_law_374 rfl (lv_at hl 0 rfl) ?_
          refine lv_iconst (v := (3 : Int32)) hx hb d_law_375 (by decide) ?_
          refine lv_iadd hx hb d_law_376 ?_
          refine va_sld hx hb hX hbl hbA hS (g_eix (g_eadd (a := 5 * i + 2) (b := 3) rfl rfl) (by omega) (by omega)) d_law_377 ?_
          refine lv_aload_n hx hb d_law_378 rfl (lv_at hl 1 rfl) ?_
          refine lv_iload_n hx hb d_law_379 rfl (lv_at hl 0 rfl) ?_
          refine lv_iconst (v := (4 : Int32)) hx hb d_law_380 (by decide) ?_
          refine lv_iadd hx hb d_law_381 ?_
          refine va_sld hx hb hX hbl hbA hS (g_eix (g_eadd (a := 5 * i + 2) (b := 4) rfl rfl) (by omega) (by omega)) d_law_382 ?_
          obtain ⟨kx0, km0, hE, hV1⟩ := hV_swap x r i (xs ((Int32.ofNat (5 * i + 2)) + (1 : Int32)).toNatClampNeg) (1 : Int32) (xs ((Int32.ofNat (5 * i + 2)) + (3 : Int32)).toNatClampNeg) (xs ((Int32.ofNat (5 * i + 2)) + (4 : Int32)).toNatClampNeg) hVi (by omega) (Or.inr rfl)
          refine g_kWl (va_runV (As := [.int (xs ((Int32.ofNat (5 * i + 2)) + (1 : Int32)).toNatClampNeg), .int (1 : Int32), .int (xs ((Int32.ofNat (5 * i + 2)) + (3 : Int32)).toNatClampNeg), .int (xs ((Int32.ofNat (5 * i + 2)) + (4 : Int32)).toNatClampNeg)]) (rest := []) ⟨hx, hb, hml, hown, ht⟩ (c_P_swap l dC dI dX adx tb H.size x (xs ((Int32.ofNat (5 * i + 2)) + (1 : Int32)).toNatClampNeg) (1 : Int32) (xs ((Int32.ofNat (5 * i + 2)) + (3 : Int32)).toNatClampNeg) (xs ((Int32.ofNat (5 * i + 2)) + (4 : Int32)).toNatClampNeg) kx0) (cwV 4 ht gc_L_45 rfl rfl rfl (by decide +kernel) ⟨Nat.le_of_ble_eq_true rfl, Nat.le_of_ble_eq_true rfl⟩) (g_pV (g_prW x_Zok hKx hPx hDx hS hA hz _) (g_rc hKx hPx 0 x_at0 rfl)) rfl rfl hl.1 rfl (lv_room (Nat.le_of_ble_eq_true rfl)) d_law_383 ⟨Nat.le_of_ble_eq_true rfl, Nat.le_of_ble_eq_true rfl⟩) hDx hS hA hPr hap (fun rX τX H locs eX hPx hDx hS hPr => ?_)
          refine lv_aload_n hx hb d_law_386 rfl (lv_at hl 3 rfl) ?_
          refine lv_aload_n hx hb d_law_387 rfl (lv_at hl 1 rfl) ?_
          refine lv_iload_n hx hb d_law_388 rfl (lv_at hl 0 rfl) ?_
          refine lv_iconst (v := (1 : Int32)) hx hb d_law_389 (by decide) ?_
          refine lv_iadd hx hb d_law_390 ?_
          refine va_sld hx hb hX hbl hbA hS (g_eix (g_eadd (a := 5 * i + 2) (b := 1) rfl rfl) (by omega) (by omega)) d_law_391 ?_
          refine lv_aload_n hx hb d_law_392 rfl (lv_at hl 1 rfl) ?_
          refine lv_iload_n hx hb d_law_393 rfl (lv_at hl 0 rfl) ?_
          refine lv_iconst (v := (2 : Int32)) hx hb d_law_394 (by decide) ?_
          refine lv_iadd hx hb d_law_395 ?_
          refine va_sld hx hb hX hbl hbA hS (g_eix (g_eadd (a := 5 * i + 2) (b := 2) rfl rfl) (by omega) (by omega)) d_law_396 ?_
          refine lv_if_eq (tgt := 404) hx hb d_law_397 (by decide) (fun c9 => absurd c9 hb0) (fun _ => ?_)
          refine lv_iconst (v := (1 : Int32)) hx hb d_law_400 (by decide) ?_
          refine lv_goto (tgt := 405) hx hb d_law_401 (by decide) ?_
          refine lv_aload_n hx hb d_law_405 rfl (lv_at hl 1 rfl) ?_
          refine lv_iload_n hx hb d_law_406 rfl (lv_at hl 0 rfl) ?_
          refine lv_iconst (v := (3 : Int32)) hx hb d_law_407 (by decide) ?_
          refine lv_iadd hx hb d_law_408 ?_
          refine va_sld hx hb hX hbl hbA hS (g_eix (g_eadd (a := 5 * i + 2) (b := 3) rfl rfl) (by omega) (by omega)) d_law_409 ?_
          refine lv_aload_n hx hb d_law_410 rfl (lv_at hl 1 rfl) ?_
          refine lv_iload_n hx hb d_law_411 rfl (lv_at hl 0 rfl) ?_
          refine lv_iconst (v := (4 : Int32)) hx hb d_law_412 (by decide) ?_
          refine lv_iadd hx hb d_law_413 ?_
          refine va_sld hx hb hX hbl hbA hS (g_eix (g_eadd (a := 5 * i + 2) (b := 4) rfl rfl) (by omega) (by omega)) d_law_414 ?_
          refine g_kWl (va_runV (As := [.int (xs ((Int32.ofNat (5 * i + 2)) + (1 : Int32)).toNatClampNeg), .int (1 : Int32), .int (xs ((Int32.ofNat (5 * i + 2)) + (3 : Int32)).toNatClampNeg), .int (xs ((Int32.ofNat (5 * i + 2)) + (4 : Int32)).toNatClampNeg)]) (rest := [.long rX]) ⟨hx, hb, hml, hown, ht⟩ (c_M_swap l dC dI dR adr H.size r (xs ((Int32.ofNat (5 * i + 2)) + (1 : Int32)).toNatClampNeg) (1 : Int32) (xs ((Int32.ofNat (5 * i + 2)) + (3 : Int32)).toNatClampNeg) (xs ((Int32.ofNat (5 * i + 2)) + (4 : Int32)).toNatClampNeg) km0) (cwV 4 ht gc_L_49 rfl rfl rfl (by decide +kernel) ⟨Nat.le_of_ble_eq_true rfl, Nat.le_of_ble_eq_true rfl⟩) (g_pV (g_prW r_Zok hKr hPr hDr hS hA hzr _) (g_rc hKr hPr 0 r_at0 rfl)) rfl rfl hl.1 rfl (lv_room (Nat.le_of_ble_eq_true rfl)) d_law_415 ⟨Nat.le_of_ble_eq_true rfl, Nat.le_of_ble_eq_true rfl⟩) hDr hS hA hPx hap' (fun rM τM H locs eM hPr hDr hS hPx => ?_)
          refine W.lcmp hx hb d_law_418 ?_
          have hXM : rX = rM := (congrArg Prod.fst eX).trans (hE.trans (congrArg Prod.fst eM).symm)
          refine lv_if_eq (tgt := 749) hx hb d_law_419 (by decide) (fun _ => ?_) (fun c9 => absurd ((lg_cmp_eq _ _).mpr hXM) c9)
          have hV2 : V τX τM (i + 1) := by rw [show τX = _ from congrArg Prod.snd eX, show τM = _ from congrArg Prod.snd eM]; exact hV1
          exact TAIL τX τM H locs ls hV2 hPx hDx hPr hDr hS hl
      by_cases c_6 : y = 6
      ·
        refine lv_tableIn (tgt := 424) hx hb d_law_52 (by rw [c_6]; decide) (by rw [c_6]; decide) (by rw [c_6]; rfl) (by decide) ?_
        by_cases hb0 : xs ((Int32.ofNat (5 * i + 2)) + (1 : Int32)).toNatClampNeg = 0
        ·
          refine lv_aload_n hx hb d_law_424 rfl (lv_at hl 2 rfl) ?_
          refine lv_aload_n hx hb d_law_425 rfl (lv_at hl 1 rfl) ?_
          refine lv_iload_n hx hb d_law_426 rfl (lv_at hl 0 rfl) ?_
          refine lv_iconst (v := (1 : Int32)) hx hb d_law_427 (by decide) ?_
          refine lv_iadd hx hb d_law_428 ?_
          refine va_sld hx hb hX hbl hbA hS (g_eix (g_eadd (a := 5 * i + 2) (b := 1) rfl rfl) (by omega) (by omega)) d_law_429 ?_
          refine lv_if_eq (tgt := 437) hx hb d_law_430 (by decide) (fun _ => ?_) (fun c9 => absurd hb0 c9)
          refine lv_iconst (v := (0 : Int32)) hx hb d_law_437 (by decide) ?_
          refine lv_aload_n hx hb d_law_438 rfl (lv_at hl 1 rfl) ?_
          refine lv_iload_n hx hb d_law_439 rfl (lv_at hl 0 rfl) ?_
          refine lv_iconst (v := (2 : Int32)) hx hb d_law_440 (by decide) ?_
          refine lv_iadd hx hb d_law_441 ?_
          refine va_sld hx hb hX hbl hbA hS (g_eix (g_eadd (a := 5 * i + 2) (b := 2) rfl rfl) (by omega) (by omega)) d_law_442 ?_
          refine lv_aload_n hx hb d_law_443 rfl (lv_at hl 1 rfl) ?_
          refine lv_iload_n hx hb d_law_444 rfl (lv_at hl 0 rfl) ?_
          refine lv_iconst (v := (3 : Int32)) hx hb d_law_445 (by decide) ?_
          refine lv_iadd hx hb d_law_446 ?_
          refine va_sld hx hb hX hbl hbA hS (g_eix (g_eadd (a := 5 * i + 2) (b := 3) rfl rfl) (by omega) (by omega)) d_law_447 ?_
          obtain ⟨kx0, km0, hE, hV1⟩ := hV_quote x r i (0 : Int32) (xs ((Int32.ofNat (5 * i + 2)) + (2 : Int32)).toNatClampNeg) (xs ((Int32.ofNat (5 * i + 2)) + (3 : Int32)).toNatClampNeg) hVi (by omega) (Or.inl rfl)
          refine g_kWl (va_runV (As := [.int (0 : Int32), .int (xs ((Int32.ofNat (5 * i + 2)) + (2 : Int32)).toNatClampNeg), .int (xs ((Int32.ofNat (5 * i + 2)) + (3 : Int32)).toNatClampNeg)]) (rest := []) ⟨hx, hb, hml, hown, ht⟩ (c_P_quote l dC dI dX adx tb H.size x (0 : Int32) (xs ((Int32.ofNat (5 * i + 2)) + (2 : Int32)).toNatClampNeg) (xs ((Int32.ofNat (5 * i + 2)) + (3 : Int32)).toNatClampNeg) kx0) (cwV 3 ht gc_L_50 rfl rfl rfl (by decide +kernel) ⟨Nat.le_of_ble_eq_true rfl, Nat.le_of_ble_eq_true rfl⟩) (g_pV (g_prW x_Zok hKx hPx hDx hS hA hz _) (g_rc hKx hPx 0 x_at0 rfl)) rfl rfl hl.1 rfl (lv_room (Nat.le_of_ble_eq_true rfl)) d_law_448 ⟨Nat.le_of_ble_eq_true rfl, Nat.le_of_ble_eq_true rfl⟩) hDx hS hA hPr hap (fun rX τX H locs eX hPx hDx hS hPr => ?_)
          refine lv_aload_n hx hb d_law_451 rfl (lv_at hl 3 rfl) ?_
          refine lv_aload_n hx hb d_law_452 rfl (lv_at hl 1 rfl) ?_
          refine lv_iload_n hx hb d_law_453 rfl (lv_at hl 0 rfl) ?_
          refine lv_iconst (v := (1 : Int32)) hx hb d_law_454 (by decide) ?_
          refine lv_iadd hx hb d_law_455 ?_
          refine va_sld hx hb hX hbl hbA hS (g_eix (g_eadd (a := 5 * i + 2) (b := 1) rfl rfl) (by omega) (by omega)) d_law_456 ?_
          refine lv_if_eq (tgt := 464) hx hb d_law_457 (by decide) (fun _ => ?_) (fun c9 => absurd hb0 c9)
          refine lv_iconst (v := (0 : Int32)) hx hb d_law_464 (by decide) ?_
          refine lv_aload_n hx hb d_law_465 rfl (lv_at hl 1 rfl) ?_
          refine lv_iload_n hx hb d_law_466 rfl (lv_at hl 0 rfl) ?_
          refine lv_iconst (v := (2 : Int32)) hx hb d_law_467 (by decide) ?_
          refine lv_iadd hx hb d_law_468 ?_
          refine va_sld hx hb hX hbl hbA hS (g_eix (g_eadd (a := 5 * i + 2) (b := 2) rfl rfl) (by omega) (by omega)) d_law_469 ?_
          refine lv_aload_n hx hb d_law_470 rfl (lv_at hl 1 rfl) ?_
          refine lv_iload_n hx hb d_law_471 rfl (lv_at hl 0 rfl) ?_
          refine lv_iconst (v := (3 : Int32)) hx hb d_law_472 (by decide) ?_
          refine lv_iadd hx hb d_law_473 ?_
          refine va_sld hx hb hX hbl hbA hS (g_eix (g_eadd (a := 5 * i + 2) (b := 3) rfl rfl) (by omega) (by omega)) d_law_474 ?_
          refine g_kWl (va_runV (As := [.int (0 : Int32), .int (xs ((Int32.ofNat (5 * i + 2)) + (2 : Int32)).toNatClampNeg), .int (xs ((Int32.ofNat (5 * i + 2)) + (3 : Int32)).toNatClampNeg)]) (rest := [.long rX]) ⟨hx, hb, hml, hown, ht⟩ (c_M_quote l dC dI dR adr H.size r (0 : Int32) (xs ((Int32.ofNat (5 * i + 2)) + (2 : Int32)).toNatClampNeg) (xs ((Int32.ofNat (5 * i + 2)) + (3 : Int32)).toNatClampNeg) km0) (cwV 3 ht gc_L_54 rfl rfl rfl (by decide +kernel) ⟨Nat.le_of_ble_eq_true rfl, Nat.le_of_ble_eq_true rfl⟩) (g_pV (g_prW r_Zok hKr hPr hDr hS hA hzr _) (g_rc hKr hPr 0 r_at0 rfl)) rfl rfl hl.1 rfl (lv_room (Nat.le_of_ble_eq_true rfl)) d_law_475 ⟨Nat.le_of_ble_eq_true rfl, Nat.le_of_ble_eq_true rfl⟩) hDr hS hA hPx hap' (fun rM τM H locs eM hPr hDr hS hPx => ?_)
          refine W.lcmp hx hb d_law_478 ?_
          have hXM : rX = rM := (congrArg Prod.fst eX).trans (hE.trans (congrArg Prod.fst eM).symm)
          refine lv_if_eq (tgt := 749) hx hb d_law_479 (by decide) (fun _ => ?_) (fun c9 => absurd ((lg_cmp_eq _ _).mpr hXM) c9)
          have hV2 : V τX τM (i + 1) := by rw [show τX = _ from congrArg Prod.snd eX, show τM = _ from congrArg Prod.snd eM]; exact hV1
          exact TAIL τX τM H locs ls hV2 hPx hDx hPr hDr hS hl
        ·
          refine lv_aload_n hx hb d_law_424 rfl (lv_at hl 2 rfl) ?_
          refine lv_aload_n hx hb d_law_425 rfl (lv_at hl 1 rfl) ?_
          refine lv_iload_n hx hb d_law_426 rfl (lv_at hl 0 rfl) ?_
          refine lv_iconst (v := (1 : Int32)) hx hb d_law_427 (by decide) ?_
          refine lv_iadd hx hb d_law_428 ?_
          refine va_sld hx hb hX hbl hbA hS (g_eix (g_eadd (a := 5 * i + 2) (b := 1) rfl rfl) (by omega) (by omega)) d_law_429 ?_
          refine lv_if_eq (tgt := 437) hx hb d_law_430 (by decide) (fun c9 => absurd c9 hb0) (fun _ => ?_)
          refine lv_iconst (v := (1 : Int32)) hx hb d_law_433 (by decide) ?_
          refine lv_goto (tgt := 438) hx hb d_law_434 (by decide) ?_
          refine lv_aload_n hx hb d_law_438 rfl (lv_at hl 1 rfl) ?_
          refine lv_iload_n hx hb d_law_439 rfl (lv_at hl 0 rfl) ?_
          refine lv_iconst (v := (2 : Int32)) hx hb d_law_440 (by decide) ?_
          refine lv_iadd hx hb d_law_441 ?_
          refine va_sld hx hb hX hbl hbA hS (g_eix (g_eadd (a := 5 * i + 2) (b := 2) rfl rfl) (by omega) (by omega)) d_law_442 ?_
          refine lv_aload_n hx hb d_law_443 rfl (lv_at hl 1 rfl) ?_
          refine lv_iload_n hx hb d_law_444 rfl (lv_at hl 0 rfl) ?_
          refine lv_iconst (v := (3 : Int32)) hx hb d_law_445 (by decide) ?_
          refine lv_iadd hx hb d_law_446 ?_
          refine va_sld hx hb hX hbl hbA hS (g_eix (g_eadd (a := 5 * i + 2) (b := 3) rfl rfl) (by omega) (by omega)) d_law_447 ?_
          obtain ⟨kx0, km0, hE, hV1⟩ := hV_quote x r i (1 : Int32) (xs ((Int32.ofNat (5 * i + 2)) + (2 : Int32)).toNatClampNeg) (xs ((Int32.ofNat (5 * i + 2)) + (3 : Int32)).toNatClampNeg) hVi (by omega) (Or.inr rfl)
          refine g_kWl (va_runV (As := [.int (1 : Int32), .int (xs ((Int32.ofNat (5 * i + 2)) + (2 : Int32)).toNatClampNeg), .int (xs ((Int32.ofNat (5 * i + 2)) + (3 : Int32)).toNatClampNeg)]) (rest := []) ⟨hx, hb, hml, hown, ht⟩ (c_P_quote l dC dI dX adx tb H.size x (1 : Int32) (xs ((Int32.ofNat (5 * i + 2)) + (2 : Int32)).toNatClampNeg) (xs ((Int32.ofNat (5 * i + 2)) + (3 : Int32)).toNatClampNeg) kx0) (cwV 3 ht gc_L_50 rfl rfl rfl (by decide +kernel) ⟨Nat.le_of_ble_eq_true rfl, Nat.le_of_ble_eq_true rfl⟩) (g_pV (g_prW x_Zok hKx hPx hDx hS hA hz _) (g_rc hKx hPx 0 x_at0 rfl)) rfl rfl hl.1 rfl (lv_room (Nat.le_of_ble_eq_true rfl)) d_law_448 ⟨Nat.le_of_ble_eq_true rfl, Nat.le_of_ble_eq_true rfl⟩) hDx hS hA hPr hap (fun rX τX H locs eX hPx hDx hS hPr => ?_)
          refine lv_aload_n hx hb d_law_451 rfl (lv_at hl 3 rfl) ?_
          refine lv_aload_n hx hb d_law_452 rfl (lv_at hl 1 rfl) ?_
          refine lv_iload_n hx hb d_law_453 rfl (lv_at hl 0 rfl) ?_
          refine lv_iconst (v := (1 : Int32)) hx hb d_law_454 (by decide) ?_
          refine lv_iadd hx hb d_law_455 ?_
          refine va_sld hx hb hX hbl hbA hS (g_eix (g_eadd (a := 5 * i + 2) (b := 1) rfl rfl) (by omega) (by omega)) d_law_456 ?_
          refine lv_if_eq (tgt := 464) hx hb d_law_457 (by decide) (fun c9 => absurd c9 hb0) (fun _ => ?_)
          refine lv_iconst (v := (1 : Int32)) hx hb d_law_460 (by decide) ?_
          refine lv_goto (tgt := 465) hx hb d_law_461 (by decide) ?_
          refine lv_aload_n hx hb d_law_465 rfl (lv_at hl 1 rfl) ?_
          refine lv_iload_n hx hb d_law_466 rfl (lv_at hl 0 rfl) ?_
          refine lv_iconst (v := (2 : Int32)) hx hb d_law_467 (by decide) ?_
          refine lv_iadd hx hb d_law_468 ?_
          refine va_sld hx hb hX hbl hbA hS (g_eix (g_eadd (a := 5 * i + 2) (b := 2) rfl rfl) (by omega) (by omega)) d_law_469 ?_
          refine lv_aload_n hx hb d_law_470 rfl (lv_at hl 1 rfl) ?_
          refine lv_iload_n hx hb d_law_471 rfl (lv_at hl 0 rfl) ?_
          refine lv_iconst (v := (3 : Int32)) hx hb d_law_472 (by decide) ?_
          refine lv_iadd hx hb d_law_473 ?_
          refine va_sld hx hb hX hbl hbA hS (g_eix (g_eadd (a := 5 * i + 2) (b := 3) rfl rfl) (by omega) (by omega)) d_law_474 ?_
          refine g_kWl (va_runV (As := [.int (1 : Int32), .int (xs ((Int32.ofNat (5 * i + 2)) + (2 : Int32)).toNatClampNeg), .int (xs ((Int32.ofNat (5 * i + 2)) + (3 : Int32)).toNatClampNeg)]) (rest := [.long rX]) ⟨hx, hb, hml, hown, ht⟩ (c_M_quote l dC dI dR adr H.size r (1 : Int32) (xs ((Int32.ofNat (5 * i + 2)) + (2 : Int32)).toNatClampNeg) (xs ((Int32.ofNat (5 * i + 2)) + (3 : Int32)).toNatClampNeg) km0) (cwV 3 ht gc_L_54 rfl rfl rfl (by decide +kernel) ⟨Nat.le_of_ble_eq_true rfl, Nat.le_of_ble_eq_true rfl⟩) (g_pV (g_prW r_Zok hKr hPr hDr hS hA hzr _) (g_rc hKr hPr 0 r_at0 rfl)) rfl rfl hl.1 rfl (lv_room (Nat.le_of_ble_eq_true rfl)) d_law_475 ⟨Nat.le_of_ble_eq_true rfl, Nat.le_of_ble_eq_true rfl⟩) hDr hS hA hPx hap' (fun rM τM H locs eM hPr hDr hS hPx => ?_)
          refine W.lcmp hx hb d_law_478 ?_
          have hXM : rX = rM := (congrArg Prod.fst eX).trans (hE.trans (congrArg Prod.fst eM).symm)
          refine lv_if_eq (tgt := 749) hx hb d_law_479 (by decide) (fun _ => ?_) (fun c9 => absurd ((lg_cmp_eq _ _).mpr hXM) c9)
          have hV2 : V τX τM (i + 1) := by rw [show τX = _ from congrArg Prod.snd eX, show τM = _ from congrArg Prod.snd eM]; exact hV1
          exact TAIL τX τM H locs ls hV2 hPx hDx hPr hDr hS hl
      by_cases c_7 : y = 7
      ·
        refine lv_tableIn (tgt := 484) hx hb d_law_52 (by rw [c_7]; decide) (by rw [c_7]; decide) (by rw [c_7]; rfl) (by decide) ?_
        refine lv_aload_n hx hb d_law_484 rfl (lv_at hl 2 rfl) ?_
        refine lv_aload_n hx hb d_law_485 rfl (lv_at hl 1 rfl) ?_
        refine lv_iload_n hx hb d_law_486 rfl (lv_at hl 0 rfl) ?_
        refine lv_iconst (v := (1 : Int32)) hx hb d_law_487 (by decide) ?_
        refine lv_iadd hx hb d_law_488 ?_
        refine va_sld hx hb hX hbl hbA hS (g_eix (g_eadd (a := 5 * i + 2) (b := 1) rfl rfl) (by omega) (by omega)) d_law_489 ?_
        refine lv_aload_n hx hb d_law_490 rfl (lv_at hl 1 rfl) ?_
        refine lv_iload_n hx hb d_law_491 rfl (lv_at hl 0 rfl) ?_
        refine lv_iconst (v := (2 : Int32)) hx hb d_law_492 (by decide) ?_
        refine lv_iadd hx hb d_law_493 ?_
        refine va_sld hx hb hX hbl hbA hS (g_eix (g_eadd (a := 5 * i + 2) (b := 2) rfl rfl) (by omega) (by omega)) d_law_494 ?_
        refine lv_aload_n hx hb d_law_495 rfl (lv_at hl 1 rfl) ?_
        refine lv_iload_n hx hb d_law_496 rfl (lv_at hl 0 rfl) ?_
        refine lv_iconst (v := (3 : Int32)) hx hb d_law_497 (by decide) ?_
        refine lv_iadd hx hb d_law_498 ?_
        refine va_sld hx hb hX hbl hbA hS (g_eix (g_eadd (a := 5 * i + 2) (b := 3) rfl rfl) (by omega) (by omega)) d_law_499 ?_
        obtain ⟨kx0, km0, hE, hV1⟩ := hV_flash x r i (xs ((Int32.ofNat (5 * i + 2)) + (1 : Int32)).toNatClampNeg) (xs ((Int32.ofNat (5 * i + 2)) + (2 : Int32)).toNatClampNeg) (xs ((Int32.ofNat (5 * i + 2)) + (3 : Int32)).toNatClampNeg) hVi (by omega)
        refine g_kWl (va_runV (As := [.int (xs ((Int32.ofNat (5 * i + 2)) + (1 : Int32)).toNatClampNeg), .int (xs ((Int32.ofNat (5 * i + 2)) + (2 : Int32)).toNatClampNeg), .int (xs ((Int32.ofNat (5 * i + 2)) + (3 : Int32)).toNatClampNeg)]) (rest := []) ⟨hx, hb, hml, hown, ht⟩ (c_P_flash l dC dI dX adx tb H.size x (xs ((Int32.ofNat (5 * i + 2)) + (1 : Int32)).toNatClampNeg) (xs ((Int32.ofNat (5 * i + 2)) + (2 : Int32)).toNatClampNeg) (xs ((Int32.ofNat (5 * i + 2)) + (3 : Int32)).toNatClampNeg) kx0) (cwV 3 ht gc_L_55 rfl rfl rfl (by decide +kernel) ⟨Nat.le_of_ble_eq_true rfl, Nat.le_of_ble_eq_true rfl⟩) (g_pV (g_prW x_Zok hKx hPx hDx hS hA hz _) (g_rc hKx hPx 0 x_at0 rfl)) rfl rfl hl.1 rfl (lv_room (Nat.le_of_ble_eq_true rfl)) d_law_500 ⟨Nat.le_of_ble_eq_true rfl, Nat.le_of_ble_eq_true rfl⟩) hDx hS hA hPr hap (fun rX τX H locs eX hPx hDx hS hPr => ?_)
        refine lv_aload_n hx hb d_law_503 rfl (lv_at hl 3 rfl) ?_
        refine lv_aload_n hx hb d_law_504 rfl (lv_at hl 1 rfl) ?_
        refine lv_iload_n hx hb d_law_505 rfl (lv_at hl 0 rfl) ?_
        refine lv_iconst (v := (1 : Int32)) hx hb d_law_506 (by decide) ?_
        refine lv_iadd hx hb d_law_507 ?_
        refine va_sld hx hb hX hbl hbA hS (g_eix (g_eadd (a := 5 * i + 2) (b := 1) rfl rfl) (by omega) (by omega)) d_law_508 ?_
        refine lv_aload_n hx hb d_law_509 rfl (lv_at hl 1 rfl) ?_
        refine lv_iload_n hx hb d_law_510 rfl (lv_at hl 0 rfl) ?_
        refine lv_iconst (v := (2 : Int32)) hx hb d_law_511 (by decide) ?_
        refine lv_iadd hx hb d_law_512 ?_
        refine va_sld hx hb hX hbl hbA hS (g_eix (g_eadd (a := 5 * i + 2) (b := 2) rfl rfl) (by omega) (by omega)) d_law_513 ?_
        refine lv_aload_n hx hb d_law_514 rfl (lv_at hl 1 rfl) ?_
        refine lv_iload_n hx hb d_law_515 rfl (lv_at hl 0 rfl) ?_
        refine lv_iconst (v := (3 : Int32)) hx hb d_law_516 (by decide) ?_
        refine lv_iadd hx hb d_law_517 ?_
        refine va_sld hx hb hX hbl hbA hS (g_eix (g_eadd (a := 5 * i + 2) (b := 3) rfl rfl) (by omega) (by omega)) d_law_518 ?_
        refine g_kWl (va_runV (As := [.int (xs ((Int32.ofNat (5 * i + 2)) + (1 : Int32)).toNatClampNeg), .int (xs ((Int32.ofNat (5 * i + 2)) + (2 : Int32)).toNatClampNeg), .int (xs ((Int32.ofNat (5 * i + 2)) + (3 : Int32)).toNatClampNeg)]) (rest := [.long rX]) ⟨hx, hb, hml, hown, ht⟩ (c_M_flash l dC dI dR adr H.size r (xs ((Int32.ofNat (5 * i + 2)) + (1 : Int32)).toNatClampNeg) (xs ((Int32.ofNat (5 * i + 2)) + (2 : Int32)).toNatClampNeg) (xs ((Int32.ofNat (5 * i + 2)) + (3 : Int32)).toNatClampNeg) km0) (cwV 3 ht gc_L_58 rfl rfl rfl (by decide +kernel) ⟨Nat.le_of_ble_eq_true rfl, Nat.le_of_ble_eq_true rfl⟩) (g_pV (g_prW r_Zok hKr hPr hDr hS hA hzr _) (g_rc hKr hPr 0 r_at0 rfl)) rfl rfl hl.1 rfl (lv_room (Nat.le_of_ble_eq_true rfl)) d_law_519 ⟨Nat.le_of_ble_eq_true rfl, Nat.le_of_ble_eq_true rfl⟩) hDr hS hA hPx hap' (fun rM τM H locs eM hPr hDr hS hPx => ?_)
        refine W.lcmp hx hb d_law_522 ?_
        have hXM : rX = rM := (congrArg Prod.fst eX).trans (hE.trans (congrArg Prod.fst eM).symm)
        refine lv_if_eq (tgt := 749) hx hb d_law_523 (by decide) (fun _ => ?_) (fun c9 => absurd ((lg_cmp_eq _ _).mpr hXM) c9)
        have hV2 : V τX τM (i + 1) := by rw [show τX = _ from congrArg Prod.snd eX, show τM = _ from congrArg Prod.snd eM]; exact hV1
        exact TAIL τX τM H locs ls hV2 hPx hDx hPr hDr hS hl
      by_cases c_8 : y = 8
      ·
        refine lv_tableIn (tgt := 528) hx hb d_law_52 (by rw [c_8]; decide) (by rw [c_8]; decide) (by rw [c_8]; rfl) (by decide) ?_
        refine lv_aload_n hx hb d_law_528 rfl (lv_at hl 2 rfl) ?_
        refine lv_aload_n hx hb d_law_529 rfl (lv_at hl 1 rfl) ?_
        refine lv_iload_n hx hb d_law_530 rfl (lv_at hl 0 rfl) ?_
        refine lv_iconst (v := (1 : Int32)) hx hb d_law_531 (by decide) ?_
        refine lv_iadd hx hb d_law_532 ?_
        refine va_sld hx hb hX hbl hbA hS (g_eix (g_eadd (a := 5 * i + 2) (b := 1) rfl rfl) (by omega) (by omega)) d_law_533 ?_
        obtain ⟨hE, hV1⟩ := hV_advance x r i (xs ((Int32.ofNat (5 * i + 2)) + (1 : Int32)).toNatClampNeg) hVi (by omega)
        refine g_kWi (va_runV (As := [.int (xs ((Int32.ofNat (5 * i + 2)) + (1 : Int32)).toNatClampNeg)]) (rest := []) ⟨hx, hb, hml, hown, ht⟩ (c_P_advance l dC dI dX adx tb H.size x (xs ((Int32.ofNat (5 * i + 2)) + (1 : Int32)).toNatClampNeg)) (cwV 1 ht gc_L_59 rfl rfl rfl (by decide +kernel) ⟨Nat.le_of_ble_eq_true rfl, Nat.le_of_ble_eq_true rfl⟩) (g_pV (g_prW x_Zok hKx hPx hDx hS hA hz _) (g_rc hKx hPx 0 x_at0 rfl)) rfl rfl hl.1 rfl (lv_room (Nat.le_of_ble_eq_true rfl)) d_law_534 ⟨Nat.le_of_ble_eq_true rfl, Nat.le_of_ble_eq_true rfl⟩) hDx hS hA hPr hap (fun rX τX H locs eX hPx hDx hS hPr => ?_)
        refine lv_aload_n hx hb d_law_537 rfl (lv_at hl 3 rfl) ?_
        refine lv_aload_n hx hb d_law_538 rfl (lv_at hl 1 rfl) ?_
        refine lv_iload_n hx hb d_law_539 rfl (lv_at hl 0 rfl) ?_
        refine lv_iconst (v := (1 : Int32)) hx hb d_law_540 (by decide) ?_
        refine lv_iadd hx hb d_law_541 ?_
        refine va_sld hx hb hX hbl hbA hS (g_eix (g_eadd (a := 5 * i + 2) (b := 1) rfl rfl) (by omega) (by omega)) d_law_542 ?_
        refine g_kWi (va_runV (As := [.int (xs ((Int32.ofNat (5 * i + 2)) + (1 : Int32)).toNatClampNeg)]) (rest := [.int rX]) ⟨hx, hb, hml, hown, ht⟩ (c_M_advance l dC dI dR adr H.size r (xs ((Int32.ofNat (5 * i + 2)) + (1 : Int32)).toNatClampNeg)) (cwV 1 ht gc_L_62 rfl rfl rfl (by decide +kernel) ⟨Nat.le_of_ble_eq_true rfl, Nat.le_of_ble_eq_true rfl⟩) (g_pV (g_prW r_Zok hKr hPr hDr hS hA hzr _) (g_rc hKr hPr 0 r_at0 rfl)) rfl rfl hl.1 rfl (lv_room (Nat.le_of_ble_eq_true rfl)) d_law_543 ⟨Nat.le_of_ble_eq_true rfl, Nat.le_of_ble_eq_true rfl⟩) hDr hS hA hPx hap' (fun rM τM H locs eM hPr hDr hS hPx => ?_)
        have hXM : rX = rM := (congrArg Prod.fst eX).trans (hE.trans (congrArg Prod.fst eM).symm)
        refine lv_icmp_eq (tgt := 749) hx hb d_law_546 (by decide) (fun _ => ?_) (fun c9 => absurd hXM c9)
        have hV2 : V τX τM (i + 1) := by rw [show τX = _ from congrArg Prod.snd eX, show τM = _ from congrArg Prod.snd eM]; exact hV1
        exact TAIL τX τM H locs ls hV2 hPx hDx hPr hDr hS hl
      by_cases c_9 : y = 9
      ·
        refine lv_tableIn (tgt := 551) hx hb d_law_52 (by rw [c_9]; decide) (by rw [c_9]; decide) (by rw [c_9]; rfl) (by decide) ?_
        refine lv_aload_n hx hb d_law_551 rfl (lv_at hl 2 rfl) ?_
        refine lv_aload_n hx hb d_law_552 rfl (lv_at hl 1 rfl) ?_
        refine lv_iload_n hx hb d_law_553 rfl (lv_at hl 0 rfl) ?_
        refine lv_iconst (v := (1 : Int32)) hx hb d_law_554 (by decide) ?_
        refine lv_iadd hx hb d_law_555 ?_
        refine va_sld hx hb hX hbl hbA hS (g_eix (g_eadd (a := 5 * i + 2) (b := 1) rfl rfl) (by omega) (by omega)) d_law_556 ?_
        obtain ⟨kx0, km0, hE⟩ := hV_observe x r i (xs ((Int32.ofNat (5 * i + 2)) + (1 : Int32)).toNatClampNeg) hVi (by omega)
        refine g_cSl (va_runV (As := [.int (xs ((Int32.ofNat (5 * i + 2)) + (1 : Int32)).toNatClampNeg)]) (rest := []) ⟨hx, hb, hml, hown, ht⟩ (c_P_observe l dC dI dX adx tb x (xs ((Int32.ofNat (5 * i + 2)) + (1 : Int32)).toNatClampNeg) kx0) (cwV 1 ht gc_L_63 rfl rfl rfl (by decide +kernel) ⟨Nat.le_of_ble_eq_true rfl, Nat.le_of_ble_eq_true rfl⟩) (g_pV (g_prR x_Zok hKx hPx hS hz _) (g_rc hKx hPx 0 x_at0 rfl)) rfl rfl hl.1 rfl (lv_room (Nat.le_of_ble_eq_true rfl)) d_law_557 ⟨Nat.le_of_ble_eq_true rfl, Nat.le_of_ble_eq_true rfl⟩) (fun rX eX => ?_)
        refine lv_aload_n hx hb d_law_560 rfl (lv_at hl 3 rfl) ?_
        refine lv_aload_n hx hb d_law_561 rfl (lv_at hl 1 rfl) ?_
        refine lv_iload_n hx hb d_law_562 rfl (lv_at hl 0 rfl) ?_
        refine lv_iconst (v := (1 : Int32)) hx hb d_law_563 (by decide) ?_
        refine lv_iadd hx hb d_law_564 ?_
        refine va_sld hx hb hX hbl hbA hS (g_eix (g_eadd (a := 5 * i + 2) (b := 1) rfl rfl) (by omega) (by omega)) d_law_565 ?_
        refine g_cSl (va_runV (As := [.int (xs ((Int32.ofNat (5 * i + 2)) + (1 : Int32)).toNatClampNeg)]) (rest := [.long rX]) ⟨hx, hb, hml, hown, ht⟩ (c_M_observe l dC dI dR adr r (xs ((Int32.ofNat (5 * i + 2)) + (1 : Int32)).toNatClampNeg) km0) (cwV 1 ht gc_L_67 rfl rfl rfl (by decide +kernel) ⟨Nat.le_of_ble_eq_true rfl, Nat.le_of_ble_eq_true rfl⟩) (g_pV (g_prR r_Zok hKr hPr hS hzr _) (g_rc hKr hPr 0 r_at0 rfl)) rfl rfl hl.1 rfl (lv_room (Nat.le_of_ble_eq_true rfl)) d_law_566 ⟨Nat.le_of_ble_eq_true rfl, Nat.le_of_ble_eq_true rfl⟩) (fun rM eM => ?_)
        refine W.lcmp hx hb d_law_569 ?_
        have hXM : rX = rM := eX.trans (hE.trans eM.symm)
        refine lv_if_eq (tgt := 749) hx hb d_law_570 (by decide) (fun _ => ?_) (fun c9 => absurd ((lg_cmp_eq _ _).mpr hXM) c9)
        exact TAIL x r H locs ls (hVm x r i hVi) hPx hDx hPr hDr hS hl
      by_cases c_10 : y = 10
      ·
        refine lv_tableIn (tgt := 575) hx hb d_law_52 (by rw [c_10]; decide) (by rw [c_10]; decide) (by rw [c_10]; rfl) (by decide) ?_
        refine lv_aload_n hx hb d_law_575 rfl (lv_at hl 2 rfl) ?_
        have hE := hV_price x r i  hVi (by omega)
        refine g_cSi (va_runV (As := []) (rest := []) ⟨hx, hb, hml, hown, ht⟩ (c_P_price l dC dI dX adx tb x ) (cwV 0 ht gc_L_68 rfl rfl rfl (by decide +kernel) ⟨Nat.le_of_ble_eq_true rfl, Nat.le_of_ble_eq_true rfl⟩) (g_pV (g_prR x_Zok hKx hPx hS hz _) (g_rc hKx hPx 0 x_at0 rfl)) rfl rfl hl.1 rfl (lv_room (Nat.le_of_ble_eq_true rfl)) d_law_576 ⟨Nat.le_of_ble_eq_true rfl, Nat.le_of_ble_eq_true rfl⟩) (fun rX eX => ?_)
        refine lv_aload_n hx hb d_law_579 rfl (lv_at hl 3 rfl) ?_
        refine g_cSi (va_runV (As := []) (rest := [.int rX]) ⟨hx, hb, hml, hown, ht⟩ (c_M_price0 l dC dI dR adr r ) (cwV 0 ht gc_L_72 rfl rfl rfl (by decide +kernel) ⟨Nat.le_of_ble_eq_true rfl, Nat.le_of_ble_eq_true rfl⟩) (g_pV (g_prR r_Zok hKr hPr hS hzr _) (g_rc hKr hPr 0 r_at0 rfl)) rfl rfl hl.1 rfl (lv_room (Nat.le_of_ble_eq_true rfl)) d_law_580 ⟨Nat.le_of_ble_eq_true rfl, Nat.le_of_ble_eq_true rfl⟩) (fun rM eM => ?_)
        have hXM : rX = rM := eX.trans (hE.trans eM.symm)
        refine lv_icmp_eq (tgt := 749) hx hb d_law_583 (by decide) (fun _ => ?_) (fun c9 => absurd hXM c9)
        exact TAIL x r H locs ls (hVm x r i hVi) hPx hDx hPr hDr hS hl
      by_cases c_11 : y = 11
      ·
        refine lv_tableIn (tgt := 588) hx hb d_law_52 (by rw [c_11]; decide) (by rw [c_11]; decide) (by rw [c_11]; rfl) (by decide) ?_
        refine lv_aload_n hx hb d_law_588 rfl (lv_at hl 2 rfl) ?_
        have hE := hV_step x r i  hVi (by omega)
        refine g_cSi (va_runV (As := []) (rest := []) ⟨hx, hb, hml, hown, ht⟩ (c_P_step l dC dI dX adx tb x ) (cwV 0 ht gc_L_73 rfl rfl rfl (by decide +kernel) ⟨Nat.le_of_ble_eq_true rfl, Nat.le_of_ble_eq_true rfl⟩) (g_pV (g_prR x_Zok hKx hPx hS hz _) (g_rc hKx hPx 0 x_at0 rfl)) rfl rfl hl.1 rfl (lv_room (Nat.le_of_ble_eq_true rfl)) d_law_589 ⟨Nat.le_of_ble_eq_true rfl, Nat.le_of_ble_eq_true rfl⟩) (fun rX eX => ?_)
        refine lv_aload_n hx hb d_law_592 rfl (lv_at hl 3 rfl) ?_
        refine g_cSi (va_runV (As := []) (rest := [.int rX]) ⟨hx, hb, hml, hown, ht⟩ (c_M_step l dC dI dR adr r ) (cwV 0 ht gc_L_76 rfl rfl rfl (by decide +kernel) ⟨Nat.le_of_ble_eq_true rfl, Nat.le_of_ble_eq_true rfl⟩) (g_pV (g_prR r_Zok hKr hPr hS hzr _) (g_rc hKr hPr 0 r_at0 rfl)) rfl rfl hl.1 rfl (lv_room (Nat.le_of_ble_eq_true rfl)) d_law_593 ⟨Nat.le_of_ble_eq_true rfl, Nat.le_of_ble_eq_true rfl⟩) (fun rM eM => ?_)
        have hXM : rX = rM := eX.trans (hE.trans eM.symm)
        refine lv_icmp_eq (tgt := 749) hx hb d_law_596 (by decide) (fun _ => ?_) (fun c9 => absurd hXM c9)
        exact TAIL x r H locs ls (hVm x r i hVi) hPx hDx hPr hDr hS hl
      by_cases c_12 : y = 12
      ·
        refine lv_tableIn (tgt := 601) hx hb d_law_52 (by rw [c_12]; decide) (by rw [c_12]; decide) (by rw [c_12]; rfl) (by decide) ?_
        refine lv_aload_n hx hb d_law_601 rfl (lv_at hl 2 rfl) ?_
        have hE := hV_depth x r i  hVi (by omega)
        refine g_cSi (va_runV (As := []) (rest := []) ⟨hx, hb, hml, hown, ht⟩ (c_P_depth l dC dI dX adx tb x ) (cwV 0 ht gc_L_77 rfl rfl rfl (by decide +kernel) ⟨Nat.le_of_ble_eq_true rfl, Nat.le_of_ble_eq_true rfl⟩) (g_pV (g_prR x_Zok hKx hPx hS hz _) (g_rc hKx hPx 0 x_at0 rfl)) rfl rfl hl.1 rfl (lv_room (Nat.le_of_ble_eq_true rfl)) d_law_602 ⟨Nat.le_of_ble_eq_true rfl, Nat.le_of_ble_eq_true rfl⟩) (fun rX eX => ?_)
        refine lv_aload_n hx hb d_law_605 rfl (lv_at hl 3 rfl) ?_
        refine g_cSi (va_runV (As := []) (rest := [.int rX]) ⟨hx, hb, hml, hown, ht⟩ (c_M_depth l dC dI dR adr r ) (cwV 0 ht gc_L_80 rfl rfl rfl (by decide +kernel) ⟨Nat.le_of_ble_eq_true rfl, Nat.le_of_ble_eq_true rfl⟩) (g_pV (g_prR r_Zok hKr hPr hS hzr _) (g_rc hKr hPr 0 r_at0 rfl)) rfl rfl hl.1 rfl (lv_room (Nat.le_of_ble_eq_true rfl)) d_law_606 ⟨Nat.le_of_ble_eq_true rfl, Nat.le_of_ble_eq_true rfl⟩) (fun rM eM => ?_)
        have hXM : rX = rM := eX.trans (hE.trans eM.symm)
        refine lv_icmp_eq (tgt := 749) hx hb d_law_609 (by decide) (fun _ => ?_) (fun c9 => absurd hXM c9)
        exact TAIL x r H locs ls (hVm x r i hVi) hPx hDx hPr hDr hS hl
      by_cases c_13 : y = 13
      ·
        refine lv_tableIn (tgt := 614) hx hb d_law_52 (by rw [c_13]; decide) (by rw [c_13]; decide) (by rw [c_13]; rfl) (by decide) ?_
        refine lv_aload_n hx hb d_law_614 rfl (lv_at hl 2 rfl) ?_
        refine lv_aload_n hx hb d_law_615 rfl (lv_at hl 1 rfl) ?_
        refine lv_iload_n hx hb d_law_616 rfl (lv_at hl 0 rfl) ?_
        refine lv_iconst (v := (1 : Int32)) hx hb d_law_617 (by decide) ?_
        refine lv_iadd hx hb d_law_618 ?_
        refine va_sld hx hb hX hbl hbA hS (g_eix (g_eadd (a := 5 * i + 2) (b := 1) rfl rfl) (by omega) (by omega)) d_law_619 ?_
        refine lv_aload_n hx hb d_law_620 rfl (lv_at hl 1 rfl) ?_
        refine lv_iload_n hx hb d_law_621 rfl (lv_at hl 0 rfl) ?_
        refine lv_iconst (v := (2 : Int32)) hx hb d_law_622 (by decide) ?_
        refine lv_iadd hx hb d_law_623 ?_
        refine va_sld hx hb hX hbl hbA hS (g_eix (g_eadd (a := 5 * i + 2) (b := 2) rfl rfl) (by omega) (by omega)) d_law_624 ?_
        obtain ⟨kx0, km0, hE⟩ := hV_wallet x r i (xs ((Int32.ofNat (5 * i + 2)) + (1 : Int32)).toNatClampNeg) (xs ((Int32.ofNat (5 * i + 2)) + (2 : Int32)).toNatClampNeg) hVi (by omega)
        refine g_cSl (va_runV (As := [.int (xs ((Int32.ofNat (5 * i + 2)) + (1 : Int32)).toNatClampNeg), .int (xs ((Int32.ofNat (5 * i + 2)) + (2 : Int32)).toNatClampNeg)]) (rest := []) ⟨hx, hb, hml, hown, ht⟩ (c_P_wallet l dC dI dX adx tb x (xs ((Int32.ofNat (5 * i + 2)) + (1 : Int32)).toNatClampNeg) (xs ((Int32.ofNat (5 * i + 2)) + (2 : Int32)).toNatClampNeg) kx0) (cwV 2 ht gc_L_81 rfl rfl rfl (by decide +kernel) ⟨Nat.le_of_ble_eq_true rfl, Nat.le_of_ble_eq_true rfl⟩) (g_pV (g_prR x_Zok hKx hPx hS hz _) (g_rc hKx hPx 0 x_at0 rfl)) rfl rfl hl.1 rfl (lv_room (Nat.le_of_ble_eq_true rfl)) d_law_625 ⟨Nat.le_of_ble_eq_true rfl, Nat.le_of_ble_eq_true rfl⟩) (fun rX eX => ?_)
        refine lv_aload_n hx hb d_law_628 rfl (lv_at hl 3 rfl) ?_
        refine lv_aload_n hx hb d_law_629 rfl (lv_at hl 1 rfl) ?_
        refine lv_iload_n hx hb d_law_630 rfl (lv_at hl 0 rfl) ?_
        refine lv_iconst (v := (1 : Int32)) hx hb d_law_631 (by decide) ?_
        refine lv_iadd hx hb d_law_632 ?_
        refine va_sld hx hb hX hbl hbA hS (g_eix (g_eadd (a := 5 * i + 2) (b := 1) rfl rfl) (by omega) (by omega)) d_law_633 ?_
        refine lv_aload_n hx hb d_law_634 rfl (lv_at hl 1 rfl) ?_
        refine lv_iload_n hx hb d_law_635 rfl (lv_at hl 0 rfl) ?_
        refine lv_iconst (v := (2 : Int32)) hx hb d_law_636 (by decide) ?_
        refine lv_iadd hx hb d_law_637 ?_
        refine va_sld hx hb hX hbl hbA hS (g_eix (g_eadd (a := 5 * i + 2) (b := 2) rfl rfl) (by omega) (by omega)) d_law_638 ?_
        refine g_cSl (va_runV (As := [.int (xs ((Int32.ofNat (5 * i + 2)) + (1 : Int32)).toNatClampNeg), .int (xs ((Int32.ofNat (5 * i + 2)) + (2 : Int32)).toNatClampNeg)]) (rest := [.long rX]) ⟨hx, hb, hml, hown, ht⟩ (c_M_wallet l dC dI dR adr r (xs ((Int32.ofNat (5 * i + 2)) + (1 : Int32)).toNatClampNeg) (xs ((Int32.ofNat (5 * i + 2)) + (2 : Int32)).toNatClampNeg) km0) (cwV 2 ht gc_L_85 rfl rfl rfl (by decide +kernel) ⟨Nat.le_of_ble_eq_true rfl, Nat.le_of_ble_eq_true rfl⟩) (g_pV (g_prR r_Zok hKr hPr hS hzr _) (g_rc hKr hPr 0 r_at0 rfl)) rfl rfl hl.1 rfl (lv_room (Nat.le_of_ble_eq_true rfl)) d_law_639 ⟨Nat.le_of_ble_eq_true rfl, Nat.le_of_ble_eq_true rfl⟩) (fun rM eM => ?_)
        refine W.lcmp hx hb d_law_642 ?_
        have hXM : rX = rM := eX.trans (hE.trans eM.symm)
        refine lv_if_eq (tgt := 749) hx hb d_law_643 (by decide) (fun _ => ?_) (fun c9 => absurd ((lg_cmp_eq _ _).mpr hXM) c9)
        exact TAIL x r H locs ls (hVm x r i hVi) hPx hDx hPr hDr hS hl
      by_cases c_14 : y = 14
      ·
        refine lv_tableIn (tgt := 648) hx hb d_law_52 (by rw [c_14]; decide) (by rw [c_14]; decide) (by rw [c_14]; rfl) (by decide) ?_
        refine lv_aload_n hx hb d_law_648 rfl (lv_at hl 2 rfl) ?_
        refine lv_aload_n hx hb d_law_649 rfl (lv_at hl 1 rfl) ?_
        refine lv_iload_n hx hb d_law_650 rfl (lv_at hl 0 rfl) ?_
        refine lv_iconst (v := (1 : Int32)) hx hb d_law_651 (by decide) ?_
        refine lv_iadd hx hb d_law_652 ?_
        refine va_sld hx hb hX hbl hbA hS (g_eix (g_eadd (a := 5 * i + 2) (b := 1) rfl rfl) (by omega) (by omega)) d_law_653 ?_
        obtain ⟨kx0, km0, hE⟩ := hV_reserve x r i (xs ((Int32.ofNat (5 * i + 2)) + (1 : Int32)).toNatClampNeg) hVi (by omega)
        refine g_cSl (va_runV (As := [.int (xs ((Int32.ofNat (5 * i + 2)) + (1 : Int32)).toNatClampNeg)]) (rest := []) ⟨hx, hb, hml, hown, ht⟩ (c_P_reserve l dC dI dX adx tb x (xs ((Int32.ofNat (5 * i + 2)) + (1 : Int32)).toNatClampNeg) kx0) (cwV 1 ht gc_L_86 rfl rfl rfl (by decide +kernel) ⟨Nat.le_of_ble_eq_true rfl, Nat.le_of_ble_eq_true rfl⟩) (g_pV (g_prR x_Zok hKx hPx hS hz _) (g_rc hKx hPx 0 x_at0 rfl)) rfl rfl hl.1 rfl (lv_room (Nat.le_of_ble_eq_true rfl)) d_law_654 ⟨Nat.le_of_ble_eq_true rfl, Nat.le_of_ble_eq_true rfl⟩) (fun rX eX => ?_)
        refine lv_aload_n hx hb d_law_657 rfl (lv_at hl 3 rfl) ?_
        refine lv_aload_n hx hb d_law_658 rfl (lv_at hl 1 rfl) ?_
        refine lv_iload_n hx hb d_law_659 rfl (lv_at hl 0 rfl) ?_
        refine lv_iconst (v := (1 : Int32)) hx hb d_law_660 (by decide) ?_
        refine lv_iadd hx hb d_law_661 ?_
        refine va_sld hx hb hX hbl hbA hS (g_eix (g_eadd (a := 5 * i + 2) (b := 1) rfl rfl) (by omega) (by omega)) d_law_662 ?_
        refine g_cSl (va_runV (As := [.int (xs ((Int32.ofNat (5 * i + 2)) + (1 : Int32)).toNatClampNeg)]) (rest := [.long rX]) ⟨hx, hb, hml, hown, ht⟩ (c_M_reserve l dC dI dR adr r (xs ((Int32.ofNat (5 * i + 2)) + (1 : Int32)).toNatClampNeg) km0) (cwV 1 ht gc_L_89 rfl rfl rfl (by decide +kernel) ⟨Nat.le_of_ble_eq_true rfl, Nat.le_of_ble_eq_true rfl⟩) (g_pV (g_prR r_Zok hKr hPr hS hzr _) (g_rc hKr hPr 0 r_at0 rfl)) rfl rfl hl.1 rfl (lv_room (Nat.le_of_ble_eq_true rfl)) d_law_663 ⟨Nat.le_of_ble_eq_true rfl, Nat.le_of_ble_eq_true rfl⟩) (fun rM eM => ?_)
        refine W.lcmp hx hb d_law_666 ?_
        have hXM : rX = rM := eX.trans (hE.trans eM.symm)
        refine lv_if_eq (tgt := 749) hx hb d_law_667 (by decide) (fun _ => ?_) (fun c9 => absurd ((lg_cmp_eq _ _).mpr hXM) c9)
        exact TAIL x r H locs ls (hVm x r i hVi) hPx hDx hPr hDr hS hl
      by_cases c_15 : y = 15
      ·
        refine lv_tableIn (tgt := 672) hx hb d_law_52 (by rw [c_15]; decide) (by rw [c_15]; decide) (by rw [c_15]; rfl) (by decide) ?_
        refine lv_aload_n hx hb d_law_672 rfl (lv_at hl 2 rfl) ?_
        refine lv_aload_n hx hb d_law_673 rfl (lv_at hl 1 rfl) ?_
        refine lv_iload_n hx hb d_law_674 rfl (lv_at hl 0 rfl) ?_
        refine lv_iconst (v := (1 : Int32)) hx hb d_law_675 (by decide) ?_
        refine lv_iadd hx hb d_law_676 ?_
        refine va_sld hx hb hX hbl hbA hS (g_eix (g_eadd (a := 5 * i + 2) (b := 1) rfl rfl) (by omega) (by omega)) d_law_677 ?_
        refine lv_aload_n hx hb d_law_678 rfl (lv_at hl 1 rfl) ?_
        refine lv_iload_n hx hb d_law_679 rfl (lv_at hl 0 rfl) ?_
        refine lv_iconst (v := (2 : Int32)) hx hb d_law_680 (by decide) ?_
        refine lv_iadd hx hb d_law_681 ?_
        refine va_sld hx hb hX hbl hbA hS (g_eix (g_eadd (a := 5 * i + 2) (b := 2) rfl rfl) (by omega) (by omega)) d_law_682 ?_
        refine lv_aload_n hx hb d_law_683 rfl (lv_at hl 1 rfl) ?_
        refine lv_iload_n hx hb d_law_684 rfl (lv_at hl 0 rfl) ?_
        refine lv_iconst (v := (3 : Int32)) hx hb d_law_685 (by decide) ?_
        refine lv_iadd hx hb d_law_686 ?_
        refine va_sld hx hb hX hbl hbA hS (g_eix (g_eadd (a := 5 * i + 2) (b := 3) rfl rfl) (by omega) (by omega)) d_law_687 ?_
        refine lv_aload_n hx hb d_law_688 rfl (lv_at hl 1 rfl) ?_
        refine lv_iload_n hx hb d_law_689 rfl (lv_at hl 0 rfl) ?_
        refine lv_iconst (v := (4 : Int32)) hx hb d_law_690 (by decide) ?_
        refine lv_iadd hx hb d_law_691 ?_
        refine va_sld hx hb hX hbl hbA hS (g_eix (g_eadd (a := 5 * i + 2) (b := 4) rfl rfl) (by omega) (by omega)) d_law_692 ?_
        obtain ⟨km0, hE⟩ := hV_lot x r i (xs ((Int32.ofNat (5 * i + 2)) + (1 : Int32)).toNatClampNeg) (xs ((Int32.ofNat (5 * i + 2)) + (2 : Int32)).toNatClampNeg) (xs ((Int32.ofNat (5 * i + 2)) + (3 : Int32)).toNatClampNeg) (xs ((Int32.ofNat (5 * i + 2)) + (4 : Int32)).toNatClampNeg) hVi (by omega)
        refine g_cSl (va_runV (As := [.int (xs ((Int32.ofNat (5 * i + 2)) + (1 : Int32)).toNatClampNeg), .int (xs ((Int32.ofNat (5 * i + 2)) + (2 : Int32)).toNatClampNeg), .int (xs ((Int32.ofNat (5 * i + 2)) + (3 : Int32)).toNatClampNeg), .int (xs ((Int32.ofNat (5 * i + 2)) + (4 : Int32)).toNatClampNeg)]) (rest := []) ⟨hx, hb, hml, hown, ht⟩ (c_P_lot l dC dI dX adx tb x (xs ((Int32.ofNat (5 * i + 2)) + (1 : Int32)).toNatClampNeg) (xs ((Int32.ofNat (5 * i + 2)) + (2 : Int32)).toNatClampNeg) (xs ((Int32.ofNat (5 * i + 2)) + (3 : Int32)).toNatClampNeg) (xs ((Int32.ofNat (5 * i + 2)) + (4 : Int32)).toNatClampNeg)) (cwV 4 ht gc_L_90 rfl rfl rfl (by decide +kernel) ⟨Nat.le_of_ble_eq_true rfl, Nat.le_of_ble_eq_true rfl⟩) (g_pV (g_prR x_Zok hKx hPx hS hz _) (g_rc hKx hPx 0 x_at0 rfl)) rfl rfl hl.1 rfl (lv_room (Nat.le_of_ble_eq_true rfl)) d_law_693 ⟨Nat.le_of_ble_eq_true rfl, Nat.le_of_ble_eq_true rfl⟩) (fun rX eX => ?_)
        refine lv_aload_n hx hb d_law_696 rfl (lv_at hl 3 rfl) ?_
        refine lv_aload_n hx hb d_law_697 rfl (lv_at hl 1 rfl) ?_
        refine lv_iload_n hx hb d_law_698 rfl (lv_at hl 0 rfl) ?_
        refine lv_iconst (v := (1 : Int32)) hx hb d_law_699 (by decide) ?_
        refine lv_iadd hx hb d_law_700 ?_
        refine va_sld hx hb hX hbl hbA hS (g_eix (g_eadd (a := 5 * i + 2) (b := 1) rfl rfl) (by omega) (by omega)) d_law_701 ?_
        refine lv_aload_n hx hb d_law_702 rfl (lv_at hl 1 rfl) ?_
        refine lv_iload_n hx hb d_law_703 rfl (lv_at hl 0 rfl) ?_
        refine lv_iconst (v := (2 : Int32)) hx hb d_law_704 (by decide) ?_
        refine lv_iadd hx hb d_law_705 ?_
        refine va_sld hx hb hX hbl hbA hS (g_eix (g_eadd (a := 5 * i + 2) (b := 2) rfl rfl) (by omega) (by omega)) d_law_706 ?_
        refine lv_aload_n hx hb d_law_707 rfl (lv_at hl 1 rfl) ?_
        refine lv_iload_n hx hb d_law_708 rfl (lv_at hl 0 rfl) ?_
        refine lv_iconst (v := (3 : Int32)) hx hb d_law_709 (by decide) ?_
        refine lv_iadd hx hb d_law_710 ?_
        refine va_sld hx hb hX hbl hbA hS (g_eix (g_eadd (a := 5 * i + 2) (b := 3) rfl rfl) (by omega) (by omega)) d_law_711 ?_
        refine lv_aload_n hx hb d_law_712 rfl (lv_at hl 1 rfl) ?_
        refine lv_iload_n hx hb d_law_713 rfl (lv_at hl 0 rfl) ?_
        refine lv_iconst (v := (4 : Int32)) hx hb d_law_714 (by decide) ?_
        refine lv_iadd hx hb d_law_715 ?_
        refine va_sld hx hb hX hbl hbA hS (g_eix (g_eadd (a := 5 * i + 2) (b := 4) rfl rfl) (by omega) (by omega)) d_law_716 ?_
        refine g_cSl (va_runV (As := [.int (xs ((Int32.ofNat (5 * i + 2)) + (1 : Int32)).toNatClampNeg), .int (xs ((Int32.ofNat (5 * i + 2)) + (2 : Int32)).toNatClampNeg), .int (xs ((Int32.ofNat (5 * i + 2)) + (3 : Int32)).toNatClampNeg), .int (xs ((Int32.ofNat (5 * i + 2)) + (4 : Int32)).toNatClampNeg)]) (rest := [.long rX]) ⟨hx, hb, hml, hown, ht⟩ (c_M_lot l dC dI dR adr r (xs ((Int32.ofNat (5 * i + 2)) + (1 : Int32)).toNatClampNeg) (xs ((Int32.ofNat (5 * i + 2)) + (2 : Int32)).toNatClampNeg) (xs ((Int32.ofNat (5 * i + 2)) + (3 : Int32)).toNatClampNeg) (xs ((Int32.ofNat (5 * i + 2)) + (4 : Int32)).toNatClampNeg) km0) (cwV 4 ht gc_L_93 rfl rfl rfl (by decide +kernel) ⟨Nat.le_of_ble_eq_true rfl, Nat.le_of_ble_eq_true rfl⟩) (g_pV (g_prR r_Zok hKr hPr hS hzr _) (g_rc hKr hPr 0 r_at0 rfl)) rfl rfl hl.1 rfl (lv_room (Nat.le_of_ble_eq_true rfl)) d_law_717 ⟨Nat.le_of_ble_eq_true rfl, Nat.le_of_ble_eq_true rfl⟩) (fun rM eM => ?_)
        refine W.lcmp hx hb d_law_720 ?_
        have hXM : rX = rM := eX.trans (hE.trans eM.symm)
        refine lv_if_eq (tgt := 749) hx hb d_law_721 (by decide) (fun _ => ?_) (fun c9 => absurd ((lg_cmp_eq _ _).mpr hXM) c9)
        exact TAIL x r H locs ls (hVm x r i hVi) hPx hDx hPr hDr hS hl
      by_cases c_16 : y = 16
      ·
        refine lv_tableIn (tgt := 726) hx hb d_law_52 (by rw [c_16]; decide) (by rw [c_16]; decide) (by rw [c_16]; rfl) (by decide) ?_
        refine lv_aload_n hx hb d_law_726 rfl (lv_at hl 2 rfl) ?_
        refine lv_aload_n hx hb d_law_727 rfl (lv_at hl 1 rfl) ?_
        refine lv_iload_n hx hb d_law_728 rfl (lv_at hl 0 rfl) ?_
        refine lv_iconst (v := (1 : Int32)) hx hb d_law_729 (by decide) ?_
        refine lv_iadd hx hb d_law_730 ?_
        refine va_sld hx hb hX hbl hbA hS (g_eix (g_eadd (a := 5 * i + 2) (b := 1) rfl rfl) (by omega) (by omega)) d_law_731 ?_
        have hE := hV_net x r i (xs ((Int32.ofNat (5 * i + 2)) + (1 : Int32)).toNatClampNeg) hVi (by omega)
        refine g_cSi (va_runV (As := [.int (xs ((Int32.ofNat (5 * i + 2)) + (1 : Int32)).toNatClampNeg)]) (rest := []) ⟨hx, hb, hml, hown, ht⟩ (c_P_net l dC dI dX adx tb x (xs ((Int32.ofNat (5 * i + 2)) + (1 : Int32)).toNatClampNeg)) (cwV 1 ht gc_L_94 rfl rfl rfl (by decide +kernel) ⟨Nat.le_of_ble_eq_true rfl, Nat.le_of_ble_eq_true rfl⟩) (g_pV (g_prR x_Zok hKx hPx hS hz _) (g_rc hKx hPx 0 x_at0 rfl)) rfl rfl hl.1 rfl (lv_room (Nat.le_of_ble_eq_true rfl)) d_law_732 ⟨Nat.le_of_ble_eq_true rfl, Nat.le_of_ble_eq_true rfl⟩) (fun rX eX => ?_)
        refine lv_aload_n hx hb d_law_735 rfl (lv_at hl 3 rfl) ?_
        refine lv_aload_n hx hb d_law_736 rfl (lv_at hl 1 rfl) ?_
        refine lv_iload_n hx hb d_law_737 rfl (lv_at hl 0 rfl) ?_
        refine lv_iconst (v := (1 : Int32)) hx hb d_law_738 (by decide) ?_
        refine lv_iadd hx hb d_law_739 ?_
        refine va_sld hx hb hX hbl hbA hS (g_eix (g_eadd (a := 5 * i + 2) (b := 1) rfl rfl) (by omega) (by omega)) d_law_740 ?_
        refine g_cSi (va_runV (As := [.int (xs ((Int32.ofNat (5 * i + 2)) + (1 : Int32)).toNatClampNeg)]) (rest := [.int rX]) ⟨hx, hb, hml, hown, ht⟩ (c_M_net l dC dI dR adr r (xs ((Int32.ofNat (5 * i + 2)) + (1 : Int32)).toNatClampNeg)) (cwV 1 ht gc_L_98 rfl rfl rfl (by decide +kernel) ⟨Nat.le_of_ble_eq_true rfl, Nat.le_of_ble_eq_true rfl⟩) (g_pV (g_prR r_Zok hKr hPr hS hzr _) (g_rc hKr hPr 0 r_at0 rfl)) rfl rfl hl.1 rfl (lv_room (Nat.le_of_ble_eq_true rfl)) d_law_741 ⟨Nat.le_of_ble_eq_true rfl, Nat.le_of_ble_eq_true rfl⟩) (fun rM eM => ?_)
        have hXM : rX = rM := eX.trans (hE.trans eM.symm)
        refine lv_icmp_eq (tgt := 749) hx hb d_law_744 (by decide) (fun _ => ?_) (fun c9 => absurd hXM c9)
        exact TAIL x r H locs ls (hVm x r i hVi) hPx hDx hPr hDr hS hl
      refine lv_tableOut (tgt := 749) hx hb d_law_52 (g_out17 c_0 c_1 c_2 c_3 c_4 c_5 c_6 c_7 c_8 c_9 c_10 c_11 c_12 c_13 c_14 c_15 c_16) (by decide) ?_
      exact TAIL x r H locs ls (hVm x r i hVi) hPx hDx hPr hDr hS hl
