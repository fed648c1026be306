def f_M_leg_576_65 (σ : g_S) (dn : Int32) (lim : Int64) (r2 : Int32) (x5 : Int64) (r10 : Int64) (x13 : Int64) (x17 : Int64) (x21 : Int32) (x26 : Int64) (r32 : Int64) (r36 : Int64) (x39 : Int64) (x43 : Int64) (x48 : Int64) (τ53 : g_S) (x58 : Int32) : g_S := g_L τ53 0 20 x26
def k_M_leg_576_65 (σ : g_S) (dn : Int32) (lim : Int64) (r2 : Int32) (x5 : Int64) (r10 : Int64) (x13 : Int64) (x17 : Int64) (x21 : Int32) (x26 : Int64) (r32 : Int64) (r36 : Int64) (x39 : Int64) (x43 : Int64) (x48 : Int64) (τ53 : g_S) (x58 : Int32) : Prop := True
def f_M_leg_576_72 (σ : g_S) (dn : Int32) (lim : Int64) (r2 : Int32) (x5 : Int64) (r10 : Int64) (x13 : Int64) (x17 : Int64) (x21 : Int32) (x26 : Int64) (r32 : Int64) (r36 : Int64) (x39 : Int64) (x43 : Int64) (x48 : Int64) (τ53 : g_S) (x58 : Int32) (τ68 : g_S) : g_S := τ68
def k_M_leg_576_72 (σ : g_S) (dn : Int32) (lim : Int64) (r2 : Int32) (x5 : Int64) (r10 : Int64) (x13 : Int64) (x17 : Int64) (x21 : Int32) (x26 : Int64) (r32 : Int64) (r36 : Int64) (x39 : Int64) (x43 : Int64) (x48 : Int64) (τ53 : g_S) (x58 : Int32) (τ68 : g_S) : Prop := True
def f_M_leg_L538 (σ : g_S) (dn : Int32) (lim : Int64) (r2 : Int32) (x5 : Int64) (r10 : Int64) (x13 : Int64) (x17 : Int64) (x21 : Int32) (x26 : Int64) (r32 : Int64) (r36 : Int64) (x39 : Int64) (x43 : Int64) (x48 : Int64) (τ53 : g_S) (x58 : Int32) : Nat → Nat → g_S → g_S
  | 0, jk, τ67 => (τ67)
  | jn + 1, jk, τ67 => f_M_leg_L538 σ dn lim r2 x5 r10 x13 x17 x21 x26 r32 r36 x39 x43 x48 τ53 x58 jn (jk + 1) (g_I τ67 0 21 (if x26 < (f_M_price τ67 (Int32.ofNat jk + (-24 : Int32))) then τ67.1 0 21 else Int32.ofNat jk + (-24 : Int32)))
def k_M_leg_L538 (σ : g_S) (dn : Int32) (lim : Int64) (r2 : Int32) (x5 : Int64) (r10 : Int64) (x13 : Int64) (x17 : Int64) (x21 : Int32) (x26 : Int64) (r32 : Int64) (r36 : Int64) (x39 : Int64) (x43 : Int64) (x48 : Int64) (τ53 : g_S) (x58 : Int32) : Nat → Nat → g_S → Prop
  | 0, jk, τ67 => True
  | jn + 1, jk, τ67 => (k_M_price τ67 (Int32.ofNat jk + (-24 : Int32))) ∧ (k_M_leg_L538 σ dn lim r2 x5 r10 x13 x17 x21 x26 r32 r36 x39 x43 x48 τ53 x58 jn (jk + 1) (g_I τ67 0 21 (if x26 < (f_M_price τ67 (Int32.ofNat jk + (-24 : Int32))) then τ67.1 0 21 else Int32.ofNat jk + (-24 : Int32))))
def f_M_leg_528_66 (σ : g_S) (dn : Int32) (lim : Int64) (r2 : Int32) (x5 : Int64) (r10 : Int64) (x13 : Int64) (x17 : Int64) (x21 : Int32) (x26 : Int64) (r32 : Int64) (r36 : Int64) (x39 : Int64) (x43 : Int64) (x48 : Int64) (τ53 : g_S) (x58 : Int32) : g_S := (f_M_leg_576_72 σ dn lim r2 x5 r10 x13 x17 x21 x26 r32 r36 x39 x43 x48 τ53 x58 (f_M_leg_L538 σ dn lim r2 x5 r10 x13 x17 x21 x26 r32 r36 x39 x43 x48 τ53 x58 49 0 (g_I (g_L τ53 0 20 x26) 0 21 (-24 : Int32))))
def k_M_leg_528_66 (σ : g_S) (dn : Int32) (lim : Int64) (r2 : Int32) (x5 : Int64) (r10 : Int64) (x13 : Int64) (x17 : Int64) (x21 : Int32) (x26 : Int64) (r32 : Int64) (r36 : Int64) (x39 : Int64) (x43 : Int64) (x48 : Int64) (τ53 : g_S) (x58 : Int32) : Prop := (k_M_leg_L538 σ dn lim r2 x5 r10 x13 x17 x21 x26 r32 r36 x39 x43 x48 τ53 x58 49 0 (g_I (g_L τ53 0 20 x26) 0 21 (-24 : Int32))) ∧ (k_M_leg_576_72 σ dn lim r2 x5 r10 x13 x17 x21 x26 r32 r36 x39 x43 x48 τ53 x58 (f_M_leg_L538 σ dn lim r2 x5 r10 x13 x17 x21 x26 r32 r36 x39 x43 x48 τ53 x58 49 0 (g_I (g_L τ53 0 20 x26) 0 21 (-24 : Int32))))
def f_M_leg_523_63 (σ : g_S) (dn : Int32) (lim : Int64) (r2 : Int32) (x5 : Int64) (r10 : Int64) (x13 : Int64) (x17 : Int64) (x21 : Int32) (x26 : Int64) (r32 : Int64) (r36 : Int64) (x39 : Int64) (x43 : Int64) (x48 : Int64) (τ53 : g_S) (x58 : Int32) : g_S := (if x58 = 0 then f_M_leg_576_65 σ dn lim r2 x5 r10 x13 x17 x21 x26 r32 r36 x39 x43 x48 τ53 x58 else f_M_leg_528_66 σ dn lim r2 x5 r10 x13 x17 x21 x26 r32 r36 x39 x43 x48 τ53 x58)
def k_M_leg_523_63 (σ : g_S) (dn : Int32) (lim : Int64) (r2 : Int32) (x5 : Int64) (r10 : Int64) (x13 : Int64) (x17 : Int64) (x21 : Int32) (x26 : Int64) (r32 : Int64) (r36 : Int64) (x39 : Int64) (x43 : Int64) (x48 : Int64) (τ53 : g_S) (x58 : Int32) : Prop := (if x58 = 0 then k_M_leg_576_65 σ dn lim r2 x5 r10 x13 x17 x21 x26 r32 r36 x39 x43 x48 τ53 x58 else k_M_leg_528_66 σ dn lim r2 x5 r10 x13 x17 x21 x26 r32 r36 x39 x43 x48 τ53 x58)
def f_M_leg_576_91 (σ : g_S) (dn : Int32) (lim : Int64) (r2 : Int32) (x5 : Int64) (r10 : Int64) (x13 : Int64) (x17 : Int64) (x21 : Int32) (x26 : Int64) (r32 : Int64) (r36 : Int64) (x39 : Int64) (x43 : Int64) (x48 : Int64) (τ53 : g_S) (x58 : Int32) (r85 : Int64) : g_S := g_L τ53 0 20 x26
def k_M_leg_576_91 (σ : g_S) (dn : Int32) (lim : Int64) (r2 : Int32) (x5 : Int64) (r10 : Int64) (x13 : Int64) (x17 : Int64) (x21 : Int32) (x26 : Int64) (r32 : Int64) (r36 : Int64) (x39 : Int64) (x43 : Int64) (x48 : Int64) (τ53 : g_S) (x58 : Int32) (r85 : Int64) : Prop := True
def f_M_leg_576_98 (σ : g_S) (dn : Int32) (lim : Int64) (r2 : Int32) (x5 : Int64) (r10 : Int64) (x13 : Int64) (x17 : Int64) (x21 : Int32) (x26 : Int64) (r32 : Int64) (r36 : Int64) (x39 : Int64) (x43 : Int64) (x48 : Int64) (τ53 : g_S) (x58 : Int32) (r85 : Int64) (τ94 : g_S) : g_S := τ94
def k_M_leg_576_98 (σ : g_S) (dn : Int32) (lim : Int64) (r2 : Int32) (x5 : Int64) (r10 : Int64) (x13 : Int64) (x17 : Int64) (x21 : Int32) (x26 : Int64) (r32 : Int64) (r36 : Int64) (x39 : Int64) (x43 : Int64) (x48 : Int64) (τ53 : g_S) (x58 : Int32) (r85 : Int64) (τ94 : g_S) : Prop := True
def f_M_leg_L538_1 (σ : g_S) (dn : Int32) (lim : Int64) (r2 : Int32) (x5 : Int64) (r10 : Int64) (x13 : Int64) (x17 : Int64) (x21 : Int32) (x26 : Int64) (r32 : Int64) (r36 : Int64) (x39 : Int64) (x43 : Int64) (x48 : Int64) (τ53 : g_S) (x58 : Int32) (r85 : Int64) : Nat → Nat → g_S → g_S
  | 0, jk, τ93 => (τ93)
  | jn + 1, jk, τ93 => f_M_leg_L538_1 σ dn lim r2 x5 r10 x13 x17 x21 x26 r32 r36 x39 x43 x48 τ53 x58 r85 jn (jk + 1) (g_I τ93 0 21 (if x26 < (f_M_price τ93 (Int32.ofNat jk + (-24 : Int32))) then τ93.1 0 21 else Int32.ofNat jk + (-24 : Int32)))
def k_M_leg_L538_1 (σ : g_S) (dn : Int32) (lim : Int64) (r2 : Int32) (x5 : Int64) (r10 : Int64) (x13 : Int64) (x17 : Int64) (x21 : Int32) (x26 : Int64) (r32 : Int64) (r36 : Int64) (x39 : Int64) (x43 : Int64) (x48 : Int64) (τ53 : g_S) (x58 : Int32) (r85 : Int64) : Nat → Nat → g_S → Prop
  | 0, jk, τ93 => True
  | jn + 1, jk, τ93 => (k_M_price τ93 (Int32.ofNat jk + (-24 : Int32))) ∧ (k_M_leg_L538_1 σ dn lim r2 x5 r10 x13 x17 x21 x26 r32 r36 x39 x43 x48 τ53 x58 r85 jn (jk + 1) (g_I τ93 0 21 (if x26 < (f_M_price τ93 (Int32.ofNat jk + (-24 : Int32))) then τ93.1 0 21 else Int32.ofNat jk + (-24 : Int32))))
def f_M_leg_528_92 (σ : g_S) (dn : Int32) (lim : Int64) (r2 : Int32) (x5 : Int64) (r10 : Int64) (x13 : Int64) (x17 : Int64) (x21 : Int32) (x26 : Int64) (r32 : Int64) (r36 : Int64) (x39 : Int64) (x43 : Int64) (x48 : Int64) (τ53 : g_S) (x58 : Int32) (r85 : Int64) : g_S := (f_M_leg_576_98 σ dn lim r2 x5 r10 x13 x17 x21 x26 r32 r36 x39 x43 x48 τ53 x58 r85 (f_M_leg_L538_1 σ dn lim r2 x5 r10 x13 x17 x21 x26 r32 r36 x39 x43 x48 τ53 x58 r85 49 0 (g_I (g_L τ53 0 20 x26) 0 21 (-24 : Int32))))
def k_M_leg_528_92 (σ : g_S) (dn : Int32) (lim : Int64) (r2 : Int32) (x5 : Int64) (r10 : Int64) (x13 : Int64) (x17 : Int64) (x21 : Int32) (x26 : Int64) (r32 : Int64) (r36 : Int64) (x39 : Int64) (x43 : Int64) (x48 : Int64) (τ53 : g_S) (x58 : Int32) (r85 : Int64) : Prop := (k_M_leg_L538_1 σ dn lim r2 x5 r10 x13 x17 x21 x26 r32 r36 x39 x43 x48 τ53 x58 r85 49 0 (g_I (g_L τ53 0 20 x26) 0 21 (-24 : Int32))) ∧ (k_M_leg_576_98 σ dn lim r2 x5 r10 x13 x17 x21 x26 r32 r36 x39 x43 x48 τ53 x58 r85 (f_M_leg_L538_1 σ dn lim r2 x5 r10 x13 x17 x21 x26 r32 r36 x39 x43 x48 τ53 x58 r85 49 0 (g_I (g_L τ53 0 20 x26) 0 21 (-24 : Int32))))
def f_M_leg_523_89 (σ : g_S) (dn : Int32) (lim : Int64) (r2 : Int32) (x5 : Int64) (r10 : Int64) (x13 : Int64) (x17 : Int64) (x21 : Int32) (x26 : Int64) (r32 : Int64) (r36 : Int64) (x39 : Int64) (x43 : Int64) (x48 : Int64) (τ53 : g_S) (x58 : Int32) (r85 : Int64) : g_S := (if x58 = 0 then f_M_leg_576_91 σ dn lim r2 x5 r10 x13 x17 x21 x26 r32 r36 x39 x43 x48 τ53 x58 r85 else f_M_leg_528_92 σ dn lim r2 x5 r10 x13 x17 x21 x26 r32 r36 x39 x43 x48 τ53 x58 r85)
def k_M_leg_523_89 (σ : g_S) (dn : Int32) (lim : Int64) (r2 : Int32) (x5 : Int64) (r10 : Int64) (x13 : Int64) (x17 : Int64) (x21 : Int32) (x26 : Int64) (r32 : Int64) (r36 : Int64) (x39 : Int64) (x43 : Int64) (x48 : Int64) (τ53 : g_S) (x58 : Int32) (r85 : Int64) : Prop := (if x58 = 0 then k_M_leg_576_91 σ dn lim r2 x5 r10 x13 x17 x21 x26 r32 r36 x39 x43 x48 τ53 x58 r85 else k_M_leg_528_92 σ dn lim r2 x5 r10 x13 x17 x21 x26 r32 r36 x39 x43 x48 τ53 x58 r85)
def f_M_leg_517_113 (σ : g_S) (dn : Int32) (lim : Int64) (r2 : Int32) (x5 : Int64) (r10 : Int64) (x13 : Int64) (x17 : Int64) (x21 : Int32) (x26 : Int64) (r32 : Int64) (r36 : Int64) (x39 : Int64) (x43 : Int64) (x48 : Int64) (τ53 : g_S) (x58 : Int32) (r85 : Int64) (x110 : Int32) : g_S := g_I (g_L τ53 0 20 x26) 0 21 x110
def k_M_leg_517_113 (σ : g_S) (dn : Int32) (lim : Int64) (r2 : Int32) (x5 : Int64) (r10 : Int64) (x13 : Int64) (x17 : Int64) (x21 : Int32) (x26 : Int64) (r32 : Int64) (r36 : Int64) (x39 : Int64) (x43 : Int64) (x48 : Int64) (τ53 : g_S) (x58 : Int32) (r85 : Int64) (x110 : Int32) : Prop := True
def f_M_leg_503_109 (σ : g_S) (dn : Int32) (lim : Int64) (r2 : Int32) (x5 : Int64) (r10 : Int64) (x13 : Int64) (x17 : Int64) (x21 : Int32) (x26 : Int64) (r32 : Int64) (r36 : Int64) (x39 : Int64) (x43 : Int64) (x48 : Int64) (τ53 : g_S) (x58 : Int32) (r85 : Int64) : g_S := (f_M_leg_517_113 σ dn lim r2 x5 r10 x13 x17 x21 x26 r32 r36 x39 x43 x48 τ53 x58 r85 (if dn = 0 then r2 else r2 - (1 : Int32)))
def k_M_leg_503_109 (σ : g_S) (dn : Int32) (lim : Int64) (r2 : Int32) (x5 : Int64) (r10 : Int64) (x13 : Int64) (x17 : Int64) (x21 : Int32) (x26 : Int64) (r32 : Int64) (r36 : Int64) (x39 : Int64) (x43 : Int64) (x48 : Int64) (τ53 : g_S) (x58 : Int32) (r85 : Int64) : Prop := (k_M_leg_517_113 σ dn lim r2 x5 r10 x13 x17 x21 x26 r32 r36 x39 x43 x48 τ53 x58 r85 (if dn = 0 then r2 else r2 - (1 : Int32)))
def f_M_leg_496_87 (σ : g_S) (dn : Int32) (lim : Int64) (r2 : Int32) (x5 : Int64) (r10 : Int64) (x13 : Int64) (x17 : Int64) (x21 : Int32) (x26 : Int64) (r32 : Int64) (r36 : Int64) (x39 : Int64) (x43 : Int64) (x48 : Int64) (τ53 : g_S) (x58 : Int32) (r85 : Int64) : g_S := (if x26 = r85 then f_M_leg_503_109 σ dn lim r2 x5 r10 x13 x17 x21 x26 r32 r36 x39 x43 x48 τ53 x58 r85 else f_M_leg_523_89 σ dn lim r2 x5 r10 x13 x17 x21 x26 r32 r36 x39 x43 x48 τ53 x58 r85)
def k_M_leg_496_87 (σ : g_S) (dn : Int32) (lim : Int64) (r2 : Int32) (x5 : Int64) (r10 : Int64) (x13 : Int64) (x17 : Int64) (x21 : Int32) (x26 : Int64) (r32 : Int64) (r36 : Int64) (x39 : Int64) (x43 : Int64) (x48 : Int64) (τ53 : g_S) (x58 : Int32) (r85 : Int64) : Prop := (if x26 = r85 then k_M_leg_503_109 σ dn lim r2 x5 r10 x13 x17 x21 x26 r32 r36 x39 x43 x48 τ53 x58 r85 else k_M_leg_523_89 σ dn lim r2 x5 r10 x13 x17 x21 x26 r32 r36 x39 x43 x48 τ53 x58 r85)
def f_M_leg_491_83 (σ : g_S) (dn : Int32) (lim : Int64) (r2 : Int32) (x5 : Int64) (r10 : Int64) (x13 : Int64) (x17 : Int64) (x21 : Int32) (x26 : Int64) (r32 : Int64) (r36 : Int64) (x39 : Int64) (x43 : Int64) (x48 : Int64) (τ53 : g_S) (x58 : Int32) : g_S := (f_M_leg_496_87 σ dn lim r2 x5 r10 x13 x17 x21 x26 r32 r36 x39 x43 x48 τ53 x58 (f_M_price (g_L τ53 0 20 x26) r2))
def k_M_leg_491_83 (σ : g_S) (dn : Int32) (lim : Int64) (r2 : Int32) (x5 : Int64) (r10 : Int64) (x13 : Int64) (x17 : Int64) (x21 : Int32) (x26 : Int64) (r32 : Int64) (r36 : Int64) (x39 : Int64) (x43 : Int64) (x48 : Int64) (τ53 : g_S) (x58 : Int32) : Prop := (k_M_price (g_L τ53 0 20 x26) r2) ∧ (k_M_leg_496_87 σ dn lim r2 x5 r10 x13 x17 x21 x26 r32 r36 x39 x43 x48 τ53 x58 (f_M_price (g_L τ53 0 20 x26) r2))
def f_M_leg_476_61 (σ : g_S) (dn : Int32) (lim : Int64) (r2 : Int32) (x5 : Int64) (r10 : Int64) (x13 : Int64) (x17 : Int64) (x21 : Int32) (x26 : Int64) (r32 : Int64) (r36 : Int64) (x39 : Int64) (x43 : Int64) (x48 : Int64) (τ53 : g_S) (x58 : Int32) : g_S := (if r2 = (99 : Int32) then f_M_leg_523_63 σ dn lim r2 x5 r10 x13 x17 x21 x26 r32 r36 x39 x43 x48 τ53 x58 else f_M_leg_491_83 σ dn lim r2 x5 r10 x13 x17 x21 x26 r32 r36 x39 x43 x48 τ53 x58)
def k_M_leg_476_61 (σ : g_S) (dn : Int32) (lim : Int64) (r2 : Int32) (x5 : Int64) (r10 : Int64) (x13 : Int64) (x17 : Int64) (x21 : Int32) (x26 : Int64) (r32 : Int64) (r36 : Int64) (x39 : Int64) (x43 : Int64) (x48 : Int64) (τ53 : g_S) (x58 : Int32) : Prop := (if r2 = (99 : Int32) then k_M_leg_523_63 σ dn lim r2 x5 r10 x13 x17 x21 x26 r32 r36 x39 x43 x48 τ53 x58 else k_M_leg_491_83 σ dn lim r2 x5 r10 x13 x17 x21 x26 r32 r36 x39 x43 x48 τ53 x58)
def f_M_leg_461_57 (σ : g_S) (dn : Int32) (lim : Int64) (r2 : Int32) (x5 : Int64) (r10 : Int64) (x13 : Int64) (x17 : Int64) (x21 : Int32) (x26 : Int64) (r32 : Int64) (r36 : Int64) (x39 : Int64) (x43 : Int64) (x48 : Int64) (τ53 : g_S) : g_S := (f_M_leg_476_61 σ dn lim r2 x5 r10 x13 x17 x21 x26 r32 r36 x39 x43 x48 τ53 (if x26 = (τ53.2 0 20) then (0 : Int32) else (1 : Int32)))
def k_M_leg_461_57 (σ : g_S) (dn : Int32) (lim : Int64) (r2 : Int32) (x5 : Int64) (r10 : Int64) (x13 : Int64) (x17 : Int64) (x21 : Int32) (x26 : Int64) (r32 : Int64) (r36 : Int64) (x39 : Int64) (x43 : Int64) (x48 : Int64) (τ53 : g_S) : Prop := (k_M_leg_476_61 σ dn lim r2 x5 r10 x13 x17 x21 x26 r32 r36 x39 x43 x48 τ53 (if x26 = (τ53.2 0 20) then (0 : Int32) else (1 : Int32)))
def f_M_leg_L380 (σ : g_S) (dn : Int32) (lim : Int64) (r2 : Int32) (x5 : Int64) (r10 : Int64) (x13 : Int64) (x17 : Int64) (x21 : Int32) (x26 : Int64) (r32 : Int64) (r36 : Int64) (x39 : Int64) (x43 : Int64) (x48 : Int64) : Nat → Nat → g_S → g_S
  | 0, jk, τ52 => (τ52)
  | jn + 1, jk, τ52 => (if r10 ≤ (0 : Int64) then (τ52) else f_M_leg_L380 σ dn lim r2 x5 r10 x13 x17 x21 x26 r32 r36 x39 x43 x48 jn (jk + 1) (g_L τ52 13 jk ((τ52.2 13 jk) + (if (τ52.1 4 jk) = 0 then (0 : Int64) else (if (τ52.1 0 21) < (τ52.1 6 jk) then (0 : Int64) else (if (τ52.1 7 jk) ≤ (τ52.1 0 21) then (0 : Int64) else (x43 * (4294967296 : Int64)) / r10))))))
def k_M_leg_L380 (σ : g_S) (dn : Int32) (lim : Int64) (r2 : Int32) (x5 : Int64) (r10 : Int64) (x13 : Int64) (x17 : Int64) (x21 : Int32) (x26 : Int64) (r32 : Int64) (r36 : Int64) (x39 : Int64) (x43 : Int64) (x48 : Int64) : Nat → Nat → g_S → Prop
  | 0, jk, τ52 => True
  | jn + 1, jk, τ52 => (if r10 ≤ (0 : Int64) then True else (if (τ52.1 4 jk) = 0 then True else (if (τ52.1 0 21) < (τ52.1 6 jk) then True else (if (τ52.1 7 jk) ≤ (τ52.1 0 21) then True else (¬ r10 = 0) ∧ True))) ∧ (k_M_leg_L380 σ dn lim r2 x5 r10 x13 x17 x21 x26 r32 r36 x39 x43 x48 jn (jk + 1) (g_L τ52 13 jk ((τ52.2 13 jk) + (if (τ52.1 4 jk) = 0 then (0 : Int64) else (if (τ52.1 0 21) < (τ52.1 6 jk) then (0 : Int64) else (if (τ52.1 7 jk) ≤ (τ52.1 0 21) then (0 : Int64) else (x43 * (4294967296 : Int64)) / r10)))))))
def f_M_leg_374_51 (σ : g_S) (dn : Int32) (lim : Int64) (r2 : Int32) (x5 : Int64) (r10 : Int64) (x13 : Int64) (x17 : Int64) (x21 : Int32) (x26 : Int64) (r32 : Int64) (r36 : Int64) (x39 : Int64) (x43 : Int64) (x48 : Int64) : g_S := (f_M_leg_461_57 σ dn lim r2 x5 r10 x13 x17 x21 x26 r32 r36 x39 x43 x48 (f_M_leg_L380 σ dn lim r2 x5 r10 x13 x17 x21 x26 r32 r36 x39 x43 x48 10 0 (g_L (g_L (g_L σ 0 23 ((σ.2 0 23) + (r32 + x43))) 0 24 ((σ.2 0 24) + x39)) 0 22 x48)))
def k_M_leg_374_51 (σ : g_S) (dn : Int32) (lim : Int64) (r2 : Int32) (x5 : Int64) (r10 : Int64) (x13 : Int64) (x17 : Int64) (x21 : Int32) (x26 : Int64) (r32 : Int64) (r36 : Int64) (x39 : Int64) (x43 : Int64) (x48 : Int64) : Prop := (k_M_leg_L380 σ dn lim r2 x5 r10 x13 x17 x21 x26 r32 r36 x39 x43 x48 10 0 (g_L (g_L (g_L σ 0 23 ((σ.2 0 23) + (r32 + x43))) 0 24 ((σ.2 0 24) + x39)) 0 22 x48)) ∧ (k_M_leg_461_57 σ dn lim r2 x5 r10 x13 x17 x21 x26 r32 r36 x39 x43 x48 (f_M_leg_L380 σ dn lim r2 x5 r10 x13 x17 x21 x26 r32 r36 x39 x43 x48 10 0 (g_L (g_L (g_L σ 0 23 ((σ.2 0 23) + (r32 + x43))) 0 24 ((σ.2 0 24) + x39)) 0 22 x48)))
def f_M_leg_317_47 (σ : g_S) (dn : Int32) (lim : Int64) (r2 : Int32) (x5 : Int64) (r10 : Int64) (x13 : Int64) (x17 : Int64) (x21 : Int32) (x26 : Int64) (r32 : Int64) (r36 : Int64) (x39 : Int64) (x43 : Int64) : g_S := (f_M_leg_374_51 σ dn lim r2 x5 r10 x13 x17 x21 x26 r32 r36 x39 x43 (if (σ.2 0 22) ≤ (0 : Int64) then (σ.2 0 22) + x39 else ((σ.2 0 22) - r32) - x43))
def k_M_leg_317_47 (σ : g_S) (dn : Int32) (lim : Int64) (r2 : Int32) (x5 : Int64) (r10 : Int64) (x13 : Int64) (x17 : Int64) (x21 : Int32) (x26 : Int64) (r32 : Int64) (r36 : Int64) (x39 : Int64) (x43 : Int64) : Prop := (k_M_leg_374_51 σ dn lim r2 x5 r10 x13 x17 x21 x26 r32 r36 x39 x43 (if (σ.2 0 22) ≤ (0 : Int64) then (σ.2 0 22) + x39 else ((σ.2 0 22) - r32) - x43))
def f_M_leg_267_42 (σ : g_S) (dn : Int32) (lim : Int64) (r2 : Int32) (x5 : Int64) (r10 : Int64) (x13 : Int64) (x17 : Int64) (x21 : Int32) (x26 : Int64) (r32 : Int64) (r36 : Int64) (x39 : Int64) : g_S := (f_M_leg_317_47 σ dn lim r2 x5 r10 x13 x17 x21 x26 r32 r36 x39 (if (σ.2 0 22) ≤ (0 : Int64) then f_M_quotient (r32 * ((σ.1 0 1).toInt64)) ((1000 : Int64) - ((σ.1 0 1).toInt64)) (1 : Int32) else (if x26 = x5 then f_M_quotient (r32 * ((σ.1 0 1).toInt64)) ((1000 : Int64) - ((σ.1 0 1).toInt64)) (1 : Int32) else (σ.2 0 22) - r32)))
def k_M_leg_267_42 (σ : g_S) (dn : Int32) (lim : Int64) (r2 : Int32) (x5 : Int64) (r10 : Int64) (x13 : Int64) (x17 : Int64) (x21 : Int32) (x26 : Int64) (r32 : Int64) (r36 : Int64) (x39 : Int64) : Prop := (if (σ.2 0 22) ≤ (0 : Int64) then (k_M_quotient (r32 * ((σ.1 0 1).toInt64)) ((1000 : Int64) - ((σ.1 0 1).toInt64)) (1 : Int32)) ∧ True else (if x26 = x5 then (k_M_quotient (r32 * ((σ.1 0 1).toInt64)) ((1000 : Int64) - ((σ.1 0 1).toInt64)) (1 : Int32)) ∧ True else True)) ∧ (k_M_leg_317_47 σ dn lim r2 x5 r10 x13 x17 x21 x26 r32 r36 x39 (if (σ.2 0 22) ≤ (0 : Int64) then f_M_quotient (r32 * ((σ.1 0 1).toInt64)) ((1000 : Int64) - ((σ.1 0 1).toInt64)) (1 : Int32) else (if x26 = x5 then f_M_quotient (r32 * ((σ.1 0 1).toInt64)) ((1000 : Int64) - ((σ.1 0 1).toInt64)) (1 : Int32) else (σ.2 0 22) - r32)))
def f_M_leg_238_38 (σ : g_S) (dn : Int32) (lim : Int64) (r2 : Int32) (x5 : Int64) (r10 : Int64) (x13 : Int64) (x17 : Int64) (x21 : Int32) (x26 : Int64) (r32 : Int64) (r36 : Int64) : g_S := (f_M_leg_267_42 σ dn lim r2 x5 r10 x13 x17 x21 x26 r32 r36 (if (0 : Int64) ≤ (σ.2 0 22) then r36 else (if r36 ≤ x17 then r36 else x17)))
def k_M_leg_238_38 (σ : g_S) (dn : Int32) (lim : Int64) (r2 : Int32) (x5 : Int64) (r10 : Int64) (x13 : Int64) (x17 : Int64) (x21 : Int32) (x26 : Int64) (r32 : Int64) (r36 : Int64) : Prop := (k_M_leg_267_42 σ dn lim r2 x5 r10 x13 x17 x21 x26 r32 r36 (if (0 : Int64) ≤ (σ.2 0 22) then r36 else (if r36 ≤ x17 then r36 else x17)))
def f_M_leg_224_34 (σ : g_S) (dn : Int32) (lim : Int64) (r2 : Int32) (x5 : Int64) (r10 : Int64) (x13 : Int64) (x17 : Int64) (x21 : Int32) (x26 : Int64) (r32 : Int64) : g_S := (f_M_leg_238_38 σ dn lim r2 x5 r10 x13 x17 x21 x26 r32 (f_M_goesOut dn (σ.2 0 20) x26 r10))
def k_M_leg_224_34 (σ : g_S) (dn : Int32) (lim : Int64) (r2 : Int32) (x5 : Int64) (r10 : Int64) (x13 : Int64) (x17 : Int64) (x21 : Int32) (x26 : Int64) (r32 : Int64) : Prop := (k_M_goesOut dn (σ.2 0 20) x26 r10) ∧ (k_M_leg_238_38 σ dn lim r2 x5 r10 x13 x17 x21 x26 r32 (f_M_goesOut dn (σ.2 0 20) x26 r10))
def f_M_leg_213_30 (σ : g_S) (dn : Int32) (lim : Int64) (r2 : Int32) (x5 : Int64) (r10 : Int64) (x13 : Int64) (x17 : Int64) (x21 : Int32) (x26 : Int64) : g_S := (f_M_leg_224_34 σ dn lim r2 x5 r10 x13 x17 x21 x26 (f_M_in dn (σ.2 0 20) x26 r10))
def k_M_leg_213_30 (σ : g_S) (dn : Int32) (lim : Int64) (r2 : Int32) (x5 : Int64) (r10 : Int64) (x13 : Int64) (x17 : Int64) (x21 : Int32) (x26 : Int64) : Prop := (k_M_in dn (σ.2 0 20) x26 r10) ∧ (k_M_leg_224_34 σ dn lim r2 x5 r10 x13 x17 x21 x26 (f_M_in dn (σ.2 0 20) x26 r10))
def f_M_leg_190_25 (σ : g_S) (dn : Int32) (lim : Int64) (r2 : Int32) (x5 : Int64) (r10 : Int64) (x13 : Int64) (x17 : Int64) (x21 : Int32) : g_S := (f_M_leg_213_30 σ dn lim r2 x5 r10 x13 x17 x21 (if x21 = 0 then f_M_onTheWay σ dn r10 x13 x17 else x5))
def k_M_leg_190_25 (σ : g_S) (dn : Int32) (lim : Int64) (r2 : Int32) (x5 : Int64) (r10 : Int64) (x13 : Int64) (x17 : Int64) (x21 : Int32) : Prop := (if x21 = 0 then (k_M_onTheWay σ dn r10 x13 x17) ∧ True else True) ∧ (k_M_leg_213_30 σ dn lim r2 x5 r10 x13 x17 x21 (if x21 = 0 then f_M_onTheWay σ dn r10 x13 x17 else x5))
def f_M_leg_130_20 (σ : g_S) (dn : Int32) (lim : Int64) (r2 : Int32) (x5 : Int64) (r10 : Int64) (x13 : Int64) (x17 : Int64) : g_S := (f_M_leg_190_25 σ dn lim r2 x5 r10 x13 x17 (if (σ.2 0 22) ≤ (0 : Int64) then (if x17 < (f_M_goesOut dn (σ.2 0 20) x5 r10) then (0 : Int32) else (1 : Int32)) else (if x13 < (f_M_in dn (σ.2 0 20) x5 r10) then (0 : Int32) else (1 : Int32))))
def k_M_leg_130_20 (σ : g_S) (dn : Int32) (lim : Int64) (r2 : Int32) (x5 : Int64) (r10 : Int64) (x13 : Int64) (x17 : Int64) : Prop := (if (σ.2 0 22) ≤ (0 : Int64) then (k_M_goesOut dn (σ.2 0 20) x5 r10) ∧ True else (k_M_in dn (σ.2 0 20) x5 r10) ∧ True) ∧ (k_M_leg_190_25 σ dn lim r2 x5 r10 x13 x17 (if (σ.2 0 22) ≤ (0 : Int64) then (if x17 < (f_M_goesOut dn (σ.2 0 20) x5 r10) then (0 : Int32) else (1 : Int32)) else (if x13 < (f_M_in dn (σ.2 0 20) x5 r10) then (0 : Int32) else (1 : Int32))))
def f_M_leg_110_16 (σ : g_S) (dn : Int32) (lim : Int64) (r2 : Int32) (x5 : Int64) (r10 : Int64) (x13 : Int64) : g_S := (f_M_leg_130_20 σ dn lim r2 x5 r10 x13 (if (0 : Int64) ≤ (σ.2 0 22) then (0 : Int64) else -(σ.2 0 22)))
def k_M_leg_110_16 (σ : g_S) (dn : Int32) (lim : Int64) (r2 : Int32) (x5 : Int64) (r10 : Int64) (x13 : Int64) : Prop := (k_M_leg_130_20 σ dn lim r2 x5 r10 x13 (if (0 : Int64) ≤ (σ.2 0 22) then (0 : Int64) else -(σ.2 0 22)))
def f_M_leg_74_12 (σ : g_S) (dn : Int32) (lim : Int64) (r2 : Int32) (x5 : Int64) (r10 : Int64) : g_S := (f_M_leg_110_16 σ dn lim r2 x5 r10 (if (σ.2 0 22) ≤ (0 : Int64) then (0 : Int64) else ((σ.2 0 22) * ((1000 : Int64) - ((σ.1 0 1).toInt64))) / (1000 : Int64)))
def k_M_leg_74_12 (σ : g_S) (dn : Int32) (lim : Int64) (r2 : Int32) (x5 : Int64) (r10 : Int64) : Prop := (k_M_leg_110_16 σ dn lim r2 x5 r10 (if (σ.2 0 22) ≤ (0 : Int64) then (0 : Int64) else ((σ.2 0 22) * ((1000 : Int64) - ((σ.1 0 1).toInt64))) / (1000 : Int64)))
def f_M_leg_67_9 (σ : g_S) (dn : Int32) (lim : Int64) (r2 : Int32) (x5 : Int64) : g_S := (f_M_leg_74_12 σ dn lim r2 x5 (f_M_depthAt σ (σ.1 0 21)))
def k_M_leg_67_9 (σ : g_S) (dn : Int32) (lim : Int64) (r2 : Int32) (x5 : Int64) : Prop := (k_M_leg_74_12 σ dn lim r2 x5 (f_M_depthAt σ (σ.1 0 21)))
def f_M_leg_2_4 (σ : g_S) (dn : Int32) (lim : Int64) (r2 : Int32) : g_S := (f_M_leg_67_9 σ dn lim r2 (if r2 = (99 : Int32) then lim else (if dn = 0 then (if lim ≤ (f_M_price σ r2) then lim else f_M_price σ r2) else (if (f_M_price σ r2) ≤ lim then lim else f_M_price σ r2))))
def k_M_leg_2_4 (σ : g_S) (dn : Int32) (lim : Int64) (r2 : Int32) : Prop := (if r2 = (99 : Int32) then True else (if dn = 0 then (k_M_price σ r2) ∧ (if lim ≤ (f_M_price σ r2) then True else (k_M_price σ r2) ∧ True) else (k_M_price σ r2) ∧ (if (f_M_price σ r2) ≤ lim then True else (k_M_price σ r2) ∧ True))) ∧ (k_M_leg_67_9 σ dn lim r2 (if r2 = (99 : Int32) then lim else (if dn = 0 then (if lim ≤ (f_M_price σ r2) then lim else f_M_price σ r2) else (if (f_M_price σ r2) ≤ lim then lim else f_M_price σ r2))))
def f_M_leg (σ : g_S) (dn : Int32) (lim : Int64) : g_S := (f_M_leg_2_4 σ dn lim (f_M_nextStep σ dn))
def k_M_leg (σ : g_S) (dn : Int32) (lim : Int64) : Prop := (k_M_nextStep σ dn) ∧ (k_M_leg_2_4 σ dn lim (f_M_nextStep σ dn))
set_option maxHeartbeats 4000000 in
set_option maxRecDepth 100000 in
theorem c_M_leg (l : Launch) (dC : Nat → ClassId) (dI : Nat → Nat → Nat) (dA : Nat → ClassId) (ad : Nat → Nat) (sz : Nat) (σ : g_S) (dn : Int32) (lim : Int64) (hQ : k_M_leg σ dn lim) : Met l y_M_leg w_M_leg ({ frames := 3, cells := 0, slots := 0, locals := 76 }) (va_Pc [.ref (ad 0), .int dn, .long lim] (g_W (dC, dI) cls (r_tys dA) (g_w r_sh dA ad σ) sz r_Z)) (va_Qv (fun τ => τ = f_M_leg σ dn lim) (fun τ t => va_P (dC, dI) cls (g_w r_sh dA ad τ) t.heap) (va_A (g_w r_sh dA ad σ) sz)) 0 0 (va_A (g_w r_sh dA ad σ) sz) := by
  refine Met.ofW (cc := b_M_leg) (maxL := 24) (ret := none) (by decide) rfl ?_
  intro p e s m args below meth c s₁ B hml hv
  obtain ⟨rfl, hsz, hP, hK, hD0, hz⟩ := hv
  have hx := B.exec
  have hb := B.bytes
  have hr := B.returns
  have hts := atoms_spec (ws := w_M_leg) B.pre
  have ht := fun (w : Cond) (h : w ∈ gA) => hts w (List.mem_cons_of_mem _ h)
  have hown : s.vm.findClass "RangedPoolModel" = some m.cls := findClass_of_methodNamed B.named
  have hlocks := B.notSynchronized
  subst hsz
  have hD := hD0.self (sz := s.heap.size)
  have hA : ∀ q : Nat, s.heap.size ≤ q → va_A (g_w r_sh dA ad σ) s.heap.size q := fun q h => Or.inr h
  generalize hAe : va_A (g_w r_sh dA ad σ) s.heap.size = A at hD hA hz ⊢
  have hS : va_S A s.heap s.heap [] := va_S.rf
  have hl := lv_entry ([.ref (ad 0), .int dn, .long lim]) (n := 24) (Nat.le_of_ble_eq_true rfl)
  rw [lg_entry_eq]
  generalize (lg_sl ([.ref (ad 0), .int dn, .long lim]) ++ List.replicate (24 - (lg_sl ([.ref (ad 0), .int dn, .long lim])).length) Slot.unset).toArray = ls at hl ⊢
  have hl : lv_has ls 24 [(0, .ref (ad 0)), (1, .int dn), (2, .long lim)] := hl
  have hF : f_M_leg σ dn lim = f_M_leg σ dn lim := rfl
  refine lv_aload_n hx hb d_M_leg_0 rfl (lv_at hl 0 rfl) ?_
  refine lv_iload_n hx hb d_M_leg_1 rfl (lv_at hl 1 rfl) ?_
  obtain ⟨hs1, hQ⟩ := hQ
  refine g_cSi (va_runV (As := [.int dn]) (rest := []) ⟨hx, hb, hml, hown, ht⟩ (c_M_nextStep l dC dI dA ad σ dn hs1) (cwV 1 ht gc_M_163 rfl rfl rfl (by decide +kernel) ⟨Nat.le_of_ble_eq_true rfl, Nat.le_of_ble_eq_true rfl⟩) (g_pV (g_prR r_Zok hK hP hS hz _) (g_rc hK hP (0) r_at0 rfl)) rfl rfl hl.1 rfl (lv_room (Nat.le_of_ble_eq_true rfl)) d_M_leg_2 ⟨Nat.le_of_ble_eq_true rfl, Nat.le_of_ble_eq_true rfl⟩) (fun r2 e3 => ?_)
  have hF : f_M_leg σ dn lim = f_M_leg_2_4 σ dn lim r2 := hF.trans (by rw [e3]; try rfl)
  have hQ : k_M_leg_2_4 σ dn lim r2 := by rw [e3]; exact hQ
  refine lv_istore (lv' := [(4, .int r2), (0, .ref (ad 0)), (1, .int dn), (2, .long lim)]) hx hb d_M_leg_5 hl (by decide) rfl (fun ls hl => ?_)
  refine lv_iload hx hb d_M_leg_7 (lv_at hl 0 rfl) ?_
  refine lv_bipush (v := (99 : Int32)) hx hb d_M_leg_9 (by decide) ?_
  obtain ⟨hT8, hQ⟩ := hQ
  have J67_6 : ∀ (x5 : Int64) (ls : Array Slot), x5 = (if r2 = (99 : Int32) then lim else (if dn = 0 then (if lim ≤ (f_M_price σ r2) then lim else f_M_price σ r2) else (if (f_M_price σ r2) ≤ lim then lim else f_M_price σ r2))) → lv_has ls 24 [(4, .int r2), (0, .ref (ad 0)), (1, .int dn)] → W p l e (headSpec w_M_leg ({ frames := 3, cells := 0, slots := 0, locals := 76 })).room s m ([.ref (ad 0), .int dn, .long lim] : List Value).toArray below meth c s.heap [] 0 0 (MQ below (va_Qv (fun τ => τ = f_M_leg σ dn lim) (fun τ t => va_P (dC, dI) cls (g_w r_sh dA ad τ) t.heap) A) ([.ref (ad 0), .int dn, .long lim] : List Value).toArray s 0 0 A) (F0 m 67 ls [.long x5]) := by
    intro x5 ls e7 hl
    have hF : f_M_leg σ dn lim = f_M_leg_67_9 σ dn lim r2 x5 := hF.trans (by rw [e7]; try rfl)
    have hQ : k_M_leg_67_9 σ dn lim r2 x5 := by rw [e7]; exact hQ
    refine lv_lstore (lv' := [(5, .long x5), (4, .int r2), (0, .ref (ad 0)), (1, .int dn)]) hx hb d_M_leg_67 hl (by decide) rfl (fun ls hl => ?_)
    refine lv_aload_n hx hb d_M_leg_69 rfl (lv_at hl 2 rfl) ?_
    refine lv_aload_n hx hb d_M_leg_70 rfl (lv_at hl 2 rfl) ?_
    refine g_get hx hb ht in_M hown hK hP (0) r_at0 rfl 21 (by decide) rfl (ht _ kw482) (fun _ h9 => h9) (v := .int (σ.1 0 21)) rfl d_M_leg_71 ?_
    refine g_cSl (va_runV (As := [.int (σ.1 0 21)]) (rest := []) ⟨hx, hb, hml, hown, ht⟩ (c_M_depthAt l dC dI dA ad σ (σ.1 0 21)) (cwV 1 ht gc_M_167 rfl rfl rfl (by decide +kernel) ⟨Nat.le_of_ble_eq_true rfl, Nat.le_of_ble_eq_true rfl⟩) (g_pV (g_prR r_Zok hK hP hS hz _) (g_rc hK hP (0) r_at0 rfl)) rfl rfl hl.1 rfl (lv_room (Nat.le_of_ble_eq_true rfl)) d_M_leg_74 ⟨Nat.le_of_ble_eq_true rfl, Nat.le_of_ble_eq_true rfl⟩) (fun r10 e11 => ?_)
    have hF : f_M_leg σ dn lim = f_M_leg_74_12 σ dn lim r2 x5 r10 := hF.trans (by rw [e11]; try rfl)
    have hQ : k_M_leg_74_12 σ dn lim r2 x5 r10 := by rw [e11]; exact hQ
    refine lv_lstore (lv' := [(7, .long r10), (5, .long x5), (4, .int r2), (0, .ref (ad 0)), (1, .int dn)]) hx hb d_M_leg_77 hl (by decide) rfl (fun ls hl => ?_)
    refine lv_aload_n hx hb d_M_leg_79 rfl (lv_at hl 3 rfl) ?_
    refine g_get hx hb ht in_M hown hK hP (0) r_at0 rfl 22 (by decide) rfl (ht _ kw483) (fun _ h9 => h9) (v := .long (σ.2 0 22)) rfl d_M_leg_80 ?_
    refine lv_lconst (v := (0 : Int64)) hx hb d_M_leg_83 (by decide) ?_
    refine W.lcmp hx hb d_M_leg_84 ?_
    have J110_14 : ∀ (x13 : Int64) (ls : Array Slot), x13 = (if (σ.2 0 22) ≤ (0 : Int64) then (0 : Int64) else ((σ.2 0 22) * ((1000 : Int64) - ((σ.1 0 1).toInt64))) / (1000 : Int64)) → lv_has ls 24 [(7, .long r10), (5, .long x5), (4, .int r2), (0, .ref (ad 0)), (1, .int dn)] → W p l e (headSpec w_M_leg ({ frames := 3, cells := 0, slots := 0, locals := 76 })).room s m ([.ref (ad 0), .int dn, .long lim] : List Value).toArray below meth c s.heap [] 0 0 (MQ below (va_Qv (fun τ => τ = f_M_leg σ dn lim) (fun τ t => va_P (dC, dI) cls (g_w r_sh dA ad τ) t.heap) A) ([.ref (ad 0), .int dn, .long lim] : List Value).toArray s 0 0 A) (F0 m 110 ls [.long x13]) := by
      intro x13 ls e15 hl
      have hF : f_M_leg σ dn lim = f_M_leg_110_16 σ dn lim r2 x5 r10 x13 := hF.trans (by rw [e15]; try rfl)
      have hQ : k_M_leg_110_16 σ dn lim r2 x5 r10 x13 := by rw [e15]; exact hQ
      refine lv_lstore (lv' := [(9, .long x13), (7, .long r10), (5, .long x5), (4, .int r2), (0, .ref (ad 0)), (1, .int dn)]) hx hb d_M_leg_110 hl (by decide) rfl (fun ls hl => ?_)
      refine lv_aload_n hx hb d_M_leg_112 rfl (lv_at hl 4 rfl) ?_
      refine g_get hx hb ht in_M hown hK hP (0) r_at0 rfl 22 (by decide) rfl (ht _ kw483) (fun _ h9 => h9) (v := .long (σ.2 0 22)) rfl d_M_leg_113 ?_
      refine lv_lconst (v := (0 : Int64)) hx hb d_M_leg_116 (by decide) ?_
      refine W.lcmp hx hb d_M_leg_117 ?_
      have J130_18 : ∀ (x17 : Int64) (ls : Array Slot), x17 = (if (0 : Int64) ≤ (σ.2 0 22) then (0 : Int64) else -(σ.2 0 22)) → lv_has ls 24 [(9, .long x13), (7, .long r10), (5, .long x5), (4, .int r2), (0, .ref (ad 0)), (1, .int dn)] → W p l e (headSpec w_M_leg ({ frames := 3, cells := 0, slots := 0, locals := 76 })).room s m ([.ref (ad 0), .int dn, .long lim] : List Value).toArray below meth c s.heap [] 0 0 (MQ below (va_Qv (fun τ => τ = f_M_leg σ dn lim) (fun τ t => va_P (dC, dI) cls (g_w r_sh dA ad τ) t.heap) A) ([.ref (ad 0), .int dn, .long lim] : List Value).toArray s 0 0 A) (F0 m 130 ls [.long x17]) := by
        intro x17 ls e19 hl
        have hF : f_M_leg σ dn lim = f_M_leg_130_20 σ dn lim r2 x5 r10 x13 x17 := hF.trans (by rw [e19]; try rfl)
        have hQ : k_M_leg_130_20 σ dn lim r2 x5 r10 x13 x17 := by rw [e19]; exact hQ
        refine lv_lstore (lv' := [(11, .long x17), (9, .long x13), (7, .long r10), (5, .long x5), (4, .int r2), (0, .ref (ad 0)), (1, .int dn)]) hx hb d_M_leg_130 hl (by decide) rfl (fun ls hl => ?_)
        refine lv_aload_n hx hb d_M_leg_132 rfl (lv_at hl 5 rfl) ?_
        refine g_get hx hb ht in_M hown hK hP (0) r_at0 rfl 22 (by decide) rfl (ht _ kw483) (fun _ h9 => h9) (v := .long (σ.2 0 22)) rfl d_M_leg_133 ?_
        refine lv_lconst (v := (0 : Int64)) hx hb d_M_leg_136 (by decide) ?_
        refine W.lcmp hx hb d_M_leg_137 ?_
        obtain ⟨hT24, hQ⟩ := hQ
        have J190_22 : ∀ (x21 : Int32) (ls : Array Slot), x21 = (if (σ.2 0 22) ≤ (0 : Int64) then (if x17 < (f_M_goesOut dn (σ.2 0 20) x5 r10) then (0 : Int32) else (1 : Int32)) else (if x13 < (f_M_in dn (σ.2 0 20) x5 r10) then (0 : Int32) else (1 : Int32))) → lv_has ls 24 [(11, .long x17), (9, .long x13), (7, .long r10), (5, .long x5), (4, .int r2), (0, .ref (ad 0)), (1, .int dn)] → W p l e (headSpec w_M_leg ({ frames := 3, cells := 0, slots := 0, locals := 76 })).room s m ([.ref (ad 0), .int dn, .long lim] : List Value).toArray below meth c s.heap [] 0 0 (MQ below (va_Qv (fun τ => τ = f_M_leg σ dn lim) (fun τ t => va_P (dC, dI) cls (g_w r_sh dA ad τ) t.heap) A) ([.ref (ad 0), .int dn, .long lim] : List Value).toArray s 0 0 A) (F0 m 190 ls [.int x21]) := by
          intro x21 ls e23 hl
          have hF : f_M_leg σ dn lim = f_M_leg_190_25 σ dn lim r2 x5 r10 x13 x17 x21 := hF.trans (by rw [e23]; try rfl)
          have hQ : k_M_leg_190_25 σ dn lim r2 x5 r10 x13 x17 x21 := by rw [e23]; exact hQ
          refine lv_istore (lv' := [(13, .int x21), (11, .long x17), (9, .long x13), (7, .long r10), (5, .long x5), (4, .int r2), (0, .ref (ad 0)), (1, .int dn)]) hx hb d_M_leg_190 hl (by decide) rfl (fun ls hl => ?_)
          refine lv_iload hx hb d_M_leg_192 (lv_at hl 0 rfl) ?_
          obtain ⟨hT29, hQ⟩ := hQ
          have J213_27 : ∀ (x26 : Int64) (ls : Array Slot), x26 = (if x21 = 0 then f_M_onTheWay σ dn r10 x13 x17 else x5) → lv_has ls 24 [(11, .long x17), (7, .long r10), (5, .long x5), (4, .int r2), (0, .ref (ad 0)), (1, .int dn)] → W p l e (headSpec w_M_leg ({ frames := 3, cells := 0, slots := 0, locals := 76 })).room s m ([.ref (ad 0), .int dn, .long lim] : List Value).toArray below meth c s.heap [] 0 0 (MQ below (va_Qv (fun τ => τ = f_M_leg σ dn lim) (fun τ t => va_P (dC, dI) cls (g_w r_sh dA ad τ) t.heap) A) ([.ref (ad 0), .int dn, .long lim] : List Value).toArray s 0 0 A) (F0 m 213 ls [.long x26]) := by
            intro x26 ls e28 hl
            have hF : f_M_leg σ dn lim = f_M_leg_213_30 σ dn lim r2 x5 r10 x13 x17 x21 x26 := hF.trans (by rw [e28]; try rfl)
            have hQ : k_M_leg_213_30 σ dn lim r2 x5 r10 x13 x17 x21 x26 := by rw [e28]; exact hQ
            refine lv_lstore (lv' := [(14, .long x26), (11, .long x17), (7, .long r10), (5, .long x5), (4, .int r2), (0, .ref (ad 0)), (1, .int dn)]) hx hb d_M_leg_213 hl (by decide) rfl (fun ls hl => ?_)
            refine lv_iload_n hx hb d_M_leg_215 rfl (lv_at hl 6 rfl) ?_
            refine lv_aload_n hx hb d_M_leg_216 rfl (lv_at hl 5 rfl) ?_
            refine g_get hx hb ht in_M hown hK hP (0) r_at0 rfl 20 (by decide) rfl (ht _ kw481) (fun _ h9 => h9) (v := .long (σ.2 0 20)) rfl d_M_leg_217 ?_
            refine lv_lload hx hb d_M_leg_220 (lv_at hl 0 rfl) ?_
            refine lv_lload hx hb d_M_leg_222 (lv_at hl 2 rfl) ?_
            obtain ⟨hs31, hQ⟩ := hQ
            refine g_cSl (va_runS (As := [.int dn, .long (σ.2 0 20), .long x26, .long r10]) (rest := []) ⟨hx, hb, hml, hown, ht⟩ (c_M_in l dn (σ.2 0 20) x26 r10 hs31) (va_cwS 4 ht gc_M_170 rfl rfl rfl (by decide +kernel) ⟨Nat.le_of_ble_eq_true rfl, Nat.le_of_ble_eq_true rfl⟩) (g_pr0 _) rfl rfl hl.1 rfl (lv_room (Nat.le_of_ble_eq_true rfl)) d_M_leg_224 ⟨Nat.le_of_ble_eq_true rfl, Nat.le_of_ble_eq_true rfl⟩) (fun r32 e33 => ?_)
            have hF : f_M_leg σ dn lim = f_M_leg_224_34 σ dn lim r2 x5 r10 x13 x17 x21 x26 r32 := hF.trans (by rw [e33]; try rfl)
            have hQ : k_M_leg_224_34 σ dn lim r2 x5 r10 x13 x17 x21 x26 r32 := by rw [e33]; exact hQ
            refine lv_lstore (lv' := [(16, .long r32), (14, .long x26), (11, .long x17), (7, .long r10), (5, .long x5), (4, .int r2), (0, .ref (ad 0)), (1, .int dn)]) hx hb d_M_leg_227 hl (by decide) rfl (fun ls hl => ?_)
            refine lv_iload_n hx hb d_M_leg_229 rfl (lv_at hl 7 rfl) ?_
            refine lv_aload_n hx hb d_M_leg_230 rfl (lv_at hl 6 rfl) ?_
            refine g_get hx hb ht in_M hown hK hP (0) r_at0 rfl 20 (by decide) rfl (ht _ kw481) (fun _ h9 => h9) (v := .long (σ.2 0 20)) rfl d_M_leg_231 ?_
            refine lv_lload hx hb d_M_leg_234 (lv_at hl 1 rfl) ?_
            refine lv_lload hx hb d_M_leg_236 (lv_at hl 3 rfl) ?_
            obtain ⟨hs35, hQ⟩ := hQ
            refine g_cSl (va_runS (As := [.int dn, .long (σ.2 0 20), .long x26, .long r10]) (rest := []) ⟨hx, hb, hml, hown, ht⟩ (c_M_goesOut l dn (σ.2 0 20) x26 r10 hs35) (va_cwS 4 ht gc_M_174 rfl rfl rfl (by decide +kernel) ⟨Nat.le_of_ble_eq_true rfl, Nat.le_of_ble_eq_true rfl⟩) (g_pr0 _) rfl rfl hl.1 rfl (lv_room (Nat.le_of_ble_eq_true rfl)) d_M_leg_238 ⟨Nat.le_of_ble_eq_true rfl, Nat.le_of_ble_eq_true rfl⟩) (fun r36 e37 => ?_)
            have hF : f_M_leg σ dn lim = f_M_leg_238_38 σ dn lim r2 x5 r10 x13 x17 x21 x26 r32 r36 := hF.trans (by rw [e37]; try rfl)
            have hQ : k_M_leg_238_38 σ dn lim r2 x5 r10 x13 x17 x21 x26 r32 r36 := by rw [e37]; exact hQ
            refine lv_lstore (lv' := [(18, .long r36), (16, .long r32), (14, .long x26), (11, .long x17), (7, .long r10), (5, .long x5), (4, .int r2), (0, .ref (ad 0)), (1, .int dn)]) hx hb d_M_leg_241 hl (by decide) rfl (fun ls hl => ?_)
            refine lv_aload_n hx hb d_M_leg_243 rfl (lv_at hl 7 rfl) ?_
            refine g_get hx hb ht in_M hown hK hP (0) r_at0 rfl 22 (by decide) rfl (ht _ kw483) (fun _ h9 => h9) (v := .long (σ.2 0 22)) rfl d_M_leg_244 ?_
            refine lv_lconst (v := (0 : Int64)) hx hb d_M_leg_247 (by decide) ?_
            refine W.lcmp hx hb d_M_leg_248 ?_
            have J267_40 : ∀ (x39 : Int64) (ls : Array Slot), x39 = (if (0 : Int64) ≤ (σ.2 0 22) then r36 else (if r36 ≤ x17 then r36 else x17)) → lv_has ls 24 [(16, .long r32), (14, .long x26), (7, .long r10), (5, .long x5), (4, .int r2), (0, .ref (ad 0)), (1, .int dn)] → W p l e (headSpec w_M_leg ({ frames := 3, cells := 0, slots := 0, locals := 76 })).room s m ([.ref (ad 0), .int dn, .long lim] : List Value).toArray below meth c s.heap [] 0 0 (MQ below (va_Qv (fun τ => τ = f_M_leg σ dn lim) (fun τ t => va_P (dC, dI) cls (g_w r_sh dA ad τ) t.heap) A) ([.ref (ad 0), .int dn, .long lim] : List Value).toArray s 0 0 A) (F0 m 267 ls [.long x39]) := by
              intro x39 ls e41 hl
              have hF : f_M_leg σ dn lim = f_M_leg_267_42 σ dn lim r2 x5 r10 x13 x17 x21 x26 r32 r36 x39 := hF.trans (by rw [e41]; try rfl)
              have hQ : k_M_leg_267_42 σ dn lim r2 x5 r10 x13 x17 x21 x26 r32 r36 x39 := by rw [e41]; exact hQ
              refine lv_lstore (lv' := [(18, .long x39), (16, .long r32), (14, .long x26), (7, .long r10), (5, .long x5), (4, .int r2), (0, .ref (ad 0)), (1, .int dn)]) hx hb d_M_leg_267 hl (by decide) rfl (fun ls hl => ?_)
              refine lv_aload_n hx hb d_M_leg_269 rfl (lv_at hl 6 rfl) ?_
              refine g_get hx hb ht in_M hown hK hP (0) r_at0 rfl 22 (by decide) rfl (ht _ kw483) (fun _ h9 => h9) (v := .long (σ.2 0 22)) rfl d_M_leg_270 ?_
              refine lv_lconst (v := (0 : Int64)) hx hb d_M_leg_273 (by decide) ?_
              refine W.lcmp hx hb d_M_leg_274 ?_
              obtain ⟨hT46, hQ⟩ := hQ
              have J317_44 : ∀ (x43 : Int64) (ls : Array Slot), x43 = (if (σ.2 0 22) ≤ (0 : Int64) then f_M_quotient (r32 * ((σ.1 0 1).toInt64)) ((1000 : Int64) - ((σ.1 0 1).toInt64)) (1 : Int32) else (if x26 = x5 then f_M_quotient (r32 * ((σ.1 0 1).toInt64)) ((1000 : Int64) - ((σ.1 0 1).toInt64)) (1 : Int32) else (σ.2 0 22) - r32)) → lv_has ls 24 [(18, .long x39), (16, .long r32), (14, .long x26), (7, .long r10), (4, .int r2), (0, .ref (ad 0)), (1, .int dn)] → W p l e (headSpec w_M_leg ({ frames := 3, cells := 0, slots := 0, locals := 76 })).room s m ([.ref (ad 0), .int dn, .long lim] : List Value).toArray below meth c s.heap [] 0 0 (MQ below (va_Qv (fun τ => τ = f_M_leg σ dn lim) (fun τ t => va_P (dC, dI) cls (g_w r_sh dA ad τ) t.heap) A) ([.ref (ad 0), .int dn, .long lim] : List Value).toArray s 0 0 A) (F0 m 317 ls [.long x43]) := by
                intro x43 ls e45 hl
                have hF : f_M_leg σ dn lim = f_M_leg_317_47 σ dn lim r2 x5 r10 x13 x17 x21 x26 r32 r36 x39 x43 := hF.trans (by rw [e45]; try rfl)
                have hQ : k_M_leg_317_47 σ dn lim r2 x5 r10 x13 x17 x21 x26 r32 r36 x39 x43 := by rw [e45]; exact hQ
                refine lv_lstore (lv' := [(20, .long x43), (18, .long x39), (16, .long r32), (14, .long x26), (7, .long r10), (4, .int r2), (0, .ref (ad 0)), (1, .int dn)]) hx hb d_M_leg_317 hl (by decide) rfl (fun ls hl => ?_)
                refine lv_aload_n hx hb d_M_leg_319 rfl (lv_at hl 6 rfl) ?_
                refine lv_dup hx hb d_M_leg_320 rfl ?_
                refine g_get hx hb ht in_M hown hK hP (0) r_at0 rfl 23 (by decide) rfl (ht _ kw484) (fun _ h9 => h9) (v := .long (σ.2 0 23)) rfl d_M_leg_321 ?_
                refine lv_lload hx hb d_M_leg_324 (lv_at hl 2 rfl) ?_
                refine lv_lload hx hb d_M_leg_326 (lv_at hl 0 rfl) ?_
                refine lv_ladd hx hb d_M_leg_328 ?_
                refine lv_ladd hx hb d_M_leg_329 ?_
                refine g_putL (v := (σ.2 0 23) + (r32 + x43)) (ty := .long) hx hb ht in_M yt_M yt_M_ok n_M hown hK hP hD hS (0) r_at0 rfl 23 (by decide) rfl (ht _ kw484) (fun _ h9 => h9) rfl (by decide +kernel) (rfl) (rfl) d_M_leg_330 (fun H locs hP hD hS => ?_)
                refine lv_aload_n hx hb d_M_leg_333 rfl (lv_at hl 6 rfl) ?_
                refine lv_dup hx hb d_M_leg_334 rfl ?_
                refine g_get hx hb ht in_M hown hK hP (0) r_at0 rfl 24 (by decide) rfl (ht _ kw485) (fun _ h9 => h9) (v := .long (σ.2 0 24)) rfl d_M_leg_335 ?_
                refine lv_lload hx hb d_M_leg_338 (lv_at hl 1 rfl) ?_
                refine lv_ladd hx hb d_M_leg_340 ?_
                refine g_putL (v := (σ.2 0 24) + x39) (ty := .long) hx hb ht in_M yt_M yt_M_ok n_M hown hK hP hD hS (0) r_at0 rfl 24 (by decide) rfl (ht _ kw485) (fun _ h9 => h9) rfl (by decide +kernel) (rfl) (rfl) d_M_leg_341 (fun H locs hP hD hS => ?_)
                refine lv_aload_n hx hb d_M_leg_344 rfl (lv_at hl 6 rfl) ?_
                refine lv_aload_n hx hb d_M_leg_345 rfl (lv_at hl 6 rfl) ?_
                refine g_get hx hb ht in_M hown hK hP (0) r_at0 rfl 22 (by decide) rfl (ht _ kw483) (fun _ h9 => h9) (v := .long (σ.2 0 22)) rfl d_M_leg_346 ?_
                refine lv_lconst (v := (0 : Int64)) hx hb d_M_leg_349 (by decide) ?_
                refine W.lcmp hx hb d_M_leg_350 ?_
                have J374_49 : ∀ (x48 : Int64) (ls : Array Slot), x48 = (if (σ.2 0 22) ≤ (0 : Int64) then (σ.2 0 22) + x39 else ((σ.2 0 22) - r32) - x43) → lv_has ls 24 [(20, .long x43), (14, .long x26), (7, .long r10), (4, .int r2), (0, .ref (ad 0)), (1, .int dn)] → W p l e (headSpec w_M_leg ({ frames := 3, cells := 0, slots := 0, locals := 76 })).room s m ([.ref (ad 0), .int dn, .long lim] : List Value).toArray below meth c H locs 0 0 (MQ below (va_Qv (fun τ => τ = f_M_leg σ dn lim) (fun τ t => va_P (dC, dI) cls (g_w r_sh dA ad τ) t.heap) A) ([.ref (ad 0), .int dn, .long lim] : List Value).toArray s 0 0 A) (F0 m 374 ls [.long x48, .ref (ad 0)]) := by
                  intro x48 ls e50 hl
                  have hF : f_M_leg σ dn lim = f_M_leg_374_51 σ dn lim r2 x5 r10 x13 x17 x21 x26 r32 r36 x39 x43 x48 := hF.trans (by rw [e50]; try rfl)
                  have hQ : k_M_leg_374_51 σ dn lim r2 x5 r10 x13 x17 x21 x26 r32 r36 x39 x43 x48 := by rw [e50]; exact hQ
                  refine g_putL (v := x48) (ty := .long) hx hb ht in_M yt_M yt_M_ok n_M hown hK hP hD hS (0) r_at0 rfl 22 (by decide) rfl (ht _ kw483) (fun _ h9 => h9) rfl (by decide +kernel) (rfl) (rfl) d_M_leg_374 (fun H locs hP hD hS => ?_)
                  refine lv_iconst (v := (0 : Int32)) hx hb d_M_leg_377 (by decide) ?_
                  refine lv_istore (lv' := [(22, .int (0 : Int32)), (20, .long x43), (14, .long x26), (7, .long r10), (4, .int r2), (0, .ref (ad 0)), (1, .int dn)]) hx hb d_M_leg_378 hl (by decide) rfl (fun ls hl => ?_)
                  obtain ⟨hT54, hQ⟩ := hQ
                  have J461_55 : ∀ (τ53 : g_S) (ls : Array Slot) (H : Heap) (locs : List Loc), τ53 = (f_M_leg_L380 σ dn lim r2 x5 r10 x13 x17 x21 x26 r32 r36 x39 x43 x48 10 0 (g_L (g_L (g_L σ 0 23 ((σ.2 0 23) + (r32 + x43))) 0 24 ((σ.2 0 24) + x39)) 0 22 x48)) → lv_has ls 24 [(14, .long x26), (4, .int r2), (0, .ref (ad 0)), (1, .int dn)] → va_P (dC, dI) cls (g_w r_sh dA ad τ53) H → va_D A (g_w r_sh dA ad τ53) → va_S A s.heap H locs → W p l e (headSpec w_M_leg ({ frames := 3, cells := 0, slots := 0, locals := 76 })).room s m ([.ref (ad 0), .int dn, .long lim] : List Value).toArray below meth c H locs 0 0 (MQ below (va_Qv (fun τ => τ = f_M_leg σ dn lim) (fun τ t => va_P (dC, dI) cls (g_w r_sh dA ad τ) t.heap) A) ([.ref (ad 0), .int dn, .long lim] : List Value).toArray s 0 0 A) (F0 m 461 ls []) := by
                    intro τ53 ls H locs e56 hl hP hD hS
                    have hF : f_M_leg σ dn lim = f_M_leg_461_57 σ dn lim r2 x5 r10 x13 x17 x21 x26 r32 r36 x39 x43 x48 τ53 := hF.trans (by rw [e56]; try rfl)
                    have hQ : k_M_leg_461_57 σ dn lim r2 x5 r10 x13 x17 x21 x26 r32 r36 x39 x43 x48 τ53 := by rw [e56]; exact hQ
                    refine lv_lload hx hb d_M_leg_461 (lv_at hl 0 rfl) ?_
                    refine lv_aload_n hx hb d_M_leg_463 rfl (lv_at hl 2 rfl) ?_
                    refine g_get hx hb ht in_M hown hK hP (0) r_at0 rfl 20 (by decide) rfl (ht _ kw481) (fun _ h9 => h9) (v := .long (τ53.2 0 20)) rfl d_M_leg_464 ?_
                    refine W.lcmp hx hb d_M_leg_467 ?_
                    have J476_59 : ∀ (x58 : Int32) (ls : Array Slot), x58 = (if x26 = (τ53.2 0 20) then (0 : Int32) else (1 : Int32)) → lv_has ls 24 [(14, .long x26), (4, .int r2), (0, .ref (ad 0)), (1, .int dn)] → W p l e (headSpec w_M_leg ({ frames := 3, cells := 0, slots := 0, locals := 76 })).room s m ([.ref (ad 0), .int dn, .long lim] : List Value).toArray below meth c H locs 0 0 (MQ below (va_Qv (fun τ => τ = f_M_leg σ dn lim) (fun τ t => va_P (dC, dI) cls (g_w r_sh dA ad τ) t.heap) A) ([.ref (ad 0), .int dn, .long lim] : List Value).toArray s 0 0 A) (F0 m 476 ls [.int x58]) := by
                      intro x58 ls e60 hl
                      have hF : f_M_leg σ dn lim = f_M_leg_476_61 σ dn lim r2 x5 r10 x13 x17 x21 x26 r32 r36 x39 x43 x48 τ53 x58 := hF.trans (by rw [e60]; try rfl)
                      have hQ : k_M_leg_476_61 σ dn lim r2 x5 r10 x13 x17 x21 x26 r32 r36 x39 x43 x48 τ53 x58 := by rw [e60]; exact hQ
                      refine lv_istore (lv' := [(22, .int x58), (14, .long x26), (4, .int r2), (0, .ref (ad 0)), (1, .int dn)]) hx hb d_M_leg_476 hl (by decide) rfl (fun ls hl => ?_)
                      refine lv_aload_n hx hb d_M_leg_478 rfl (lv_at hl 3 rfl) ?_
                      refine lv_lload hx hb d_M_leg_479 (lv_at hl 1 rfl) ?_
                      refine g_putL (v := x26) (ty := .long) hx hb ht in_M yt_M yt_M_ok n_M hown hK hP hD hS (0) r_at0 rfl 20 (by decide) rfl (ht _ kw481) (fun _ h9 => h9) rfl (by decide +kernel) (rfl) (rfl) d_M_leg_481 (fun H locs hP hD hS => ?_)
                      refine lv_iload hx hb d_M_leg_484 (lv_at hl 2 rfl) ?_
                      refine lv_bipush (v := (99 : Int32)) hx hb d_M_leg_486 (by decide) ?_
                      refine lv_icmp_eq (tgt := 523) hx hb d_M_leg_488 (by decide) (fun c62 => ?_) (fun c62 => ?_)
                      ·
                        have c62 : r2 = (99 : Int32) := c62
                        have hF : f_M_leg σ dn lim = f_M_leg_523_63 σ dn lim r2 x5 r10 x13 x17 x21 x26 r32 r36 x39 x43 x48 τ53 x58 := hF.trans (if_pos c62)
                        have hQ : k_M_leg_523_63 σ dn lim r2 x5 r10 x13 x17 x21 x26 r32 r36 x39 x43 x48 τ53 x58 := Eq.mp (if_pos c62) hQ
                        refine lv_iload hx hb d_M_leg_523 (lv_at hl 0 rfl) ?_
                        refine lv_if_eq (tgt := 576) hx hb d_M_leg_525 (by decide) (fun c64 => ?_) (fun c64 => ?_)
                        ·
                          have c64 : x58 = 0 := c64
                          have hF : f_M_leg σ dn lim = f_M_leg_576_65 σ dn lim r2 x5 r10 x13 x17 x21 x26 r32 r36 x39 x43 x48 τ53 x58 := hF.trans (if_pos c64)
                          have hQ : k_M_leg_576_65 σ dn lim r2 x5 r10 x13 x17 x21 x26 r32 r36 x39 x43 x48 τ53 x58 := Eq.mp (if_pos c64) hQ
                          exact W.vret hx hb hr (fun t hh hW => ⟨⟨g_L τ53 0 20 x26, rfl, hF.symm, by show va_P (dC, dI) cls (g_w r_sh dA ad (g_L τ53 0 20 x26)) t.heap; rw [hh]; exact hP⟩, hS.F hh⟩) hS.2.2 d_M_leg_576
                        ·
                          have c64 : ¬ (x58 = 0) := c64
                          have hF : f_M_leg σ dn lim = f_M_leg_528_66 σ dn lim r2 x5 r10 x13 x17 x21 x26 r32 r36 x39 x43 x48 τ53 x58 := hF.trans (if_neg c64)
                          have hQ : k_M_leg_528_66 σ dn lim r2 x5 r10 x13 x17 x21 x26 r32 r36 x39 x43 x48 τ53 x58 := Eq.mp (if_neg c64) hQ
                          refine lv_aload_n hx hb d_M_leg_528 rfl (lv_at hl 3 rfl) ?_
                          refine lv_bipush (v := (-24 : Int32)) hx hb d_M_leg_529 (by decide) ?_
                          refine g_putI (v := (-24 : Int32)) (ty := .int) hx hb ht in_M yt_M yt_M_ok n_M hown hK hP hD hS (0) r_at0 rfl 21 (by decide) rfl (ht _ kw482) (fun _ h9 => h9) rfl (by decide +kernel) (rfl) (rfl) d_M_leg_531 (fun H locs hP hD hS => ?_)
                          refine lv_bipush (v := (-24 : Int32)) hx hb d_M_leg_534 (by decide) ?_
                          refine lv_istore (lv' := [(23, .int (-24 : Int32)), (22, .int x58), (14, .long x26), (4, .int r2), (0, .ref (ad 0)), (1, .int dn)]) hx hb d_M_leg_536 hl (by decide) rfl (fun ls hl => ?_)
                          obtain ⟨hT69, hQ⟩ := hQ
                          have J576_70 : ∀ (τ68 : g_S) (ls : Array Slot) (H : Heap) (locs : List Loc), τ68 = (f_M_leg_L538 σ dn lim r2 x5 r10 x13 x17 x21 x26 r32 r36 x39 x43 x48 τ53 x58 49 0 (g_I (g_L τ53 0 20 x26) 0 21 (-24 : Int32))) → lv_has ls 24 [] → va_P (dC, dI) cls (g_w r_sh dA ad τ68) H → va_D A (g_w r_sh dA ad τ68) → va_S A s.heap H locs → W p l e (headSpec w_M_leg ({ frames := 3, cells := 0, slots := 0, locals := 76 })).room s m ([.ref (ad 0), .int dn, .long lim] : List Value).toArray below meth c H locs 0 0 (MQ below (va_Qv (fun τ => τ = f_M_leg σ dn lim) (fun τ t => va_P (dC, dI) cls (g_w r_sh dA ad τ) t.heap) A) ([.ref (ad 0), .int dn, .long lim] : List Value).toArray s 0 0 A) (F0 m 576 ls []) := by
                            intro τ68 ls H locs e71 hl hP hD hS
                            have hF : f_M_leg σ dn lim = f_M_leg_576_72 σ dn lim r2 x5 r10 x13 x17 x21 x26 r32 r36 x39 x43 x48 τ53 x58 τ68 := hF.trans (by rw [e71]; try rfl)
                            have hQ : k_M_leg_576_72 σ dn lim r2 x5 r10 x13 x17 x21 x26 r32 r36 x39 x43 x48 τ53 x58 τ68 := by rw [e71]; exact hQ
                            exact W.vret hx hb hr (fun t hh hW => ⟨⟨τ68, rfl, hF.symm, by show va_P (dC, dI) cls (g_w r_sh dA ad τ68) t.heap; rw [hh]; exact hP⟩, hS.F hh⟩) hS.2.2 d_M_leg_576
                          have LL538_73 : ∀ (jn : Nat) (jk : Nat) (τ67 : g_S) (ls : Array Slot) (H : Heap) (locs : List Loc), jk + jn = 49 → f_M_leg_L538 σ dn lim r2 x5 r10 x13 x17 x21 x26 r32 r36 x39 x43 x48 τ53 x58 49 0 (g_I (g_L τ53 0 20 x26) 0 21 (-24 : Int32)) = f_M_leg_L538 σ dn lim r2 x5 r10 x13 x17 x21 x26 r32 r36 x39 x43 x48 τ53 x58 jn jk τ67 → k_M_leg_L538 σ dn lim r2 x5 r10 x13 x17 x21 x26 r32 r36 x39 x43 x48 τ53 x58 jn jk τ67 → lv_has ls 24 [(23, .int (Int32.ofNat jk + (-24 : Int32))), (14, .long x26), (0, .ref (ad 0))] → va_P (dC, dI) cls (g_w r_sh dA ad τ67) H → va_D A (g_w r_sh dA ad τ67) → va_S A s.heap H locs → W p l e (headSpec w_M_leg ({ frames := 3, cells := 0, slots := 0, locals := 76 })).room s m ([.ref (ad 0), .int dn, .long lim] : List Value).toArray below meth c H locs 0 0 (MQ below (va_Qv (fun τ => τ = f_M_leg σ dn lim) (fun τ t => va_P (dC, dI) cls (g_w r_sh dA ad τ) t.heap) A) ([.ref (ad 0), .int dn, .long lim] : List Value).toArray s 0 0 A) (F0 m 538 ls []) := by
                            intro jn
                            induction jn with
                            | zero =>
                              intro jk τ67 ls H locs hkn hF hQ hl hP hD hS
                              have hF : f_M_leg_L538 σ dn lim r2 x5 r10 x13 x17 x21 x26 r32 r36 x39 x43 x48 τ53 x58 49 0 (g_I (g_L τ53 0 20 x26) 0 21 (-24 : Int32)) = (τ67) := hF
                              have hQ : True := hQ
                              refine lv_iload hx hb d_M_leg_538 (lv_at hl 0 rfl) ?_
                              refine lv_bipush (v := (24 : Int32)) hx hb d_M_leg_540 (by decide) ?_
                              refine lv_icmp_gt (tgt := 576) hx hb d_M_leg_542 (by decide) (fun _ => ?_) (fun c74 => absurd (g_c49e (by omega)) c74)
                              exact J576_70 τ67 ls H locs hF.symm (lv_sub hl [] rfl) hP hD hS
                            | succ jn ih =>
                              intro jk τ67 ls H locs hkn hF hQ hl hP hD hS
                              have hF : f_M_leg_L538 σ dn lim r2 x5 r10 x13 x17 x21 x26 r32 r36 x39 x43 x48 τ53 x58 49 0 (g_I (g_L τ53 0 20 x26) 0 21 (-24 : Int32)) = f_M_leg_L538 σ dn lim r2 x5 r10 x13 x17 x21 x26 r32 r36 x39 x43 x48 τ53 x58 jn (jk + 1) (g_I τ67 0 21 (if x26 < (f_M_price τ67 (Int32.ofNat jk + (-24 : Int32))) then τ67.1 0 21 else Int32.ofNat jk + (-24 : Int32))) := hF
                              have hQ : (k_M_price τ67 (Int32.ofNat jk + (-24 : Int32))) ∧ (k_M_leg_L538 σ dn lim r2 x5 r10 x13 x17 x21 x26 r32 r36 x39 x43 x48 τ53 x58 jn (jk + 1) (g_I τ67 0 21 (if x26 < (f_M_price τ67 (Int32.ofNat jk + (-24 : Int32))) then τ67.1 0 21 else Int32.ofNat jk + (-24 : Int32)))) := hQ
                              refine lv_iload hx hb d_M_leg_538 (lv_at hl 0 rfl) ?_
                              refine lv_bipush (v := (24 : Int32)) hx hb d_M_leg_540 (by decide) ?_
                              refine lv_icmp_gt (tgt := 576) hx hb d_M_leg_542 (by decide) (fun c75 => absurd c75 (g_c49b (by omega))) (fun _ => ?_)
                              refine lv_aload_n hx hb d_M_leg_545 rfl (lv_at hl 2 rfl) ?_
                              refine lv_aload_n hx hb d_M_leg_546 rfl (lv_at hl 2 rfl) ?_
                              refine lv_iload hx hb d_M_leg_547 (lv_at hl 0 rfl) ?_
                              obtain ⟨hs76, hQ⟩ := hQ
                              refine g_cSlE (va_runV (As := [.int (Int32.ofNat jk + (-24 : Int32))]) (rest := [.ref (ad 0)]) ⟨hx, hb, hml, hown, ht⟩ (c_M_price l dC dI dA ad τ67 (Int32.ofNat jk + (-24 : Int32)) hs76) (cwV 1 ht gc_M_89 rfl rfl rfl (by decide +kernel) ⟨Nat.le_of_ble_eq_true rfl, Nat.le_of_ble_eq_true rfl⟩) (g_pV (g_prR r_Zok hK hP hS hz _) (g_rc hK hP (0) r_at0 rfl)) rfl rfl hl.1 rfl (lv_room (Nat.le_of_ble_eq_true rfl)) d_M_leg_549 ⟨Nat.le_of_ble_eq_true rfl, Nat.le_of_ble_eq_true rfl⟩) ?_
                              refine lv_lload hx hb d_M_leg_552 (lv_at hl 1 rfl) ?_
                              refine W.lcmp hx hb d_M_leg_554 ?_
                              have J567_80 : ∀ (x79 : Int32) (ls : Array Slot), x79 = (if x26 < (f_M_price τ67 (Int32.ofNat jk + (-24 : Int32))) then τ67.1 0 21 else Int32.ofNat jk + (-24 : Int32)) → lv_has ls 24 [(23, .int (Int32.ofNat jk + (-24 : Int32))), (14, .long x26), (0, .ref (ad 0))] → W p l e (headSpec w_M_leg ({ frames := 3, cells := 0, slots := 0, locals := 76 })).room s m ([.ref (ad 0), .int dn, .long lim] : List Value).toArray below meth c H locs 0 0 (MQ below (va_Qv (fun τ => τ = f_M_leg σ dn lim) (fun τ t => va_P (dC, dI) cls (g_w r_sh dA ad τ) t.heap) A) ([.ref (ad 0), .int dn, .long lim] : List Value).toArray s 0 0 A) (F0 m 567 ls [.int x79, .ref (ad 0)]) := by
                                intro x79 ls e81 hl
                                rw [e81]
                                refine g_putI (v := (if x26 < (f_M_price τ67 (Int32.ofNat jk + (-24 : Int32))) then τ67.1 0 21 else Int32.ofNat jk + (-24 : Int32))) (ty := .int) hx hb ht in_M yt_M yt_M_ok n_M hown hK hP hD hS (0) r_at0 rfl 21 (by decide) rfl (ht _ kw482) (fun _ h9 => h9) rfl (by decide +kernel) (rfl) (rfl) d_M_leg_567 (fun H locs hP hD hS => ?_)
                                refine lv_iinc (v := Int32.ofNat (jk + 1) + (-24 : Int32)) (lv' := [(23, .int (Int32.ofNat (jk + 1) + (-24 : Int32))), (14, .long x26), (0, .ref (ad 0))]) hx hb d_M_leg_570 hl (k := 0) rfl (g_inco jk) (by decide) rfl (fun ls hl => ?_)
                                refine lv_goto (tgt := 538) hx hb d_M_leg_573 (by decide) ?_
                                exact ih (jk + 1) (g_I τ67 0 21 (if x26 < (f_M_price τ67 (Int32.ofNat jk + (-24 : Int32))) then τ67.1 0 21 else Int32.ofNat jk + (-24 : Int32))) ls H locs (by omega) hF hQ (lv_sub hl [0, 1, 2] rfl) hP hD hS
                              refine lv_if_gt (tgt := 563) hx hb d_M_leg_555 (by decide) (fun c82 => ?_) (fun c82 => ?_)
                              ·
                                have c82 : x26 < (f_M_price τ67 (Int32.ofNat jk + (-24 : Int32))) := (lg_cmp_gt _ _).mp c82
                                refine lv_aload_n hx hb d_M_leg_563 rfl (lv_at hl 2 rfl) ?_
                                refine g_get hx hb ht in_M hown hK hP (0) r_at0 rfl 21 (by decide) rfl (ht _ kw482) (fun _ h9 => h9) (v := .int (τ67.1 0 21)) rfl d_M_leg_564 ?_
                                exact J567_80 (τ67.1 0 21) ls (if_pos c82).symm (lv_sub hl [0, 1, 2] rfl)
                              ·
                                have c82 : ¬ (x26 < (f_M_price τ67 (Int32.ofNat jk + (-24 : Int32)))) := mt (lg_cmp_gt _ _).mpr c82
                                refine lv_iload hx hb d_M_leg_558 (lv_at hl 0 rfl) ?_
                                refine lv_goto (tgt := 567) hx hb d_M_leg_560 (by decide) ?_
                                exact J567_80 (Int32.ofNat jk + (-24 : Int32)) ls (if_neg c82).symm (lv_sub hl [0, 1, 2] rfl)
                          exact LL538_73 49 0 (g_I (g_L τ53 0 20 x26) 0 21 (-24 : Int32)) ls H locs (by omega) rfl hT69 (lv_sub hl [0, 2, 4] rfl) hP hD hS
                      ·
                        have c62 : ¬ (r2 = (99 : Int32)) := c62
                        have hF : f_M_leg σ dn lim = f_M_leg_491_83 σ dn lim r2 x5 r10 x13 x17 x21 x26 r32 r36 x39 x43 x48 τ53 x58 := hF.trans (if_neg c62)
                        have hQ : k_M_leg_491_83 σ dn lim r2 x5 r10 x13 x17 x21 x26 r32 r36 x39 x43 x48 τ53 x58 := Eq.mp (if_neg c62) hQ
                        refine lv_lload hx hb d_M_leg_491 (lv_at hl 1 rfl) ?_
                        refine lv_aload_n hx hb d_M_leg_493 rfl (lv_at hl 3 rfl) ?_
                        refine lv_iload hx hb d_M_leg_494 (lv_at hl 2 rfl) ?_
                        obtain ⟨hs84, hQ⟩ := hQ
                        refine g_cSl (va_runV (As := [.int r2]) (rest := [.long x26]) ⟨hx, hb, hml, hown, ht⟩ (c_M_price l dC dI dA ad (g_L τ53 0 20 x26) r2 hs84) (cwV 1 ht gc_M_89 rfl rfl rfl (by decide +kernel) ⟨Nat.le_of_ble_eq_true rfl, Nat.le_of_ble_eq_true rfl⟩) (g_pV (g_prR r_Zok hK hP hS hz _) (g_rc hK hP (0) r_at0 rfl)) rfl rfl hl.1 rfl (lv_room (Nat.le_of_ble_eq_true rfl)) d_M_leg_496 ⟨Nat.le_of_ble_eq_true rfl, Nat.le_of_ble_eq_true rfl⟩) (fun r85 e86 => ?_)
                        have hF : f_M_leg σ dn lim = f_M_leg_496_87 σ dn lim r2 x5 r10 x13 x17 x21 x26 r32 r36 x39 x43 x48 τ53 x58 r85 := hF.trans (by rw [e86]; try rfl)
                        have hQ : k_M_leg_496_87 σ dn lim r2 x5 r10 x13 x17 x21 x26 r32 r36 x39 x43 x48 τ53 x58 r85 := by rw [e86]; exact hQ
                        refine W.lcmp hx hb d_M_leg_499 ?_
                        refine lv_if_ne (tgt := 523) hx hb d_M_leg_500 (by decide) (fun c88 => ?_) (fun c88 => ?_)
                        ·
                          have c88 : ¬ (x26 = r85) := mt (lg_cmp_eq _ _).mpr c88
                          have hF : f_M_leg σ dn lim = f_M_leg_523_89 σ dn lim r2 x5 r10 x13 x17 x21 x26 r32 r36 x39 x43 x48 τ53 x58 r85 := hF.trans (if_neg c88)
                          have hQ : k_M_leg_523_89 σ dn lim r2 x5 r10 x13 x17 x21 x26 r32 r36 x39 x43 x48 τ53 x58 r85 := Eq.mp (if_neg c88) hQ
                          refine lv_iload hx hb d_M_leg_523 (lv_at hl 0 rfl) ?_
                          refine lv_if_eq (tgt := 576) hx hb d_M_leg_525 (by decide) (fun c90 => ?_) (fun c90 => ?_)
                          ·
                            have c90 : x58 = 0 := c90
                            have hF : f_M_leg σ dn lim = f_M_leg_576_91 σ dn lim r2 x5 r10 x13 x17 x21 x26 r32 r36 x39 x43 x48 τ53 x58 r85 := hF.trans (if_pos c90)
                            have hQ : k_M_leg_576_91 σ dn lim r2 x5 r10 x13 x17 x21 x26 r32 r36 x39 x43 x48 τ53 x58 r85 := Eq.mp (if_pos c90) hQ
                            exact W.vret hx hb hr (fun t hh hW => ⟨⟨g_L τ53 0 20 x26, rfl, hF.symm, by show va_P (dC, dI) cls (g_w r_sh dA ad (g_L τ53 0 20 x26)) t.heap; rw [hh]; exact hP⟩, hS.F hh⟩) hS.2.2 d_M_leg_576
                          ·
                            have c90 : ¬ (x58 = 0) := c90
                            have hF : f_M_leg σ dn lim = f_M_leg_528_92 σ dn lim r2 x5 r10 x13 x17 x21 x26 r32 r36 x39 x43 x48 τ53 x58 r85 := hF.trans (if_neg c90)
                            have hQ : k_M_leg_528_92 σ dn lim r2 x5 r10 x13 x17 x21 x26 r32 r36 x39 x43 x48 τ53 x58 r85 := Eq.mp (if_neg c90) hQ
                            refine lv_aload_n hx hb d_M_leg_528 rfl (lv_at hl 3 rfl) ?_
                            refine lv_bipush (v := (-24 : Int32)) hx hb d_M_leg_529 (by decide) ?_
                            refine g_putI (v := (-24 : Int32)) (ty := .int) hx hb ht in_M yt_M yt_M_ok n_M hown hK hP hD hS (0) r_at0 rfl 21 (by decide) rfl (ht _ kw482) (fun _ h9 => h9) rfl (by decide +kernel) (rfl) (rfl) d_M_leg_531 (fun H locs hP hD hS => ?_)
                            refine lv_bipush (v := (-24 : Int32)) hx hb d_M_leg_534 (by decide) ?_
                            refine lv_istore (lv' := [(23, .int (-24 : Int32)), (22, .int x58), (14, .long x26), (4, .int r2), (0, .ref (ad 0)), (1, .int dn)]) hx hb d_M_leg_536 hl (by decide) rfl (fun ls hl => ?_)
                            obtain ⟨hT95, hQ⟩ := hQ
                            have J576_96 : ∀ (τ94 : g_S) (ls : Array Slot) (H : Heap) (locs : List Loc), τ94 = (f_M_leg_L538_1 σ dn lim r2 x5 r10 x13 x17 x21 x26 r32 r36 x39 x43 x48 τ53 x58 r85 49 0 (g_I (g_L τ53 0 20 x26) 0 21 (-24 : Int32))) → lv_has ls 24 [] → va_P (dC, dI) cls (g_w r_sh dA ad τ94) H → va_D A (g_w r_sh dA ad τ94) → va_S A s.heap H locs → W p l e (headSpec w_M_leg ({ frames := 3, cells := 0, slots := 0, locals := 76 })).room s m ([.ref (ad 0), .int dn, .long lim] : List Value).toArray below meth c H locs 0 0 (MQ below (va_Qv (fun τ => τ = f_M_leg σ dn lim) (fun τ t => va_P (dC, dI) cls (g_w r_sh dA ad τ) t.heap) A) ([.ref (ad 0), .int dn, .long lim] : List Value).toArray s 0 0 A) (F0 m 576 ls []) := by
                              intro τ94 ls H locs e97 hl hP hD hS
                              have hF : f_M_leg σ dn lim = f_M_leg_576_98 σ dn lim r2 x5 r10 x13 x17 x21 x26 r32 r36 x39 x43 x48 τ53 x58 r85 τ94 := hF.trans (by rw [e97]; try rfl)
                              have hQ : k_M_leg_576_98 σ dn lim r2 x5 r10 x13 x17 x21 x26 r32 r36 x39 x43 x48 τ53 x58 r85 τ94 := by rw [e97]; exact hQ
                              exact W.vret hx hb hr (fun t hh hW => ⟨⟨τ94, rfl, hF.symm, by show va_P (dC, dI) cls (g_w r_sh dA ad τ94) t.heap; rw [hh]; exact hP⟩, hS.F hh⟩) hS.2.2 d_M_leg_576
                            have LL538_99 : ∀ (jn : Nat) (jk : Nat) (τ93 : g_S) (ls : Array Slot) (H : Heap) (locs : List Loc), jk + jn = 49 → f_M_leg_L538_1 σ dn lim r2 x5 r10 x13 x17 x21 x26 r32 r36 x39 x43 x48 τ53 x58 r85 49 0 (g_I (g_L τ53 0 20 x26) 0 21 (-24 : Int32)) = f_M_leg_L538_1 σ dn lim r2 x5 r10 x13 x17 x21 x26 r32 r36 x39 x43 x48 τ53 x58 r85 jn jk τ93 → k_M_leg_L538_1 σ dn lim r2 x5 r10 x13 x17 x21 x26 r32 r36 x39 x43 x48 τ53 x58 r85 jn jk τ93 → lv_has ls 24 [(23, .int (Int32.ofNat jk + (-24 : Int32))), (14, .long x26), (0, .ref (ad 0))] → va_P (dC, dI) cls (g_w r_sh dA ad τ93) H → va_D A (g_w r_sh dA ad τ93) → va_S A s.heap H locs → W p l e (headSpec w_M_leg ({ frames := 3, cells := 0, slots := 0, locals := 76 })).room s m ([.ref (ad 0), .int dn, .long lim] : List Value).toArray below meth c H locs 0 0 (MQ below (va_Qv (fun τ => τ = f_M_leg σ dn lim) (fun τ t => va_P (dC, dI) cls (g_w r_sh dA ad τ) t.heap) A) ([.ref (ad 0), .int dn, .long lim] : List Value).toArray s 0 0 A) (F0 m 538 ls []) := by
                              intro jn
                              induction jn with
                              | zero =>
                                intro jk τ93 ls H locs hkn hF hQ hl hP hD hS
                                have hF : f_M_leg_L538_1 σ dn lim r2 x5 r10 x13 x17 x21 x26 r32 r36 x39 x43 x48 τ53 x58 r85 49 0 (g_I (g_L τ53 0 20 x26) 0 21 (-24 : Int32)) = (τ93) := hF
                                have hQ : True := hQ
                                refine lv_iload hx hb d_M_leg_538 (lv_at hl 0 rfl) ?_
                                refine lv_bipush (v := (24 : Int32)) hx hb d_M_leg_540 (by decide) ?_
                                refine lv_icmp_gt (tgt := 576) hx hb d_M_leg_542 (by decide) (fun _ => ?_) (fun c100 => absurd (g_c49e (by omega)) c100)
                                exact J576_96 τ93 ls H locs hF.symm (lv_sub hl [] rfl) hP hD hS
                              | succ jn ih =>
                                intro jk τ93 ls H locs hkn hF hQ hl hP hD hS
                                have hF : f_M_leg_L538_1 σ dn lim r2 x5 r10 x13 x17 x21 x26 r32 r36 x39 x43 x48 τ53 x58 r85 49 0 (g_I (g_L τ53 0 20 x26) 0 21 (-24 : Int32)) = f_M_leg_L538_1 σ dn lim r2 x5 r10 x13 x17 x21 x26 r32 r36 x39 x43 x48 τ53 x58 r85 jn (jk + 1) (g_I τ93 0 21 (if x26 < (f_M_price τ93 (Int32.ofNat jk + (-24 : Int32))) then τ93.1 0 21 else Int32.ofNat jk + (-24 : Int32))) := hF
                                have hQ : (k_M_price τ93 (Int32.ofNat jk + (-24 : Int32))) ∧ (k_M_leg_L538_1 σ dn lim r2 x5 r10 x13 x17 x21 x26 r32 r36 x39 x43 x48 τ53 x58 r85 jn (jk + 1) (g_I τ93 0 21 (if x26 < (f_M_price τ93 (Int32.ofNat jk + (-24 : Int32))) then τ93.1 0 21 else Int32.ofNat jk + (-24 : Int32)))) := hQ
                                refine lv_iload hx hb d_M_leg_538 (lv_at hl 0 rfl) ?_
                                refine lv_bipush (v := (24 : Int32)) hx hb d_M_leg_540 (by decide) ?_
                                refine lv_icmp_gt (tgt := 576) hx hb d_M_leg_542 (by decide) (fun c101 => absurd c101 (g_c49b (by omega))) (fun _ => ?_)
                                refine lv_aload_n hx hb d_M_leg_545 rfl (lv_at hl 2 rfl) ?_
                                refine lv_aload_n hx hb d_M_leg_546 rfl (lv_at hl 2 rfl) ?_
                                refine lv_iload hx hb d_M_leg_547 (lv_at hl 0 rfl) ?_
                                obtain ⟨hs102, hQ⟩ := hQ
                                refine g_cSlE (va_runV (As := [.int (Int32.ofNat jk + (-24 : Int32))]) (rest := [.ref (ad 0)]) ⟨hx, hb, hml, hown, ht⟩ (c_M_price l dC dI dA ad τ93 (Int32.ofNat jk + (-24 : Int32)) hs102) (cwV 1 ht gc_M_89 rfl rfl rfl (by decide +kernel) ⟨Nat.le_of_ble_eq_true rfl, Nat.le_of_ble_eq_true rfl⟩) (g_pV (g_prR r_Zok hK hP hS hz _) (g_rc hK hP (0) r_at0 rfl)) rfl rfl hl.1 rfl (lv_room (Nat.le_of_ble_eq_true rfl)) d_M_leg_549 ⟨Nat.le_of_ble_eq_true rfl, Nat.le_of_ble_eq_true rfl⟩) ?_
                                refine lv_lload hx hb d_M_leg_552 (lv_at hl 1 rfl) ?_
                                refine W.lcmp hx hb d_M_leg_554 ?_
                                have J567_106 : ∀ (x105 : Int32) (ls : Array Slot), x105 = (if x26 < (f_M_price τ93 (Int32.ofNat jk + (-24 : Int32))) then τ93.1 0 21 else Int32.ofNat jk + (-24 : Int32)) → lv_has ls 24 [(23, .int (Int32.ofNat jk + (-24 : Int32))), (14, .long x26), (0, .ref (ad 0))] → W p l e (headSpec w_M_leg ({ frames := 3, cells := 0, slots := 0, locals := 76 })).room s m ([.ref (ad 0), .int dn, .long lim] : List Value).toArray below meth c H locs 0 0 (MQ below (va_Qv (fun τ => τ = f_M_leg σ dn lim) (fun τ t => va_P (dC, dI) cls (g_w r_sh dA ad τ) t.heap) A) ([.ref (ad 0), .int dn, .long lim] : List Value).toArray s 0 0 A) (F0 m 567 ls [.int x105, .ref (ad 0)]) := by
                                  intro x105 ls e107 hl
                                  rw [e107]
                                  refine g_putI (v := (if x26 < (f_M_price τ93 (Int32.ofNat jk + (-24 : Int32))) then τ93.1 0 21 else Int32.ofNat jk + (-24 : Int32))) (ty := .int) hx hb ht in_M yt_M yt_M_ok n_M hown hK hP hD hS (0) r_at0 rfl 21 (by decide) rfl (ht _ kw482) (fun _ h9 => h9) rfl (by decide +kernel) (rfl) (rfl) d_M_leg_567 (fun H locs hP hD hS => ?_)
                                  refine lv_iinc (v := Int32.ofNat (jk + 1) + (-24 : Int32)) (lv' := [(23, .int (Int32.ofNat (jk + 1) + (-24 : Int32))), (14, .long x26), (0, .ref (ad 0))]) hx hb d_M_leg_570 hl (k := 0) rfl (g_inco jk) (by decide) rfl (fun ls hl => ?_)
                                  refine lv_goto (tgt := 538) hx hb d_M_leg_573 (by decide) ?_
                                  exact ih (jk + 1) (g_I τ93 0 21 (if x26 < (f_M_price τ93 (Int32.ofNat jk + (-24 : Int32))) then τ93.1 0 21 else Int32.ofNat jk + (-24 : Int32))) ls H locs (by omega) hF hQ (lv_sub hl [0, 1, 2] rfl) hP hD hS
                                refine lv_if_gt (tgt := 563) hx hb d_M_leg_555 (by decide) (fun c108 => ?_) (fun c108 => ?_)
                                ·
                                  have c108 : x26 < (f_M_price τ93 (Int32.ofNat jk + (-24 : Int32))) := (lg_cmp_gt _ _).mp c108
                                  refine lv_aload_n hx hb d_M_leg_563 rfl (lv_at hl 2 rfl) ?_
                                  refine g_get hx hb ht in_M hown hK hP (0) r_at0 rfl 21 (by decide) rfl (ht _ kw482) (fun _ h9 => h9) (v := .int (τ93.1 0 21)) rfl d_M_leg_564 ?_
                                  exact J567_106 (τ93.1 0 21) ls (if_pos c108).symm (lv_sub hl [0, 1, 2] rfl)
                                ·
                                  have c108 : ¬ (x26 < (f_M_price τ93 (Int32.ofNat jk + (-24 : Int32)))) := mt (lg_cmp_gt _ _).mpr c108
                                  refine lv_iload hx hb d_M_leg_558 (lv_at hl 0 rfl) ?_
                                  refine lv_goto (tgt := 567) hx hb d_M_leg_560 (by decide) ?_
                                  exact J567_106 (Int32.ofNat jk + (-24 : Int32)) ls (if_neg c108).symm (lv_sub hl [0, 1, 2] rfl)
                            exact LL538_99 49 0 (g_I (g_L τ53 0 20 x26) 0 21 (-24 : Int32)) ls H locs (by omega) rfl hT95 (lv_sub hl [0, 2, 4] rfl) hP hD hS
                        ·
                          have c88 : x26 = r85 := (lg_cmp_eq _ _).mp c88
                          have hF : f_M_leg σ dn lim = f_M_leg_503_109 σ dn lim r2 x5 r10 x13 x17 x21 x26 r32 r36 x39 x43 x48 τ53 x58 r85 := hF.trans (if_pos c88)
                          have hQ : k_M_leg_503_109 σ dn lim r2 x5 r10 x13 x17 x21 x26 r32 r36 x39 x43 x48 τ53 x58 r85 := Eq.mp (if_pos c88) hQ
                          refine lv_aload_n hx hb d_M_leg_503 rfl (lv_at hl 3 rfl) ?_
                          refine lv_iload_n hx hb d_M_leg_504 rfl (lv_at hl 4 rfl) ?_
                          have J517_111 : ∀ (x110 : Int32) (ls : Array Slot), x110 = (if dn = 0 then r2 else r2 - (1 : Int32)) → lv_has ls 24 [] → W p l e (headSpec w_M_leg ({ frames := 3, cells := 0, slots := 0, locals := 76 })).room s m ([.ref (ad 0), .int dn, .long lim] : List Value).toArray below meth c H locs 0 0 (MQ below (va_Qv (fun τ => τ = f_M_leg σ dn lim) (fun τ t => va_P (dC, dI) cls (g_w r_sh dA ad τ) t.heap) A) ([.ref (ad 0), .int dn, .long lim] : List Value).toArray s 0 0 A) (F0 m 517 ls [.int x110, .ref (ad 0)]) := by
                            intro x110 ls e112 hl
                            have hF : f_M_leg σ dn lim = f_M_leg_517_113 σ dn lim r2 x5 r10 x13 x17 x21 x26 r32 r36 x39 x43 x48 τ53 x58 r85 x110 := hF.trans (by rw [e112]; try rfl)
                            have hQ : k_M_leg_517_113 σ dn lim r2 x5 r10 x13 x17 x21 x26 r32 r36 x39 x43 x48 τ53 x58 r85 x110 := by rw [e112]; exact hQ
                            refine g_putI (v := x110) (ty := .int) hx hb ht in_M yt_M yt_M_ok n_M hown hK hP hD hS (0) r_at0 rfl 21 (by decide) rfl (ht _ kw482) (fun _ h9 => h9) rfl (by decide +kernel) (rfl) (rfl) d_M_leg_517 (fun H locs hP hD hS => ?_)
                            refine lv_goto (tgt := 576) hx hb d_M_leg_520 (by decide) ?_
                            exact W.vret hx hb hr (fun t hh hW => ⟨⟨g_I (g_L τ53 0 20 x26) 0 21 x110, rfl, hF.symm, by show va_P (dC, dI) cls (g_w r_sh dA ad (g_I (g_L τ53 0 20 x26) 0 21 x110)) t.heap; rw [hh]; exact hP⟩, hS.F hh⟩) hS.2.2 d_M_leg_576
                          refine lv_if_eq (tgt := 515) hx hb d_M_leg_505 (by decide) (fun c114 => ?_) (fun c114 => ?_)
                          ·
                            have c114 : dn = 0 := c114
                            refine lv_iload hx hb d_M_leg_515 (lv_at hl 2 rfl) ?_
                            exact J517_111 r2 ls (if_pos c114).symm (lv_sub hl [] rfl)
                          ·
                            have c114 : ¬ (dn = 0) := c114
                            refine lv_iload hx hb d_M_leg_508 (lv_at hl 2 rfl) ?_
                            refine lv_iconst (v := (1 : Int32)) hx hb d_M_leg_510 (by decide) ?_
                            refine lv_isub hx hb d_M_leg_511 ?_
                            refine lv_goto (tgt := 517) hx hb d_M_leg_512 (by decide) ?_
                            exact J517_111 (r2 - (1 : Int32)) ls (if_neg c114).symm (lv_sub hl [] rfl)
                    refine lv_if_eq (tgt := 475) hx hb d_M_leg_468 (by decide) (fun c115 => ?_) (fun c115 => ?_)
                    ·
                      have c115 : x26 = (τ53.2 0 20) := (lg_cmp_eq _ _).mp c115
                      refine lv_iconst (v := (0 : Int32)) hx hb d_M_leg_475 (by decide) ?_
                      exact J476_59 (0 : Int32) ls (if_pos c115).symm (lv_sub hl [0, 1, 2, 3] rfl)
                    ·
                      have c115 : ¬ (x26 = (τ53.2 0 20)) := mt (lg_cmp_eq _ _).mpr c115
                      refine lv_iconst (v := (1 : Int32)) hx hb d_M_leg_471 (by decide) ?_
                      refine lv_goto (tgt := 476) hx hb d_M_leg_472 (by decide) ?_
                      exact J476_59 (1 : Int32) ls (if_neg c115).symm (lv_sub hl [0, 1, 2, 3] rfl)
                  have LL380_116 : ∀ (jn : Nat) (jk : Nat) (τ52 : g_S) (ls : Array Slot) (H : Heap) (locs : List Loc), jk + jn = 10 → f_M_leg_L380 σ dn lim r2 x5 r10 x13 x17 x21 x26 r32 r36 x39 x43 x48 10 0 (g_L (g_L (g_L σ 0 23 ((σ.2 0 23) + (r32 + x43))) 0 24 ((σ.2 0 24) + x39)) 0 22 x48) = f_M_leg_L380 σ dn lim r2 x5 r10 x13 x17 x21 x26 r32 r36 x39 x43 x48 jn jk τ52 → k_M_leg_L380 σ dn lim r2 x5 r10 x13 x17 x21 x26 r32 r36 x39 x43 x48 jn jk τ52 → lv_has ls 24 [(22, .int (Int32.ofNat jk)), (20, .long x43), (14, .long x26), (7, .long r10), (4, .int r2), (0, .ref (ad 0)), (1, .int dn)] → va_P (dC, dI) cls (g_w r_sh dA ad τ52) H → va_D A (g_w r_sh dA ad τ52) → va_S A s.heap H locs → W p l e (headSpec w_M_leg ({ frames := 3, cells := 0, slots := 0, locals := 76 })).room s m ([.ref (ad 0), .int dn, .long lim] : List Value).toArray below meth c H locs 0 0 (MQ below (va_Qv (fun τ => τ = f_M_leg σ dn lim) (fun τ t => va_P (dC, dI) cls (g_w r_sh dA ad τ) t.heap) A) ([.ref (ad 0), .int dn, .long lim] : List Value).toArray s 0 0 A) (F0 m 380 ls []) := by
                    intro jn
                    induction jn with
                    | zero =>
                      intro jk τ52 ls H locs hkn hF hQ hl hP hD hS
                      have hF : f_M_leg_L380 σ dn lim r2 x5 r10 x13 x17 x21 x26 r32 r36 x39 x43 x48 10 0 (g_L (g_L (g_L σ 0 23 ((σ.2 0 23) + (r32 + x43))) 0 24 ((σ.2 0 24) + x39)) 0 22 x48) = (τ52) := hF
                      have hQ : True := hQ
                      refine lv_iload hx hb d_M_leg_380 (lv_at hl 0 rfl) ?_
                      refine lv_bipush (v := (10 : Int32)) hx hb d_M_leg_382 (by decide) ?_
                      refine lv_icmp_ge (tgt := 461) hx hb d_M_leg_384 (by decide) (fun _ => ?_) (fun c117 => absurd (g_geN (N := 10) (by omega)) c117)
                      exact J461_55 τ52 ls H locs hF.symm (lv_sub hl [2, 4, 5, 6] rfl) hP hD hS
                    | succ jn ih =>
                      intro jk τ52 ls H locs hkn hF hQ hl hP hD hS
                      have hF : f_M_leg_L380 σ dn lim r2 x5 r10 x13 x17 x21 x26 r32 r36 x39 x43 x48 10 0 (g_L (g_L (g_L σ 0 23 ((σ.2 0 23) + (r32 + x43))) 0 24 ((σ.2 0 24) + x39)) 0 22 x48) = (if r10 ≤ (0 : Int64) then (τ52) else f_M_leg_L380 σ dn lim r2 x5 r10 x13 x17 x21 x26 r32 r36 x39 x43 x48 jn (jk + 1) (g_L τ52 13 jk ((τ52.2 13 jk) + (if (τ52.1 4 jk) = 0 then (0 : Int64) else (if (τ52.1 0 21) < (τ52.1 6 jk) then (0 : Int64) else (if (τ52.1 7 jk) ≤ (τ52.1 0 21) then (0 : Int64) else (x43 * (4294967296 : Int64)) / r10)))))) := hF
                      have hQ : (if r10 ≤ (0 : Int64) then True else (if (τ52.1 4 jk) = 0 then True else (if (τ52.1 0 21) < (τ52.1 6 jk) then True else (if (τ52.1 7 jk) ≤ (τ52.1 0 21) then True else (¬ r10 = 0) ∧ True))) ∧ (k_M_leg_L380 σ dn lim r2 x5 r10 x13 x17 x21 x26 r32 r36 x39 x43 x48 jn (jk + 1) (g_L τ52 13 jk ((τ52.2 13 jk) + (if (τ52.1 4 jk) = 0 then (0 : Int64) else (if (τ52.1 0 21) < (τ52.1 6 jk) then (0 : Int64) else (if (τ52.1 7 jk) ≤ (τ52.1 0 21) then (0 : Int64) else (x43 * (4294967296 : Int64)) / r10))))))) := hQ
                      refine lv_iload hx hb d_M_leg_380 (lv_at hl 0 rfl) ?_
                      refine lv_bipush (v := (10 : Int32)) hx hb d_M_leg_382 (by decide) ?_
                      refine lv_icmp_ge (tgt := 461) hx hb d_M_leg_384 (by decide) (fun c118 => absurd c118 (g_lt (N := 10) (by omega) (by decide))) (fun _ => ?_)
                      refine lv_lload hx hb d_M_leg_387 (lv_at hl 3 rfl) ?_
                      refine lv_lconst (v := (0 : Int64)) hx hb d_M_leg_389 (by decide) ?_
                      refine W.lcmp hx hb d_M_leg_390 ?_
                      refine lv_if_le (tgt := 461) hx hb d_M_leg_391 (by decide) (fun c119 => ?_) (fun c119 => ?_)
                      ·
                        have c119 : r10 ≤ (0 : Int64) := (lg_cmp_le _ _).mp c119
                        have hF := hF.trans (if_pos c119)
                        have hQ := Eq.mp (if_pos c119) hQ
                        exact J461_55 τ52 ls H locs hF.symm (lv_sub hl [2, 4, 5, 6] rfl) hP hD hS
                      ·
                        have c119 : ¬ (r10 ≤ (0 : Int64)) := mt (lg_cmp_le _ _).mpr c119
                        have hF := hF.trans (if_neg c119)
                        have hQ := Eq.mp (if_neg c119) hQ
                        refine lv_aload_n hx hb d_M_leg_394 rfl (lv_at hl 5 rfl) ?_
                        refine g_get hx hb ht in_M hown hK hP (0) r_at0 rfl 25 (by decide) rfl (ht _ kw486) (fun _ h9 => h9) (v := .ref (ad 13)) rfl d_M_leg_395 ?_
                        refine lv_iload hx hb d_M_leg_398 (lv_at hl 0 rfl) ?_
                        refine lv_dup2_11 hx hb d_M_leg_400 rfl rfl ?_
                        refine g_lald hx hb hK hP (13) r_at13 rfl (g_eix rfl (by omega) (by omega)) (j := jk) (g_ena rfl (by omega)) d_M_leg_401 ?_
                        refine lv_aload_n hx hb d_M_leg_402 rfl (lv_at hl 5 rfl) ?_
                        refine g_get hx hb ht in_M hown hK hP (0) r_at0 rfl 8 (by decide) rfl (ht _ kw469) (fun _ h9 => h9) (v := .ref (ad 4)) rfl d_M_leg_403 ?_
                        refine lv_iload hx hb d_M_leg_406 (lv_at hl 0 rfl) ?_
                        refine g_zald hx hb hK hP (4) r_at4 rfl (g_eix rfl (by omega) (by omega)) (j := jk) (g_ena rfl (by omega)) d_M_leg_408 ?_
                        obtain ⟨hT123, hQ⟩ := hQ
                        have J453_121 : ∀ (x120 : Int64) (ls : Array Slot), x120 = (if (τ52.1 4 jk) = 0 then (0 : Int64) else (if (τ52.1 0 21) < (τ52.1 6 jk) then (0 : Int64) else (if (τ52.1 7 jk) ≤ (τ52.1 0 21) then (0 : Int64) else (x43 * (4294967296 : Int64)) / r10))) → lv_has ls 24 [(22, .int (Int32.ofNat jk)), (20, .long x43), (14, .long x26), (7, .long r10), (4, .int r2), (0, .ref (ad 0)), (1, .int dn)] → W p l e (headSpec w_M_leg ({ frames := 3, cells := 0, slots := 0, locals := 76 })).room s m ([.ref (ad 0), .int dn, .long lim] : List Value).toArray below meth c H locs 0 0 (MQ below (va_Qv (fun τ => τ = f_M_leg σ dn lim) (fun τ t => va_P (dC, dI) cls (g_w r_sh dA ad τ) t.heap) A) ([.ref (ad 0), .int dn, .long lim] : List Value).toArray s 0 0 A) (F0 m 453 ls [.long x120, .long (τ52.2 13 jk), .int (Int32.ofNat jk), .ref (ad 13)]) := by
                          intro x120 ls e122 hl
                          rw [e122]
                          refine lv_ladd hx hb d_M_leg_453 ?_
                          refine g_last (x := (τ52.2 13 jk) + (if (τ52.1 4 jk) = 0 then (0 : Int64) else (if (τ52.1 0 21) < (τ52.1 6 jk) then (0 : Int64) else (if (τ52.1 7 jk) ≤ (τ52.1 0 21) then (0 : Int64) else (x43 * (4294967296 : Int64)) / r10)))) hx hb hK hP hD hS (13) r_at13 rfl (g_eix rfl (by omega) (by omega)) (j := jk) (g_ena rfl (by omega)) d_M_leg_454 (fun H locs hP hD hS => ?_)
                          refine lv_iinc (v := Int32.ofNat (jk + 1)) (lv' := [(22, .int (Int32.ofNat (jk + 1))), (20, .long x43), (14, .long x26), (7, .long r10), (4, .int r2), (0, .ref (ad 0)), (1, .int dn)]) hx hb d_M_leg_455 hl (k := 0) rfl (g_inc jk) (by decide) rfl (fun ls hl => ?_)
                          refine lv_goto (tgt := 380) hx hb d_M_leg_458 (by decide) ?_
                          exact ih (jk + 1) (g_L τ52 13 jk ((τ52.2 13 jk) + (if (τ52.1 4 jk) = 0 then (0 : Int64) else (if (τ52.1 0 21) < (τ52.1 6 jk) then (0 : Int64) else (if (τ52.1 7 jk) ≤ (τ52.1 0 21) then (0 : Int64) else (x43 * (4294967296 : Int64)) / r10))))) ls H locs (by omega) hF hQ (lv_sub hl [0, 1, 2, 3, 4, 5, 6] rfl) hP hD hS
                        refine lv_if_eq (tgt := 452) hx hb d_M_leg_409 (by decide) (fun c124 => ?_) (fun c124 => ?_)
                        ·
                          have c124 : (τ52.1 4 jk) = 0 := c124
                          have hT123 := Eq.mp (if_pos c124) hT123
                          refine lv_lconst (v := (0 : Int64)) hx hb d_M_leg_452 (by decide) ?_
                          exact J453_121 (0 : Int64) ls (if_pos c124).symm (lv_sub hl [0, 1, 2, 3, 4, 5, 6] rfl)
                        ·
                          have c124 : ¬ ((τ52.1 4 jk) = 0) := c124
                          have hT123 := Eq.mp (if_neg c124) hT123
                          refine lv_aload_n hx hb d_M_leg_412 rfl (lv_at hl 5 rfl) ?_
                          refine g_get hx hb ht in_M hown hK hP (0) r_at0 rfl 10 (by decide) rfl (ht _ kw471) (fun _ h9 => h9) (v := .ref (ad 6)) rfl d_M_leg_413 ?_
                          refine lv_iload hx hb d_M_leg_416 (lv_at hl 0 rfl) ?_
                          refine g_iald hx hb hK hP (6) r_at6 rfl (g_eix rfl (by omega) (by omega)) (j := jk) (g_ena rfl (by omega)) d_M_leg_418 ?_
                          refine lv_aload_n hx hb d_M_leg_419 rfl (lv_at hl 5 rfl) ?_
                          refine g_get hx hb ht in_M hown hK hP (0) r_at0 rfl 21 (by decide) rfl (ht _ kw482) (fun _ h9 => h9) (v := .int (τ52.1 0 21)) rfl d_M_leg_420 ?_
                          refine lv_icmp_gt (tgt := 452) hx hb d_M_leg_423 (by decide) (fun c125 => ?_) (fun c125 => ?_)
                          ·
                            have c125 : (τ52.1 0 21) < (τ52.1 6 jk) := c125
                            have hT123 := Eq.mp (if_pos c125) hT123
                            refine lv_lconst (v := (0 : Int64)) hx hb d_M_leg_452 (by decide) ?_
                            exact J453_121 (0 : Int64) ls ((if_neg c124).trans (if_pos c125)).symm (lv_sub hl [0, 1, 2, 3, 4, 5, 6] rfl)
                          ·
                            have c125 : ¬ ((τ52.1 0 21) < (τ52.1 6 jk)) := c125
                            have hT123 := Eq.mp (if_neg c125) hT123
                            refine lv_aload_n hx hb d_M_leg_426 rfl (lv_at hl 5 rfl) ?_
                            refine g_get hx hb ht in_M hown hK hP (0) r_at0 rfl 21 (by decide) rfl (ht _ kw482) (fun _ h9 => h9) (v := .int (τ52.1 0 21)) rfl d_M_leg_427 ?_
                            refine lv_aload_n hx hb d_M_leg_430 rfl (lv_at hl 5 rfl) ?_
                            refine g_get hx hb ht in_M hown hK hP (0) r_at0 rfl 11 (by decide) rfl (ht _ kw472) (fun _ h9 => h9) (v := .ref (ad 7)) rfl d_M_leg_431 ?_
                            refine lv_iload hx hb d_M_leg_434 (lv_at hl 0 rfl) ?_
                            refine g_iald hx hb hK hP (7) r_at7 rfl (g_eix rfl (by omega) (by omega)) (j := jk) (g_ena rfl (by omega)) d_M_leg_436 ?_
                            refine lv_icmp_ge (tgt := 452) hx hb d_M_leg_437 (by decide) (fun c126 => ?_) (fun c126 => ?_)
                            ·
                              have c126 : (τ52.1 7 jk) ≤ (τ52.1 0 21) := c126
                              have hT123 := Eq.mp (if_pos c126) hT123
                              refine lv_lconst (v := (0 : Int64)) hx hb d_M_leg_452 (by decide) ?_
                              exact J453_121 (0 : Int64) ls (((if_neg c124).trans (if_neg c125)).trans (if_pos c126)).symm (lv_sub hl [0, 1, 2, 3, 4, 5, 6] rfl)
                            ·
                              have c126 : ¬ ((τ52.1 7 jk) ≤ (τ52.1 0 21)) := c126
                              have hT123 := Eq.mp (if_neg c126) hT123
                              refine lv_lload hx hb d_M_leg_440 (lv_at hl 1 rfl) ?_
                              refine lv_ldc2 (v := (4294967296 : Int64)) hx hb hown (ht _ kw603) d_M_leg_442 ?_
                              refine lv_lmul hx hb d_M_leg_445 ?_
                              refine lv_lload hx hb d_M_leg_446 (lv_at hl 3 rfl) ?_
                              obtain ⟨hs127, hT123⟩ := hT123
                              refine lv_ldiv hx hb d_M_leg_448 (hs127) ?_
                              refine lv_goto (tgt := 453) hx hb d_M_leg_449 (by decide) ?_
                              exact J453_121 ((x43 * (4294967296 : Int64)) / r10) ls (((if_neg c124).trans (if_neg c125)).trans (if_neg c126)).symm (lv_sub hl [0, 1, 2, 3, 4, 5, 6] rfl)
                  exact LL380_116 10 0 (g_L (g_L (g_L σ 0 23 ((σ.2 0 23) + (r32 + x43))) 0 24 ((σ.2 0 24) + x39)) 0 22 x48) ls H locs (by omega) rfl hT54 (lv_sub hl [0, 1, 2, 3, 4, 5, 6] rfl) hP hD hS
                refine lv_if_le (tgt := 367) hx hb d_M_leg_351 (by decide) (fun c128 => ?_) (fun c128 => ?_)
                ·
                  have c128 : (σ.2 0 22) ≤ (0 : Int64) := (lg_cmp_le _ _).mp c128
                  refine lv_aload_n hx hb d_M_leg_367 rfl (lv_at hl 6 rfl) ?_
                  refine g_get hx hb ht in_M hown hK hP (0) r_at0 rfl 22 (by decide) rfl (ht _ kw483) (fun _ h9 => h9) (v := .long (σ.2 0 22)) rfl d_M_leg_368 ?_
                  refine lv_lload hx hb d_M_leg_371 (lv_at hl 1 rfl) ?_
                  refine lv_ladd hx hb d_M_leg_373 ?_
                  exact J374_49 ((σ.2 0 22) + x39) ls (if_pos c128).symm (lv_sub hl [0, 3, 4, 5, 6, 7] rfl)
                ·
                  have c128 : ¬ ((σ.2 0 22) ≤ (0 : Int64)) := mt (lg_cmp_le _ _).mpr c128
                  refine lv_aload_n hx hb d_M_leg_354 rfl (lv_at hl 6 rfl) ?_
                  refine g_get hx hb ht in_M hown hK hP (0) r_at0 rfl 22 (by decide) rfl (ht _ kw483) (fun _ h9 => h9) (v := .long (σ.2 0 22)) rfl d_M_leg_355 ?_
                  refine lv_lload hx hb d_M_leg_358 (lv_at hl 2 rfl) ?_
                  refine lv_lsub hx hb d_M_leg_360 ?_
                  refine lv_lload hx hb d_M_leg_361 (lv_at hl 0 rfl) ?_
                  refine lv_lsub hx hb d_M_leg_363 ?_
                  refine lv_goto (tgt := 374) hx hb d_M_leg_364 (by decide) ?_
                  exact J374_49 (((σ.2 0 22) - r32) - x43) ls (if_neg c128).symm (lv_sub hl [0, 3, 4, 5, 6, 7] rfl)
              refine lv_if_le (tgt := 296) hx hb d_M_leg_275 (by decide) (fun c129 => ?_) (fun c129 => ?_)
              ·
                have c129 : (σ.2 0 22) ≤ (0 : Int64) := (lg_cmp_le _ _).mp c129
                have hT46 := Eq.mp (if_pos c129) hT46
                refine lv_lload hx hb d_M_leg_296 (lv_at hl 1 rfl) ?_
                refine lv_aload_n hx hb d_M_leg_298 rfl (lv_at hl 6 rfl) ?_
                refine g_get hx hb ht in_M hown hK hP (0) r_at0 rfl 1 (by decide) rfl (ht _ kw462) (fun _ h9 => h9) (v := .int (σ.1 0 1)) rfl d_M_leg_299 ?_
                refine lv_i2l (v := (σ.1 0 1).toInt64) hx hb d_M_leg_302 rfl ?_
                refine lv_lmul hx hb d_M_leg_303 ?_
                refine lv_ldc2 (v := (1000 : Int64)) hx hb hown (ht _ kw460) d_M_leg_304 ?_
                refine lv_aload_n hx hb d_M_leg_307 rfl (lv_at hl 6 rfl) ?_
                refine g_get hx hb ht in_M hown hK hP (0) r_at0 rfl 1 (by decide) rfl (ht _ kw462) (fun _ h9 => h9) (v := .int (σ.1 0 1)) rfl d_M_leg_308 ?_
                refine lv_i2l (v := (σ.1 0 1).toInt64) hx hb d_M_leg_311 rfl ?_
                refine lv_lsub hx hb d_M_leg_312 ?_
                refine lv_iconst (v := (1 : Int32)) hx hb d_M_leg_313 (by decide) ?_
                obtain ⟨hs130, hT46⟩ := hT46
                refine g_cSlE (va_runS (As := [.long (r32 * ((σ.1 0 1).toInt64)), .long ((1000 : Int64) - ((σ.1 0 1).toInt64)), .int (1 : Int32)]) (rest := []) ⟨hx, hb, hml, hown, ht⟩ (c_M_quotient l (r32 * ((σ.1 0 1).toInt64)) ((1000 : Int64) - ((σ.1 0 1).toInt64)) (1 : Int32) hs130) (va_cwS 3 ht gc_M_64 rfl rfl rfl (by decide +kernel) ⟨Nat.le_of_ble_eq_true rfl, Nat.le_of_ble_eq_true rfl⟩) (g_pr0 _) rfl rfl hl.1 rfl (lv_room (Nat.le_of_ble_eq_true rfl)) d_M_leg_314 ⟨Nat.le_of_ble_eq_true rfl, Nat.le_of_ble_eq_true rfl⟩) ?_
                exact J317_44 (f_M_quotient (r32 * ((σ.1 0 1).toInt64)) ((1000 : Int64) - ((σ.1 0 1).toInt64)) (1 : Int32)) ls (if_pos c129).symm (lv_sub hl [0, 1, 2, 3, 5, 6, 7] rfl)
              ·
                have c129 : ¬ ((σ.2 0 22) ≤ (0 : Int64)) := mt (lg_cmp_le _ _).mpr c129
                have hT46 := Eq.mp (if_neg c129) hT46
                refine lv_lload hx hb d_M_leg_278 (lv_at hl 2 rfl) ?_
                refine lv_lload hx hb d_M_leg_280 (lv_at hl 4 rfl) ?_
                refine W.lcmp hx hb d_M_leg_282 ?_
                refine lv_if_eq (tgt := 296) hx hb d_M_leg_283 (by decide) (fun c133 => ?_) (fun c133 => ?_)
                ·
                  have c133 : x26 = x5 := (lg_cmp_eq _ _).mp c133
                  have hT46 := Eq.mp (if_pos c133) hT46
                  refine lv_lload hx hb d_M_leg_296 (lv_at hl 1 rfl) ?_
                  refine lv_aload_n hx hb d_M_leg_298 rfl (lv_at hl 6 rfl) ?_
                  refine g_get hx hb ht in_M hown hK hP (0) r_at0 rfl 1 (by decide) rfl (ht _ kw462) (fun _ h9 => h9) (v := .int (σ.1 0 1)) rfl d_M_leg_299 ?_
                  refine lv_i2l (v := (σ.1 0 1).toInt64) hx hb d_M_leg_302 rfl ?_
                  refine lv_lmul hx hb d_M_leg_303 ?_
                  refine lv_ldc2 (v := (1000 : Int64)) hx hb hown (ht _ kw460) d_M_leg_304 ?_
                  refine lv_aload_n hx hb d_M_leg_307 rfl (lv_at hl 6 rfl) ?_
                  refine g_get hx hb ht in_M hown hK hP (0) r_at0 rfl 1 (by decide) rfl (ht _ kw462) (fun _ h9 => h9) (v := .int (σ.1 0 1)) rfl d_M_leg_308 ?_
                  refine lv_i2l (v := (σ.1 0 1).toInt64) hx hb d_M_leg_311 rfl ?_
                  refine lv_lsub hx hb d_M_leg_312 ?_
                  refine lv_iconst (v := (1 : Int32)) hx hb d_M_leg_313 (by decide) ?_
                  obtain ⟨hs134, hT46⟩ := hT46
                  refine g_cSlE (va_runS (As := [.long (r32 * ((σ.1 0 1).toInt64)), .long ((1000 : Int64) - ((σ.1 0 1).toInt64)), .int (1 : Int32)]) (rest := []) ⟨hx, hb, hml, hown, ht⟩ (c_M_quotient l (r32 * ((σ.1 0 1).toInt64)) ((1000 : Int64) - ((σ.1 0 1).toInt64)) (1 : Int32) hs134) (va_cwS 3 ht gc_M_64 rfl rfl rfl (by decide +kernel) ⟨Nat.le_of_ble_eq_true rfl, Nat.le_of_ble_eq_true rfl⟩) (g_pr0 _) rfl rfl hl.1 rfl (lv_room (Nat.le_of_ble_eq_true rfl)) d_M_leg_314 ⟨Nat.le_of_ble_eq_true rfl, Nat.le_of_ble_eq_true rfl⟩) ?_
                  exact J317_44 (f_M_quotient (r32 * ((σ.1 0 1).toInt64)) ((1000 : Int64) - ((σ.1 0 1).toInt64)) (1 : Int32)) ls ((if_neg c129).trans (if_pos c133)).symm (lv_sub hl [0, 1, 2, 3, 5, 6, 7] rfl)
                ·
                  have c133 : ¬ (x26 = x5) := mt (lg_cmp_eq _ _).mpr c133
                  have hT46 := Eq.mp (if_neg c133) hT46
                  refine lv_aload_n hx hb d_M_leg_286 rfl (lv_at hl 6 rfl) ?_
                  refine g_get hx hb ht in_M hown hK hP (0) r_at0 rfl 22 (by decide) rfl (ht _ kw483) (fun _ h9 => h9) (v := .long (σ.2 0 22)) rfl d_M_leg_287 ?_
                  refine lv_lload hx hb d_M_leg_290 (lv_at hl 1 rfl) ?_
                  refine lv_lsub hx hb d_M_leg_292 ?_
                  refine lv_goto (tgt := 317) hx hb d_M_leg_293 (by decide) ?_
                  exact J317_44 ((σ.2 0 22) - r32) ls ((if_neg c129).trans (if_neg c133)).symm (lv_sub hl [0, 1, 2, 3, 5, 6, 7] rfl)
            refine lv_if_ge (tgt := 265) hx hb d_M_leg_249 (by decide) (fun c137 => ?_) (fun c137 => ?_)
            ·
              have c137 : (0 : Int64) ≤ (σ.2 0 22) := (lg_cmp_ge _ _).mp c137
              refine lv_lload hx hb d_M_leg_265 (lv_at hl 0 rfl) ?_
              exact J267_40 r36 ls (if_pos c137).symm (lv_sub hl [1, 2, 4, 5, 6, 7, 8] rfl)
            ·
              have c137 : ¬ ((0 : Int64) ≤ (σ.2 0 22)) := mt (lg_cmp_ge _ _).mpr c137
              refine lv_lload hx hb d_M_leg_252 (lv_at hl 0 rfl) ?_
              refine lv_lload hx hb d_M_leg_254 (lv_at hl 3 rfl) ?_
              refine W.lcmp hx hb d_M_leg_256 ?_
              refine lv_if_le (tgt := 265) hx hb d_M_leg_257 (by decide) (fun c138 => ?_) (fun c138 => ?_)
              ·
                have c138 : r36 ≤ x17 := (lg_cmp_le _ _).mp c138
                refine lv_lload hx hb d_M_leg_265 (lv_at hl 0 rfl) ?_
                exact J267_40 r36 ls ((if_neg c137).trans (if_pos c138)).symm (lv_sub hl [1, 2, 4, 5, 6, 7, 8] rfl)
              ·
                have c138 : ¬ (r36 ≤ x17) := mt (lg_cmp_le _ _).mpr c138
                refine lv_lload hx hb d_M_leg_260 (lv_at hl 3 rfl) ?_
                refine lv_goto (tgt := 267) hx hb d_M_leg_262 (by decide) ?_
                exact J267_40 x17 ls ((if_neg c137).trans (if_neg c138)).symm (lv_sub hl [1, 2, 4, 5, 6, 7, 8] rfl)
          refine lv_if_eq (tgt := 202) hx hb d_M_leg_194 (by decide) (fun c139 => ?_) (fun c139 => ?_)
          ·
            have c139 : x21 = 0 := c139
            have hT29 := Eq.mp (if_pos c139) hT29
            refine lv_aload_n hx hb d_M_leg_202 rfl (lv_at hl 6 rfl) ?_
            refine lv_iload_n hx hb d_M_leg_203 rfl (lv_at hl 7 rfl) ?_
            refine lv_lload hx hb d_M_leg_204 (lv_at hl 3 rfl) ?_
            refine lv_lload hx hb d_M_leg_206 (lv_at hl 2 rfl) ?_
            refine lv_lload hx hb d_M_leg_208 (lv_at hl 1 rfl) ?_
            obtain ⟨hs140, hT29⟩ := hT29
            refine g_cSlE (va_runV (As := [.int dn, .long r10, .long x13, .long x17]) (rest := []) ⟨hx, hb, hml, hown, ht⟩ (c_M_onTheWay l dC dI dA ad σ dn r10 x13 x17 hs140) (cwV 4 ht gc_M_177 rfl rfl rfl (by decide +kernel) ⟨Nat.le_of_ble_eq_true rfl, Nat.le_of_ble_eq_true rfl⟩) (g_pV (g_prR r_Zok hK hP hS hz _) (g_rc hK hP (0) r_at0 rfl)) rfl rfl hl.1 rfl (lv_room (Nat.le_of_ble_eq_true rfl)) d_M_leg_210 ⟨Nat.le_of_ble_eq_true rfl, Nat.le_of_ble_eq_true rfl⟩) ?_
            exact J213_27 (f_M_onTheWay σ dn r10 x13 x17) ls (if_pos c139).symm (lv_sub hl [1, 3, 4, 5, 6, 7] rfl)
          ·
            have c139 : ¬ (x21 = 0) := c139
            have hT29 := Eq.mp (if_neg c139) hT29
            refine lv_lload hx hb d_M_leg_197 (lv_at hl 4 rfl) ?_
            refine lv_goto (tgt := 213) hx hb d_M_leg_199 (by decide) ?_
            exact J213_27 x5 ls (if_neg c139).symm (lv_sub hl [1, 3, 4, 5, 6, 7] rfl)
        refine lv_if_le (tgt := 167) hx hb d_M_leg_138 (by decide) (fun c143 => ?_) (fun c143 => ?_)
        ·
          have c143 : (σ.2 0 22) ≤ (0 : Int64) := (lg_cmp_le _ _).mp c143
          have hT24 := Eq.mp (if_pos c143) hT24
          refine lv_lload hx hb d_M_leg_167 (lv_at hl 0 rfl) ?_
          refine lv_iload_n hx hb d_M_leg_169 rfl (lv_at hl 6 rfl) ?_
          refine lv_aload_n hx hb d_M_leg_170 rfl (lv_at hl 5 rfl) ?_
          refine g_get hx hb ht in_M hown hK hP (0) r_at0 rfl 20 (by decide) rfl (ht _ kw481) (fun _ h9 => h9) (v := .long (σ.2 0 20)) rfl d_M_leg_171 ?_
          refine lv_lload hx hb d_M_leg_174 (lv_at hl 3 rfl) ?_
          refine lv_lload hx hb d_M_leg_176 (lv_at hl 2 rfl) ?_
          obtain ⟨hs144, hT24⟩ := hT24
          refine g_cSlE (va_runS (As := [.int dn, .long (σ.2 0 20), .long x5, .long r10]) (rest := [.long x17]) ⟨hx, hb, hml, hown, ht⟩ (c_M_goesOut l dn (σ.2 0 20) x5 r10 hs144) (va_cwS 4 ht gc_M_174 rfl rfl rfl (by decide +kernel) ⟨Nat.le_of_ble_eq_true rfl, Nat.le_of_ble_eq_true rfl⟩) (g_pr0 _) rfl rfl hl.1 rfl (lv_room (Nat.le_of_ble_eq_true rfl)) d_M_leg_178 ⟨Nat.le_of_ble_eq_true rfl, Nat.le_of_ble_eq_true rfl⟩) ?_
          refine W.lcmp hx hb d_M_leg_181 ?_
          refine lv_if_lt (tgt := 189) hx hb d_M_leg_182 (by decide) (fun c147 => ?_) (fun c147 => ?_)
          ·
            have c147 : x17 < (f_M_goesOut dn (σ.2 0 20) x5 r10) := (lg_cmp_lt _ _).mp c147
            refine lv_iconst (v := (0 : Int32)) hx hb d_M_leg_189 (by decide) ?_
            exact J190_22 (0 : Int32) ls ((if_pos c143).trans (if_pos c147)).symm (lv_sub hl [0, 1, 2, 3, 4, 5, 6] rfl)
          ·
            have c147 : ¬ (x17 < (f_M_goesOut dn (σ.2 0 20) x5 r10)) := mt (lg_cmp_lt _ _).mpr c147
            refine lv_iconst (v := (1 : Int32)) hx hb d_M_leg_185 (by decide) ?_
            refine lv_goto (tgt := 190) hx hb d_M_leg_186 (by decide) ?_
            exact J190_22 (1 : Int32) ls ((if_pos c143).trans (if_neg c147)).symm (lv_sub hl [0, 1, 2, 3, 4, 5, 6] rfl)
        ·
          have c143 : ¬ ((σ.2 0 22) ≤ (0 : Int64)) := mt (lg_cmp_le _ _).mpr c143
          have hT24 := Eq.mp (if_neg c143) hT24
          refine lv_lload hx hb d_M_leg_141 (lv_at hl 1 rfl) ?_
          refine lv_iload_n hx hb d_M_leg_143 rfl (lv_at hl 6 rfl) ?_
          refine lv_aload_n hx hb d_M_leg_144 rfl (lv_at hl 5 rfl) ?_
          refine g_get hx hb ht in_M hown hK hP (0) r_at0 rfl 20 (by decide) rfl (ht _ kw481) (fun _ h9 => h9) (v := .long (σ.2 0 20)) rfl d_M_leg_145 ?_
          refine lv_lload hx hb d_M_leg_148 (lv_at hl 3 rfl) ?_
          refine lv_lload hx hb d_M_leg_150 (lv_at hl 2 rfl) ?_
          obtain ⟨hs148, hT24⟩ := hT24
          refine g_cSlE (va_runS (As := [.int dn, .long (σ.2 0 20), .long x5, .long r10]) (rest := [.long x13]) ⟨hx, hb, hml, hown, ht⟩ (c_M_in l dn (σ.2 0 20) x5 r10 hs148) (va_cwS 4 ht gc_M_170 rfl rfl rfl (by decide +kernel) ⟨Nat.le_of_ble_eq_true rfl, Nat.le_of_ble_eq_true rfl⟩) (g_pr0 _) rfl rfl hl.1 rfl (lv_room (Nat.le_of_ble_eq_true rfl)) d_M_leg_152 ⟨Nat.le_of_ble_eq_true rfl, Nat.le_of_ble_eq_true rfl⟩) ?_
          refine W.lcmp hx hb d_M_leg_155 ?_
          refine lv_if_lt (tgt := 163) hx hb d_M_leg_156 (by decide) (fun c151 => ?_) (fun c151 => ?_)
          ·
            have c151 : x13 < (f_M_in dn (σ.2 0 20) x5 r10) := (lg_cmp_lt _ _).mp c151
            refine lv_iconst (v := (0 : Int32)) hx hb d_M_leg_163 (by decide) ?_
            refine lv_goto (tgt := 190) hx hb d_M_leg_164 (by decide) ?_
            exact J190_22 (0 : Int32) ls ((if_neg c143).trans (if_pos c151)).symm (lv_sub hl [0, 1, 2, 3, 4, 5, 6] rfl)
          ·
            have c151 : ¬ (x13 < (f_M_in dn (σ.2 0 20) x5 r10)) := mt (lg_cmp_lt _ _).mpr c151
            refine lv_iconst (v := (1 : Int32)) hx hb d_M_leg_159 (by decide) ?_
            refine lv_goto (tgt := 190) hx hb d_M_leg_160 (by decide) ?_
            exact J190_22 (1 : Int32) ls ((if_neg c143).trans (if_neg c151)).symm (lv_sub hl [0, 1, 2, 3, 4, 5, 6] rfl)
      refine lv_if_ge (tgt := 129) hx hb d_M_leg_118 (by decide) (fun c152 => ?_) (fun c152 => ?_)
      ·
        have c152 : (0 : Int64) ≤ (σ.2 0 22) := (lg_cmp_ge _ _).mp c152
        refine lv_lconst (v := (0 : Int64)) hx hb d_M_leg_129 (by decide) ?_
        exact J130_18 (0 : Int64) ls (if_pos c152).symm (lv_sub hl [0, 1, 2, 3, 4, 5] rfl)
      ·
        have c152 : ¬ ((0 : Int64) ≤ (σ.2 0 22)) := mt (lg_cmp_ge _ _).mpr c152
        refine lv_aload_n hx hb d_M_leg_121 rfl (lv_at hl 4 rfl) ?_
        refine g_get hx hb ht in_M hown hK hP (0) r_at0 rfl 22 (by decide) rfl (ht _ kw483) (fun _ h9 => h9) (v := .long (σ.2 0 22)) rfl d_M_leg_122 ?_
        refine lv_lneg hx hb d_M_leg_125 ?_
        refine lv_goto (tgt := 130) hx hb d_M_leg_126 (by decide) ?_
        exact J130_18 (-(σ.2 0 22)) ls (if_neg c152).symm (lv_sub hl [0, 1, 2, 3, 4, 5] rfl)
    refine lv_if_le (tgt := 109) hx hb d_M_leg_85 (by decide) (fun c153 => ?_) (fun c153 => ?_)
    ·
      have c153 : (σ.2 0 22) ≤ (0 : Int64) := (lg_cmp_le _ _).mp c153
      refine lv_lconst (v := (0 : Int64)) hx hb d_M_leg_109 (by decide) ?_
      exact J110_14 (0 : Int64) ls (if_pos c153).symm (lv_sub hl [0, 1, 2, 3, 4] rfl)
    ·
      have c153 : ¬ ((σ.2 0 22) ≤ (0 : Int64)) := mt (lg_cmp_le _ _).mpr c153
      refine lv_aload_n hx hb d_M_leg_88 rfl (lv_at hl 3 rfl) ?_
      refine g_get hx hb ht in_M hown hK hP (0) r_at0 rfl 22 (by decide) rfl (ht _ kw483) (fun _ h9 => h9) (v := .long (σ.2 0 22)) rfl d_M_leg_89 ?_
      refine lv_ldc2 (v := (1000 : Int64)) hx hb hown (ht _ kw460) d_M_leg_92 ?_
      refine lv_aload_n hx hb d_M_leg_95 rfl (lv_at hl 3 rfl) ?_
      refine g_get hx hb ht in_M hown hK hP (0) r_at0 rfl 1 (by decide) rfl (ht _ kw462) (fun _ h9 => h9) (v := .int (σ.1 0 1)) rfl d_M_leg_96 ?_
      refine lv_i2l (v := (σ.1 0 1).toInt64) hx hb d_M_leg_99 rfl ?_
      refine lv_lsub hx hb d_M_leg_100 ?_
      refine lv_lmul hx hb d_M_leg_101 ?_
      refine lv_ldc2 (v := (1000 : Int64)) hx hb hown (ht _ kw460) d_M_leg_102 ?_
      refine lv_ldiv hx hb d_M_leg_105 (by decide) ?_
      refine lv_goto (tgt := 110) hx hb d_M_leg_106 (by decide) ?_
      exact J110_14 (((σ.2 0 22) * ((1000 : Int64) - ((σ.1 0 1).toInt64))) / (1000 : Int64)) ls (if_neg c153).symm (lv_sub hl [0, 1, 2, 3, 4] rfl)
  refine lv_icmp_ne (tgt := 18) hx hb d_M_leg_11 (by decide) (fun c154 => ?_) (fun c154 => ?_)
  ·
    have c154 : ¬ (r2 = (99 : Int32)) := c154
    have hT8 := Eq.mp (if_neg c154) hT8
    refine lv_iload_n hx hb d_M_leg_18 rfl (lv_at hl 2 rfl) ?_
    refine lv_if_eq (tgt := 46) hx hb d_M_leg_19 (by decide) (fun c155 => ?_) (fun c155 => ?_)
    ·
      have c155 : dn = 0 := c155
      have hT8 := Eq.mp (if_pos c155) hT8
      refine lv_aload_n hx hb d_M_leg_46 rfl (lv_at hl 1 rfl) ?_
      refine lv_iload hx hb d_M_leg_47 (lv_at hl 0 rfl) ?_
      obtain ⟨hs156, hT8⟩ := hT8
      refine g_cSlE (va_runV (As := [.int r2]) (rest := []) ⟨hx, hb, hml, hown, ht⟩ (c_M_price l dC dI dA ad σ r2 hs156) (cwV 1 ht gc_M_89 rfl rfl rfl (by decide +kernel) ⟨Nat.le_of_ble_eq_true rfl, Nat.le_of_ble_eq_true rfl⟩) (g_pV (g_prR r_Zok hK hP hS hz _) (g_rc hK hP (0) r_at0 rfl)) rfl rfl hl.1 rfl (lv_room (Nat.le_of_ble_eq_true rfl)) d_M_leg_49 ⟨Nat.le_of_ble_eq_true rfl, Nat.le_of_ble_eq_true rfl⟩) ?_
      refine lv_lload_n hx hb d_M_leg_52 rfl (lv_at hl 3 rfl) ?_
      refine W.lcmp hx hb d_M_leg_53 ?_
      refine lv_if_ge (tgt := 66) hx hb d_M_leg_54 (by decide) (fun c159 => ?_) (fun c159 => ?_)
      ·
        have c159 : lim ≤ (f_M_price σ r2) := (lg_cmp_ge _ _).mp c159
        have hT8 := Eq.mp (if_pos c159) hT8
        refine lv_lload_n hx hb d_M_leg_66 rfl (lv_at hl 3 rfl) ?_
        exact J67_6 lim ls (((if_neg c154).trans (if_pos c155)).trans (if_pos c159)).symm (lv_sub hl [0, 1, 2] rfl)
      ·
        have c159 : ¬ (lim ≤ (f_M_price σ r2)) := mt (lg_cmp_ge _ _).mpr c159
        have hT8 := Eq.mp (if_neg c159) hT8
        refine lv_aload_n hx hb d_M_leg_57 rfl (lv_at hl 1 rfl) ?_
        refine lv_iload hx hb d_M_leg_58 (lv_at hl 0 rfl) ?_
        obtain ⟨hs160, hT8⟩ := hT8
        refine g_cSlE (va_runV (As := [.int r2]) (rest := []) ⟨hx, hb, hml, hown, ht⟩ (c_M_price l dC dI dA ad σ r2 hs160) (cwV 1 ht gc_M_89 rfl rfl rfl (by decide +kernel) ⟨Nat.le_of_ble_eq_true rfl, Nat.le_of_ble_eq_true rfl⟩) (g_pV (g_prR r_Zok hK hP hS hz _) (g_rc hK hP (0) r_at0 rfl)) rfl rfl hl.1 rfl (lv_room (Nat.le_of_ble_eq_true rfl)) d_M_leg_60 ⟨Nat.le_of_ble_eq_true rfl, Nat.le_of_ble_eq_true rfl⟩) ?_
        refine lv_goto (tgt := 67) hx hb d_M_leg_63 (by decide) ?_
        exact J67_6 (f_M_price σ r2) ls (((if_neg c154).trans (if_pos c155)).trans (if_neg c159)).symm (lv_sub hl [0, 1, 2] rfl)
    ·
      have c155 : ¬ (dn = 0) := c155
      have hT8 := Eq.mp (if_neg c155) hT8
      refine lv_aload_n hx hb d_M_leg_22 rfl (lv_at hl 1 rfl) ?_
      refine lv_iload hx hb d_M_leg_23 (lv_at hl 0 rfl) ?_
      obtain ⟨hs163, hT8⟩ := hT8
      refine g_cSlE (va_runV (As := [.int r2]) (rest := []) ⟨hx, hb, hml, hown, ht⟩ (c_M_price l dC dI dA ad σ r2 hs163) (cwV 1 ht gc_M_89 rfl rfl rfl (by decide +kernel) ⟨Nat.le_of_ble_eq_true rfl, Nat.le_of_ble_eq_true rfl⟩) (g_pV (g_prR r_Zok hK hP hS hz _) (g_rc hK hP (0) r_at0 rfl)) rfl rfl hl.1 rfl (lv_room (Nat.le_of_ble_eq_true rfl)) d_M_leg_25 ⟨Nat.le_of_ble_eq_true rfl, Nat.le_of_ble_eq_true rfl⟩) ?_
      refine lv_lload_n hx hb d_M_leg_28 rfl (lv_at hl 3 rfl) ?_
      refine W.lcmp hx hb d_M_leg_29 ?_
      refine lv_if_le (tgt := 42) hx hb d_M_leg_30 (by decide) (fun c166 => ?_) (fun c166 => ?_)
      ·
        have c166 : (f_M_price σ r2) ≤ lim := (lg_cmp_le _ _).mp c166
        have hT8 := Eq.mp (if_pos c166) hT8
        refine lv_lload_n hx hb d_M_leg_42 rfl (lv_at hl 3 rfl) ?_
        refine lv_goto (tgt := 67) hx hb d_M_leg_43 (by decide) ?_
        exact J67_6 lim ls (((if_neg c154).trans (if_neg c155)).trans (if_pos c166)).symm (lv_sub hl [0, 1, 2] rfl)
      ·
        have c166 : ¬ ((f_M_price σ r2) ≤ lim) := mt (lg_cmp_le _ _).mpr c166
        have hT8 := Eq.mp (if_neg c166) hT8
        refine lv_aload_n hx hb d_M_leg_33 rfl (lv_at hl 1 rfl) ?_
        refine lv_iload hx hb d_M_leg_34 (lv_at hl 0 rfl) ?_
        obtain ⟨hs167, hT8⟩ := hT8
        refine g_cSlE (va_runV (As := [.int r2]) (rest := []) ⟨hx, hb, hml, hown, ht⟩ (c_M_price l dC dI dA ad σ r2 hs167) (cwV 1 ht gc_M_89 rfl rfl rfl (by decide +kernel) ⟨Nat.le_of_ble_eq_true rfl, Nat.le_of_ble_eq_true rfl⟩) (g_pV (g_prR r_Zok hK hP hS hz _) (g_rc hK hP (0) r_at0 rfl)) rfl rfl hl.1 rfl (lv_room (Nat.le_of_ble_eq_true rfl)) d_M_leg_36 ⟨Nat.le_of_ble_eq_true rfl, Nat.le_of_ble_eq_true rfl⟩) ?_
        refine lv_goto (tgt := 67) hx hb d_M_leg_39 (by decide) ?_
        exact J67_6 (f_M_price σ r2) ls (((if_neg c154).trans (if_neg c155)).trans (if_neg c166)).symm (lv_sub hl [0, 1, 2] rfl)
  ·
    have c154 : r2 = (99 : Int32) := c154
    have hT8 := Eq.mp (if_pos c154) hT8
    refine lv_lload_n hx hb d_M_leg_14 rfl (lv_at hl 3 rfl) ?_
    refine lv_goto (tgt := 67) hx hb d_M_leg_15 (by decide) ?_
    exact J67_6 lim ls (if_pos c154).symm (lv_sub hl [0, 1, 2] rfl)
