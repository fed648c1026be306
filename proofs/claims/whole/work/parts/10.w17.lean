def f_M_mint_40_7 (σ : g_S) (o : Int32) (lo : Int32) (hi : Int32) (q : Int32) (r3 : Int32) : Int64 × g_S := ((-2 : Int64), σ)
def k_M_mint_40_7 (σ : g_S) (o : Int32) (lo : Int32) (hi : Int32) (q : Int32) (r3 : Int32) : Prop := True
def f_M_mint_40_14 (σ : g_S) (o : Int32) (lo : Int32) (hi : Int32) (q : Int32) (r3 : Int32) (r10 : Int32) : Int64 × g_S := ((-2 : Int64), σ)
def k_M_mint_40_14 (σ : g_S) (o : Int32) (lo : Int32) (hi : Int32) (q : Int32) (r3 : Int32) (r10 : Int32) : Prop := True
def f_M_mint_40_17 (σ : g_S) (o : Int32) (lo : Int32) (hi : Int32) (q : Int32) (r3 : Int32) (r10 : Int32) : Int64 × g_S := ((-2 : Int64), σ)
def k_M_mint_40_17 (σ : g_S) (o : Int32) (lo : Int32) (hi : Int32) (q : Int32) (r3 : Int32) (r10 : Int32) : Prop := True
def f_M_mint_198_46 (σ : g_S) (o : Int32) (lo : Int32) (hi : Int32) (q : Int32) (r3 : Int32) (r10 : Int32) (r21 : Int32) (b26 : Int64) (b27 : Int32) (r37 : Int64) (r41 : Int64) : Int64 × g_S := ((-5 : Int64), σ)
def k_M_mint_198_46 (σ : g_S) (o : Int32) (lo : Int32) (hi : Int32) (q : Int32) (r3 : Int32) (r10 : Int32) (r21 : Int32) (b26 : Int64) (b27 : Int32) (r37 : Int64) (r41 : Int64) : Prop := True
def f_M_mint_324_74 (σ : g_S) (o : Int32) (lo : Int32) (hi : Int32) (q : Int32) (r3 : Int32) (r10 : Int32) (r21 : Int32) (b26 : Int64) (b27 : Int32) (r37 : Int64) (r41 : Int64) (τ54 : g_S) (x56 : Int32) (τ57 : g_S) (τ66 : g_S) (τ73 : g_S) : Int64 × g_S := ((r37 * (4294967296 : Int64)) + r41, τ73)
def k_M_mint_324_74 (σ : g_S) (o : Int32) (lo : Int32) (hi : Int32) (q : Int32) (r3 : Int32) (r10 : Int32) (r21 : Int32) (b26 : Int64) (b27 : Int32) (r37 : Int64) (r41 : Int64) (τ54 : g_S) (x56 : Int32) (τ57 : g_S) (τ66 : g_S) (τ73 : g_S) : Prop := True
def f_M_mint_302_67 (σ : g_S) (o : Int32) (lo : Int32) (hi : Int32) (q : Int32) (r3 : Int32) (r10 : Int32) (r21 : Int32) (b26 : Int64) (b27 : Int32) (r37 : Int64) (r41 : Int64) (τ54 : g_S) (x56 : Int32) (τ57 : g_S) (τ66 : g_S) : Int64 × g_S := (f_M_mint_324_74 σ o lo hi q r3 r10 r21 b26 b27 r37 r41 τ54 x56 τ57 τ66 (f_M_pay (g_L τ66 8 x56.toNatClampNeg ((τ66.2 8 x56.toNatClampNeg) + q.toInt64)) o r37 r41))
def k_M_mint_302_67 (σ : g_S) (o : Int32) (lo : Int32) (hi : Int32) (q : Int32) (r3 : Int32) (r10 : Int32) (r21 : Int32) (b26 : Int64) (b27 : Int32) (r37 : Int64) (r41 : Int64) (τ54 : g_S) (x56 : Int32) (τ57 : g_S) (τ66 : g_S) : Prop := (vp_in x56 10) ∧ (vp_in x56 10) ∧ (k_M_pay (g_L τ66 8 x56.toNatClampNeg ((τ66.2 8 x56.toNatClampNeg) + q.toInt64)) o r37 r41) ∧ (k_M_mint_324_74 σ o lo hi q r3 r10 r21 b26 b27 r37 r41 τ54 x56 τ57 τ66 (f_M_pay (g_L τ66 8 x56.toNatClampNeg ((τ66.2 8 x56.toNatClampNeg) + q.toInt64)) o r37 r41))
def f_M_mint_299_62 (σ : g_S) (o : Int32) (lo : Int32) (hi : Int32) (q : Int32) (r3 : Int32) (r10 : Int32) (r21 : Int32) (b26 : Int64) (b27 : Int32) (r37 : Int64) (r41 : Int64) (τ54 : g_S) (x56 : Int32) (τ57 : g_S) : Int64 × g_S := (f_M_mint_302_67 σ o lo hi q r3 r10 r21 b26 b27 r37 r41 τ54 x56 τ57 (f_M_settle τ57 x56))
def k_M_mint_299_62 (σ : g_S) (o : Int32) (lo : Int32) (hi : Int32) (q : Int32) (r3 : Int32) (r10 : Int32) (r21 : Int32) (b26 : Int64) (b27 : Int32) (r37 : Int64) (r41 : Int64) (τ54 : g_S) (x56 : Int32) (τ57 : g_S) : Prop := (k_M_settle τ57 x56) ∧ (k_M_mint_302_67 σ o lo hi q r3 r10 r21 b26 b27 r37 r41 τ54 x56 τ57 (f_M_settle τ57 x56))
def f_M_mint_203_55 (σ : g_S) (o : Int32) (lo : Int32) (hi : Int32) (q : Int32) (r3 : Int32) (r10 : Int32) (r21 : Int32) (b26 : Int64) (b27 : Int32) (r37 : Int64) (r41 : Int64) (τ54 : g_S) : Int64 × g_S := (f_M_mint_299_62 σ o lo hi q r3 r10 r21 b26 b27 r37 r41 τ54 (if 0 ≤ r21 then r21 else b27) (if 0 ≤ r21 then τ54 else g_L (g_L (g_L (g_L (g_L (g_I (g_I (g_I (g_I τ54 4 b27.toNatClampNeg (1 : Int32)) 5 b27.toNatClampNeg o) 6 b27.toNatClampNeg lo) 7 b27.toNatClampNeg hi) 8 b27.toNatClampNeg (0 : Int64)) 9 (((2 : Int32) * b27).toNatClampNeg) (0 : Int64)) 9 ((((2 : Int32) * b27) + (1 : Int32)).toNatClampNeg) (0 : Int64)) 10 (((2 : Int32) * b27).toNatClampNeg) (0 : Int64)) 10 ((((2 : Int32) * b27) + (1 : Int32)).toNatClampNeg) (0 : Int64)))
def k_M_mint_203_55 (σ : g_S) (o : Int32) (lo : Int32) (hi : Int32) (q : Int32) (r3 : Int32) (r10 : Int32) (r21 : Int32) (b26 : Int64) (b27 : Int32) (r37 : Int64) (r41 : Int64) (τ54 : g_S) : Prop := (if 0 ≤ r21 then True else (vp_in b27 10) ∧ (vp_in b27 10) ∧ (vp_in b27 10) ∧ (vp_in b27 10) ∧ (vp_in b27 10) ∧ (vp_in ((2 : Int32) * b27) 20) ∧ (vp_in (((2 : Int32) * b27) + (1 : Int32)) 20) ∧ (vp_in ((2 : Int32) * b27) 20) ∧ (vp_in (((2 : Int32) * b27) + (1 : Int32)) 20) ∧ True) ∧ (k_M_mint_299_62 σ o lo hi q r3 r10 r21 b26 b27 r37 r41 τ54 (if 0 ≤ r21 then r21 else b27) (if 0 ≤ r21 then τ54 else g_L (g_L (g_L (g_L (g_L (g_I (g_I (g_I (g_I τ54 4 b27.toNatClampNeg (1 : Int32)) 5 b27.toNatClampNeg o) 6 b27.toNatClampNeg lo) 7 b27.toNatClampNeg hi) 8 b27.toNatClampNeg (0 : Int64)) 9 (((2 : Int32) * b27).toNatClampNeg) (0 : Int64)) 9 ((((2 : Int32) * b27) + (1 : Int32)).toNatClampNeg) (0 : Int64)) 10 (((2 : Int32) * b27).toNatClampNeg) (0 : Int64)) 10 ((((2 : Int32) * b27) + (1 : Int32)).toNatClampNeg) (0 : Int64)))
def f_M_mint_202_50 (σ : g_S) (o : Int32) (lo : Int32) (hi : Int32) (q : Int32) (r3 : Int32) (r10 : Int32) (r21 : Int32) (b26 : Int64) (b27 : Int32) (r37 : Int64) (r41 : Int64) : Int64 × g_S := (f_M_mint_203_55 σ o lo hi q r3 r10 r21 b26 b27 r37 r41 (f_M_note σ))
def k_M_mint_202_50 (σ : g_S) (o : Int32) (lo : Int32) (hi : Int32) (q : Int32) (r3 : Int32) (r10 : Int32) (r21 : Int32) (b26 : Int64) (b27 : Int32) (r37 : Int64) (r41 : Int64) : Prop := (k_M_note σ) ∧ (k_M_mint_203_55 σ o lo hi q r3 r10 r21 b26 b27 r37 r41 (f_M_note σ))
def f_M_mint_198_85 (σ : g_S) (o : Int32) (lo : Int32) (hi : Int32) (q : Int32) (r3 : Int32) (r10 : Int32) (r21 : Int32) (b26 : Int64) (b27 : Int32) (r37 : Int64) (r41 : Int64) : Int64 × g_S := ((-5 : Int64), σ)
def k_M_mint_198_85 (σ : g_S) (o : Int32) (lo : Int32) (hi : Int32) (q : Int32) (r3 : Int32) (r10 : Int32) (r21 : Int32) (b26 : Int64) (b27 : Int32) (r37 : Int64) (r41 : Int64) : Prop := True
def f_M_mint_182_47 (σ : g_S) (o : Int32) (lo : Int32) (hi : Int32) (q : Int32) (r3 : Int32) (r10 : Int32) (r21 : Int32) (b26 : Int64) (b27 : Int32) (r37 : Int64) (r41 : Int64) : Int64 × g_S := (if r41 ≤ (σ.2 2 ((((2 : Int32) * o) + (1 : Int32)).toNatClampNeg)) then f_M_mint_202_50 σ o lo hi q r3 r10 r21 b26 b27 r37 r41 else f_M_mint_198_85 σ o lo hi q r3 r10 r21 b26 b27 r37 r41)
def k_M_mint_182_47 (σ : g_S) (o : Int32) (lo : Int32) (hi : Int32) (q : Int32) (r3 : Int32) (r10 : Int32) (r21 : Int32) (b26 : Int64) (b27 : Int32) (r37 : Int64) (r41 : Int64) : Prop := (vp_in (((2 : Int32) * o) + (1 : Int32)) 8) ∧ (if r41 ≤ (σ.2 2 ((((2 : Int32) * o) + (1 : Int32)).toNatClampNeg)) then k_M_mint_202_50 σ o lo hi q r3 r10 r21 b26 b27 r37 r41 else k_M_mint_198_85 σ o lo hi q r3 r10 r21 b26 b27 r37 r41)
def f_M_mint_163_43 (σ : g_S) (o : Int32) (lo : Int32) (hi : Int32) (q : Int32) (r3 : Int32) (r10 : Int32) (r21 : Int32) (b26 : Int64) (b27 : Int32) (r37 : Int64) (r41 : Int64) : Int64 × g_S := (if (σ.2 2 (((2 : Int32) * o).toNatClampNeg)) < r37 then f_M_mint_198_46 σ o lo hi q r3 r10 r21 b26 b27 r37 r41 else f_M_mint_182_47 σ o lo hi q r3 r10 r21 b26 b27 r37 r41)
def k_M_mint_163_43 (σ : g_S) (o : Int32) (lo : Int32) (hi : Int32) (q : Int32) (r3 : Int32) (r10 : Int32) (r21 : Int32) (b26 : Int64) (b27 : Int32) (r37 : Int64) (r41 : Int64) : Prop := (vp_in ((2 : Int32) * o) 8) ∧ (if (σ.2 2 (((2 : Int32) * o).toNatClampNeg)) < r37 then k_M_mint_198_46 σ o lo hi q r3 r10 r21 b26 b27 r37 r41 else k_M_mint_182_47 σ o lo hi q r3 r10 r21 b26 b27 r37 r41)
def f_M_mint_151_39 (σ : g_S) (o : Int32) (lo : Int32) (hi : Int32) (q : Int32) (r3 : Int32) (r10 : Int32) (r21 : Int32) (b26 : Int64) (b27 : Int32) (r37 : Int64) : Int64 × g_S := (f_M_mint_163_43 σ o lo hi q r3 r10 r21 b26 b27 r37 (f_M_worthOne σ lo hi q.toInt64 (1 : Int32)))
def k_M_mint_151_39 (σ : g_S) (o : Int32) (lo : Int32) (hi : Int32) (q : Int32) (r3 : Int32) (r10 : Int32) (r21 : Int32) (b26 : Int64) (b27 : Int32) (r37 : Int64) : Prop := (k_M_worthOne σ lo hi q.toInt64 (1 : Int32)) ∧ (k_M_mint_163_43 σ o lo hi q r3 r10 r21 b26 b27 r37 (f_M_worthOne σ lo hi q.toInt64 (1 : Int32)))
def f_M_mint_144_35 (σ : g_S) (o : Int32) (lo : Int32) (hi : Int32) (q : Int32) (r3 : Int32) (r10 : Int32) (r21 : Int32) (b26 : Int64) (b27 : Int32) : Int64 × g_S := (f_M_mint_151_39 σ o lo hi q r3 r10 r21 b26 b27 (f_M_worthZero σ lo hi q.toInt64 (1 : Int32)))
def k_M_mint_144_35 (σ : g_S) (o : Int32) (lo : Int32) (hi : Int32) (q : Int32) (r3 : Int32) (r10 : Int32) (r21 : Int32) (b26 : Int64) (b27 : Int32) : Prop := (k_M_worthZero σ lo hi q.toInt64 (1 : Int32)) ∧ (k_M_mint_151_39 σ o lo hi q r3 r10 r21 b26 b27 (f_M_worthZero σ lo hi q.toInt64 (1 : Int32)))
def f_M_mint_140_86 (σ : g_S) (o : Int32) (lo : Int32) (hi : Int32) (q : Int32) (r3 : Int32) (r10 : Int32) (r21 : Int32) (b26 : Int64) (b27 : Int32) : Int64 × g_S := ((-4 : Int64), σ)
def k_M_mint_140_86 (σ : g_S) (o : Int32) (lo : Int32) (hi : Int32) (q : Int32) (r3 : Int32) (r10 : Int32) (r21 : Int32) (b26 : Int64) (b27 : Int32) : Prop := True
def f_M_mint_131_33 (σ : g_S) (o : Int32) (lo : Int32) (hi : Int32) (q : Int32) (r3 : Int32) (r10 : Int32) (r21 : Int32) (b26 : Int64) (b27 : Int32) : Int64 × g_S := (if b26 ≤ (1000000 : Int64) then f_M_mint_144_35 σ o lo hi q r3 r10 r21 b26 b27 else f_M_mint_140_86 σ o lo hi q r3 r10 r21 b26 b27)
def k_M_mint_131_33 (σ : g_S) (o : Int32) (lo : Int32) (hi : Int32) (q : Int32) (r3 : Int32) (r10 : Int32) (r21 : Int32) (b26 : Int64) (b27 : Int32) : Prop := (if b26 ≤ (1000000 : Int64) then k_M_mint_144_35 σ o lo hi q r3 r10 r21 b26 b27 else k_M_mint_140_86 σ o lo hi q r3 r10 r21 b26 b27)
def f_M_mint_140_89 (σ : g_S) (o : Int32) (lo : Int32) (hi : Int32) (q : Int32) (r3 : Int32) (r10 : Int32) (r21 : Int32) (b26 : Int64) (b27 : Int32) : Int64 × g_S := ((-4 : Int64), σ)
def k_M_mint_140_89 (σ : g_S) (o : Int32) (lo : Int32) (hi : Int32) (q : Int32) (r3 : Int32) (r10 : Int32) (r21 : Int32) (b26 : Int64) (b27 : Int32) : Prop := True
def f_M_mint_198_103 (σ : g_S) (o : Int32) (lo : Int32) (hi : Int32) (q : Int32) (r3 : Int32) (r10 : Int32) (r21 : Int32) (b26 : Int64) (b27 : Int32) (r94 : Int64) (r98 : Int64) : Int64 × g_S := ((-5 : Int64), σ)
def k_M_mint_198_103 (σ : g_S) (o : Int32) (lo : Int32) (hi : Int32) (q : Int32) (r3 : Int32) (r10 : Int32) (r21 : Int32) (b26 : Int64) (b27 : Int32) (r94 : Int64) (r98 : Int64) : Prop := True
def f_M_mint_324_131 (σ : g_S) (o : Int32) (lo : Int32) (hi : Int32) (q : Int32) (r3 : Int32) (r10 : Int32) (r21 : Int32) (b26 : Int64) (b27 : Int32) (r94 : Int64) (r98 : Int64) (τ111 : g_S) (x113 : Int32) (τ114 : g_S) (τ123 : g_S) (τ130 : g_S) : Int64 × g_S := ((r94 * (4294967296 : Int64)) + r98, τ130)
def k_M_mint_324_131 (σ : g_S) (o : Int32) (lo : Int32) (hi : Int32) (q : Int32) (r3 : Int32) (r10 : Int32) (r21 : Int32) (b26 : Int64) (b27 : Int32) (r94 : Int64) (r98 : Int64) (τ111 : g_S) (x113 : Int32) (τ114 : g_S) (τ123 : g_S) (τ130 : g_S) : Prop := True
def f_M_mint_302_124 (σ : g_S) (o : Int32) (lo : Int32) (hi : Int32) (q : Int32) (r3 : Int32) (r10 : Int32) (r21 : Int32) (b26 : Int64) (b27 : Int32) (r94 : Int64) (r98 : Int64) (τ111 : g_S) (x113 : Int32) (τ114 : g_S) (τ123 : g_S) : Int64 × g_S := (f_M_mint_324_131 σ o lo hi q r3 r10 r21 b26 b27 r94 r98 τ111 x113 τ114 τ123 (f_M_pay (g_L τ123 8 x113.toNatClampNeg ((τ123.2 8 x113.toNatClampNeg) + q.toInt64)) o r94 r98))
def k_M_mint_302_124 (σ : g_S) (o : Int32) (lo : Int32) (hi : Int32) (q : Int32) (r3 : Int32) (r10 : Int32) (r21 : Int32) (b26 : Int64) (b27 : Int32) (r94 : Int64) (r98 : Int64) (τ111 : g_S) (x113 : Int32) (τ114 : g_S) (τ123 : g_S) : Prop := (vp_in x113 10) ∧ (vp_in x113 10) ∧ (k_M_pay (g_L τ123 8 x113.toNatClampNeg ((τ123.2 8 x113.toNatClampNeg) + q.toInt64)) o r94 r98) ∧ (k_M_mint_324_131 σ o lo hi q r3 r10 r21 b26 b27 r94 r98 τ111 x113 τ114 τ123 (f_M_pay (g_L τ123 8 x113.toNatClampNeg ((τ123.2 8 x113.toNatClampNeg) + q.toInt64)) o r94 r98))
def f_M_mint_299_119 (σ : g_S) (o : Int32) (lo : Int32) (hi : Int32) (q : Int32) (r3 : Int32) (r10 : Int32) (r21 : Int32) (b26 : Int64) (b27 : Int32) (r94 : Int64) (r98 : Int64) (τ111 : g_S) (x113 : Int32) (τ114 : g_S) : Int64 × g_S := (f_M_mint_302_124 σ o lo hi q r3 r10 r21 b26 b27 r94 r98 τ111 x113 τ114 (f_M_settle τ114 x113))
def k_M_mint_299_119 (σ : g_S) (o : Int32) (lo : Int32) (hi : Int32) (q : Int32) (r3 : Int32) (r10 : Int32) (r21 : Int32) (b26 : Int64) (b27 : Int32) (r94 : Int64) (r98 : Int64) (τ111 : g_S) (x113 : Int32) (τ114 : g_S) : Prop := (k_M_settle τ114 x113) ∧ (k_M_mint_302_124 σ o lo hi q r3 r10 r21 b26 b27 r94 r98 τ111 x113 τ114 (f_M_settle τ114 x113))
def f_M_mint_203_112 (σ : g_S) (o : Int32) (lo : Int32) (hi : Int32) (q : Int32) (r3 : Int32) (r10 : Int32) (r21 : Int32) (b26 : Int64) (b27 : Int32) (r94 : Int64) (r98 : Int64) (τ111 : g_S) : Int64 × g_S := (f_M_mint_299_119 σ o lo hi q r3 r10 r21 b26 b27 r94 r98 τ111 (if 0 ≤ r21 then r21 else b27) (if 0 ≤ r21 then τ111 else g_L (g_L (g_L (g_L (g_L (g_I (g_I (g_I (g_I τ111 4 b27.toNatClampNeg (1 : Int32)) 5 b27.toNatClampNeg o) 6 b27.toNatClampNeg lo) 7 b27.toNatClampNeg hi) 8 b27.toNatClampNeg (0 : Int64)) 9 (((2 : Int32) * b27).toNatClampNeg) (0 : Int64)) 9 ((((2 : Int32) * b27) + (1 : Int32)).toNatClampNeg) (0 : Int64)) 10 (((2 : Int32) * b27).toNatClampNeg) (0 : Int64)) 10 ((((2 : Int32) * b27) + (1 : Int32)).toNatClampNeg) (0 : Int64)))
def k_M_mint_203_112 (σ : g_S) (o : Int32) (lo : Int32) (hi : Int32) (q : Int32) (r3 : Int32) (r10 : Int32) (r21 : Int32) (b26 : Int64) (b27 : Int32) (r94 : Int64) (r98 : Int64) (τ111 : g_S) : Prop := (if 0 ≤ r21 then True else (vp_in b27 10) ∧ (vp_in b27 10) ∧ (vp_in b27 10) ∧ (vp_in b27 10) ∧ (vp_in b27 10) ∧ (vp_in ((2 : Int32) * b27) 20) ∧ (vp_in (((2 : Int32) * b27) + (1 : Int32)) 20) ∧ (vp_in ((2 : Int32) * b27) 20) ∧ (vp_in (((2 : Int32) * b27) + (1 : Int32)) 20) ∧ True) ∧ (k_M_mint_299_119 σ o lo hi q r3 r10 r21 b26 b27 r94 r98 τ111 (if 0 ≤ r21 then r21 else b27) (if 0 ≤ r21 then τ111 else g_L (g_L (g_L (g_L (g_L (g_I (g_I (g_I (g_I τ111 4 b27.toNatClampNeg (1 : Int32)) 5 b27.toNatClampNeg o) 6 b27.toNatClampNeg lo) 7 b27.toNatClampNeg hi) 8 b27.toNatClampNeg (0 : Int64)) 9 (((2 : Int32) * b27).toNatClampNeg) (0 : Int64)) 9 ((((2 : Int32) * b27) + (1 : Int32)).toNatClampNeg) (0 : Int64)) 10 (((2 : Int32) * b27).toNatClampNeg) (0 : Int64)) 10 ((((2 : Int32) * b27) + (1 : Int32)).toNatClampNeg) (0 : Int64)))
def f_M_mint_202_107 (σ : g_S) (o : Int32) (lo : Int32) (hi : Int32) (q : Int32) (r3 : Int32) (r10 : Int32) (r21 : Int32) (b26 : Int64) (b27 : Int32) (r94 : Int64) (r98 : Int64) : Int64 × g_S := (f_M_mint_203_112 σ o lo hi q r3 r10 r21 b26 b27 r94 r98 (f_M_note σ))
def k_M_mint_202_107 (σ : g_S) (o : Int32) (lo : Int32) (hi : Int32) (q : Int32) (r3 : Int32) (r10 : Int32) (r21 : Int32) (b26 : Int64) (b27 : Int32) (r94 : Int64) (r98 : Int64) : Prop := (k_M_note σ) ∧ (k_M_mint_203_112 σ o lo hi q r3 r10 r21 b26 b27 r94 r98 (f_M_note σ))
def f_M_mint_198_142 (σ : g_S) (o : Int32) (lo : Int32) (hi : Int32) (q : Int32) (r3 : Int32) (r10 : Int32) (r21 : Int32) (b26 : Int64) (b27 : Int32) (r94 : Int64) (r98 : Int64) : Int64 × g_S := ((-5 : Int64), σ)
def k_M_mint_198_142 (σ : g_S) (o : Int32) (lo : Int32) (hi : Int32) (q : Int32) (r3 : Int32) (r10 : Int32) (r21 : Int32) (b26 : Int64) (b27 : Int32) (r94 : Int64) (r98 : Int64) : Prop := True
def f_M_mint_182_104 (σ : g_S) (o : Int32) (lo : Int32) (hi : Int32) (q : Int32) (r3 : Int32) (r10 : Int32) (r21 : Int32) (b26 : Int64) (b27 : Int32) (r94 : Int64) (r98 : Int64) : Int64 × g_S := (if r98 ≤ (σ.2 2 ((((2 : Int32) * o) + (1 : Int32)).toNatClampNeg)) then f_M_mint_202_107 σ o lo hi q r3 r10 r21 b26 b27 r94 r98 else f_M_mint_198_142 σ o lo hi q r3 r10 r21 b26 b27 r94 r98)
def k_M_mint_182_104 (σ : g_S) (o : Int32) (lo : Int32) (hi : Int32) (q : Int32) (r3 : Int32) (r10 : Int32) (r21 : Int32) (b26 : Int64) (b27 : Int32) (r94 : Int64) (r98 : Int64) : Prop := (vp_in (((2 : Int32) * o) + (1 : Int32)) 8) ∧ (if r98 ≤ (σ.2 2 ((((2 : Int32) * o) + (1 : Int32)).toNatClampNeg)) then k_M_mint_202_107 σ o lo hi q r3 r10 r21 b26 b27 r94 r98 else k_M_mint_198_142 σ o lo hi q r3 r10 r21 b26 b27 r94 r98)
def f_M_mint_163_100 (σ : g_S) (o : Int32) (lo : Int32) (hi : Int32) (q : Int32) (r3 : Int32) (r10 : Int32) (r21 : Int32) (b26 : Int64) (b27 : Int32) (r94 : Int64) (r98 : Int64) : Int64 × g_S := (if (σ.2 2 (((2 : Int32) * o).toNatClampNeg)) < r94 then f_M_mint_198_103 σ o lo hi q r3 r10 r21 b26 b27 r94 r98 else f_M_mint_182_104 σ o lo hi q r3 r10 r21 b26 b27 r94 r98)
def k_M_mint_163_100 (σ : g_S) (o : Int32) (lo : Int32) (hi : Int32) (q : Int32) (r3 : Int32) (r10 : Int32) (r21 : Int32) (b26 : Int64) (b27 : Int32) (r94 : Int64) (r98 : Int64) : Prop := (vp_in ((2 : Int32) * o) 8) ∧ (if (σ.2 2 (((2 : Int32) * o).toNatClampNeg)) < r94 then k_M_mint_198_103 σ o lo hi q r3 r10 r21 b26 b27 r94 r98 else k_M_mint_182_104 σ o lo hi q r3 r10 r21 b26 b27 r94 r98)
def f_M_mint_151_96 (σ : g_S) (o : Int32) (lo : Int32) (hi : Int32) (q : Int32) (r3 : Int32) (r10 : Int32) (r21 : Int32) (b26 : Int64) (b27 : Int32) (r94 : Int64) : Int64 × g_S := (f_M_mint_163_100 σ o lo hi q r3 r10 r21 b26 b27 r94 (f_M_worthOne σ lo hi q.toInt64 (1 : Int32)))
def k_M_mint_151_96 (σ : g_S) (o : Int32) (lo : Int32) (hi : Int32) (q : Int32) (r3 : Int32) (r10 : Int32) (r21 : Int32) (b26 : Int64) (b27 : Int32) (r94 : Int64) : Prop := (k_M_worthOne σ lo hi q.toInt64 (1 : Int32)) ∧ (k_M_mint_163_100 σ o lo hi q r3 r10 r21 b26 b27 r94 (f_M_worthOne σ lo hi q.toInt64 (1 : Int32)))
def f_M_mint_144_92 (σ : g_S) (o : Int32) (lo : Int32) (hi : Int32) (q : Int32) (r3 : Int32) (r10 : Int32) (r21 : Int32) (b26 : Int64) (b27 : Int32) : Int64 × g_S := (f_M_mint_151_96 σ o lo hi q r3 r10 r21 b26 b27 (f_M_worthZero σ lo hi q.toInt64 (1 : Int32)))
def k_M_mint_144_92 (σ : g_S) (o : Int32) (lo : Int32) (hi : Int32) (q : Int32) (r3 : Int32) (r10 : Int32) (r21 : Int32) (b26 : Int64) (b27 : Int32) : Prop := (k_M_worthZero σ lo hi q.toInt64 (1 : Int32)) ∧ (k_M_mint_151_96 σ o lo hi q r3 r10 r21 b26 b27 (f_M_worthZero σ lo hi q.toInt64 (1 : Int32)))
def f_M_mint_140_143 (σ : g_S) (o : Int32) (lo : Int32) (hi : Int32) (q : Int32) (r3 : Int32) (r10 : Int32) (r21 : Int32) (b26 : Int64) (b27 : Int32) : Int64 × g_S := ((-4 : Int64), σ)
def k_M_mint_140_143 (σ : g_S) (o : Int32) (lo : Int32) (hi : Int32) (q : Int32) (r3 : Int32) (r10 : Int32) (r21 : Int32) (b26 : Int64) (b27 : Int32) : Prop := True
def f_M_mint_131_90 (σ : g_S) (o : Int32) (lo : Int32) (hi : Int32) (q : Int32) (r3 : Int32) (r10 : Int32) (r21 : Int32) (b26 : Int64) (b27 : Int32) : Int64 × g_S := (if b26 ≤ (1000000 : Int64) then f_M_mint_144_92 σ o lo hi q r3 r10 r21 b26 b27 else f_M_mint_140_143 σ o lo hi q r3 r10 r21 b26 b27)
def k_M_mint_131_90 (σ : g_S) (o : Int32) (lo : Int32) (hi : Int32) (q : Int32) (r3 : Int32) (r10 : Int32) (r21 : Int32) (b26 : Int64) (b27 : Int32) : Prop := (if b26 ≤ (1000000 : Int64) then k_M_mint_144_92 σ o lo hi q r3 r10 r21 b26 b27 else k_M_mint_140_143 σ o lo hi q r3 r10 r21 b26 b27)
def f_M_mint_126_87 (σ : g_S) (o : Int32) (lo : Int32) (hi : Int32) (q : Int32) (r3 : Int32) (r10 : Int32) (r21 : Int32) (b26 : Int64) (b27 : Int32) : Int64 × g_S := (if b27 < 0 then f_M_mint_140_89 σ o lo hi q r3 r10 r21 b26 b27 else f_M_mint_131_90 σ o lo hi q r3 r10 r21 b26 b27)
def k_M_mint_126_87 (σ : g_S) (o : Int32) (lo : Int32) (hi : Int32) (q : Int32) (r3 : Int32) (r10 : Int32) (r21 : Int32) (b26 : Int64) (b27 : Int32) : Prop := (if b27 < 0 then k_M_mint_140_89 σ o lo hi q r3 r10 r21 b26 b27 else k_M_mint_131_90 σ o lo hi q r3 r10 r21 b26 b27)
def f_M_mint_121_31 (σ : g_S) (o : Int32) (lo : Int32) (hi : Int32) (q : Int32) (r3 : Int32) (r10 : Int32) (r21 : Int32) (b26 : Int64) (b27 : Int32) : Int64 × g_S := (if 0 ≤ r21 then f_M_mint_131_33 σ o lo hi q r3 r10 r21 b26 b27 else f_M_mint_126_87 σ o lo hi q r3 r10 r21 b26 b27)
def k_M_mint_121_31 (σ : g_S) (o : Int32) (lo : Int32) (hi : Int32) (q : Int32) (r3 : Int32) (r10 : Int32) (r21 : Int32) (b26 : Int64) (b27 : Int32) : Prop := (if 0 ≤ r21 then k_M_mint_131_33 σ o lo hi q r3 r10 r21 b26 b27 else k_M_mint_126_87 σ o lo hi q r3 r10 r21 b26 b27)
def f_M_mint_L65 (σ : g_S) (o : Int32) (lo : Int32) (hi : Int32) (q : Int32) (r3 : Int32) (r10 : Int32) (r21 : Int32) : Nat → Int64 → Int32 → Int64 × Int32
  | 0, a24, a25 => (a24, a25)
  | jn + 1, a24, a25 => f_M_mint_L65 σ o lo hi q r3 r10 r21 jn (a24 + (if (σ.1 4 jn) = 0 then (0 : Int64) else σ.2 8 jn)) (if (σ.1 4 jn) = 0 then Int32.ofNat jn else a25)
def f_M_mint_48_23 (σ : g_S) (o : Int32) (lo : Int32) (hi : Int32) (q : Int32) (r3 : Int32) (r10 : Int32) (r21 : Int32) : Int64 × g_S := (f_M_mint_121_31 σ o lo hi q r3 r10 r21 ((f_M_mint_L65 σ o lo hi q r3 r10 r21 10 q.toInt64 (-1 : Int32)).1) ((f_M_mint_L65 σ o lo hi q r3 r10 r21 10 q.toInt64 (-1 : Int32)).2))
def k_M_mint_48_23 (σ : g_S) (o : Int32) (lo : Int32) (hi : Int32) (q : Int32) (r3 : Int32) (r10 : Int32) (r21 : Int32) : Prop := (k_M_mint_121_31 σ o lo hi q r3 r10 r21 ((f_M_mint_L65 σ o lo hi q r3 r10 r21 10 q.toInt64 (-1 : Int32)).1) ((f_M_mint_L65 σ o lo hi q r3 r10 r21 10 q.toInt64 (-1 : Int32)).2))
def f_M_mint_44_20 (σ : g_S) (o : Int32) (lo : Int32) (hi : Int32) (q : Int32) (r3 : Int32) (r10 : Int32) : Int64 × g_S := (f_M_mint_48_23 σ o lo hi q r3 r10 (f_M_find σ o lo hi))
def k_M_mint_44_20 (σ : g_S) (o : Int32) (lo : Int32) (hi : Int32) (q : Int32) (r3 : Int32) (r10 : Int32) : Prop := (k_M_mint_48_23 σ o lo hi q r3 r10 (f_M_find σ o lo hi))
def f_M_mint_40_155 (σ : g_S) (o : Int32) (lo : Int32) (hi : Int32) (q : Int32) (r3 : Int32) (r10 : Int32) : Int64 × g_S := ((-2 : Int64), σ)
def k_M_mint_40_155 (σ : g_S) (o : Int32) (lo : Int32) (hi : Int32) (q : Int32) (r3 : Int32) (r10 : Int32) : Prop := True
def f_M_mint_33_18 (σ : g_S) (o : Int32) (lo : Int32) (hi : Int32) (q : Int32) (r3 : Int32) (r10 : Int32) : Int64 × g_S := (if q ≤ (1000000 : Int32) then f_M_mint_44_20 σ o lo hi q r3 r10 else f_M_mint_40_155 σ o lo hi q r3 r10)
def k_M_mint_33_18 (σ : g_S) (o : Int32) (lo : Int32) (hi : Int32) (q : Int32) (r3 : Int32) (r10 : Int32) : Prop := (if q ≤ (1000000 : Int32) then k_M_mint_44_20 σ o lo hi q r3 r10 else k_M_mint_40_155 σ o lo hi q r3 r10)
def f_M_mint_27_15 (σ : g_S) (o : Int32) (lo : Int32) (hi : Int32) (q : Int32) (r3 : Int32) (r10 : Int32) : Int64 × g_S := (if q < (1 : Int32) then f_M_mint_40_17 σ o lo hi q r3 r10 else f_M_mint_33_18 σ o lo hi q r3 r10)
def k_M_mint_27_15 (σ : g_S) (o : Int32) (lo : Int32) (hi : Int32) (q : Int32) (r3 : Int32) (r10 : Int32) : Prop := (if q < (1 : Int32) then k_M_mint_40_17 σ o lo hi q r3 r10 else k_M_mint_33_18 σ o lo hi q r3 r10)
def f_M_mint_21_12 (σ : g_S) (o : Int32) (lo : Int32) (hi : Int32) (q : Int32) (r3 : Int32) (r10 : Int32) : Int64 × g_S := (if r10 = 0 then f_M_mint_40_14 σ o lo hi q r3 r10 else f_M_mint_27_15 σ o lo hi q r3 r10)
def k_M_mint_21_12 (σ : g_S) (o : Int32) (lo : Int32) (hi : Int32) (q : Int32) (r3 : Int32) (r10 : Int32) : Prop := (if r10 = 0 then k_M_mint_40_14 σ o lo hi q r3 r10 else k_M_mint_27_15 σ o lo hi q r3 r10)
def f_M_mint_18_8 (σ : g_S) (o : Int32) (lo : Int32) (hi : Int32) (q : Int32) (r3 : Int32) : Int64 × g_S := (f_M_mint_21_12 σ o lo hi q r3 (f_M_isRange σ lo hi))
def k_M_mint_18_8 (σ : g_S) (o : Int32) (lo : Int32) (hi : Int32) (q : Int32) (r3 : Int32) : Prop := (k_M_isRange σ lo hi) ∧ (k_M_mint_21_12 σ o lo hi q r3 (f_M_isRange σ lo hi))
def f_M_mint_12_5 (σ : g_S) (o : Int32) (lo : Int32) (hi : Int32) (q : Int32) (r3 : Int32) : Int64 × g_S := (if r3 = 0 then f_M_mint_40_7 σ o lo hi q r3 else f_M_mint_18_8 σ o lo hi q r3)
def k_M_mint_12_5 (σ : g_S) (o : Int32) (lo : Int32) (hi : Int32) (q : Int32) (r3 : Int32) : Prop := (if r3 = 0 then k_M_mint_40_7 σ o lo hi q r3 else k_M_mint_18_8 σ o lo hi q r3)
def f_M_mint_11_2 (σ : g_S) (o : Int32) (lo : Int32) (hi : Int32) (q : Int32) : Int64 × g_S := (f_M_mint_12_5 σ o lo hi q (f_M_isOwner o))
def k_M_mint_11_2 (σ : g_S) (o : Int32) (lo : Int32) (hi : Int32) (q : Int32) : Prop := (k_M_mint_12_5 σ o lo hi q (f_M_isOwner o))
def f_M_mint_7_156 (σ : g_S) (o : Int32) (lo : Int32) (hi : Int32) (q : Int32) : Int64 × g_S := ((-1 : Int64), σ)
def k_M_mint_7_156 (σ : g_S) (o : Int32) (lo : Int32) (hi : Int32) (q : Int32) : Prop := True
def f_M_mint (σ : g_S) (o : Int32) (lo : Int32) (hi : Int32) (q : Int32) : Int64 × g_S := (if (σ.1 0 3) = 0 then f_M_mint_7_156 σ o lo hi q else f_M_mint_11_2 σ o lo hi q)
def k_M_mint (σ : g_S) (o : Int32) (lo : Int32) (hi : Int32) (q : Int32) : Prop := (if (σ.1 0 3) = 0 then k_M_mint_7_156 σ o lo hi q else k_M_mint_11_2 σ o lo hi q)
set_option maxHeartbeats 4000000 in
set_option maxRecDepth 100000 in
theorem c_M_mint (l : Launch) (dC : Nat → ClassId) (dI : Nat → Nat → Nat) (dA : Nat → ClassId) (ad : Nat → Nat) (sz : Nat) (σ : g_S) (o : Int32) (lo : Int32) (hi : Int32) (q : Int32) (hQ : k_M_mint σ o lo hi q) : Met l y_M_mint w_M_mint ({ frames := 3, cells := 0, slots := 0, locals := 75 }) (va_Pc [.ref (ad 0), .int o, .int lo, .int hi, .int q] (g_W (dC, dI) cls (r_tys dA) (g_w r_sh dA ad σ) sz r_Z)) (va_Ql (fun r τ => (r, τ) = f_M_mint σ o lo hi q) (fun τ t => va_P (dC, dI) cls (g_w r_sh dA ad τ) t.heap) (va_A (g_w r_sh dA ad σ) sz)) 0 0 (va_A (g_w r_sh dA ad σ) sz) := by
  refine Met.ofW (cc := b_M_mint) (maxL := 13) (ret := (some .long)) (by decide) rfl ?_
  intro p e s m args below meth c s₁ B hml hv
  obtain ⟨rfl, hsz, hP, hK, hD0, hz⟩ := hv
  have hx := B.exec
  have hb := B.bytes
  have hr := B.returns
  have hts := atoms_spec (ws := w_M_mint) B.pre
  have ht := fun (w : Cond) (h : w ∈ gA) => hts w (List.mem_cons_of_mem _ h)
  have hown : s.vm.findClass "RangedPoolModel" = some m.cls := findClass_of_methodNamed B.named
  have hlocks := B.notSynchronized
  subst hsz
  have hD := hD0.self (sz := s.heap.size)
  have hA : ∀ q : Nat, s.heap.size ≤ q → va_A (g_w r_sh dA ad σ) s.heap.size q := fun q h => Or.inr h
  generalize hAe : va_A (g_w r_sh dA ad σ) s.heap.size = A at hD hA hz ⊢
  have hS : va_S A s.heap s.heap [] := va_S.rf
  have hl := lv_entry ([.ref (ad 0), .int o, .int lo, .int hi, .int q]) (n := 13) (Nat.le_of_ble_eq_true rfl)
  rw [lg_entry_eq]
  generalize (lg_sl ([.ref (ad 0), .int o, .int lo, .int hi, .int q]) ++ List.replicate (13 - (lg_sl ([.ref (ad 0), .int o, .int lo, .int hi, .int q])).length) Slot.unset).toArray = ls at hl ⊢
  have hl : lv_has ls 13 [(0, .ref (ad 0)), (1, .int o), (2, .int lo), (3, .int hi), (4, .int q)] := hl
  have hF : f_M_mint σ o lo hi q = f_M_mint σ o lo hi q := rfl
  refine lv_aload_n hx hb d_M_mint_0 rfl (lv_at hl 0 rfl) ?_
  refine g_get hx hb ht in_M hown hK hP (0) r_at0 rfl 3 (by decide) rfl (ht _ kw464) (fun _ h9 => h9) (v := .int (σ.1 0 3)) rfl d_M_mint_1 ?_
  refine lv_if_ne (tgt := 11) hx hb d_M_mint_4 (by decide) (fun c1 => ?_) (fun c1 => ?_)
  ·
    have c1 : ¬ ((σ.1 0 3) = 0) := c1
    have hF : f_M_mint σ o lo hi q = f_M_mint_11_2 σ o lo hi q := hF.trans (if_neg c1)
    have hQ : k_M_mint_11_2 σ o lo hi q := Eq.mp (if_neg c1) hQ
    refine lv_iload_n hx hb d_M_mint_11 rfl (lv_at hl 1 rfl) ?_
    refine g_cSi (va_runS (As := [.int o]) (rest := []) ⟨hx, hb, hml, hown, ht⟩ (c_M_isOwner l o) (va_cwS 1 ht gc_M_99 rfl rfl rfl (by decide +kernel) ⟨Nat.le_of_ble_eq_true rfl, Nat.le_of_ble_eq_true rfl⟩) (g_pr0 _) rfl rfl hl.1 rfl (lv_room (Nat.le_of_ble_eq_true rfl)) d_M_mint_12 ⟨Nat.le_of_ble_eq_true rfl, Nat.le_of_ble_eq_true rfl⟩) (fun r3 e4 => ?_)
    have hF : f_M_mint σ o lo hi q = f_M_mint_12_5 σ o lo hi q r3 := hF.trans (by rw [e4]; try rfl)
    have hQ : k_M_mint_12_5 σ o lo hi q r3 := by rw [e4]; exact hQ
    refine lv_if_eq (tgt := 40) hx hb d_M_mint_15 (by decide) (fun c6 => ?_) (fun c6 => ?_)
    ·
      have c6 : r3 = 0 := c6
      have hF : f_M_mint σ o lo hi q = f_M_mint_40_7 σ o lo hi q r3 := hF.trans (if_pos c6)
      have hQ : k_M_mint_40_7 σ o lo hi q r3 := Eq.mp (if_pos c6) hQ
      refine lv_ldc2 (v := (-2 : Int64)) hx hb hown (ht _ kw574) d_M_mint_40 ?_
      exact W.lret (v := (-2 : Int64)) hx hb hr (fun t hh hW => ⟨⟨(-2 : Int64), σ, rfl, hF.symm, by show va_P (dC, dI) cls (g_w r_sh dA ad σ) t.heap; rw [hh]; exact hP⟩, hS.F hh⟩) hS.2.2 d_M_mint_43
    ·
      have c6 : ¬ (r3 = 0) := c6
      have hF : f_M_mint σ o lo hi q = f_M_mint_18_8 σ o lo hi q r3 := hF.trans (if_neg c6)
      have hQ : k_M_mint_18_8 σ o lo hi q r3 := Eq.mp (if_neg c6) hQ
      refine lv_aload_n hx hb d_M_mint_18 rfl (lv_at hl 0 rfl) ?_
      refine lv_iload_n hx hb d_M_mint_19 rfl (lv_at hl 2 rfl) ?_
      refine lv_iload_n hx hb d_M_mint_20 rfl (lv_at hl 3 rfl) ?_
      obtain ⟨hs9, hQ⟩ := hQ
      refine g_cSi (va_runV (As := [.int lo, .int hi]) (rest := []) ⟨hx, hb, hml, hown, ht⟩ (c_M_isRange l dC dI dA ad σ lo hi hs9) (cwV 2 ht gc_M_114 rfl rfl rfl (by decide +kernel) ⟨Nat.le_of_ble_eq_true rfl, Nat.le_of_ble_eq_true rfl⟩) (g_pV (g_prR r_Zok hK hP hS hz _) (g_rc hK hP (0) r_at0 rfl)) rfl rfl hl.1 rfl (lv_room (Nat.le_of_ble_eq_true rfl)) d_M_mint_21 ⟨Nat.le_of_ble_eq_true rfl, Nat.le_of_ble_eq_true rfl⟩) (fun r10 e11 => ?_)
      have hF : f_M_mint σ o lo hi q = f_M_mint_21_12 σ o lo hi q r3 r10 := hF.trans (by rw [e11]; try rfl)
      have hQ : k_M_mint_21_12 σ o lo hi q r3 r10 := by rw [e11]; exact hQ
      refine lv_if_eq (tgt := 40) hx hb d_M_mint_24 (by decide) (fun c13 => ?_) (fun c13 => ?_)
      ·
        have c13 : r10 = 0 := c13
        have hF : f_M_mint σ o lo hi q = f_M_mint_40_14 σ o lo hi q r3 r10 := hF.trans (if_pos c13)
        have hQ : k_M_mint_40_14 σ o lo hi q r3 r10 := Eq.mp (if_pos c13) hQ
        refine lv_ldc2 (v := (-2 : Int64)) hx hb hown (ht _ kw574) d_M_mint_40 ?_
        exact W.lret (v := (-2 : Int64)) hx hb hr (fun t hh hW => ⟨⟨(-2 : Int64), σ, rfl, hF.symm, by show va_P (dC, dI) cls (g_w r_sh dA ad σ) t.heap; rw [hh]; exact hP⟩, hS.F hh⟩) hS.2.2 d_M_mint_43
      ·
        have c13 : ¬ (r10 = 0) := c13
        have hF : f_M_mint σ o lo hi q = f_M_mint_27_15 σ o lo hi q r3 r10 := hF.trans (if_neg c13)
        have hQ : k_M_mint_27_15 σ o lo hi q r3 r10 := Eq.mp (if_neg c13) hQ
        refine lv_iload hx hb d_M_mint_27 (lv_at hl 4 rfl) ?_
        refine lv_iconst (v := (1 : Int32)) hx hb d_M_mint_29 (by decide) ?_
        refine lv_icmp_lt (tgt := 40) hx hb d_M_mint_30 (by decide) (fun c16 => ?_) (fun c16 => ?_)
        ·
          have c16 : q < (1 : Int32) := c16
          have hF : f_M_mint σ o lo hi q = f_M_mint_40_17 σ o lo hi q r3 r10 := hF.trans (if_pos c16)
          have hQ : k_M_mint_40_17 σ o lo hi q r3 r10 := Eq.mp (if_pos c16) hQ
          refine lv_ldc2 (v := (-2 : Int64)) hx hb hown (ht _ kw574) d_M_mint_40 ?_
          exact W.lret (v := (-2 : Int64)) hx hb hr (fun t hh hW => ⟨⟨(-2 : Int64), σ, rfl, hF.symm, by show va_P (dC, dI) cls (g_w r_sh dA ad σ) t.heap; rw [hh]; exact hP⟩, hS.F hh⟩) hS.2.2 d_M_mint_43
        ·
          have c16 : ¬ (q < (1 : Int32)) := c16
          have hF : f_M_mint σ o lo hi q = f_M_mint_33_18 σ o lo hi q r3 r10 := hF.trans (if_neg c16)
          have hQ : k_M_mint_33_18 σ o lo hi q r3 r10 := Eq.mp (if_neg c16) hQ
          refine lv_iload hx hb d_M_mint_33 (lv_at hl 4 rfl) ?_
          refine lv_ldc (v := (1000000 : Int32)) hx hb hown (ht _ kw573) d_M_mint_35 ?_
          refine lv_icmp_le (tgt := 44) hx hb d_M_mint_37 (by decide) (fun c19 => ?_) (fun c19 => ?_)
          ·
            have c19 : q ≤ (1000000 : Int32) := c19
            have hF : f_M_mint σ o lo hi q = f_M_mint_44_20 σ o lo hi q r3 r10 := hF.trans (if_pos c19)
            have hQ : k_M_mint_44_20 σ o lo hi q r3 r10 := Eq.mp (if_pos c19) hQ
            refine lv_aload_n hx hb d_M_mint_44 rfl (lv_at hl 0 rfl) ?_
            refine lv_iload_n hx hb d_M_mint_45 rfl (lv_at hl 1 rfl) ?_
            refine lv_iload_n hx hb d_M_mint_46 rfl (lv_at hl 2 rfl) ?_
            refine lv_iload_n hx hb d_M_mint_47 rfl (lv_at hl 3 rfl) ?_
            refine g_cSi (va_runV (As := [.int o, .int lo, .int hi]) (rest := []) ⟨hx, hb, hml, hown, ht⟩ (c_M_find l dC dI dA ad σ o lo hi) (cwV 3 ht gc_M_121 rfl rfl rfl (by decide +kernel) ⟨Nat.le_of_ble_eq_true rfl, Nat.le_of_ble_eq_true rfl⟩) (g_pV (g_prR r_Zok hK hP hS hz _) (g_rc hK hP (0) r_at0 rfl)) rfl rfl hl.1 rfl (lv_room (Nat.le_of_ble_eq_true rfl)) d_M_mint_48 ⟨Nat.le_of_ble_eq_true rfl, Nat.le_of_ble_eq_true rfl⟩) (fun r21 e22 => ?_)
            have hF : f_M_mint σ o lo hi q = f_M_mint_48_23 σ o lo hi q r3 r10 r21 := hF.trans (by rw [e22]; try rfl)
            have hQ : k_M_mint_48_23 σ o lo hi q r3 r10 r21 := by rw [e22]; exact hQ
            refine lv_istore (lv' := [(5, .int r21), (0, .ref (ad 0)), (1, .int o), (2, .int lo), (3, .int hi), (4, .int q)]) hx hb d_M_mint_51 hl (by decide) rfl (fun ls hl => ?_)
            refine lv_iconst (v := (-1 : Int32)) hx hb d_M_mint_53 (by decide) ?_
            refine lv_istore (lv' := [(6, .int (-1 : Int32)), (5, .int r21), (0, .ref (ad 0)), (1, .int o), (2, .int lo), (3, .int hi), (4, .int q)]) hx hb d_M_mint_54 hl (by decide) rfl (fun ls hl => ?_)
            refine lv_iload hx hb d_M_mint_56 (lv_at hl 6 rfl) ?_
            refine lv_i2l (v := q.toInt64) hx hb d_M_mint_58 rfl ?_
            refine lv_lstore (lv' := [(7, .long q.toInt64), (6, .int (-1 : Int32)), (5, .int r21), (0, .ref (ad 0)), (1, .int o), (2, .int lo), (3, .int hi), (4, .int q)]) hx hb d_M_mint_59 hl (by decide) rfl (fun ls hl => ?_)
            refine lv_bipush (v := (9 : Int32)) hx hb d_M_mint_61 (by decide) ?_
            refine lv_istore (lv' := [(9, .int (9 : Int32)), (7, .long q.toInt64), (6, .int (-1 : Int32)), (5, .int r21), (0, .ref (ad 0)), (1, .int o), (2, .int lo), (3, .int hi), (4, .int q)]) hx hb d_M_mint_63 hl (by decide) rfl (fun ls hl => ?_)
            have J121_28 : ∀ (b26 : Int64) (b27 : Int32) (ls : Array Slot), b26 = (f_M_mint_L65 σ o lo hi q r3 r10 r21 10 q.toInt64 (-1 : Int32)).1 → b27 = (f_M_mint_L65 σ o lo hi q r3 r10 r21 10 q.toInt64 (-1 : Int32)).2 → lv_has ls 13 [(7, .long b26), (6, .int b27), (5, .int r21), (0, .ref (ad 0)), (1, .int o), (2, .int lo), (3, .int hi), (4, .int q)] → W p l e (headSpec w_M_mint ({ frames := 3, cells := 0, slots := 0, locals := 75 })).room s m ([.ref (ad 0), .int o, .int lo, .int hi, .int q] : List Value).toArray below meth c s.heap [] 0 0 (MQ below (va_Ql (fun r τ => (r, τ) = f_M_mint σ o lo hi q) (fun τ t => va_P (dC, dI) cls (g_w r_sh dA ad τ) t.heap) A) ([.ref (ad 0), .int o, .int lo, .int hi, .int q] : List Value).toArray s 0 0 A) (F0 m 121 ls []) := by
              intro b26 b27 ls e29 e30 hl
              have hF : f_M_mint σ o lo hi q = f_M_mint_121_31 σ o lo hi q r3 r10 r21 b26 b27 := hF.trans (by rw [e29, e30]; try rfl)
              have hQ : k_M_mint_121_31 σ o lo hi q r3 r10 r21 b26 b27 := by rw [e29, e30]; exact hQ
              refine lv_iload hx hb d_M_mint_121 (lv_at hl 2 rfl) ?_
              refine lv_if_ge (tgt := 131) hx hb d_M_mint_123 (by decide) (fun c32 => ?_) (fun c32 => ?_)
              ·
                have c32 : 0 ≤ r21 := c32
                have hF : f_M_mint σ o lo hi q = f_M_mint_131_33 σ o lo hi q r3 r10 r21 b26 b27 := hF.trans (if_pos c32)
                have hQ : k_M_mint_131_33 σ o lo hi q r3 r10 r21 b26 b27 := Eq.mp (if_pos c32) hQ
                refine lv_lload hx hb d_M_mint_131 (lv_at hl 0 rfl) ?_
                refine lv_ldc2 (v := (1000000 : Int64)) hx hb hown (ht _ kw579) d_M_mint_133 ?_
                refine W.lcmp hx hb d_M_mint_136 ?_
                refine lv_if_le (tgt := 144) hx hb d_M_mint_137 (by decide) (fun c34 => ?_) (fun c34 => ?_)
                ·
                  have c34 : b26 ≤ (1000000 : Int64) := (lg_cmp_le _ _).mp c34
                  have hF : f_M_mint σ o lo hi q = f_M_mint_144_35 σ o lo hi q r3 r10 r21 b26 b27 := hF.trans (if_pos c34)
                  have hQ : k_M_mint_144_35 σ o lo hi q r3 r10 r21 b26 b27 := Eq.mp (if_pos c34) hQ
                  refine lv_aload_n hx hb d_M_mint_144 rfl (lv_at hl 3 rfl) ?_
                  refine lv_iload_n hx hb d_M_mint_145 rfl (lv_at hl 5 rfl) ?_
                  refine lv_iload_n hx hb d_M_mint_146 rfl (lv_at hl 6 rfl) ?_
                  refine lv_iload hx hb d_M_mint_147 (lv_at hl 7 rfl) ?_
                  refine lv_i2l (v := q.toInt64) hx hb d_M_mint_149 rfl ?_
                  refine lv_iconst (v := (1 : Int32)) hx hb d_M_mint_150 (by decide) ?_
                  obtain ⟨hs36, hQ⟩ := hQ
                  refine g_cSl (va_runV (As := [.int lo, .int hi, .long q.toInt64, .int (1 : Int32)]) (rest := []) ⟨hx, hb, hml, hown, ht⟩ (c_M_worthZero l dC dI dA ad σ lo hi q.toInt64 (1 : Int32) hs36) (cwV 4 ht gc_M_129 rfl rfl rfl (by decide +kernel) ⟨Nat.le_of_ble_eq_true rfl, Nat.le_of_ble_eq_true rfl⟩) (g_pV (g_prR r_Zok hK hP hS hz _) (g_rc hK hP (0) r_at0 rfl)) rfl rfl hl.1 rfl (lv_room (Nat.le_of_ble_eq_true rfl)) d_M_mint_151 ⟨Nat.le_of_ble_eq_true rfl, Nat.le_of_ble_eq_true rfl⟩) (fun r37 e38 => ?_)
                  have hF : f_M_mint σ o lo hi q = f_M_mint_151_39 σ o lo hi q r3 r10 r21 b26 b27 r37 := hF.trans (by rw [e38]; try rfl)
                  have hQ : k_M_mint_151_39 σ o lo hi q r3 r10 r21 b26 b27 r37 := by rw [e38]; exact hQ
                  refine lv_lstore (lv' := [(9, .long r37), (7, .long b26), (6, .int b27), (5, .int r21), (0, .ref (ad 0)), (1, .int o), (2, .int lo), (3, .int hi), (4, .int q)]) hx hb d_M_mint_154 hl (by decide) rfl (fun ls hl => ?_)
                  refine lv_aload_n hx hb d_M_mint_156 rfl (lv_at hl 4 rfl) ?_
                  refine lv_iload_n hx hb d_M_mint_157 rfl (lv_at hl 6 rfl) ?_
                  refine lv_iload_n hx hb d_M_mint_158 rfl (lv_at hl 7 rfl) ?_
                  refine lv_iload hx hb d_M_mint_159 (lv_at hl 8 rfl) ?_
                  refine lv_i2l (v := q.toInt64) hx hb d_M_mint_161 rfl ?_
                  refine lv_iconst (v := (1 : Int32)) hx hb d_M_mint_162 (by decide) ?_
                  obtain ⟨hs40, hQ⟩ := hQ
                  refine g_cSl (va_runV (As := [.int lo, .int hi, .long q.toInt64, .int (1 : Int32)]) (rest := []) ⟨hx, hb, hml, hown, ht⟩ (c_M_worthOne l dC dI dA ad σ lo hi q.toInt64 (1 : Int32) hs40) (cwV 4 ht gc_M_133 rfl rfl rfl (by decide +kernel) ⟨Nat.le_of_ble_eq_true rfl, Nat.le_of_ble_eq_true rfl⟩) (g_pV (g_prR r_Zok hK hP hS hz _) (g_rc hK hP (0) r_at0 rfl)) rfl rfl hl.1 rfl (lv_room (Nat.le_of_ble_eq_true rfl)) d_M_mint_163 ⟨Nat.le_of_ble_eq_true rfl, Nat.le_of_ble_eq_true rfl⟩) (fun r41 e42 => ?_)
                  have hF : f_M_mint σ o lo hi q = f_M_mint_163_43 σ o lo hi q r3 r10 r21 b26 b27 r37 r41 := hF.trans (by rw [e42]; try rfl)
                  have hQ : k_M_mint_163_43 σ o lo hi q r3 r10 r21 b26 b27 r37 r41 := by rw [e42]; exact hQ
                  refine lv_lstore (lv' := [(11, .long r41), (9, .long r37), (7, .long b26), (6, .int b27), (5, .int r21), (0, .ref (ad 0)), (1, .int o), (2, .int lo), (3, .int hi), (4, .int q)]) hx hb d_M_mint_166 hl (by decide) rfl (fun ls hl => ?_)
                  refine lv_aload_n hx hb d_M_mint_168 rfl (lv_at hl 5 rfl) ?_
                  refine g_get hx hb ht in_M hown hK hP (0) r_at0 rfl 6 (by decide) rfl (ht _ kw467) (fun _ h9 => h9) (v := .ref (ad 2)) rfl d_M_mint_169 ?_
                  refine lv_iconst (v := (2 : Int32)) hx hb d_M_mint_172 (by decide) ?_
                  refine lv_iload_n hx hb d_M_mint_173 rfl (lv_at hl 6 rfl) ?_
                  refine lv_imul hx hb d_M_mint_174 ?_
                  obtain ⟨hs44, hQ⟩ := hQ
                  refine g_lald hx hb hK hP (2) r_at2 rfl (hs44) (j := ((2 : Int32) * o).toNatClampNeg) (rfl) d_M_mint_175 ?_
                  refine lv_lload hx hb d_M_mint_176 (lv_at hl 1 rfl) ?_
                  refine W.lcmp hx hb d_M_mint_178 ?_
                  refine lv_if_lt (tgt := 198) hx hb d_M_mint_179 (by decide) (fun c45 => ?_) (fun c45 => ?_)
                  ·
                    have c45 : (σ.2 2 (((2 : Int32) * o).toNatClampNeg)) < r37 := (lg_cmp_lt _ _).mp c45
                    have hF : f_M_mint σ o lo hi q = f_M_mint_198_46 σ o lo hi q r3 r10 r21 b26 b27 r37 r41 := hF.trans (if_pos c45)
                    have hQ : k_M_mint_198_46 σ o lo hi q r3 r10 r21 b26 b27 r37 r41 := Eq.mp (if_pos c45) hQ
                    refine lv_ldc2 (v := (-5 : Int64)) hx hb hown (ht _ kw598) d_M_mint_198 ?_
                    exact W.lret (v := (-5 : Int64)) hx hb hr (fun t hh hW => ⟨⟨(-5 : Int64), σ, rfl, hF.symm, by show va_P (dC, dI) cls (g_w r_sh dA ad σ) t.heap; rw [hh]; exact hP⟩, hS.F hh⟩) hS.2.2 d_M_mint_201
                  ·
                    have c45 : ¬ ((σ.2 2 (((2 : Int32) * o).toNatClampNeg)) < r37) := mt (lg_cmp_lt _ _).mpr c45
                    have hF : f_M_mint σ o lo hi q = f_M_mint_182_47 σ o lo hi q r3 r10 r21 b26 b27 r37 r41 := hF.trans (if_neg c45)
                    have hQ : k_M_mint_182_47 σ o lo hi q r3 r10 r21 b26 b27 r37 r41 := Eq.mp (if_neg c45) hQ
                    refine lv_aload_n hx hb d_M_mint_182 rfl (lv_at hl 5 rfl) ?_
                    refine g_get hx hb ht in_M hown hK hP (0) r_at0 rfl 6 (by decide) rfl (ht _ kw467) (fun _ h9 => h9) (v := .ref (ad 2)) rfl d_M_mint_183 ?_
                    refine lv_iconst (v := (2 : Int32)) hx hb d_M_mint_186 (by decide) ?_
                    refine lv_iload_n hx hb d_M_mint_187 rfl (lv_at hl 6 rfl) ?_
                    refine lv_imul hx hb d_M_mint_188 ?_
                    refine lv_iconst (v := (1 : Int32)) hx hb d_M_mint_189 (by decide) ?_
                    refine lv_iadd hx hb d_M_mint_190 ?_
                    obtain ⟨hs48, hQ⟩ := hQ
                    refine g_lald hx hb hK hP (2) r_at2 rfl (hs48) (j := (((2 : Int32) * o) + (1 : Int32)).toNatClampNeg) (rfl) d_M_mint_191 ?_
                    refine lv_lload hx hb d_M_mint_192 (lv_at hl 0 rfl) ?_
                    refine W.lcmp hx hb d_M_mint_194 ?_
                    refine lv_if_ge (tgt := 202) hx hb d_M_mint_195 (by decide) (fun c49 => ?_) (fun c49 => ?_)
                    ·
                      have c49 : r41 ≤ (σ.2 2 ((((2 : Int32) * o) + (1 : Int32)).toNatClampNeg)) := (lg_cmp_ge _ _).mp c49
                      have hF : f_M_mint σ o lo hi q = f_M_mint_202_50 σ o lo hi q r3 r10 r21 b26 b27 r37 r41 := hF.trans (if_pos c49)
                      have hQ : k_M_mint_202_50 σ o lo hi q r3 r10 r21 b26 b27 r37 r41 := Eq.mp (if_pos c49) hQ
                      refine lv_aload_n hx hb d_M_mint_202 rfl (lv_at hl 5 rfl) ?_
                      obtain ⟨hs51, hQ⟩ := hQ
                      refine g_cWv (va_runV (As := []) (rest := []) ⟨hx, hb, hml, hown, ht⟩ (c_M_note l dC dI dA ad s.heap.size σ hs51) (cwV 0 ht gc_M_96 rfl rfl rfl (by decide +kernel) ⟨Nat.le_of_ble_eq_true rfl, Nat.le_of_ble_eq_true rfl⟩) (g_pV (g_prW r_Zok hK hP hD hS hA hz _) (g_rc hK hP (0) r_at0 rfl)) rfl rfl hl.1 rfl (lv_room (Nat.le_of_ble_eq_true rfl)) d_M_mint_203 ⟨Nat.le_of_ble_eq_true rfl, Nat.le_of_ble_eq_true rfl⟩) hD hS hA (fun τ54 H locs e53 hP hD hS => ?_)
                      have hF : f_M_mint σ o lo hi q = f_M_mint_203_55 σ o lo hi q r3 r10 r21 b26 b27 r37 r41 τ54 := hF.trans (by rw [e53]; try rfl)
                      have hQ : k_M_mint_203_55 σ o lo hi q r3 r10 r21 b26 b27 r37 r41 τ54 := by rw [e53]; exact hQ
                      refine lv_iload hx hb d_M_mint_206 (lv_at hl 4 rfl) ?_
                      obtain ⟨hT61, hQ⟩ := hQ
                      have J299_58 : ∀ (x56 : Int32) (τ57 : g_S) (ls : Array Slot) (H : Heap) (locs : List Loc), x56 = (if 0 ≤ r21 then r21 else b27) → τ57 = (if 0 ≤ r21 then τ54 else g_L (g_L (g_L (g_L (g_L (g_I (g_I (g_I (g_I τ54 4 b27.toNatClampNeg (1 : Int32)) 5 b27.toNatClampNeg o) 6 b27.toNatClampNeg lo) 7 b27.toNatClampNeg hi) 8 b27.toNatClampNeg (0 : Int64)) 9 (((2 : Int32) * b27).toNatClampNeg) (0 : Int64)) 9 ((((2 : Int32) * b27) + (1 : Int32)).toNatClampNeg) (0 : Int64)) 10 (((2 : Int32) * b27).toNatClampNeg) (0 : Int64)) 10 ((((2 : Int32) * b27) + (1 : Int32)).toNatClampNeg) (0 : Int64)) → lv_has ls 13 [(11, .long r41), (9, .long r37), (5, .int x56), (0, .ref (ad 0)), (1, .int o), (4, .int q)] → va_P (dC, dI) cls (g_w r_sh dA ad τ57) H → va_D A (g_w r_sh dA ad τ57) → va_S A s.heap H locs → W p l e (headSpec w_M_mint ({ frames := 3, cells := 0, slots := 0, locals := 75 })).room s m ([.ref (ad 0), .int o, .int lo, .int hi, .int q] : List Value).toArray below meth c H locs 0 0 (MQ below (va_Ql (fun r τ => (r, τ) = f_M_mint σ o lo hi q) (fun τ t => va_P (dC, dI) cls (g_w r_sh dA ad τ) t.heap) A) ([.ref (ad 0), .int o, .int lo, .int hi, .int q] : List Value).toArray s 0 0 A) (F0 m 299 ls []) := by
                        intro x56 τ57 ls H locs e59 e60 hl hP hD hS
                        have hF : f_M_mint σ o lo hi q = f_M_mint_299_62 σ o lo hi q r3 r10 r21 b26 b27 r37 r41 τ54 x56 τ57 := hF.trans (by rw [e59, e60]; try rfl)
                        have hQ : k_M_mint_299_62 σ o lo hi q r3 r10 r21 b26 b27 r37 r41 τ54 x56 τ57 := by rw [e59, e60]; exact hQ
                        refine lv_aload_n hx hb d_M_mint_299 rfl (lv_at hl 3 rfl) ?_
                        refine lv_iload hx hb d_M_mint_300 (lv_at hl 2 rfl) ?_
                        obtain ⟨hs63, hQ⟩ := hQ
                        refine g_cWv (va_runV (As := [.int x56]) (rest := []) ⟨hx, hb, hml, hown, ht⟩ (c_M_settle l dC dI dA ad H.size τ57 x56 hs63) (cwV 1 ht gc_M_138 rfl rfl rfl (by decide +kernel) ⟨Nat.le_of_ble_eq_true rfl, Nat.le_of_ble_eq_true rfl⟩) (g_pV (g_prW r_Zok hK hP hD hS hA hz _) (g_rc hK hP (0) r_at0 rfl)) rfl rfl hl.1 rfl (lv_room (Nat.le_of_ble_eq_true rfl)) d_M_mint_302 ⟨Nat.le_of_ble_eq_true rfl, Nat.le_of_ble_eq_true rfl⟩) hD hS hA (fun τ66 H locs e65 hP hD hS => ?_)
                        have hF : f_M_mint σ o lo hi q = f_M_mint_302_67 σ o lo hi q r3 r10 r21 b26 b27 r37 r41 τ54 x56 τ57 τ66 := hF.trans (by rw [e65]; try rfl)
                        have hQ : k_M_mint_302_67 σ o lo hi q r3 r10 r21 b26 b27 r37 r41 τ54 x56 τ57 τ66 := by rw [e65]; exact hQ
                        refine lv_aload_n hx hb d_M_mint_305 rfl (lv_at hl 3 rfl) ?_
                        refine g_get hx hb ht in_M hown hK hP (0) r_at0 rfl 12 (by decide) rfl (ht _ kw473) (fun _ h9 => h9) (v := .ref (ad 8)) rfl d_M_mint_306 ?_
                        refine lv_iload hx hb d_M_mint_309 (lv_at hl 2 rfl) ?_
                        refine lv_dup2_11 hx hb d_M_mint_311 rfl rfl ?_
                        obtain ⟨hs68, hQ⟩ := hQ
                        refine g_lald hx hb hK hP (8) r_at8 rfl (hs68) (j := x56.toNatClampNeg) (rfl) d_M_mint_312 ?_
                        refine lv_iload hx hb d_M_mint_313 (lv_at hl 5 rfl) ?_
                        refine lv_i2l (v := q.toInt64) hx hb d_M_mint_315 rfl ?_
                        refine lv_ladd hx hb d_M_mint_316 ?_
                        obtain ⟨hs69, hQ⟩ := hQ
                        refine g_last (x := (τ66.2 8 x56.toNatClampNeg) + q.toInt64) hx hb hK hP hD hS (8) r_at8 rfl (hs69) (j := x56.toNatClampNeg) (rfl) d_M_mint_317 (fun H locs hP hD hS => ?_)
                        refine lv_aload_n hx hb d_M_mint_318 rfl (lv_at hl 3 rfl) ?_
                        refine lv_iload_n hx hb d_M_mint_319 rfl (lv_at hl 4 rfl) ?_
                        refine lv_lload hx hb d_M_mint_320 (lv_at hl 1 rfl) ?_
                        refine lv_lload hx hb d_M_mint_322 (lv_at hl 0 rfl) ?_
                        obtain ⟨hs70, hQ⟩ := hQ
                        refine g_cWv (va_runV (As := [.int o, .long r37, .long r41]) (rest := []) ⟨hx, hb, hml, hown, ht⟩ (c_M_pay l dC dI dA ad H.size (g_L τ66 8 x56.toNatClampNeg ((τ66.2 8 x56.toNatClampNeg) + q.toInt64)) o r37 r41 hs70) (cwV 3 ht gc_M_142 rfl rfl rfl (by decide +kernel) ⟨Nat.le_of_ble_eq_true rfl, Nat.le_of_ble_eq_true rfl⟩) (g_pV (g_prW r_Zok hK hP hD hS hA hz _) (g_rc hK hP (0) r_at0 rfl)) rfl rfl hl.1 rfl (lv_room (Nat.le_of_ble_eq_true rfl)) d_M_mint_324 ⟨Nat.le_of_ble_eq_true rfl, Nat.le_of_ble_eq_true rfl⟩) hD hS hA (fun τ73 H locs e72 hP hD hS => ?_)
                        have hF : f_M_mint σ o lo hi q = f_M_mint_324_74 σ o lo hi q r3 r10 r21 b26 b27 r37 r41 τ54 x56 τ57 τ66 τ73 := hF.trans (by rw [e72]; try rfl)
                        have hQ : k_M_mint_324_74 σ o lo hi q r3 r10 r21 b26 b27 r37 r41 τ54 x56 τ57 τ66 τ73 := by rw [e72]; exact hQ
                        refine lv_lload hx hb d_M_mint_327 (lv_at hl 1 rfl) ?_
                        refine lv_ldc2 (v := (4294967296 : Int64)) hx hb hown (ht _ kw603) d_M_mint_329 ?_
                        refine lv_lmul hx hb d_M_mint_332 ?_
                        refine lv_lload hx hb d_M_mint_333 (lv_at hl 0 rfl) ?_
                        refine lv_ladd hx hb d_M_mint_335 ?_
                        exact W.lret (v := (r37 * (4294967296 : Int64)) + r41) hx hb hr (fun t hh hW => ⟨⟨(r37 * (4294967296 : Int64)) + r41, τ73, rfl, hF.symm, by show va_P (dC, dI) cls (g_w r_sh dA ad τ73) t.heap; rw [hh]; exact hP⟩, hS.F hh⟩) hS.2.2 d_M_mint_336
                      refine lv_if_ge (tgt := 299) hx hb d_M_mint_208 (by decide) (fun c75 => ?_) (fun c75 => ?_)
                      ·
                        have c75 : 0 ≤ r21 := c75
                        have hT61 := Eq.mp (if_pos c75) hT61
                        exact J299_58 r21 τ54 ls H locs (if_pos c75).symm (if_pos c75).symm (lv_sub hl [0, 1, 4, 5, 6, 9] rfl) hP hD hS
                      ·
                        have c75 : ¬ (0 ≤ r21) := c75
                        have hT61 := Eq.mp (if_neg c75) hT61
                        refine lv_iload hx hb d_M_mint_211 (lv_at hl 3 rfl) ?_
                        refine lv_istore (lv' := [(5, .int b27), (11, .long r41), (9, .long r37), (7, .long b26), (6, .int b27), (0, .ref (ad 0)), (1, .int o), (2, .int lo), (3, .int hi), (4, .int q)]) hx hb d_M_mint_213 hl (by decide) rfl (fun ls hl => ?_)
                        refine lv_aload_n hx hb d_M_mint_215 rfl (lv_at hl 5 rfl) ?_
                        refine g_get hx hb ht in_M hown hK hP (0) r_at0 rfl 8 (by decide) rfl (ht _ kw469) (fun _ h9 => h9) (v := .ref (ad 4)) rfl d_M_mint_216 ?_
                        refine lv_iload hx hb d_M_mint_219 (lv_at hl 0 rfl) ?_
                        refine lv_iconst (v := (1 : Int32)) hx hb d_M_mint_221 (by decide) ?_
                        obtain ⟨hs76, hT61⟩ := hT61
                        refine g_zast (x := (1 : Int32)) hx hb hK hP hD hS (4) r_at4 rfl (g_narv (by decide)) (hs76) (j := b27.toNatClampNeg) (rfl) d_M_mint_222 (fun H locs hP hD hS => ?_)
                        refine lv_aload_n hx hb d_M_mint_223 rfl (lv_at hl 5 rfl) ?_
                        refine g_get hx hb ht in_M hown hK hP (0) r_at0 rfl 9 (by decide) rfl (ht _ kw470) (fun _ h9 => h9) (v := .ref (ad 5)) rfl d_M_mint_224 ?_
                        refine lv_iload hx hb d_M_mint_227 (lv_at hl 0 rfl) ?_
                        refine lv_iload_n hx hb d_M_mint_229 rfl (lv_at hl 6 rfl) ?_
                        obtain ⟨hs77, hT61⟩ := hT61
                        refine g_iast (x := o) hx hb hK hP hD hS (5) r_at5 rfl (hs77) (j := b27.toNatClampNeg) (rfl) d_M_mint_230 (fun H locs hP hD hS => ?_)
                        refine lv_aload_n hx hb d_M_mint_231 rfl (lv_at hl 5 rfl) ?_
                        refine g_get hx hb ht in_M hown hK hP (0) r_at0 rfl 10 (by decide) rfl (ht _ kw471) (fun _ h9 => h9) (v := .ref (ad 6)) rfl d_M_mint_232 ?_
                        refine lv_iload hx hb d_M_mint_235 (lv_at hl 0 rfl) ?_
                        refine lv_iload_n hx hb d_M_mint_237 rfl (lv_at hl 7 rfl) ?_
                        obtain ⟨hs78, hT61⟩ := hT61
                        refine g_iast (x := lo) hx hb hK hP hD hS (6) r_at6 rfl (hs78) (j := b27.toNatClampNeg) (rfl) d_M_mint_238 (fun H locs hP hD hS => ?_)
                        refine lv_aload_n hx hb d_M_mint_239 rfl (lv_at hl 5 rfl) ?_
                        refine g_get hx hb ht in_M hown hK hP (0) r_at0 rfl 11 (by decide) rfl (ht _ kw472) (fun _ h9 => h9) (v := .ref (ad 7)) rfl d_M_mint_240 ?_
                        refine lv_iload hx hb d_M_mint_243 (lv_at hl 0 rfl) ?_
                        refine lv_iload_n hx hb d_M_mint_245 rfl (lv_at hl 8 rfl) ?_
                        obtain ⟨hs79, hT61⟩ := hT61
                        refine g_iast (x := hi) hx hb hK hP hD hS (7) r_at7 rfl (hs79) (j := b27.toNatClampNeg) (rfl) d_M_mint_246 (fun H locs hP hD hS => ?_)
                        refine lv_aload_n hx hb d_M_mint_247 rfl (lv_at hl 5 rfl) ?_
                        refine g_get hx hb ht in_M hown hK hP (0) r_at0 rfl 12 (by decide) rfl (ht _ kw473) (fun _ h9 => h9) (v := .ref (ad 8)) rfl d_M_mint_248 ?_
                        refine lv_iload hx hb d_M_mint_251 (lv_at hl 0 rfl) ?_
                        refine lv_lconst (v := (0 : Int64)) hx hb d_M_mint_253 (by decide) ?_
                        obtain ⟨hs80, hT61⟩ := hT61
                        refine g_last (x := (0 : Int64)) hx hb hK hP hD hS (8) r_at8 rfl (hs80) (j := b27.toNatClampNeg) (rfl) d_M_mint_254 (fun H locs hP hD hS => ?_)
                        refine lv_aload_n hx hb d_M_mint_255 rfl (lv_at hl 5 rfl) ?_
                        refine g_get hx hb ht in_M hown hK hP (0) r_at0 rfl 13 (by decide) rfl (ht _ kw474) (fun _ h9 => h9) (v := .ref (ad 9)) rfl d_M_mint_256 ?_
                        refine lv_iconst (v := (2 : Int32)) hx hb d_M_mint_259 (by decide) ?_
                        refine lv_iload hx hb d_M_mint_260 (lv_at hl 0 rfl) ?_
                        refine lv_imul hx hb d_M_mint_262 ?_
                        refine lv_lconst (v := (0 : Int64)) hx hb d_M_mint_263 (by decide) ?_
                        obtain ⟨hs81, hT61⟩ := hT61
                        refine g_last (x := (0 : Int64)) hx hb hK hP hD hS (9) r_at9 rfl (hs81) (j := ((2 : Int32) * b27).toNatClampNeg) (rfl) d_M_mint_264 (fun H locs hP hD hS => ?_)
                        refine lv_aload_n hx hb d_M_mint_265 rfl (lv_at hl 5 rfl) ?_
                        refine g_get hx hb ht in_M hown hK hP (0) r_at0 rfl 13 (by decide) rfl (ht _ kw474) (fun _ h9 => h9) (v := .ref (ad 9)) rfl d_M_mint_266 ?_
                        refine lv_iconst (v := (2 : Int32)) hx hb d_M_mint_269 (by decide) ?_
                        refine lv_iload hx hb d_M_mint_270 (lv_at hl 0 rfl) ?_
                        refine lv_imul hx hb d_M_mint_272 ?_
                        refine lv_iconst (v := (1 : Int32)) hx hb d_M_mint_273 (by decide) ?_
                        refine lv_iadd hx hb d_M_mint_274 ?_
                        refine lv_lconst (v := (0 : Int64)) hx hb d_M_mint_275 (by decide) ?_
                        obtain ⟨hs82, hT61⟩ := hT61
                        refine g_last (x := (0 : Int64)) hx hb hK hP hD hS (9) r_at9 rfl (hs82) (j := (((2 : Int32) * b27) + (1 : Int32)).toNatClampNeg) (rfl) d_M_mint_276 (fun H locs hP hD hS => ?_)
                        refine lv_aload_n hx hb d_M_mint_277 rfl (lv_at hl 5 rfl) ?_
                        refine g_get hx hb ht in_M hown hK hP (0) r_at0 rfl 14 (by decide) rfl (ht _ kw475) (fun _ h9 => h9) (v := .ref (ad 10)) rfl d_M_mint_278 ?_
                        refine lv_iconst (v := (2 : Int32)) hx hb d_M_mint_281 (by decide) ?_
                        refine lv_iload hx hb d_M_mint_282 (lv_at hl 0 rfl) ?_
                        refine lv_imul hx hb d_M_mint_284 ?_
                        refine lv_lconst (v := (0 : Int64)) hx hb d_M_mint_285 (by decide) ?_
                        obtain ⟨hs83, hT61⟩ := hT61
                        refine g_last (x := (0 : Int64)) hx hb hK hP hD hS (10) r_at10 rfl (hs83) (j := ((2 : Int32) * b27).toNatClampNeg) (rfl) d_M_mint_286 (fun H locs hP hD hS => ?_)
                        refine lv_aload_n hx hb d_M_mint_287 rfl (lv_at hl 5 rfl) ?_
                        refine g_get hx hb ht in_M hown hK hP (0) r_at0 rfl 14 (by decide) rfl (ht _ kw475) (fun _ h9 => h9) (v := .ref (ad 10)) rfl d_M_mint_288 ?_
                        refine lv_iconst (v := (2 : Int32)) hx hb d_M_mint_291 (by decide) ?_
                        refine lv_iload hx hb d_M_mint_292 (lv_at hl 0 rfl) ?_
                        refine lv_imul hx hb d_M_mint_294 ?_
                        refine lv_iconst (v := (1 : Int32)) hx hb d_M_mint_295 (by decide) ?_
                        refine lv_iadd hx hb d_M_mint_296 ?_
                        refine lv_lconst (v := (0 : Int64)) hx hb d_M_mint_297 (by decide) ?_
                        obtain ⟨hs84, hT61⟩ := hT61
                        refine g_last (x := (0 : Int64)) hx hb hK hP hD hS (10) r_at10 rfl (hs84) (j := (((2 : Int32) * b27) + (1 : Int32)).toNatClampNeg) (rfl) d_M_mint_298 (fun H locs hP hD hS => ?_)
                        exact J299_58 b27 (g_L (g_L (g_L (g_L (g_L (g_I (g_I (g_I (g_I τ54 4 b27.toNatClampNeg (1 : Int32)) 5 b27.toNatClampNeg o) 6 b27.toNatClampNeg lo) 7 b27.toNatClampNeg hi) 8 b27.toNatClampNeg (0 : Int64)) 9 (((2 : Int32) * b27).toNatClampNeg) (0 : Int64)) 9 ((((2 : Int32) * b27) + (1 : Int32)).toNatClampNeg) (0 : Int64)) 10 (((2 : Int32) * b27).toNatClampNeg) (0 : Int64)) 10 ((((2 : Int32) * b27) + (1 : Int32)).toNatClampNeg) (0 : Int64)) ls H locs (if_neg c75).symm (if_neg c75).symm (lv_sub hl [1, 2, 0, 5, 6, 9] rfl) hP hD hS
                    ·
                      have c49 : ¬ (r41 ≤ (σ.2 2 ((((2 : Int32) * o) + (1 : Int32)).toNatClampNeg))) := mt (lg_cmp_ge _ _).mpr c49
                      have hF : f_M_mint σ o lo hi q = f_M_mint_198_85 σ o lo hi q r3 r10 r21 b26 b27 r37 r41 := hF.trans (if_neg c49)
                      have hQ : k_M_mint_198_85 σ o lo hi q r3 r10 r21 b26 b27 r37 r41 := Eq.mp (if_neg c49) hQ
                      refine lv_ldc2 (v := (-5 : Int64)) hx hb hown (ht _ kw598) d_M_mint_198 ?_
                      exact W.lret (v := (-5 : Int64)) hx hb hr (fun t hh hW => ⟨⟨(-5 : Int64), σ, rfl, hF.symm, by show va_P (dC, dI) cls (g_w r_sh dA ad σ) t.heap; rw [hh]; exact hP⟩, hS.F hh⟩) hS.2.2 d_M_mint_201
                ·
                  have c34 : ¬ (b26 ≤ (1000000 : Int64)) := mt (lg_cmp_le _ _).mpr c34
                  have hF : f_M_mint σ o lo hi q = f_M_mint_140_86 σ o lo hi q r3 r10 r21 b26 b27 := hF.trans (if_neg c34)
                  have hQ : k_M_mint_140_86 σ o lo hi q r3 r10 r21 b26 b27 := Eq.mp (if_neg c34) hQ
                  refine lv_ldc2 (v := (-4 : Int64)) hx hb hown (ht _ kw580) d_M_mint_140 ?_
                  exact W.lret (v := (-4 : Int64)) hx hb hr (fun t hh hW => ⟨⟨(-4 : Int64), σ, rfl, hF.symm, by show va_P (dC, dI) cls (g_w r_sh dA ad σ) t.heap; rw [hh]; exact hP⟩, hS.F hh⟩) hS.2.2 d_M_mint_143
              ·
                have c32 : ¬ (0 ≤ r21) := c32
                have hF : f_M_mint σ o lo hi q = f_M_mint_126_87 σ o lo hi q r3 r10 r21 b26 b27 := hF.trans (if_neg c32)
                have hQ : k_M_mint_126_87 σ o lo hi q r3 r10 r21 b26 b27 := Eq.mp (if_neg c32) hQ
                refine lv_iload hx hb d_M_mint_126 (lv_at hl 1 rfl) ?_
                refine lv_if_lt (tgt := 140) hx hb d_M_mint_128 (by decide) (fun c88 => ?_) (fun c88 => ?_)
                ·
                  have c88 : b27 < 0 := c88
                  have hF : f_M_mint σ o lo hi q = f_M_mint_140_89 σ o lo hi q r3 r10 r21 b26 b27 := hF.trans (if_pos c88)
                  have hQ : k_M_mint_140_89 σ o lo hi q r3 r10 r21 b26 b27 := Eq.mp (if_pos c88) hQ
                  refine lv_ldc2 (v := (-4 : Int64)) hx hb hown (ht _ kw580) d_M_mint_140 ?_
                  exact W.lret (v := (-4 : Int64)) hx hb hr (fun t hh hW => ⟨⟨(-4 : Int64), σ, rfl, hF.symm, by show va_P (dC, dI) cls (g_w r_sh dA ad σ) t.heap; rw [hh]; exact hP⟩, hS.F hh⟩) hS.2.2 d_M_mint_143
                ·
                  have c88 : ¬ (b27 < 0) := c88
                  have hF : f_M_mint σ o lo hi q = f_M_mint_131_90 σ o lo hi q r3 r10 r21 b26 b27 := hF.trans (if_neg c88)
                  have hQ : k_M_mint_131_90 σ o lo hi q r3 r10 r21 b26 b27 := Eq.mp (if_neg c88) hQ
                  refine lv_lload hx hb d_M_mint_131 (lv_at hl 0 rfl) ?_
                  refine lv_ldc2 (v := (1000000 : Int64)) hx hb hown (ht _ kw579) d_M_mint_133 ?_
                  refine W.lcmp hx hb d_M_mint_136 ?_
                  refine lv_if_le (tgt := 144) hx hb d_M_mint_137 (by decide) (fun c91 => ?_) (fun c91 => ?_)
                  ·
                    have c91 : b26 ≤ (1000000 : Int64) := (lg_cmp_le _ _).mp c91
                    have hF : f_M_mint σ o lo hi q = f_M_mint_144_92 σ o lo hi q r3 r10 r21 b26 b27 := hF.trans (if_pos c91)
                    have hQ : k_M_mint_144_92 σ o lo hi q r3 r10 r21 b26 b27 := Eq.mp (if_pos c91) hQ
                    refine lv_aload_n hx hb d_M_mint_144 rfl (lv_at hl 3 rfl) ?_
                    refine lv_iload_n hx hb d_M_mint_145 rfl (lv_at hl 5 rfl) ?_
                    refine lv_iload_n hx hb d_M_mint_146 rfl (lv_at hl 6 rfl) ?_
                    refine lv_iload hx hb d_M_mint_147 (lv_at hl 7 rfl) ?_
                    refine lv_i2l (v := q.toInt64) hx hb d_M_mint_149 rfl ?_
                    refine lv_iconst (v := (1 : Int32)) hx hb d_M_mint_150 (by decide) ?_
                    obtain ⟨hs93, hQ⟩ := hQ
                    refine g_cSl (va_runV (As := [.int lo, .int hi, .long q.toInt64, .int (1 : Int32)]) (rest := []) ⟨hx, hb, hml, hown, ht⟩ (c_M_worthZero l dC dI dA ad σ lo hi q.toInt64 (1 : Int32) hs93) (cwV 4 ht gc_M_129 rfl rfl rfl (by decide +kernel) ⟨Nat.le_of_ble_eq_true rfl, Nat.le_of_ble_eq_true rfl⟩) (g_pV (g_prR r_Zok hK hP hS hz _) (g_rc hK hP (0) r_at0 rfl)) rfl rfl hl.1 rfl (lv_room (Nat.le_of_ble_eq_true rfl)) d_M_mint_151 ⟨Nat.le_of_ble_eq_true rfl, Nat.le_of_ble_eq_true rfl⟩) (fun r94 e95 => ?_)
                    have hF : f_M_mint σ o lo hi q = f_M_mint_151_96 σ o lo hi q r3 r10 r21 b26 b27 r94 := hF.trans (by rw [e95]; try rfl)
                    have hQ : k_M_mint_151_96 σ o lo hi q r3 r10 r21 b26 b27 r94 := by rw [e95]; exact hQ
                    refine lv_lstore (lv' := [(9, .long r94), (7, .long b26), (6, .int b27), (5, .int r21), (0, .ref (ad 0)), (1, .int o), (2, .int lo), (3, .int hi), (4, .int q)]) hx hb d_M_mint_154 hl (by decide) rfl (fun ls hl => ?_)
                    refine lv_aload_n hx hb d_M_mint_156 rfl (lv_at hl 4 rfl) ?_
                    refine lv_iload_n hx hb d_M_mint_157 rfl (lv_at hl 6 rfl) ?_
                    refine lv_iload_n hx hb d_M_mint_158 rfl (lv_at hl 7 rfl) ?_
                    refine lv_iload hx hb d_M_mint_159 (lv_at hl 8 rfl) ?_
                    refine lv_i2l (v := q.toInt64) hx hb d_M_mint_161 rfl ?_
                    refine lv_iconst (v := (1 : Int32)) hx hb d_M_mint_162 (by decide) ?_
                    obtain ⟨hs97, hQ⟩ := hQ
                    refine g_cSl (va_runV (As := [.int lo, .int hi, .long q.toInt64, .int (1 : Int32)]) (rest := []) ⟨hx, hb, hml, hown, ht⟩ (c_M_worthOne l dC dI dA ad σ lo hi q.toInt64 (1 : Int32) hs97) (cwV 4 ht gc_M_133 rfl rfl rfl (by decide +kernel) ⟨Nat.le_of_ble_eq_true rfl, Nat.le_of_ble_eq_true rfl⟩) (g_pV (g_prR r_Zok hK hP hS hz _) (g_rc hK hP (0) r_at0 rfl)) rfl rfl hl.1 rfl (lv_room (Nat.le_of_ble_eq_true rfl)) d_M_mint_163 ⟨Nat.le_of_ble_eq_true rfl, Nat.le_of_ble_eq_true rfl⟩) (fun r98 e99 => ?_)
                    have hF : f_M_mint σ o lo hi q = f_M_mint_163_100 σ o lo hi q r3 r10 r21 b26 b27 r94 r98 := hF.trans (by rw [e99]; try rfl)
                    have hQ : k_M_mint_163_100 σ o lo hi q r3 r10 r21 b26 b27 r94 r98 := by rw [e99]; exact hQ
                    refine lv_lstore (lv' := [(11, .long r98), (9, .long r94), (7, .long b26), (6, .int b27), (5, .int r21), (0, .ref (ad 0)), (1, .int o), (2, .int lo), (3, .int hi), (4, .int q)]) hx hb d_M_mint_166 hl (by decide) rfl (fun ls hl => ?_)
                    refine lv_aload_n hx hb d_M_mint_168 rfl (lv_at hl 5 rfl) ?_
                    refine g_get hx hb ht in_M hown hK hP (0) r_at0 rfl 6 (by decide) rfl (ht _ kw467) (fun _ h9 => h9) (v := .ref (ad 2)) rfl d_M_mint_169 ?_
                    refine lv_iconst (v := (2 : Int32)) hx hb d_M_mint_172 (by decide) ?_
                    refine lv_iload_n hx hb d_M_mint_173 rfl (lv_at hl 6 rfl) ?_
                    refine lv_imul hx hb d_M_mint_174 ?_
                    obtain ⟨hs101, hQ⟩ := hQ
                    refine g_lald hx hb hK hP (2) r_at2 rfl (hs101) (j := ((2 : Int32) * o).toNatClampNeg) (rfl) d_M_mint_175 ?_
                    refine lv_lload hx hb d_M_mint_176 (lv_at hl 1 rfl) ?_
                    refine W.lcmp hx hb d_M_mint_178 ?_
                    refine lv_if_lt (tgt := 198) hx hb d_M_mint_179 (by decide) (fun c102 => ?_) (fun c102 => ?_)
                    ·
                      have c102 : (σ.2 2 (((2 : Int32) * o).toNatClampNeg)) < r94 := (lg_cmp_lt _ _).mp c102
                      have hF : f_M_mint σ o lo hi q = f_M_mint_198_103 σ o lo hi q r3 r10 r21 b26 b27 r94 r98 := hF.trans (if_pos c102)
                      have hQ : k_M_mint_198_103 σ o lo hi q r3 r10 r21 b26 b27 r94 r98 := Eq.mp (if_pos c102) hQ
                      refine lv_ldc2 (v := (-5 : Int64)) hx hb hown (ht _ kw598) d_M_mint_198 ?_
                      exact W.lret (v := (-5 : Int64)) hx hb hr (fun t hh hW => ⟨⟨(-5 : Int64), σ, rfl, hF.symm, by show va_P (dC, dI) cls (g_w r_sh dA ad σ) t.heap; rw [hh]; exact hP⟩, hS.F hh⟩) hS.2.2 d_M_mint_201
                    ·
                      have c102 : ¬ ((σ.2 2 (((2 : Int32) * o).toNatClampNeg)) < r94) := mt (lg_cmp_lt _ _).mpr c102
                      have hF : f_M_mint σ o lo hi q = f_M_mint_182_104 σ o lo hi q r3 r10 r21 b26 b27 r94 r98 := hF.trans (if_neg c102)
                      have hQ : k_M_mint_182_104 σ o lo hi q r3 r10 r21 b26 b27 r94 r98 := Eq.mp (if_neg c102) hQ
                      refine lv_aload_n hx hb d_M_mint_182 rfl (lv_at hl 5 rfl) ?_
                      refine g_get hx hb ht in_M hown hK hP (0) r_at0 rfl 6 (by decide) rfl (ht _ kw467) (fun _ h9 => h9) (v := .ref (ad 2)) rfl d_M_mint_183 ?_
                      refine lv_iconst (v := (2 : Int32)) hx hb d_M_mint_186 (by decide) ?_
                      refine lv_iload_n hx hb d_M_mint_187 rfl (lv_at hl 6 rfl) ?_
                      refine lv_imul hx hb d_M_mint_188 ?_
                      refine lv_iconst (v := (1 : Int32)) hx hb d_M_mint_189 (by decide) ?_
                      refine lv_iadd hx hb d_M_mint_190 ?_
                      obtain ⟨hs105, hQ⟩ := hQ
                      refine g_lald hx hb hK hP (2) r_at2 rfl (hs105) (j := (((2 : Int32) * o) + (1 : Int32)).toNatClampNeg) (rfl) d_M_mint_191 ?_
                      refine lv_lload hx hb d_M_mint_192 (lv_at hl 0 rfl) ?_
                      refine W.lcmp hx hb d_M_mint_194 ?_
                      refine lv_if_ge (tgt := 202) hx hb d_M_mint_195 (by decide) (fun c106 => ?_) (fun c106 => ?_)
                      ·
                        have c106 : r98 ≤ (σ.2 2 ((((2 : Int32) * o) + (1 : Int32)).toNatClampNeg)) := (lg_cmp_ge _ _).mp c106
                        have hF : f_M_mint σ o lo hi q = f_M_mint_202_107 σ o lo hi q r3 r10 r21 b26 b27 r94 r98 := hF.trans (if_pos c106)
                        have hQ : k_M_mint_202_107 σ o lo hi q r3 r10 r21 b26 b27 r94 r98 := Eq.mp (if_pos c106) hQ
                        refine lv_aload_n hx hb d_M_mint_202 rfl (lv_at hl 5 rfl) ?_
                        obtain ⟨hs108, hQ⟩ := hQ
                        refine g_cWv (va_runV (As := []) (rest := []) ⟨hx, hb, hml, hown, ht⟩ (c_M_note l dC dI dA ad s.heap.size σ hs108) (cwV 0 ht gc_M_96 rfl rfl rfl (by decide +kernel) ⟨Nat.le_of_ble_eq_true rfl, Nat.le_of_ble_eq_true rfl⟩) (g_pV (g_prW r_Zok hK hP hD hS hA hz _) (g_rc hK hP (0) r_at0 rfl)) rfl rfl hl.1 rfl (lv_room (Nat.le_of_ble_eq_true rfl)) d_M_mint_203 ⟨Nat.le_of_ble_eq_true rfl, Nat.le_of_ble_eq_true rfl⟩) hD hS hA (fun τ111 H locs e110 hP hD hS => ?_)
                        have hF : f_M_mint σ o lo hi q = f_M_mint_203_112 σ o lo hi q r3 r10 r21 b26 b27 r94 r98 τ111 := hF.trans (by rw [e110]; try rfl)
                        have hQ : k_M_mint_203_112 σ o lo hi q r3 r10 r21 b26 b27 r94 r98 τ111 := by rw [e110]; exact hQ
                        refine lv_iload hx hb d_M_mint_206 (lv_at hl 4 rfl) ?_
                        obtain ⟨hT118, hQ⟩ := hQ
                        have J299_115 : ∀ (x113 : Int32) (τ114 : g_S) (ls : Array Slot) (H : Heap) (locs : List Loc), x113 = (if 0 ≤ r21 then r21 else b27) → τ114 = (if 0 ≤ r21 then τ111 else g_L (g_L (g_L (g_L (g_L (g_I (g_I (g_I (g_I τ111 4 b27.toNatClampNeg (1 : Int32)) 5 b27.toNatClampNeg o) 6 b27.toNatClampNeg lo) 7 b27.toNatClampNeg hi) 8 b27.toNatClampNeg (0 : Int64)) 9 (((2 : Int32) * b27).toNatClampNeg) (0 : Int64)) 9 ((((2 : Int32) * b27) + (1 : Int32)).toNatClampNeg) (0 : Int64)) 10 (((2 : Int32) * b27).toNatClampNeg) (0 : Int64)) 10 ((((2 : Int32) * b27) + (1 : Int32)).toNatClampNeg) (0 : Int64)) → lv_has ls 13 [(11, .long r98), (9, .long r94), (5, .int x113), (0, .ref (ad 0)), (1, .int o), (4, .int q)] → va_P (dC, dI) cls (g_w r_sh dA ad τ114) H → va_D A (g_w r_sh dA ad τ114) → va_S A s.heap H locs → W p l e (headSpec w_M_mint ({ frames := 3, cells := 0, slots := 0, locals := 75 })).room s m ([.ref (ad 0), .int o, .int lo, .int hi, .int q] : List Value).toArray below meth c H locs 0 0 (MQ below (va_Ql (fun r τ => (r, τ) = f_M_mint σ o lo hi q) (fun τ t => va_P (dC, dI) cls (g_w r_sh dA ad τ) t.heap) A) ([.ref (ad 0), .int o, .int lo, .int hi, .int q] : List Value).toArray s 0 0 A) (F0 m 299 ls []) := by
                          intro x113 τ114 ls H locs e116 e117 hl hP hD hS
                          have hF : f_M_mint σ o lo hi q = f_M_mint_299_119 σ o lo hi q r3 r10 r21 b26 b27 r94 r98 τ111 x113 τ114 := hF.trans (by rw [e116, e117]; try rfl)
                          have hQ : k_M_mint_299_119 σ o lo hi q r3 r10 r21 b26 b27 r94 r98 τ111 x113 τ114 := by rw [e116, e117]; exact hQ
                          refine lv_aload_n hx hb d_M_mint_299 rfl (lv_at hl 3 rfl) ?_
                          refine lv_iload hx hb d_M_mint_300 (lv_at hl 2 rfl) ?_
                          obtain ⟨hs120, hQ⟩ := hQ
                          refine g_cWv (va_runV (As := [.int x113]) (rest := []) ⟨hx, hb, hml, hown, ht⟩ (c_M_settle l dC dI dA ad H.size τ114 x113 hs120) (cwV 1 ht gc_M_138 rfl rfl rfl (by decide +kernel) ⟨Nat.le_of_ble_eq_true rfl, Nat.le_of_ble_eq_true rfl⟩) (g_pV (g_prW r_Zok hK hP hD hS hA hz _) (g_rc hK hP (0) r_at0 rfl)) rfl rfl hl.1 rfl (lv_room (Nat.le_of_ble_eq_true rfl)) d_M_mint_302 ⟨Nat.le_of_ble_eq_true rfl, Nat.le_of_ble_eq_true rfl⟩) hD hS hA (fun τ123 H locs e122 hP hD hS => ?_)
                          have hF : f_M_mint σ o lo hi q = f_M_mint_302_124 σ o lo hi q r3 r10 r21 b26 b27 r94 r98 τ111 x113 τ114 τ123 := hF.trans (by rw [e122]; try rfl)
                          have hQ : k_M_mint_302_124 σ o lo hi q r3 r10 r21 b26 b27 r94 r98 τ111 x113 τ114 τ123 := by rw [e122]; exact hQ
                          refine lv_aload_n hx hb d_M_mint_305 rfl (lv_at hl 3 rfl) ?_
                          refine g_get hx hb ht in_M hown hK hP (0) r_at0 rfl 12 (by decide) rfl (ht _ kw473) (fun _ h9 => h9) (v := .ref (ad 8)) rfl d_M_mint_306 ?_
                          refine lv_iload hx hb d_M_mint_309 (lv_at hl 2 rfl) ?_
                          refine lv_dup2_11 hx hb d_M_mint_311 rfl rfl ?_
                          obtain ⟨hs125, hQ⟩ := hQ
                          refine g_lald hx hb hK hP (8) r_at8 rfl (hs125) (j := x113.toNatClampNeg) (rfl) d_M_mint_312 ?_
                          refine lv_iload hx hb d_M_mint_313 (lv_at hl 5 rfl) ?_
                          refine lv_i2l (v := q.toInt64) hx hb d_M_mint_315 rfl ?_
                          refine lv_ladd hx hb d_M_mint_316 ?_
                          obtain ⟨hs126, hQ⟩ := hQ
                          refine g_last (x := (τ123.2 8 x113.toNatClampNeg) + q.toInt64) hx hb hK hP hD hS (8) r_at8 rfl (hs126) (j := x113.toNatClampNeg) (rfl) d_M_mint_317 (fun H locs hP hD hS => ?_)
                          refine lv_aload_n hx hb d_M_mint_318 rfl (lv_at hl 3 rfl) ?_
                          refine lv_iload_n hx hb d_M_mint_319 rfl (lv_at hl 4 rfl) ?_
                          refine lv_lload hx hb d_M_mint_320 (lv_at hl 1 rfl) ?_
                          refine lv_lload hx hb d_M_mint_322 (lv_at hl 0 rfl) ?_
                          obtain ⟨hs127, hQ⟩ := hQ
                          refine g_cWv (va_runV (As := [.int o, .long r94, .long r98]) (rest := []) ⟨hx, hb, hml, hown, ht⟩ (c_M_pay l dC dI dA ad H.size (g_L τ123 8 x113.toNatClampNeg ((τ123.2 8 x113.toNatClampNeg) + q.toInt64)) o r94 r98 hs127) (cwV 3 ht gc_M_142 rfl rfl rfl (by decide +kernel) ⟨Nat.le_of_ble_eq_true rfl, Nat.le_of_ble_eq_true rfl⟩) (g_pV (g_prW r_Zok hK hP hD hS hA hz _) (g_rc hK hP (0) r_at0 rfl)) rfl rfl hl.1 rfl (lv_room (Nat.le_of_ble_eq_true rfl)) d_M_mint_324 ⟨Nat.le_of_ble_eq_true rfl, Nat.le_of_ble_eq_true rfl⟩) hD hS hA (fun τ130 H locs e129 hP hD hS => ?_)
                          have hF : f_M_mint σ o lo hi q = f_M_mint_324_131 σ o lo hi q r3 r10 r21 b26 b27 r94 r98 τ111 x113 τ114 τ123 τ130 := hF.trans (by rw [e129]; try rfl)
                          have hQ : k_M_mint_324_131 σ o lo hi q r3 r10 r21 b26 b27 r94 r98 τ111 x113 τ114 τ123 τ130 := by rw [e129]; exact hQ
                          refine lv_lload hx hb d_M_mint_327 (lv_at hl 1 rfl) ?_
                          refine lv_ldc2 (v := (4294967296 : Int64)) hx hb hown (ht _ kw603) d_M_mint_329 ?_
                          refine lv_lmul hx hb d_M_mint_332 ?_
                          refine lv_lload hx hb d_M_mint_333 (lv_at hl 0 rfl) ?_
                          refine lv_ladd hx hb d_M_mint_335 ?_
                          exact W.lret (v := (r94 * (4294967296 : Int64)) + r98) hx hb hr (fun t hh hW => ⟨⟨(r94 * (4294967296 : Int64)) + r98, τ130, rfl, hF.symm, by show va_P (dC, dI) cls (g_w r_sh dA ad τ130) t.heap; rw [hh]; exact hP⟩, hS.F hh⟩) hS.2.2 d_M_mint_336
                        refine lv_if_ge (tgt := 299) hx hb d_M_mint_208 (by decide) (fun c132 => ?_) (fun c132 => ?_)
                        ·
                          have c132 : 0 ≤ r21 := c132
                          have hT118 := Eq.mp (if_pos c132) hT118
                          exact J299_115 r21 τ111 ls H locs (if_pos c132).symm (if_pos c132).symm (lv_sub hl [0, 1, 4, 5, 6, 9] rfl) hP hD hS
                        ·
                          have c132 : ¬ (0 ≤ r21) := c132
                          have hT118 := Eq.mp (if_neg c132) hT118
                          refine lv_iload hx hb d_M_mint_211 (lv_at hl 3 rfl) ?_
                          refine lv_istore (lv' := [(5, .int b27), (11, .long r98), (9, .long r94), (7, .long b26), (6, .int b27), (0, .ref (ad 0)), (1, .int o), (2, .int lo), (3, .int hi), (4, .int q)]) hx hb d_M_mint_213 hl (by decide) rfl (fun ls hl => ?_)
                          refine lv_aload_n hx hb d_M_mint_215 rfl (lv_at hl 5 rfl) ?_
                          refine g_get hx hb ht in_M hown hK hP (0) r_at0 rfl 8 (by decide) rfl (ht _ kw469) (fun _ h9 => h9) (v := .ref (ad 4)) rfl d_M_mint_216 ?_
                          refine lv_iload hx hb d_M_mint_219 (lv_at hl 0 rfl) ?_
                          refine lv_iconst (v := (1 : Int32)) hx hb d_M_mint_221 (by decide) ?_
                          obtain ⟨hs133, hT118⟩ := hT118
                          refine g_zast (x := (1 : Int32)) hx hb hK hP hD hS (4) r_at4 rfl (g_narv (by decide)) (hs133) (j := b27.toNatClampNeg) (rfl) d_M_mint_222 (fun H locs hP hD hS => ?_)
                          refine lv_aload_n hx hb d_M_mint_223 rfl (lv_at hl 5 rfl) ?_
                          refine g_get hx hb ht in_M hown hK hP (0) r_at0 rfl 9 (by decide) rfl (ht _ kw470) (fun _ h9 => h9) (v := .ref (ad 5)) rfl d_M_mint_224 ?_
                          refine lv_iload hx hb d_M_mint_227 (lv_at hl 0 rfl) ?_
                          refine lv_iload_n hx hb d_M_mint_229 rfl (lv_at hl 6 rfl) ?_
                          obtain ⟨hs134, hT118⟩ := hT118
                          refine g_iast (x := o) hx hb hK hP hD hS (5) r_at5 rfl (hs134) (j := b27.toNatClampNeg) (rfl) d_M_mint_230 (fun H locs hP hD hS => ?_)
                          refine lv_aload_n hx hb d_M_mint_231 rfl (lv_at hl 5 rfl) ?_
                          refine g_get hx hb ht in_M hown hK hP (0) r_at0 rfl 10 (by decide) rfl (ht _ kw471) (fun _ h9 => h9) (v := .ref (ad 6)) rfl d_M_mint_232 ?_
                          refine lv_iload hx hb d_M_mint_235 (lv_at hl 0 rfl) ?_
                          refine lv_iload_n hx hb d_M_mint_237 rfl (lv_at hl 7 rfl) ?_
                          obtain ⟨hs135, hT118⟩ := hT118
                          refine g_iast (x := lo) hx hb hK hP hD hS (6) r_at6 rfl (hs135) (j := b27.toNatClampNeg) (rfl) d_M_mint_238 (fun H locs hP hD hS => ?_)
                          refine lv_aload_n hx hb d_M_mint_239 rfl (lv_at hl 5 rfl) ?_
                          refine g_get hx hb ht in_M hown hK hP (0) r_at0 rfl 11 (by decide) rfl (ht _ kw472) (fun _ h9 => h9) (v := .ref (ad 7)) rfl d_M_mint_240 ?_
                          refine lv_iload hx hb d_M_mint_243 (lv_at hl 0 rfl) ?_
                          refine lv_iload_n hx hb d_M_mint_245 rfl (lv_at hl 8 rfl) ?_
                          obtain ⟨hs136, hT118⟩ := hT118
                          refine g_iast (x := hi) hx hb hK hP hD hS (7) r_at7 rfl (hs136) (j := b27.toNatClampNeg) (rfl) d_M_mint_246 (fun H locs hP hD hS => ?_)
                          refine lv_aload_n hx hb d_M_mint_247 rfl (lv_at hl 5 rfl) ?_
                          refine g_get hx hb ht in_M hown hK hP (0) r_at0 rfl 12 (by decide) rfl (ht _ kw473) (fun _ h9 => h9) (v := .ref (ad 8)) rfl d_M_mint_248 ?_
                          refine lv_iload hx hb d_M_mint_251 (lv_at hl 0 rfl) ?_
                          refine lv_lconst (v := (0 : Int64)) hx hb d_M_mint_253 (by decide) ?_
                          obtain ⟨hs137, hT118⟩ := hT118
                          refine g_last (x := (0 : Int64)) hx hb hK hP hD hS (8) r_at8 rfl (hs137) (j := b27.toNatClampNeg) (rfl) d_M_mint_254 (fun H locs hP hD hS => ?_)
                          refine lv_aload_n hx hb d_M_mint_255 rfl (lv_at hl 5 rfl) ?_
                          refine g_get hx hb ht in_M hown hK hP (0) r_at0 rfl 13 (by decide) rfl (ht _ kw474) (fun _ h9 => h9) (v := .ref (ad 9)) rfl d_M_mint_256 ?_
                          refine lv_iconst (v := (2 : Int32)) hx hb d_M_mint_259 (by decide) ?_
                          refine lv_iload hx hb d_M_mint_260 (lv_at hl 0 rfl) ?_
                          refine lv_imul hx hb d_M_mint_262 ?_
                          refine lv_lconst (v := (0 : Int64)) hx hb d_M_mint_263 (by decide) ?_
                          obtain ⟨hs138, hT118⟩ := hT118
                          refine g_last (x := (0 : Int64)) hx hb hK hP hD hS (9) r_at9 rfl (hs138) (j := ((2 : Int32) * b27).toNatClampNeg) (rfl) d_M_mint_264 (fun H locs hP hD hS => ?_)
                          refine lv_aload_n hx hb d_M_mint_265 rfl (lv_at hl 5 rfl) ?_
                          refine g_get hx hb ht in_M hown hK hP (0) r_at0 rfl 13 (by decide) rfl (ht _ kw474) (fun _ h9 => h9) (v := .ref (ad 9)) rfl d_M_mint_266 ?_
                          refine lv_iconst (v := (2 : Int32)) hx hb d_M_mint_269 (by decide) ?_
                          refine lv_iload hx hb d_M_mint_270 (lv_at hl 0 rfl) ?_
                          refine lv_imul hx hb d_M_mint_272 ?_
                          refine lv_iconst (v := (1 : Int32)) hx hb d_M_mint_273 (by decide) ?_
                          refine lv_iadd hx hb d_M_mint_274 ?_
                          refine lv_lconst (v := (0 : Int64)) hx hb d_M_mint_275 (by decide) ?_
                          obtain ⟨hs139, hT118⟩ := hT118
                          refine g_last (x := (0 : Int64)) hx hb hK hP hD hS (9) r_at9 rfl (hs139) (j := (((2 : Int32) * b27) + (1 : Int32)).toNatClampNeg) (rfl) d_M_mint_276 (fun H locs hP hD hS => ?_)
                          refine lv_aload_n hx hb d_M_mint_277 rfl (lv_at hl 5 rfl) ?_
                          refine g_get hx hb ht in_M hown hK hP (0) r_at0 rfl 14 (by decide) rfl (ht _ kw475) (fun _ h9 => h9) (v := .ref (ad 10)) rfl d_M_mint_278 ?_
                          refine lv_iconst (v := (2 : Int32)) hx hb d_M_mint_281 (by decide) ?_
                          refine lv_iload hx hb d_M_mint_282 (lv_at hl 0 rfl) ?_
                          refine lv_imul hx hb d_M_mint_284 ?_
                          refine lv_lconst (v := (0 : Int64)) hx hb d_M_mint_285 (by decide) ?_
                          obtain ⟨hs140, hT118⟩ := hT118
                          refine g_last (x := (0 : Int64)) hx hb hK hP hD hS (10) r_at10 rfl (hs140) (j := ((2 : Int32) * b27).toNatClampNeg) (rfl) d_M_mint_286 (fun H locs hP hD hS => ?_)
                          refine lv_aload_n hx hb d_M_mint_287 rfl (lv_at hl 5 rfl) ?_
                          refine g_get hx hb ht in_M hown hK hP (0) r_at0 rfl 14 (by decide) rfl (ht _ kw475) (fun _ h9 => h9) (v := .ref (ad 10)) rfl d_M_mint_288 ?_
                          refine lv_iconst (v := (2 : Int32)) hx hb d_M_mint_291 (by decide) ?_
                          refine lv_iload hx hb d_M_mint_292 (lv_at hl 0 rfl) ?_
                          refine lv_imul hx hb d_M_mint_294 ?_
                          refine lv_iconst (v := (1 : Int32)) hx hb d_M_mint_295 (by decide) ?_
                          refine lv_iadd hx hb d_M_mint_296 ?_
                          refine lv_lconst (v := (0 : Int64)) hx hb d_M_mint_297 (by decide) ?_
                          obtain ⟨hs141, hT118⟩ := hT118
                          refine g_last (x := (0 : Int64)) hx hb hK hP hD hS (10) r_at10 rfl (hs141) (j := (((2 : Int32) * b27) + (1 : Int32)).toNatClampNeg) (rfl) d_M_mint_298 (fun H locs hP hD hS => ?_)
                          exact J299_115 b27 (g_L (g_L (g_L (g_L (g_L (g_I (g_I (g_I (g_I τ111 4 b27.toNatClampNeg (1 : Int32)) 5 b27.toNatClampNeg o) 6 b27.toNatClampNeg lo) 7 b27.toNatClampNeg hi) 8 b27.toNatClampNeg (0 : Int64)) 9 (((2 : Int32) * b27).toNatClampNeg) (0 : Int64)) 9 ((((2 : Int32) * b27) + (1 : Int32)).toNatClampNeg) (0 : Int64)) 10 (((2 : Int32) * b27).toNatClampNeg) (0 : Int64)) 10 ((((2 : Int32) * b27) + (1 : Int32)).toNatClampNeg) (0 : Int64)) ls H locs (if_neg c132).symm (if_neg c132).symm (lv_sub hl [1, 2, 0, 5, 6, 9] rfl) hP hD hS
                      ·
                        have c106 : ¬ (r98 ≤ (σ.2 2 ((((2 : Int32) * o) + (1 : Int32)).toNatClampNeg))) := mt (lg_cmp_ge _ _).mpr c106
                        have hF : f_M_mint σ o lo hi q = f_M_mint_198_142 σ o lo hi q r3 r10 r21 b26 b27 r94 r98 := hF.trans (if_neg c106)
                        have hQ : k_M_mint_198_142 σ o lo hi q r3 r10 r21 b26 b27 r94 r98 := Eq.mp (if_neg c106) hQ
                        refine lv_ldc2 (v := (-5 : Int64)) hx hb hown (ht _ kw598) d_M_mint_198 ?_
                        exact W.lret (v := (-5 : Int64)) hx hb hr (fun t hh hW => ⟨⟨(-5 : Int64), σ, rfl, hF.symm, by show va_P (dC, dI) cls (g_w r_sh dA ad σ) t.heap; rw [hh]; exact hP⟩, hS.F hh⟩) hS.2.2 d_M_mint_201
                  ·
                    have c91 : ¬ (b26 ≤ (1000000 : Int64)) := mt (lg_cmp_le _ _).mpr c91
                    have hF : f_M_mint σ o lo hi q = f_M_mint_140_143 σ o lo hi q r3 r10 r21 b26 b27 := hF.trans (if_neg c91)
                    have hQ : k_M_mint_140_143 σ o lo hi q r3 r10 r21 b26 b27 := Eq.mp (if_neg c91) hQ
                    refine lv_ldc2 (v := (-4 : Int64)) hx hb hown (ht _ kw580) d_M_mint_140 ?_
                    exact W.lret (v := (-4 : Int64)) hx hb hr (fun t hh hW => ⟨⟨(-4 : Int64), σ, rfl, hF.symm, by show va_P (dC, dI) cls (g_w r_sh dA ad σ) t.heap; rw [hh]; exact hP⟩, hS.F hh⟩) hS.2.2 d_M_mint_143
            have LL65_144 : ∀ (jn : Nat) (a24 : Int64) (a25 : Int32) (ls : Array Slot), jn ≤ 10 → f_M_mint_L65 σ o lo hi q r3 r10 r21 10 q.toInt64 (-1 : Int32) = f_M_mint_L65 σ o lo hi q r3 r10 r21 jn a24 a25 → lv_has ls 13 [(9, .int (Int32.ofNat jn + (-1 : Int32))), (7, .long a24), (6, .int a25), (5, .int r21), (0, .ref (ad 0)), (1, .int o), (2, .int lo), (3, .int hi), (4, .int q)] → W p l e (headSpec w_M_mint ({ frames := 3, cells := 0, slots := 0, locals := 75 })).room s m ([.ref (ad 0), .int o, .int lo, .int hi, .int q] : List Value).toArray below meth c s.heap [] 0 0 (MQ below (va_Ql (fun r τ => (r, τ) = f_M_mint σ o lo hi q) (fun τ t => va_P (dC, dI) cls (g_w r_sh dA ad τ) t.heap) A) ([.ref (ad 0), .int o, .int lo, .int hi, .int q] : List Value).toArray s 0 0 A) (F0 m 65 ls []) := by
              intro jn
              induction jn with
              | zero =>
                intro a24 a25 ls hkn hF hl
                have hF : f_M_mint_L65 σ o lo hi q r3 r10 r21 10 q.toInt64 (-1 : Int32) = (a24, a25) := hF
                skip
                refine lv_iload hx hb d_M_mint_65 (lv_at hl 0 rfl) ?_
                refine lv_if_lt (tgt := 121) hx hb d_M_mint_67 (by decide) (fun _ => ?_) (fun c145 => absurd (by decide) c145)
                exact J121_28 a24 a25 ls (congrArg (fun z => z.1) hF).symm (congrArg (fun z => z.2) hF).symm (lv_sub hl [1, 2, 3, 4, 5, 6, 7, 8] rfl)
              | succ jn ih =>
                intro a24 a25 ls hkn hF hl
                have hF : f_M_mint_L65 σ o lo hi q r3 r10 r21 10 q.toInt64 (-1 : Int32) = f_M_mint_L65 σ o lo hi q r3 r10 r21 jn (a24 + (if (σ.1 4 jn) = 0 then (0 : Int64) else σ.2 8 jn)) (if (σ.1 4 jn) = 0 then Int32.ofNat jn else a25) := hF
                skip
                rw [g_dn] at hl
                refine lv_iload hx hb d_M_mint_65 (lv_at hl 0 rfl) ?_
                refine lv_if_lt (tgt := 121) hx hb d_M_mint_67 (by decide) (fun c146 => absurd c146 (g_nneg (by omega))) (fun _ => ?_)
                refine lv_aload_n hx hb d_M_mint_70 rfl (lv_at hl 4 rfl) ?_
                refine g_get hx hb ht in_M hown hK hP (0) r_at0 rfl 8 (by decide) rfl (ht _ kw469) (fun _ h9 => h9) (v := .ref (ad 4)) rfl d_M_mint_71 ?_
                refine lv_iload hx hb d_M_mint_74 (lv_at hl 0 rfl) ?_
                refine g_zald hx hb hK hP (4) r_at4 rfl (g_eix rfl (by omega) (by omega)) (j := jn) (g_ena rfl (by omega)) d_M_mint_76 ?_
                have J87_148 : ∀ (x147 : Int32) (ls : Array Slot), x147 = (if (σ.1 4 jn) = 0 then Int32.ofNat jn else a25) → lv_has ls 13 [(9, .int (Int32.ofNat jn)), (7, .long a24), (5, .int r21), (0, .ref (ad 0)), (1, .int o), (2, .int lo), (3, .int hi), (4, .int q)] → W p l e (headSpec w_M_mint ({ frames := 3, cells := 0, slots := 0, locals := 75 })).room s m ([.ref (ad 0), .int o, .int lo, .int hi, .int q] : List Value).toArray below meth c s.heap [] 0 0 (MQ below (va_Ql (fun r τ => (r, τ) = f_M_mint σ o lo hi q) (fun τ t => va_P (dC, dI) cls (g_w r_sh dA ad τ) t.heap) A) ([.ref (ad 0), .int o, .int lo, .int hi, .int q] : List Value).toArray s 0 0 A) (F0 m 87 ls [.int x147]) := by
                  intro x147 ls e149 hl
                  rw [e149]
                  refine lv_istore (lv' := [(6, .int (if (σ.1 4 jn) = 0 then Int32.ofNat jn else a25)), (9, .int (Int32.ofNat jn)), (7, .long a24), (5, .int r21), (0, .ref (ad 0)), (1, .int o), (2, .int lo), (3, .int hi), (4, .int q)]) hx hb d_M_mint_87 hl (by decide) rfl (fun ls hl => ?_)
                  refine lv_lload hx hb d_M_mint_89 (lv_at hl 2 rfl) ?_
                  refine lv_aload_n hx hb d_M_mint_91 rfl (lv_at hl 4 rfl) ?_
                  refine g_get hx hb ht in_M hown hK hP (0) r_at0 rfl 8 (by decide) rfl (ht _ kw469) (fun _ h9 => h9) (v := .ref (ad 4)) rfl d_M_mint_92 ?_
                  refine lv_iload hx hb d_M_mint_95 (lv_at hl 1 rfl) ?_
                  refine g_zald hx hb hK hP (4) r_at4 rfl (g_eix rfl (by omega) (by omega)) (j := jn) (g_ena rfl (by omega)) d_M_mint_97 ?_
                  have J112_151 : ∀ (x150 : Int64) (ls : Array Slot), x150 = (if (σ.1 4 jn) = 0 then (0 : Int64) else σ.2 8 jn) → lv_has ls 13 [(6, .int (if (σ.1 4 jn) = 0 then Int32.ofNat jn else a25)), (9, .int (Int32.ofNat jn)), (5, .int r21), (0, .ref (ad 0)), (1, .int o), (2, .int lo), (3, .int hi), (4, .int q)] → W p l e (headSpec w_M_mint ({ frames := 3, cells := 0, slots := 0, locals := 75 })).room s m ([.ref (ad 0), .int o, .int lo, .int hi, .int q] : List Value).toArray below meth c s.heap [] 0 0 (MQ below (va_Ql (fun r τ => (r, τ) = f_M_mint σ o lo hi q) (fun τ t => va_P (dC, dI) cls (g_w r_sh dA ad τ) t.heap) A) ([.ref (ad 0), .int o, .int lo, .int hi, .int q] : List Value).toArray s 0 0 A) (F0 m 112 ls [.long x150, .long a24]) := by
                    intro x150 ls e152 hl
                    rw [e152]
                    refine lv_ladd hx hb d_M_mint_112 ?_
                    refine lv_lstore (lv' := [(7, .long (a24 + (if (σ.1 4 jn) = 0 then (0 : Int64) else σ.2 8 jn))), (6, .int (if (σ.1 4 jn) = 0 then Int32.ofNat jn else a25)), (9, .int (Int32.ofNat jn)), (5, .int r21), (0, .ref (ad 0)), (1, .int o), (2, .int lo), (3, .int hi), (4, .int q)]) hx hb d_M_mint_113 hl (by decide) rfl (fun ls hl => ?_)
                    refine lv_iinc (v := Int32.ofNat jn + (-1 : Int32)) (lv' := [(9, .int (Int32.ofNat jn + (-1 : Int32))), (7, .long (a24 + (if (σ.1 4 jn) = 0 then (0 : Int64) else σ.2 8 jn))), (6, .int (if (σ.1 4 jn) = 0 then Int32.ofNat jn else a25)), (5, .int r21), (0, .ref (ad 0)), (1, .int o), (2, .int lo), (3, .int hi), (4, .int q)]) hx hb d_M_mint_115 hl (k := 2) rfl (rfl) (by decide) rfl (fun ls hl => ?_)
                    refine lv_goto (tgt := 65) hx hb d_M_mint_118 (by decide) ?_
                    exact ih (a24 + (if (σ.1 4 jn) = 0 then (0 : Int64) else σ.2 8 jn)) (if (σ.1 4 jn) = 0 then Int32.ofNat jn else a25) ls (by omega) hF (lv_sub hl [0, 1, 2, 3, 4, 5, 6, 7, 8] rfl)
                  refine lv_if_eq (tgt := 111) hx hb d_M_mint_98 (by decide) (fun c153 => ?_) (fun c153 => ?_)
                  ·
                    have c153 : (σ.1 4 jn) = 0 := c153
                    refine lv_lconst (v := (0 : Int64)) hx hb d_M_mint_111 (by decide) ?_
                    exact J112_151 (0 : Int64) ls (if_pos c153).symm (lv_sub hl [0, 1, 3, 4, 5, 6, 7, 8] rfl)
                  ·
                    have c153 : ¬ ((σ.1 4 jn) = 0) := c153
                    refine lv_aload_n hx hb d_M_mint_101 rfl (lv_at hl 4 rfl) ?_
                    refine g_get hx hb ht in_M hown hK hP (0) r_at0 rfl 12 (by decide) rfl (ht _ kw473) (fun _ h9 => h9) (v := .ref (ad 8)) rfl d_M_mint_102 ?_
                    refine lv_iload hx hb d_M_mint_105 (lv_at hl 1 rfl) ?_
                    refine g_lald hx hb hK hP (8) r_at8 rfl (g_eix rfl (by omega) (by omega)) (j := jn) (g_ena rfl (by omega)) d_M_mint_107 ?_
                    refine lv_goto (tgt := 112) hx hb d_M_mint_108 (by decide) ?_
                    exact J112_151 (σ.2 8 jn) ls (if_neg c153).symm (lv_sub hl [0, 1, 3, 4, 5, 6, 7, 8] rfl)
                refine lv_if_eq (tgt := 85) hx hb d_M_mint_77 (by decide) (fun c154 => ?_) (fun c154 => ?_)
                ·
                  have c154 : (σ.1 4 jn) = 0 := c154
                  refine lv_iload hx hb d_M_mint_85 (lv_at hl 0 rfl) ?_
                  exact J87_148 (Int32.ofNat jn) ls (if_pos c154).symm (lv_sub hl [0, 1, 3, 4, 5, 6, 7, 8] rfl)
                ·
                  have c154 : ¬ ((σ.1 4 jn) = 0) := c154
                  refine lv_iload hx hb d_M_mint_80 (lv_at hl 2 rfl) ?_
                  refine lv_goto (tgt := 87) hx hb d_M_mint_82 (by decide) ?_
                  exact J87_148 a25 ls (if_neg c154).symm (lv_sub hl [0, 1, 3, 4, 5, 6, 7, 8] rfl)
            exact LL65_144 10 q.toInt64 (-1 : Int32) ls (by omega) rfl  (lv_sub hl [0, 1, 2, 3, 4, 5, 6, 7, 8] rfl)
          ·
            have c19 : ¬ (q ≤ (1000000 : Int32)) := c19
            have hF : f_M_mint σ o lo hi q = f_M_mint_40_155 σ o lo hi q r3 r10 := hF.trans (if_neg c19)
            have hQ : k_M_mint_40_155 σ o lo hi q r3 r10 := Eq.mp (if_neg c19) hQ
            refine lv_ldc2 (v := (-2 : Int64)) hx hb hown (ht _ kw574) d_M_mint_40 ?_
            exact W.lret (v := (-2 : Int64)) hx hb hr (fun t hh hW => ⟨⟨(-2 : Int64), σ, rfl, hF.symm, by show va_P (dC, dI) cls (g_w r_sh dA ad σ) t.heap; rw [hh]; exact hP⟩, hS.F hh⟩) hS.2.2 d_M_mint_43
  ·
    have c1 : (σ.1 0 3) = 0 := c1
    have hF : f_M_mint σ o lo hi q = f_M_mint_7_156 σ o lo hi q := hF.trans (if_pos c1)
    have hQ : k_M_mint_7_156 σ o lo hi q := Eq.mp (if_pos c1) hQ
    refine lv_ldc2 (v := (-1 : Int64)) hx hb hown (ht _ kw568) d_M_mint_7 ?_
    exact W.lret (v := (-1 : Int64)) hx hb hr (fun t hh hW => ⟨⟨(-1 : Int64), σ, rfl, hF.symm, by show va_P (dC, dI) cls (g_w r_sh dA ad σ) t.heap; rw [hh]; exact hP⟩, hS.F hh⟩) hS.2.2 d_M_mint_10
