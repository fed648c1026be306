theorem v_all : ∃ V : g_S → g_S → Nat → Prop, v_calls V ∧ v_0 V := sorry
