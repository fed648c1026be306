/-- all calls -/
theorem v_all : ∃ V : g_S → g_S → Nat → Prop, v_calls V ∧ v_0 V := ⟨v_V, ⟨w_open, w_fund, w_mint, w_burn, w_collect, w_swap, w_quote, w_flash, w_advance, w_observe, w_price, w_step, w_depth, w_wallet, w_reserve, w_lot, w_net, v_mono⟩, w_0⟩
