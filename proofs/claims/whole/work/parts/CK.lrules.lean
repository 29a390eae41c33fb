/-! ===== the law, rules of its own ===== -/
theorem lw_t1 : 1 = 1 := rfl

