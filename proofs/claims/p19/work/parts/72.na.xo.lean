/-! ===== what stands outside ===== -/
def XO (X : pm_X) : Prop := ∀ j, 1 ≤ j → X j = pg_arr j
