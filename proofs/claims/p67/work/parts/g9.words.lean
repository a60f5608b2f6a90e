/-! Words of long methods. -/
set_option maxRecDepth 100000 in
theorem kx_1407 : Cond.code yL_travellers cL_travellers 17 (some .boolean) ∈ zTs := z_in (i := 1407) rfl rfl
set_option maxRecDepth 100000 in
theorem kx_1436 : Cond.code yL_ticks cL_ticks 15 (some .boolean) ∈ zTs := z_in (i := 1436) rfl rfl
