-- THE BYTES of the WORD behind the two constructors
set_option maxRecDepth 1000000 in
theorem ip_M2_B0 : ((List.range 120).all fun j => decide (ip_M2.2.1 18 j = 0)) = true := by decide +kernel
theorem ip_M2_B : ∀ j, j < 120 → ip_M2.2.1 18 j = 0 := fun j hj => of_decide_eq_true (List.all_eq_true.mp ip_M2_B0 j (List.mem_range.mpr hj))
