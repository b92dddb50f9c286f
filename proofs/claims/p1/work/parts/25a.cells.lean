-- THE CELLS behind the two constructors (owed)
theorem ip_M2_Fr : ip_Fr ip_M2 := sorry
