noncomputable section
-- PART c11a.cells
-- BEHIND THE TWO CONSTRUCTORS: all that stands between two calls
theorem ip_sI0_ok : (ip_sI0.all fun q => decide (ip_M2.2.1 q.1 q.2.1 = q.2.2)) = true := ip_cand1 (ip_cand2 (ip_cand2 (ip_cand2 (ip_cand2 (ip_c11t)))))
theorem ip_sLA : (([(110, 9), (115, 72), (116, 18)] : List (Nat × Nat)).all fun q => (List.range q.2).all fun j => decide (ip_M2.2.2.1 q.1 j = 0)) = true := ip_cand1 (ip_cand2 (ip_cand2 (ip_cand2 (ip_cand2 (ip_cand2 (ip_c11t))))))
theorem ip_sAA1 : (([(8, 61), (18, 120), (20, 200), (22, 120), (27, 2), (31, 120), (36, 120), (41, 120)] : List (Nat × Nat)).all fun q => (List.range q.2).all fun j => decide (ip_M2.2.1 q.1 j = 0)) = true := ip_cand1 (ip_cand2 (ip_cand2 (ip_cand2 (ip_cand2 (ip_cand2 (ip_cand2 (ip_c11t)))))))
theorem ip_sAA2 : (([(46, 120), (51, 120), (56, 120), (61, 120), (66, 120), (71, 120), (76, 120), (82, 61)] : List (Nat × Nat)).all fun q => (List.range q.2).all fun j => decide (ip_M2.2.1 q.1 j = 0)) = true := ip_cand1 (ip_cand2 (ip_cand2 (ip_cand2 (ip_cand2 (ip_cand2 (ip_cand2 (ip_cand2 (ip_c11t))))))))
theorem ip_rk : (ip_rfl.all fun q => decide (ip_M2.2.2.2 q.1 q.2.1 = some q.2.2)) = true := ip_cand2 (ip_cand2 (ip_cand2 (ip_cand2 (ip_cand2 (ip_cand2 (ip_cand2 (ip_cand2 (ip_c11t))))))))
end
