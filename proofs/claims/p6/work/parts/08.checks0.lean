-- the script method entries, some thirty to a row
set_option maxRecDepth 100000 in
theorem ip_ol0 : (((ip_cs.getD 295 []).drop 0).take 30).all (fun q => ip_ok 295 q.1 q.2) = true := by decide +kernel
set_option maxRecDepth 100000 in
theorem ip_ol1 : (((ip_cs.getD 295 []).drop 30).take 30).all (fun q => ip_ok 295 q.1 q.2) = true := by decide +kernel
set_option maxRecDepth 100000 in
theorem ip_ol2 : (((ip_cs.getD 295 []).drop 60).take 30).all (fun q => ip_ok 295 q.1 q.2) = true := by decide +kernel
set_option maxRecDepth 100000 in
theorem ip_ol3 : (((ip_cs.getD 295 []).drop 90).take 30).all (fun q => ip_ok 295 q.1 q.2) = true := by decide +kernel
set_option maxRecDepth 100000 in
theorem ip_ol4 : (((ip_cs.getD 295 []).drop 120).take 30).all (fun q => ip_ok 295 q.1 q.2) = true := by decide +kernel
set_option maxRecDepth 100000 in
theorem ip_ol5 : (((ip_cs.getD 295 []).drop 150).take 30).all (fun q => ip_ok 295 q.1 q.2) = true := by decide +kernel
set_option maxRecDepth 100000 in
theorem ip_ol6 : (((ip_cs.getD 295 []).drop 180).take 30).all (fun q => ip_ok 295 q.1 q.2) = true := by decide +kernel
set_option maxRecDepth 100000 in
theorem ip_ol7 : (((ip_cs.getD 295 []).drop 210).take 30).all (fun q => ip_ok 295 q.1 q.2) = true := by decide +kernel
set_option maxRecDepth 100000 in
theorem ip_ol8 : (((ip_cs.getD 295 []).drop 240).take 30).all (fun q => ip_ok 295 q.1 q.2) = true := by decide +kernel
set_option maxRecDepth 100000 in
theorem ip_ol9 : (((ip_cs.getD 295 []).drop 270).take 30).all (fun q => ip_ok 295 q.1 q.2) = true := by decide +kernel
set_option maxRecDepth 100000 in
theorem ip_ol10 : (((ip_cs.getD 295 []).drop 300).take 30).all (fun q => ip_ok 295 q.1 q.2) = true := by decide +kernel
set_option maxRecDepth 100000 in
theorem ip_ol11 : (((ip_cs.getD 295 []).drop 330).take 30).all (fun q => ip_ok 295 q.1 q.2) = true := by decide +kernel
set_option maxRecDepth 100000 in
theorem ip_ol12 : (((ip_cs.getD 295 []).drop 360).take 30).all (fun q => ip_ok 295 q.1 q.2) = true := by decide +kernel
