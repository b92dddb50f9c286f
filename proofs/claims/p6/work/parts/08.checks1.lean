-- the script method entries, some thirty to a row
set_option maxRecDepth 100000 in
theorem ip_ol13 : (((ip_cs.getD 295 []).drop 390).take 30).all (fun q => ip_ok 295 q.1 q.2) = true := by decide +kernel
set_option maxRecDepth 100000 in
theorem ip_ol14 : (((ip_cs.getD 295 []).drop 420).take 30).all (fun q => ip_ok 295 q.1 q.2) = true := by decide +kernel
set_option maxRecDepth 100000 in
theorem ip_ol15 : (((ip_cs.getD 295 []).drop 450).take 30).all (fun q => ip_ok 295 q.1 q.2) = true := by decide +kernel
set_option maxRecDepth 100000 in
theorem ip_ol16 : (((ip_cs.getD 295 []).drop 480).take 30).all (fun q => ip_ok 295 q.1 q.2) = true := by decide +kernel
set_option maxRecDepth 100000 in
theorem ip_ol17 : (((ip_cs.getD 295 []).drop 510).take 30).all (fun q => ip_ok 295 q.1 q.2) = true := by decide +kernel
set_option maxRecDepth 100000 in
theorem ip_ol18 : (((ip_cs.getD 295 []).drop 540).take 30).all (fun q => ip_ok 295 q.1 q.2) = true := by decide +kernel
set_option maxRecDepth 100000 in
theorem ip_ol19 : (((ip_cs.getD 295 []).drop 570).take 30).all (fun q => ip_ok 295 q.1 q.2) = true := by decide +kernel
set_option maxRecDepth 100000 in
theorem ip_ol20 : (((ip_cs.getD 295 []).drop 600).take 30).all (fun q => ip_ok 295 q.1 q.2) = true := by decide +kernel
set_option maxRecDepth 100000 in
theorem ip_ol21 : (((ip_cs.getD 295 []).drop 630).take 30).all (fun q => ip_ok 295 q.1 q.2) = true := by decide +kernel
set_option maxRecDepth 100000 in
theorem ip_ol22 : (((ip_cs.getD 295 []).drop 660).take 30).all (fun q => ip_ok 295 q.1 q.2) = true := by decide +kernel
set_option maxRecDepth 100000 in
theorem ip_ol23 : (((ip_cs.getD 295 []).drop 690).take 30).all (fun q => ip_ok 295 q.1 q.2) = true := by decide +kernel
set_option maxRecDepth 100000 in
theorem ip_ol24 : (((ip_cs.getD 295 []).drop 720).take 30).all (fun q => ip_ok 295 q.1 q.2) = true := by decide +kernel
set_option maxRecDepth 100000 in
theorem ip_ol25 : (((ip_cs.getD 295 []).drop 750).take 30).all (fun q => ip_ok 295 q.1 q.2) = true := by decide +kernel
