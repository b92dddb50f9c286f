-- the script method entries, some thirty to a row
set_option maxRecDepth 100000 in
theorem ip_ol26 : (((ip_cs.getD 295 []).drop 780).take 30).all (fun q => ip_ok 295 q.1 q.2) = true := by decide +kernel
set_option maxRecDepth 100000 in
theorem ip_ol27 : (((ip_cs.getD 295 []).drop 810).take 30).all (fun q => ip_ok 295 q.1 q.2) = true := by decide +kernel
set_option maxRecDepth 100000 in
theorem ip_ol28 : (((ip_cs.getD 295 []).drop 840).take 30).all (fun q => ip_ok 295 q.1 q.2) = true := by decide +kernel
set_option maxRecDepth 100000 in
theorem ip_ol29 : (((ip_cs.getD 295 []).drop 870).take 30).all (fun q => ip_ok 295 q.1 q.2) = true := by decide +kernel
set_option maxRecDepth 100000 in
theorem ip_ol30 : (((ip_cs.getD 295 []).drop 900).take 30).all (fun q => ip_ok 295 q.1 q.2) = true := by decide +kernel
set_option maxRecDepth 100000 in
theorem ip_ol31 : (((ip_cs.getD 295 []).drop 930).take 30).all (fun q => ip_ok 295 q.1 q.2) = true := by decide +kernel
set_option maxRecDepth 100000 in
theorem ip_ol32 : (((ip_cs.getD 295 []).drop 960).take 30).all (fun q => ip_ok 295 q.1 q.2) = true := by decide +kernel
set_option maxRecDepth 100000 in
theorem ip_ol33 : (((ip_cs.getD 295 []).drop 990).take 30).all (fun q => ip_ok 295 q.1 q.2) = true := by decide +kernel
set_option maxRecDepth 100000 in
theorem ip_ol34 : (((ip_cs.getD 295 []).drop 1020).take 30).all (fun q => ip_ok 295 q.1 q.2) = true := by decide +kernel
set_option maxRecDepth 100000 in
theorem ip_ol35 : (((ip_cs.getD 295 []).drop 1050).take 30).all (fun q => ip_ok 295 q.1 q.2) = true := by decide +kernel
set_option maxRecDepth 100000 in
theorem ip_ol36 : (((ip_cs.getD 295 []).drop 1080).take 30).all (fun q => ip_ok 295 q.1 q.2) = true := by decide +kernel
set_option maxRecDepth 100000 in
theorem ip_ol37 : (((ip_cs.getD 295 []).drop 1110).take 30).all (fun q => ip_ok 295 q.1 q.2) = true := by decide +kernel
set_option maxRecDepth 100000 in
theorem ip_ol38 : (((ip_cs.getD 295 []).drop 1140).take 30).all (fun q => ip_ok 295 q.1 q.2) = true := by decide +kernel
