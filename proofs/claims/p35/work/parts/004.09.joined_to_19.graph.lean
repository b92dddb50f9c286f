noncomputable section
-- PART 09.joined
-- the checks joined
theorem ip_all_split {α : Type} (f : α → Bool) (l : List α) (n : Nat) (h1 : (l.take n).all f = true) (h2 : (l.drop n).all f = true) : l.all f = true := by
  rw [← List.take_append_drop n l, List.all_append, h1, h2]; rfl
set_option maxRecDepth 100000 in
theorem ip_oL39 : ((ip_cs.getD 295 []).drop 1170).all (fun q => ip_ok 295 q.1 q.2) = true := by
  have h : (ip_cs.getD 295 []).drop 1170 = [] := by decide +kernel
  rw [h]; rfl
theorem ip_oL38 : ((ip_cs.getD 295 []).drop 1140).all (fun q => ip_ok 295 q.1 q.2) = true := ip_all_split _ _ 30 ip_ol38 (by rw [List.drop_drop]; exact ip_oL39)
theorem ip_oL37 : ((ip_cs.getD 295 []).drop 1110).all (fun q => ip_ok 295 q.1 q.2) = true := ip_all_split _ _ 30 ip_ol37 (by rw [List.drop_drop]; exact ip_oL38)
theorem ip_oL36 : ((ip_cs.getD 295 []).drop 1080).all (fun q => ip_ok 295 q.1 q.2) = true := ip_all_split _ _ 30 ip_ol36 (by rw [List.drop_drop]; exact ip_oL37)
theorem ip_oL35 : ((ip_cs.getD 295 []).drop 1050).all (fun q => ip_ok 295 q.1 q.2) = true := ip_all_split _ _ 30 ip_ol35 (by rw [List.drop_drop]; exact ip_oL36)
theorem ip_oL34 : ((ip_cs.getD 295 []).drop 1020).all (fun q => ip_ok 295 q.1 q.2) = true := ip_all_split _ _ 30 ip_ol34 (by rw [List.drop_drop]; exact ip_oL35)
theorem ip_oL33 : ((ip_cs.getD 295 []).drop 990).all (fun q => ip_ok 295 q.1 q.2) = true := ip_all_split _ _ 30 ip_ol33 (by rw [List.drop_drop]; exact ip_oL34)
theorem ip_oL32 : ((ip_cs.getD 295 []).drop 960).all (fun q => ip_ok 295 q.1 q.2) = true := ip_all_split _ _ 30 ip_ol32 (by rw [List.drop_drop]; exact ip_oL33)
theorem ip_oL31 : ((ip_cs.getD 295 []).drop 930).all (fun q => ip_ok 295 q.1 q.2) = true := ip_all_split _ _ 30 ip_ol31 (by rw [List.drop_drop]; exact ip_oL32)
theorem ip_oL30 : ((ip_cs.getD 295 []).drop 900).all (fun q => ip_ok 295 q.1 q.2) = true := ip_all_split _ _ 30 ip_ol30 (by rw [List.drop_drop]; exact ip_oL31)
theorem ip_oL29 : ((ip_cs.getD 295 []).drop 870).all (fun q => ip_ok 295 q.1 q.2) = true := ip_all_split _ _ 30 ip_ol29 (by rw [List.drop_drop]; exact ip_oL30)
theorem ip_oL28 : ((ip_cs.getD 295 []).drop 840).all (fun q => ip_ok 295 q.1 q.2) = true := ip_all_split _ _ 30 ip_ol28 (by rw [List.drop_drop]; exact ip_oL29)
theorem ip_oL27 : ((ip_cs.getD 295 []).drop 810).all (fun q => ip_ok 295 q.1 q.2) = true := ip_all_split _ _ 30 ip_ol27 (by rw [List.drop_drop]; exact ip_oL28)
theorem ip_oL26 : ((ip_cs.getD 295 []).drop 780).all (fun q => ip_ok 295 q.1 q.2) = true := ip_all_split _ _ 30 ip_ol26 (by rw [List.drop_drop]; exact ip_oL27)
theorem ip_oL25 : ((ip_cs.getD 295 []).drop 750).all (fun q => ip_ok 295 q.1 q.2) = true := ip_all_split _ _ 30 ip_ol25 (by rw [List.drop_drop]; exact ip_oL26)
theorem ip_oL24 : ((ip_cs.getD 295 []).drop 720).all (fun q => ip_ok 295 q.1 q.2) = true := ip_all_split _ _ 30 ip_ol24 (by rw [List.drop_drop]; exact ip_oL25)
theorem ip_oL23 : ((ip_cs.getD 295 []).drop 690).all (fun q => ip_ok 295 q.1 q.2) = true := ip_all_split _ _ 30 ip_ol23 (by rw [List.drop_drop]; exact ip_oL24)
theorem ip_oL22 : ((ip_cs.getD 295 []).drop 660).all (fun q => ip_ok 295 q.1 q.2) = true := ip_all_split _ _ 30 ip_ol22 (by rw [List.drop_drop]; exact ip_oL23)
theorem ip_oL21 : ((ip_cs.getD 295 []).drop 630).all (fun q => ip_ok 295 q.1 q.2) = true := ip_all_split _ _ 30 ip_ol21 (by rw [List.drop_drop]; exact ip_oL22)
theorem ip_oL20 : ((ip_cs.getD 295 []).drop 600).all (fun q => ip_ok 295 q.1 q.2) = true := ip_all_split _ _ 30 ip_ol20 (by rw [List.drop_drop]; exact ip_oL21)
theorem ip_oL19 : ((ip_cs.getD 295 []).drop 570).all (fun q => ip_ok 295 q.1 q.2) = true := ip_all_split _ _ 30 ip_ol19 (by rw [List.drop_drop]; exact ip_oL20)
theorem ip_oL18 : ((ip_cs.getD 295 []).drop 540).all (fun q => ip_ok 295 q.1 q.2) = true := ip_all_split _ _ 30 ip_ol18 (by rw [List.drop_drop]; exact ip_oL19)
theorem ip_oL17 : ((ip_cs.getD 295 []).drop 510).all (fun q => ip_ok 295 q.1 q.2) = true := ip_all_split _ _ 30 ip_ol17 (by rw [List.drop_drop]; exact ip_oL18)
theorem ip_oL16 : ((ip_cs.getD 295 []).drop 480).all (fun q => ip_ok 295 q.1 q.2) = true := ip_all_split _ _ 30 ip_ol16 (by rw [List.drop_drop]; exact ip_oL17)
theorem ip_oL15 : ((ip_cs.getD 295 []).drop 450).all (fun q => ip_ok 295 q.1 q.2) = true := ip_all_split _ _ 30 ip_ol15 (by rw [List.drop_drop]; exact ip_oL16)
theorem ip_oL14 : ((ip_cs.getD 295 []).drop 420).all (fun q => ip_ok 295 q.1 q.2) = true := ip_all_split _ _ 30 ip_ol14 (by rw [List.drop_drop]; exact ip_oL15)
theorem ip_oL13 : ((ip_cs.getD 295 []).drop 390).all (fun q => ip_ok 295 q.1 q.2) = true := ip_all_split _ _ 30 ip_ol13 (by rw [List.drop_drop]; exact ip_oL14)
theorem ip_oL12 : ((ip_cs.getD 295 []).drop 360).all (fun q => ip_ok 295 q.1 q.2) = true := ip_all_split _ _ 30 ip_ol12 (by rw [List.drop_drop]; exact ip_oL13)
theorem ip_oL11 : ((ip_cs.getD 295 []).drop 330).all (fun q => ip_ok 295 q.1 q.2) = true := ip_all_split _ _ 30 ip_ol11 (by rw [List.drop_drop]; exact ip_oL12)
theorem ip_oL10 : ((ip_cs.getD 295 []).drop 300).all (fun q => ip_ok 295 q.1 q.2) = true := ip_all_split _ _ 30 ip_ol10 (by rw [List.drop_drop]; exact ip_oL11)
theorem ip_oL9 : ((ip_cs.getD 295 []).drop 270).all (fun q => ip_ok 295 q.1 q.2) = true := ip_all_split _ _ 30 ip_ol9 (by rw [List.drop_drop]; exact ip_oL10)
theorem ip_oL8 : ((ip_cs.getD 295 []).drop 240).all (fun q => ip_ok 295 q.1 q.2) = true := ip_all_split _ _ 30 ip_ol8 (by rw [List.drop_drop]; exact ip_oL9)
theorem ip_oL7 : ((ip_cs.getD 295 []).drop 210).all (fun q => ip_ok 295 q.1 q.2) = true := ip_all_split _ _ 30 ip_ol7 (by rw [List.drop_drop]; exact ip_oL8)
theorem ip_oL6 : ((ip_cs.getD 295 []).drop 180).all (fun q => ip_ok 295 q.1 q.2) = true := ip_all_split _ _ 30 ip_ol6 (by rw [List.drop_drop]; exact ip_oL7)
theorem ip_oL5 : ((ip_cs.getD 295 []).drop 150).all (fun q => ip_ok 295 q.1 q.2) = true := ip_all_split _ _ 30 ip_ol5 (by rw [List.drop_drop]; exact ip_oL6)
theorem ip_oL4 : ((ip_cs.getD 295 []).drop 120).all (fun q => ip_ok 295 q.1 q.2) = true := ip_all_split _ _ 30 ip_ol4 (by rw [List.drop_drop]; exact ip_oL5)
theorem ip_oL3 : ((ip_cs.getD 295 []).drop 90).all (fun q => ip_ok 295 q.1 q.2) = true := ip_all_split _ _ 30 ip_ol3 (by rw [List.drop_drop]; exact ip_oL4)
theorem ip_oL2 : ((ip_cs.getD 295 []).drop 60).all (fun q => ip_ok 295 q.1 q.2) = true := ip_all_split _ _ 30 ip_ol2 (by rw [List.drop_drop]; exact ip_oL3)
theorem ip_oL1 : ((ip_cs.getD 295 []).drop 30).all (fun q => ip_ok 295 q.1 q.2) = true := ip_all_split _ _ 30 ip_ol1 (by rw [List.drop_drop]; exact ip_oL2)
theorem ip_oL0 : ((ip_cs.getD 295 []).drop 0).all (fun q => ip_ok 295 q.1 q.2) = true := ip_all_split _ _ 30 ip_ol0 (by rw [List.drop_drop]; exact ip_oL1)
theorem ip_o295 : ip_okl 295 = true := ip_oL0
theorem ip_oa0 : ∀ c, c < 0 → ip_okl c = true := fun c h => absurd h (Nat.not_lt_zero c)
theorem ip_oa1 : ∀ c, c < 1 → ip_okl c = true := fun c h => (Nat.lt_or_eq_of_le (Nat.le_of_lt_succ h)).elim (ip_oa0 c) (fun e => e ▸ ip_o0)
theorem ip_oa2 : ∀ c, c < 2 → ip_okl c = true := fun c h => (Nat.lt_or_eq_of_le (Nat.le_of_lt_succ h)).elim (ip_oa1 c) (fun e => e ▸ ip_o1)
theorem ip_oa3 : ∀ c, c < 3 → ip_okl c = true := fun c h => (Nat.lt_or_eq_of_le (Nat.le_of_lt_succ h)).elim (ip_oa2 c) (fun e => e ▸ ip_o2)
theorem ip_oa4 : ∀ c, c < 4 → ip_okl c = true := fun c h => (Nat.lt_or_eq_of_le (Nat.le_of_lt_succ h)).elim (ip_oa3 c) (fun e => e ▸ ip_o3)
theorem ip_oa5 : ∀ c, c < 5 → ip_okl c = true := fun c h => (Nat.lt_or_eq_of_le (Nat.le_of_lt_succ h)).elim (ip_oa4 c) (fun e => e ▸ ip_o4)
theorem ip_oa6 : ∀ c, c < 6 → ip_okl c = true := fun c h => (Nat.lt_or_eq_of_le (Nat.le_of_lt_succ h)).elim (ip_oa5 c) (fun e => e ▸ ip_o5)
theorem ip_oa7 : ∀ c, c < 7 → ip_okl c = true := fun c h => (Nat.lt_or_eq_of_le (Nat.le_of_lt_succ h)).elim (ip_oa6 c) (fun e => e ▸ ip_o6)
theorem ip_oa8 : ∀ c, c < 8 → ip_okl c = true := fun c h => (Nat.lt_or_eq_of_le (Nat.le_of_lt_succ h)).elim (ip_oa7 c) (fun e => e ▸ ip_o7)
theorem ip_oa9 : ∀ c, c < 9 → ip_okl c = true := fun c h => (Nat.lt_or_eq_of_le (Nat.le_of_lt_succ h)).elim (ip_oa8 c) (fun e => e ▸ ip_o8)
theorem ip_oa10 : ∀ c, c < 10 → ip_okl c = true := fun c h => (Nat.lt_or_eq_of_le (Nat.le_of_lt_succ h)).elim (ip_oa9 c) (fun e => e ▸ ip_o9)
theorem ip_oa11 : ∀ c, c < 11 → ip_okl c = true := fun c h => (Nat.lt_or_eq_of_le (Nat.le_of_lt_succ h)).elim (ip_oa10 c) (fun e => e ▸ ip_o10)
theorem ip_oa12 : ∀ c, c < 12 → ip_okl c = true := fun c h => (Nat.lt_or_eq_of_le (Nat.le_of_lt_succ h)).elim (ip_oa11 c) (fun e => e ▸ ip_o11)
theorem ip_oa13 : ∀ c, c < 13 → ip_okl c = true := fun c h => (Nat.lt_or_eq_of_le (Nat.le_of_lt_succ h)).elim (ip_oa12 c) (fun e => e ▸ ip_o12)
theorem ip_oa14 : ∀ c, c < 14 → ip_okl c = true := fun c h => (Nat.lt_or_eq_of_le (Nat.le_of_lt_succ h)).elim (ip_oa13 c) (fun e => e ▸ ip_o13)
theorem ip_oa15 : ∀ c, c < 15 → ip_okl c = true := fun c h => (Nat.lt_or_eq_of_le (Nat.le_of_lt_succ h)).elim (ip_oa14 c) (fun e => e ▸ ip_o14)
theorem ip_oa16 : ∀ c, c < 16 → ip_okl c = true := fun c h => (Nat.lt_or_eq_of_le (Nat.le_of_lt_succ h)).elim (ip_oa15 c) (fun e => e ▸ ip_o15)
theorem ip_oa17 : ∀ c, c < 17 → ip_okl c = true := fun c h => (Nat.lt_or_eq_of_le (Nat.le_of_lt_succ h)).elim (ip_oa16 c) (fun e => e ▸ ip_o16)
theorem ip_oa18 : ∀ c, c < 18 → ip_okl c = true := fun c h => (Nat.lt_or_eq_of_le (Nat.le_of_lt_succ h)).elim (ip_oa17 c) (fun e => e ▸ ip_o17)
theorem ip_oa19 : ∀ c, c < 19 → ip_okl c = true := fun c h => (Nat.lt_or_eq_of_le (Nat.le_of_lt_succ h)).elim (ip_oa18 c) (fun e => e ▸ ip_o18)
theorem ip_oa20 : ∀ c, c < 20 → ip_okl c = true := fun c h => (Nat.lt_or_eq_of_le (Nat.le_of_lt_succ h)).elim (ip_oa19 c) (fun e => e ▸ ip_o19)
theorem ip_oa21 : ∀ c, c < 21 → ip_okl c = true := fun c h => (Nat.lt_or_eq_of_le (Nat.le_of_lt_succ h)).elim (ip_oa20 c) (fun e => e ▸ ip_o20)
theorem ip_oa22 : ∀ c, c < 22 → ip_okl c = true := fun c h => (Nat.lt_or_eq_of_le (Nat.le_of_lt_succ h)).elim (ip_oa21 c) (fun e => e ▸ ip_o21)
theorem ip_oa23 : ∀ c, c < 23 → ip_okl c = true := fun c h => (Nat.lt_or_eq_of_le (Nat.le_of_lt_succ h)).elim (ip_oa22 c) (fun e => e ▸ ip_o22)
theorem ip_oa24 : ∀ c, c < 24 → ip_okl c = true := fun c h => (Nat.lt_or_eq_of_le (Nat.le_of_lt_succ h)).elim (ip_oa23 c) (fun e => e ▸ ip_o23)
theorem ip_oa25 : ∀ c, c < 25 → ip_okl c = true := fun c h => (Nat.lt_or_eq_of_le (Nat.le_of_lt_succ h)).elim (ip_oa24 c) (fun e => e ▸ ip_o24)
theorem ip_oa26 : ∀ c, c < 26 → ip_okl c = true := fun c h => (Nat.lt_or_eq_of_le (Nat.le_of_lt_succ h)).elim (ip_oa25 c) (fun e => e ▸ ip_o25)
theorem ip_oa27 : ∀ c, c < 27 → ip_okl c = true := fun c h => (Nat.lt_or_eq_of_le (Nat.le_of_lt_succ h)).elim (ip_oa26 c) (fun e => e ▸ ip_o26)
theorem ip_oa28 : ∀ c, c < 28 → ip_okl c = true := fun c h => (Nat.lt_or_eq_of_le (Nat.le_of_lt_succ h)).elim (ip_oa27 c) (fun e => e ▸ ip_o27)
theorem ip_oa29 : ∀ c, c < 29 → ip_okl c = true := fun c h => (Nat.lt_or_eq_of_le (Nat.le_of_lt_succ h)).elim (ip_oa28 c) (fun e => e ▸ ip_o28)
theorem ip_oa30 : ∀ c, c < 30 → ip_okl c = true := fun c h => (Nat.lt_or_eq_of_le (Nat.le_of_lt_succ h)).elim (ip_oa29 c) (fun e => e ▸ ip_o29)
theorem ip_oa31 : ∀ c, c < 31 → ip_okl c = true := fun c h => (Nat.lt_or_eq_of_le (Nat.le_of_lt_succ h)).elim (ip_oa30 c) (fun e => e ▸ ip_o30)
theorem ip_oa32 : ∀ c, c < 32 → ip_okl c = true := fun c h => (Nat.lt_or_eq_of_le (Nat.le_of_lt_succ h)).elim (ip_oa31 c) (fun e => e ▸ ip_o31)
theorem ip_oa33 : ∀ c, c < 33 → ip_okl c = true := fun c h => (Nat.lt_or_eq_of_le (Nat.le_of_lt_succ h)).elim (ip_oa32 c) (fun e => e ▸ ip_o32)
theorem ip_oa34 : ∀ c, c < 34 → ip_okl c = true := fun c h => (Nat.lt_or_eq_of_le (Nat.le_of_lt_succ h)).elim (ip_oa33 c) (fun e => e ▸ ip_o33)
theorem ip_oa35 : ∀ c, c < 35 → ip_okl c = true := fun c h => (Nat.lt_or_eq_of_le (Nat.le_of_lt_succ h)).elim (ip_oa34 c) (fun e => e ▸ ip_o34)
theorem ip_oa36 : ∀ c, c < 36 → ip_okl c = true := fun c h => (Nat.lt_or_eq_of_le (Nat.le_of_lt_succ h)).elim (ip_oa35 c) (fun e => e ▸ ip_o35)
theorem ip_oa37 : ∀ c, c < 37 → ip_okl c = true := fun c h => (Nat.lt_or_eq_of_le (Nat.le_of_lt_succ h)).elim (ip_oa36 c) (fun e => e ▸ ip_o36)
theorem ip_oa38 : ∀ c, c < 38 → ip_okl c = true := fun c h => (Nat.lt_or_eq_of_le (Nat.le_of_lt_succ h)).elim (ip_oa37 c) (fun e => e ▸ ip_o37)
theorem ip_oa39 : ∀ c, c < 39 → ip_okl c = true := fun c h => (Nat.lt_or_eq_of_le (Nat.le_of_lt_succ h)).elim (ip_oa38 c) (fun e => e ▸ ip_o38)
theorem ip_oa40 : ∀ c, c < 40 → ip_okl c = true := fun c h => (Nat.lt_or_eq_of_le (Nat.le_of_lt_succ h)).elim (ip_oa39 c) (fun e => e ▸ ip_o39)
theorem ip_oa41 : ∀ c, c < 41 → ip_okl c = true := fun c h => (Nat.lt_or_eq_of_le (Nat.le_of_lt_succ h)).elim (ip_oa40 c) (fun e => e ▸ ip_o40)
theorem ip_oa42 : ∀ c, c < 42 → ip_okl c = true := fun c h => (Nat.lt_or_eq_of_le (Nat.le_of_lt_succ h)).elim (ip_oa41 c) (fun e => e ▸ ip_o41)
theorem ip_oa43 : ∀ c, c < 43 → ip_okl c = true := fun c h => (Nat.lt_or_eq_of_le (Nat.le_of_lt_succ h)).elim (ip_oa42 c) (fun e => e ▸ ip_o42)
theorem ip_oa44 : ∀ c, c < 44 → ip_okl c = true := fun c h => (Nat.lt_or_eq_of_le (Nat.le_of_lt_succ h)).elim (ip_oa43 c) (fun e => e ▸ ip_o43)
theorem ip_oa45 : ∀ c, c < 45 → ip_okl c = true := fun c h => (Nat.lt_or_eq_of_le (Nat.le_of_lt_succ h)).elim (ip_oa44 c) (fun e => e ▸ ip_o44)
theorem ip_oa46 : ∀ c, c < 46 → ip_okl c = true := fun c h => (Nat.lt_or_eq_of_le (Nat.le_of_lt_succ h)).elim (ip_oa45 c) (fun e => e ▸ ip_o45)
theorem ip_oa47 : ∀ c, c < 47 → ip_okl c = true := fun c h => (Nat.lt_or_eq_of_le (Nat.le_of_lt_succ h)).elim (ip_oa46 c) (fun e => e ▸ ip_o46)
theorem ip_oa48 : ∀ c, c < 48 → ip_okl c = true := fun c h => (Nat.lt_or_eq_of_le (Nat.le_of_lt_succ h)).elim (ip_oa47 c) (fun e => e ▸ ip_o47)
theorem ip_oa49 : ∀ c, c < 49 → ip_okl c = true := fun c h => (Nat.lt_or_eq_of_le (Nat.le_of_lt_succ h)).elim (ip_oa48 c) (fun e => e ▸ ip_o48)
theorem ip_oa50 : ∀ c, c < 50 → ip_okl c = true := fun c h => (Nat.lt_or_eq_of_le (Nat.le_of_lt_succ h)).elim (ip_oa49 c) (fun e => e ▸ ip_o49)
theorem ip_oa51 : ∀ c, c < 51 → ip_okl c = true := fun c h => (Nat.lt_or_eq_of_le (Nat.le_of_lt_succ h)).elim (ip_oa50 c) (fun e => e ▸ ip_o50)
theorem ip_oa52 : ∀ c, c < 52 → ip_okl c = true := fun c h => (Nat.lt_or_eq_of_le (Nat.le_of_lt_succ h)).elim (ip_oa51 c) (fun e => e ▸ ip_o51)
theorem ip_oa53 : ∀ c, c < 53 → ip_okl c = true := fun c h => (Nat.lt_or_eq_of_le (Nat.le_of_lt_succ h)).elim (ip_oa52 c) (fun e => e ▸ ip_o52)
theorem ip_oa54 : ∀ c, c < 54 → ip_okl c = true := fun c h => (Nat.lt_or_eq_of_le (Nat.le_of_lt_succ h)).elim (ip_oa53 c) (fun e => e ▸ ip_o53)
theorem ip_oa55 : ∀ c, c < 55 → ip_okl c = true := fun c h => (Nat.lt_or_eq_of_le (Nat.le_of_lt_succ h)).elim (ip_oa54 c) (fun e => e ▸ ip_o54)
theorem ip_oa56 : ∀ c, c < 56 → ip_okl c = true := fun c h => (Nat.lt_or_eq_of_le (Nat.le_of_lt_succ h)).elim (ip_oa55 c) (fun e => e ▸ ip_o55)
theorem ip_oa57 : ∀ c, c < 57 → ip_okl c = true := fun c h => (Nat.lt_or_eq_of_le (Nat.le_of_lt_succ h)).elim (ip_oa56 c) (fun e => e ▸ ip_o56)
theorem ip_oa58 : ∀ c, c < 58 → ip_okl c = true := fun c h => (Nat.lt_or_eq_of_le (Nat.le_of_lt_succ h)).elim (ip_oa57 c) (fun e => e ▸ ip_o57)
theorem ip_oa59 : ∀ c, c < 59 → ip_okl c = true := fun c h => (Nat.lt_or_eq_of_le (Nat.le_of_lt_succ h)).elim (ip_oa58 c) (fun e => e ▸ ip_o58)
theorem ip_oa60 : ∀ c, c < 60 → ip_okl c = true := fun c h => (Nat.lt_or_eq_of_le (Nat.le_of_lt_succ h)).elim (ip_oa59 c) (fun e => e ▸ ip_o59)
theorem ip_oa61 : ∀ c, c < 61 → ip_okl c = true := fun c h => (Nat.lt_or_eq_of_le (Nat.le_of_lt_succ h)).elim (ip_oa60 c) (fun e => e ▸ ip_o60)
theorem ip_oa62 : ∀ c, c < 62 → ip_okl c = true := fun c h => (Nat.lt_or_eq_of_le (Nat.le_of_lt_succ h)).elim (ip_oa61 c) (fun e => e ▸ ip_o61)
theorem ip_oa63 : ∀ c, c < 63 → ip_okl c = true := fun c h => (Nat.lt_or_eq_of_le (Nat.le_of_lt_succ h)).elim (ip_oa62 c) (fun e => e ▸ ip_o62)
theorem ip_oa64 : ∀ c, c < 64 → ip_okl c = true := fun c h => (Nat.lt_or_eq_of_le (Nat.le_of_lt_succ h)).elim (ip_oa63 c) (fun e => e ▸ ip_o63)
theorem ip_oa65 : ∀ c, c < 65 → ip_okl c = true := fun c h => (Nat.lt_or_eq_of_le (Nat.le_of_lt_succ h)).elim (ip_oa64 c) (fun e => e ▸ ip_o64)
theorem ip_oa66 : ∀ c, c < 66 → ip_okl c = true := fun c h => (Nat.lt_or_eq_of_le (Nat.le_of_lt_succ h)).elim (ip_oa65 c) (fun e => e ▸ ip_o65)
theorem ip_oa67 : ∀ c, c < 67 → ip_okl c = true := fun c h => (Nat.lt_or_eq_of_le (Nat.le_of_lt_succ h)).elim (ip_oa66 c) (fun e => e ▸ ip_o66)
theorem ip_oa68 : ∀ c, c < 68 → ip_okl c = true := fun c h => (Nat.lt_or_eq_of_le (Nat.le_of_lt_succ h)).elim (ip_oa67 c) (fun e => e ▸ ip_o67)
theorem ip_oa69 : ∀ c, c < 69 → ip_okl c = true := fun c h => (Nat.lt_or_eq_of_le (Nat.le_of_lt_succ h)).elim (ip_oa68 c) (fun e => e ▸ ip_o68)
theorem ip_oa70 : ∀ c, c < 70 → ip_okl c = true := fun c h => (Nat.lt_or_eq_of_le (Nat.le_of_lt_succ h)).elim (ip_oa69 c) (fun e => e ▸ ip_o69)
theorem ip_oa71 : ∀ c, c < 71 → ip_okl c = true := fun c h => (Nat.lt_or_eq_of_le (Nat.le_of_lt_succ h)).elim (ip_oa70 c) (fun e => e ▸ ip_o70)
theorem ip_oa72 : ∀ c, c < 72 → ip_okl c = true := fun c h => (Nat.lt_or_eq_of_le (Nat.le_of_lt_succ h)).elim (ip_oa71 c) (fun e => e ▸ ip_o71)
theorem ip_oa73 : ∀ c, c < 73 → ip_okl c = true := fun c h => (Nat.lt_or_eq_of_le (Nat.le_of_lt_succ h)).elim (ip_oa72 c) (fun e => e ▸ ip_o72)
theorem ip_oa74 : ∀ c, c < 74 → ip_okl c = true := fun c h => (Nat.lt_or_eq_of_le (Nat.le_of_lt_succ h)).elim (ip_oa73 c) (fun e => e ▸ ip_o73)
theorem ip_oa75 : ∀ c, c < 75 → ip_okl c = true := fun c h => (Nat.lt_or_eq_of_le (Nat.le_of_lt_succ h)).elim (ip_oa74 c) (fun e => e ▸ ip_o74)
theorem ip_oa76 : ∀ c, c < 76 → ip_okl c = true := fun c h => (Nat.lt_or_eq_of_le (Nat.le_of_lt_succ h)).elim (ip_oa75 c) (fun e => e ▸ ip_o75)
theorem ip_oa77 : ∀ c, c < 77 → ip_okl c = true := fun c h => (Nat.lt_or_eq_of_le (Nat.le_of_lt_succ h)).elim (ip_oa76 c) (fun e => e ▸ ip_o76)
theorem ip_oa78 : ∀ c, c < 78 → ip_okl c = true := fun c h => (Nat.lt_or_eq_of_le (Nat.le_of_lt_succ h)).elim (ip_oa77 c) (fun e => e ▸ ip_o77)
theorem ip_oa79 : ∀ c, c < 79 → ip_okl c = true := fun c h => (Nat.lt_or_eq_of_le (Nat.le_of_lt_succ h)).elim (ip_oa78 c) (fun e => e ▸ ip_o78)
theorem ip_oa80 : ∀ c, c < 80 → ip_okl c = true := fun c h => (Nat.lt_or_eq_of_le (Nat.le_of_lt_succ h)).elim (ip_oa79 c) (fun e => e ▸ ip_o79)
theorem ip_oa81 : ∀ c, c < 81 → ip_okl c = true := fun c h => (Nat.lt_or_eq_of_le (Nat.le_of_lt_succ h)).elim (ip_oa80 c) (fun e => e ▸ ip_o80)
theorem ip_oa82 : ∀ c, c < 82 → ip_okl c = true := fun c h => (Nat.lt_or_eq_of_le (Nat.le_of_lt_succ h)).elim (ip_oa81 c) (fun e => e ▸ ip_o81)
theorem ip_oa83 : ∀ c, c < 83 → ip_okl c = true := fun c h => (Nat.lt_or_eq_of_le (Nat.le_of_lt_succ h)).elim (ip_oa82 c) (fun e => e ▸ ip_o82)
theorem ip_oa84 : ∀ c, c < 84 → ip_okl c = true := fun c h => (Nat.lt_or_eq_of_le (Nat.le_of_lt_succ h)).elim (ip_oa83 c) (fun e => e ▸ ip_o83)
theorem ip_oa85 : ∀ c, c < 85 → ip_okl c = true := fun c h => (Nat.lt_or_eq_of_le (Nat.le_of_lt_succ h)).elim (ip_oa84 c) (fun e => e ▸ ip_o84)
theorem ip_oa86 : ∀ c, c < 86 → ip_okl c = true := fun c h => (Nat.lt_or_eq_of_le (Nat.le_of_lt_succ h)).elim (ip_oa85 c) (fun e => e ▸ ip_o85)
theorem ip_oa87 : ∀ c, c < 87 → ip_okl c = true := fun c h => (Nat.lt_or_eq_of_le (Nat.le_of_lt_succ h)).elim (ip_oa86 c) (fun e => e ▸ ip_o86)
theorem ip_oa88 : ∀ c, c < 88 → ip_okl c = true := fun c h => (Nat.lt_or_eq_of_le (Nat.le_of_lt_succ h)).elim (ip_oa87 c) (fun e => e ▸ ip_o87)
theorem ip_oa89 : ∀ c, c < 89 → ip_okl c = true := fun c h => (Nat.lt_or_eq_of_le (Nat.le_of_lt_succ h)).elim (ip_oa88 c) (fun e => e ▸ ip_o88)
theorem ip_oa90 : ∀ c, c < 90 → ip_okl c = true := fun c h => (Nat.lt_or_eq_of_le (Nat.le_of_lt_succ h)).elim (ip_oa89 c) (fun e => e ▸ ip_o89)
theorem ip_oa91 : ∀ c, c < 91 → ip_okl c = true := fun c h => (Nat.lt_or_eq_of_le (Nat.le_of_lt_succ h)).elim (ip_oa90 c) (fun e => e ▸ ip_o90)
theorem ip_oa92 : ∀ c, c < 92 → ip_okl c = true := fun c h => (Nat.lt_or_eq_of_le (Nat.le_of_lt_succ h)).elim (ip_oa91 c) (fun e => e ▸ ip_o91)
theorem ip_oa93 : ∀ c, c < 93 → ip_okl c = true := fun c h => (Nat.lt_or_eq_of_le (Nat.le_of_lt_succ h)).elim (ip_oa92 c) (fun e => e ▸ ip_o92)
theorem ip_oa94 : ∀ c, c < 94 → ip_okl c = true := fun c h => (Nat.lt_or_eq_of_le (Nat.le_of_lt_succ h)).elim (ip_oa93 c) (fun e => e ▸ ip_o93)
theorem ip_oa95 : ∀ c, c < 95 → ip_okl c = true := fun c h => (Nat.lt_or_eq_of_le (Nat.le_of_lt_succ h)).elim (ip_oa94 c) (fun e => e ▸ ip_o94)
theorem ip_oa96 : ∀ c, c < 96 → ip_okl c = true := fun c h => (Nat.lt_or_eq_of_le (Nat.le_of_lt_succ h)).elim (ip_oa95 c) (fun e => e ▸ ip_o95)
theorem ip_oa97 : ∀ c, c < 97 → ip_okl c = true := fun c h => (Nat.lt_or_eq_of_le (Nat.le_of_lt_succ h)).elim (ip_oa96 c) (fun e => e ▸ ip_o96)
theorem ip_oa98 : ∀ c, c < 98 → ip_okl c = true := fun c h => (Nat.lt_or_eq_of_le (Nat.le_of_lt_succ h)).elim (ip_oa97 c) (fun e => e ▸ ip_o97)
theorem ip_oa99 : ∀ c, c < 99 → ip_okl c = true := fun c h => (Nat.lt_or_eq_of_le (Nat.le_of_lt_succ h)).elim (ip_oa98 c) (fun e => e ▸ ip_o98)
theorem ip_oa100 : ∀ c, c < 100 → ip_okl c = true := fun c h => (Nat.lt_or_eq_of_le (Nat.le_of_lt_succ h)).elim (ip_oa99 c) (fun e => e ▸ ip_o99)
theorem ip_oa101 : ∀ c, c < 101 → ip_okl c = true := fun c h => (Nat.lt_or_eq_of_le (Nat.le_of_lt_succ h)).elim (ip_oa100 c) (fun e => e ▸ ip_o100)
theorem ip_oa102 : ∀ c, c < 102 → ip_okl c = true := fun c h => (Nat.lt_or_eq_of_le (Nat.le_of_lt_succ h)).elim (ip_oa101 c) (fun e => e ▸ ip_o101)
theorem ip_oa103 : ∀ c, c < 103 → ip_okl c = true := fun c h => (Nat.lt_or_eq_of_le (Nat.le_of_lt_succ h)).elim (ip_oa102 c) (fun e => e ▸ ip_o102)
theorem ip_oa104 : ∀ c, c < 104 → ip_okl c = true := fun c h => (Nat.lt_or_eq_of_le (Nat.le_of_lt_succ h)).elim (ip_oa103 c) (fun e => e ▸ ip_o103)
theorem ip_oa105 : ∀ c, c < 105 → ip_okl c = true := fun c h => (Nat.lt_or_eq_of_le (Nat.le_of_lt_succ h)).elim (ip_oa104 c) (fun e => e ▸ ip_o104)
theorem ip_oa106 : ∀ c, c < 106 → ip_okl c = true := fun c h => (Nat.lt_or_eq_of_le (Nat.le_of_lt_succ h)).elim (ip_oa105 c) (fun e => e ▸ ip_o105)
theorem ip_oa107 : ∀ c, c < 107 → ip_okl c = true := fun c h => (Nat.lt_or_eq_of_le (Nat.le_of_lt_succ h)).elim (ip_oa106 c) (fun e => e ▸ ip_o106)
theorem ip_oa108 : ∀ c, c < 108 → ip_okl c = true := fun c h => (Nat.lt_or_eq_of_le (Nat.le_of_lt_succ h)).elim (ip_oa107 c) (fun e => e ▸ ip_o107)
theorem ip_oa109 : ∀ c, c < 109 → ip_okl c = true := fun c h => (Nat.lt_or_eq_of_le (Nat.le_of_lt_succ h)).elim (ip_oa108 c) (fun e => e ▸ ip_o108)
theorem ip_oa110 : ∀ c, c < 110 → ip_okl c = true := fun c h => (Nat.lt_or_eq_of_le (Nat.le_of_lt_succ h)).elim (ip_oa109 c) (fun e => e ▸ ip_o109)
theorem ip_oa111 : ∀ c, c < 111 → ip_okl c = true := fun c h => (Nat.lt_or_eq_of_le (Nat.le_of_lt_succ h)).elim (ip_oa110 c) (fun e => e ▸ ip_o110)
theorem ip_oa112 : ∀ c, c < 112 → ip_okl c = true := fun c h => (Nat.lt_or_eq_of_le (Nat.le_of_lt_succ h)).elim (ip_oa111 c) (fun e => e ▸ ip_o111)
theorem ip_oa113 : ∀ c, c < 113 → ip_okl c = true := fun c h => (Nat.lt_or_eq_of_le (Nat.le_of_lt_succ h)).elim (ip_oa112 c) (fun e => e ▸ ip_o112)
theorem ip_oa114 : ∀ c, c < 114 → ip_okl c = true := fun c h => (Nat.lt_or_eq_of_le (Nat.le_of_lt_succ h)).elim (ip_oa113 c) (fun e => e ▸ ip_o113)
theorem ip_oa115 : ∀ c, c < 115 → ip_okl c = true := fun c h => (Nat.lt_or_eq_of_le (Nat.le_of_lt_succ h)).elim (ip_oa114 c) (fun e => e ▸ ip_o114)
theorem ip_oa116 : ∀ c, c < 116 → ip_okl c = true := fun c h => (Nat.lt_or_eq_of_le (Nat.le_of_lt_succ h)).elim (ip_oa115 c) (fun e => e ▸ ip_o115)
theorem ip_oa117 : ∀ c, c < 117 → ip_okl c = true := fun c h => (Nat.lt_or_eq_of_le (Nat.le_of_lt_succ h)).elim (ip_oa116 c) (fun e => e ▸ ip_o116)
theorem ip_oa118 : ∀ c, c < 118 → ip_okl c = true := fun c h => (Nat.lt_or_eq_of_le (Nat.le_of_lt_succ h)).elim (ip_oa117 c) (fun e => e ▸ ip_o117)
theorem ip_oa119 : ∀ c, c < 119 → ip_okl c = true := fun c h => (Nat.lt_or_eq_of_le (Nat.le_of_lt_succ h)).elim (ip_oa118 c) (fun e => e ▸ ip_o118)
theorem ip_oa120 : ∀ c, c < 120 → ip_okl c = true := fun c h => (Nat.lt_or_eq_of_le (Nat.le_of_lt_succ h)).elim (ip_oa119 c) (fun e => e ▸ ip_o119)
theorem ip_oa121 : ∀ c, c < 121 → ip_okl c = true := fun c h => (Nat.lt_or_eq_of_le (Nat.le_of_lt_succ h)).elim (ip_oa120 c) (fun e => e ▸ ip_o120)
theorem ip_oa122 : ∀ c, c < 122 → ip_okl c = true := fun c h => (Nat.lt_or_eq_of_le (Nat.le_of_lt_succ h)).elim (ip_oa121 c) (fun e => e ▸ ip_o121)
theorem ip_oa123 : ∀ c, c < 123 → ip_okl c = true := fun c h => (Nat.lt_or_eq_of_le (Nat.le_of_lt_succ h)).elim (ip_oa122 c) (fun e => e ▸ ip_o122)
theorem ip_oa124 : ∀ c, c < 124 → ip_okl c = true := fun c h => (Nat.lt_or_eq_of_le (Nat.le_of_lt_succ h)).elim (ip_oa123 c) (fun e => e ▸ ip_o123)
theorem ip_oa125 : ∀ c, c < 125 → ip_okl c = true := fun c h => (Nat.lt_or_eq_of_le (Nat.le_of_lt_succ h)).elim (ip_oa124 c) (fun e => e ▸ ip_o124)
theorem ip_oa126 : ∀ c, c < 126 → ip_okl c = true := fun c h => (Nat.lt_or_eq_of_le (Nat.le_of_lt_succ h)).elim (ip_oa125 c) (fun e => e ▸ ip_o125)
theorem ip_oa127 : ∀ c, c < 127 → ip_okl c = true := fun c h => (Nat.lt_or_eq_of_le (Nat.le_of_lt_succ h)).elim (ip_oa126 c) (fun e => e ▸ ip_o126)
theorem ip_oa128 : ∀ c, c < 128 → ip_okl c = true := fun c h => (Nat.lt_or_eq_of_le (Nat.le_of_lt_succ h)).elim (ip_oa127 c) (fun e => e ▸ ip_o127)
theorem ip_oa129 : ∀ c, c < 129 → ip_okl c = true := fun c h => (Nat.lt_or_eq_of_le (Nat.le_of_lt_succ h)).elim (ip_oa128 c) (fun e => e ▸ ip_o128)
theorem ip_oa130 : ∀ c, c < 130 → ip_okl c = true := fun c h => (Nat.lt_or_eq_of_le (Nat.le_of_lt_succ h)).elim (ip_oa129 c) (fun e => e ▸ ip_o129)
theorem ip_oa131 : ∀ c, c < 131 → ip_okl c = true := fun c h => (Nat.lt_or_eq_of_le (Nat.le_of_lt_succ h)).elim (ip_oa130 c) (fun e => e ▸ ip_o130)
theorem ip_oa132 : ∀ c, c < 132 → ip_okl c = true := fun c h => (Nat.lt_or_eq_of_le (Nat.le_of_lt_succ h)).elim (ip_oa131 c) (fun e => e ▸ ip_o131)
theorem ip_oa133 : ∀ c, c < 133 → ip_okl c = true := fun c h => (Nat.lt_or_eq_of_le (Nat.le_of_lt_succ h)).elim (ip_oa132 c) (fun e => e ▸ ip_o132)
theorem ip_oa134 : ∀ c, c < 134 → ip_okl c = true := fun c h => (Nat.lt_or_eq_of_le (Nat.le_of_lt_succ h)).elim (ip_oa133 c) (fun e => e ▸ ip_o133)
theorem ip_oa135 : ∀ c, c < 135 → ip_okl c = true := fun c h => (Nat.lt_or_eq_of_le (Nat.le_of_lt_succ h)).elim (ip_oa134 c) (fun e => e ▸ ip_o134)
theorem ip_oa136 : ∀ c, c < 136 → ip_okl c = true := fun c h => (Nat.lt_or_eq_of_le (Nat.le_of_lt_succ h)).elim (ip_oa135 c) (fun e => e ▸ ip_o135)
theorem ip_oa137 : ∀ c, c < 137 → ip_okl c = true := fun c h => (Nat.lt_or_eq_of_le (Nat.le_of_lt_succ h)).elim (ip_oa136 c) (fun e => e ▸ ip_o136)
theorem ip_oa138 : ∀ c, c < 138 → ip_okl c = true := fun c h => (Nat.lt_or_eq_of_le (Nat.le_of_lt_succ h)).elim (ip_oa137 c) (fun e => e ▸ ip_o137)
theorem ip_oa139 : ∀ c, c < 139 → ip_okl c = true := fun c h => (Nat.lt_or_eq_of_le (Nat.le_of_lt_succ h)).elim (ip_oa138 c) (fun e => e ▸ ip_o138)
theorem ip_oa140 : ∀ c, c < 140 → ip_okl c = true := fun c h => (Nat.lt_or_eq_of_le (Nat.le_of_lt_succ h)).elim (ip_oa139 c) (fun e => e ▸ ip_o139)
theorem ip_oa141 : ∀ c, c < 141 → ip_okl c = true := fun c h => (Nat.lt_or_eq_of_le (Nat.le_of_lt_succ h)).elim (ip_oa140 c) (fun e => e ▸ ip_o140)
theorem ip_oa142 : ∀ c, c < 142 → ip_okl c = true := fun c h => (Nat.lt_or_eq_of_le (Nat.le_of_lt_succ h)).elim (ip_oa141 c) (fun e => e ▸ ip_o141)
theorem ip_oa143 : ∀ c, c < 143 → ip_okl c = true := fun c h => (Nat.lt_or_eq_of_le (Nat.le_of_lt_succ h)).elim (ip_oa142 c) (fun e => e ▸ ip_o142)
theorem ip_oa144 : ∀ c, c < 144 → ip_okl c = true := fun c h => (Nat.lt_or_eq_of_le (Nat.le_of_lt_succ h)).elim (ip_oa143 c) (fun e => e ▸ ip_o143)
theorem ip_oa145 : ∀ c, c < 145 → ip_okl c = true := fun c h => (Nat.lt_or_eq_of_le (Nat.le_of_lt_succ h)).elim (ip_oa144 c) (fun e => e ▸ ip_o144)
theorem ip_oa146 : ∀ c, c < 146 → ip_okl c = true := fun c h => (Nat.lt_or_eq_of_le (Nat.le_of_lt_succ h)).elim (ip_oa145 c) (fun e => e ▸ ip_o145)
theorem ip_oa147 : ∀ c, c < 147 → ip_okl c = true := fun c h => (Nat.lt_or_eq_of_le (Nat.le_of_lt_succ h)).elim (ip_oa146 c) (fun e => e ▸ ip_o146)
theorem ip_oa148 : ∀ c, c < 148 → ip_okl c = true := fun c h => (Nat.lt_or_eq_of_le (Nat.le_of_lt_succ h)).elim (ip_oa147 c) (fun e => e ▸ ip_o147)
theorem ip_oa149 : ∀ c, c < 149 → ip_okl c = true := fun c h => (Nat.lt_or_eq_of_le (Nat.le_of_lt_succ h)).elim (ip_oa148 c) (fun e => e ▸ ip_o148)
theorem ip_oa150 : ∀ c, c < 150 → ip_okl c = true := fun c h => (Nat.lt_or_eq_of_le (Nat.le_of_lt_succ h)).elim (ip_oa149 c) (fun e => e ▸ ip_o149)
theorem ip_oa151 : ∀ c, c < 151 → ip_okl c = true := fun c h => (Nat.lt_or_eq_of_le (Nat.le_of_lt_succ h)).elim (ip_oa150 c) (fun e => e ▸ ip_o150)
theorem ip_oa152 : ∀ c, c < 152 → ip_okl c = true := fun c h => (Nat.lt_or_eq_of_le (Nat.le_of_lt_succ h)).elim (ip_oa151 c) (fun e => e ▸ ip_o151)
theorem ip_oa153 : ∀ c, c < 153 → ip_okl c = true := fun c h => (Nat.lt_or_eq_of_le (Nat.le_of_lt_succ h)).elim (ip_oa152 c) (fun e => e ▸ ip_o152)
theorem ip_oa154 : ∀ c, c < 154 → ip_okl c = true := fun c h => (Nat.lt_or_eq_of_le (Nat.le_of_lt_succ h)).elim (ip_oa153 c) (fun e => e ▸ ip_o153)
theorem ip_oa155 : ∀ c, c < 155 → ip_okl c = true := fun c h => (Nat.lt_or_eq_of_le (Nat.le_of_lt_succ h)).elim (ip_oa154 c) (fun e => e ▸ ip_o154)
theorem ip_oa156 : ∀ c, c < 156 → ip_okl c = true := fun c h => (Nat.lt_or_eq_of_le (Nat.le_of_lt_succ h)).elim (ip_oa155 c) (fun e => e ▸ ip_o155)
theorem ip_oa157 : ∀ c, c < 157 → ip_okl c = true := fun c h => (Nat.lt_or_eq_of_le (Nat.le_of_lt_succ h)).elim (ip_oa156 c) (fun e => e ▸ ip_o156)
theorem ip_oa158 : ∀ c, c < 158 → ip_okl c = true := fun c h => (Nat.lt_or_eq_of_le (Nat.le_of_lt_succ h)).elim (ip_oa157 c) (fun e => e ▸ ip_o157)
theorem ip_oa159 : ∀ c, c < 159 → ip_okl c = true := fun c h => (Nat.lt_or_eq_of_le (Nat.le_of_lt_succ h)).elim (ip_oa158 c) (fun e => e ▸ ip_o158)
theorem ip_oa160 : ∀ c, c < 160 → ip_okl c = true := fun c h => (Nat.lt_or_eq_of_le (Nat.le_of_lt_succ h)).elim (ip_oa159 c) (fun e => e ▸ ip_o159)
theorem ip_oa161 : ∀ c, c < 161 → ip_okl c = true := fun c h => (Nat.lt_or_eq_of_le (Nat.le_of_lt_succ h)).elim (ip_oa160 c) (fun e => e ▸ ip_o160)
theorem ip_oa162 : ∀ c, c < 162 → ip_okl c = true := fun c h => (Nat.lt_or_eq_of_le (Nat.le_of_lt_succ h)).elim (ip_oa161 c) (fun e => e ▸ ip_o161)
theorem ip_oa163 : ∀ c, c < 163 → ip_okl c = true := fun c h => (Nat.lt_or_eq_of_le (Nat.le_of_lt_succ h)).elim (ip_oa162 c) (fun e => e ▸ ip_o162)
theorem ip_oa164 : ∀ c, c < 164 → ip_okl c = true := fun c h => (Nat.lt_or_eq_of_le (Nat.le_of_lt_succ h)).elim (ip_oa163 c) (fun e => e ▸ ip_o163)
theorem ip_oa165 : ∀ c, c < 165 → ip_okl c = true := fun c h => (Nat.lt_or_eq_of_le (Nat.le_of_lt_succ h)).elim (ip_oa164 c) (fun e => e ▸ ip_o164)
theorem ip_oa166 : ∀ c, c < 166 → ip_okl c = true := fun c h => (Nat.lt_or_eq_of_le (Nat.le_of_lt_succ h)).elim (ip_oa165 c) (fun e => e ▸ ip_o165)
theorem ip_oa167 : ∀ c, c < 167 → ip_okl c = true := fun c h => (Nat.lt_or_eq_of_le (Nat.le_of_lt_succ h)).elim (ip_oa166 c) (fun e => e ▸ ip_o166)
theorem ip_oa168 : ∀ c, c < 168 → ip_okl c = true := fun c h => (Nat.lt_or_eq_of_le (Nat.le_of_lt_succ h)).elim (ip_oa167 c) (fun e => e ▸ ip_o167)
theorem ip_oa169 : ∀ c, c < 169 → ip_okl c = true := fun c h => (Nat.lt_or_eq_of_le (Nat.le_of_lt_succ h)).elim (ip_oa168 c) (fun e => e ▸ ip_o168)
theorem ip_oa170 : ∀ c, c < 170 → ip_okl c = true := fun c h => (Nat.lt_or_eq_of_le (Nat.le_of_lt_succ h)).elim (ip_oa169 c) (fun e => e ▸ ip_o169)
theorem ip_oa171 : ∀ c, c < 171 → ip_okl c = true := fun c h => (Nat.lt_or_eq_of_le (Nat.le_of_lt_succ h)).elim (ip_oa170 c) (fun e => e ▸ ip_o170)
theorem ip_oa172 : ∀ c, c < 172 → ip_okl c = true := fun c h => (Nat.lt_or_eq_of_le (Nat.le_of_lt_succ h)).elim (ip_oa171 c) (fun e => e ▸ ip_o171)
theorem ip_oa173 : ∀ c, c < 173 → ip_okl c = true := fun c h => (Nat.lt_or_eq_of_le (Nat.le_of_lt_succ h)).elim (ip_oa172 c) (fun e => e ▸ ip_o172)
theorem ip_oa174 : ∀ c, c < 174 → ip_okl c = true := fun c h => (Nat.lt_or_eq_of_le (Nat.le_of_lt_succ h)).elim (ip_oa173 c) (fun e => e ▸ ip_o173)
theorem ip_oa175 : ∀ c, c < 175 → ip_okl c = true := fun c h => (Nat.lt_or_eq_of_le (Nat.le_of_lt_succ h)).elim (ip_oa174 c) (fun e => e ▸ ip_o174)
theorem ip_oa176 : ∀ c, c < 176 → ip_okl c = true := fun c h => (Nat.lt_or_eq_of_le (Nat.le_of_lt_succ h)).elim (ip_oa175 c) (fun e => e ▸ ip_o175)
theorem ip_oa177 : ∀ c, c < 177 → ip_okl c = true := fun c h => (Nat.lt_or_eq_of_le (Nat.le_of_lt_succ h)).elim (ip_oa176 c) (fun e => e ▸ ip_o176)
theorem ip_oa178 : ∀ c, c < 178 → ip_okl c = true := fun c h => (Nat.lt_or_eq_of_le (Nat.le_of_lt_succ h)).elim (ip_oa177 c) (fun e => e ▸ ip_o177)
theorem ip_oa179 : ∀ c, c < 179 → ip_okl c = true := fun c h => (Nat.lt_or_eq_of_le (Nat.le_of_lt_succ h)).elim (ip_oa178 c) (fun e => e ▸ ip_o178)
theorem ip_oa180 : ∀ c, c < 180 → ip_okl c = true := fun c h => (Nat.lt_or_eq_of_le (Nat.le_of_lt_succ h)).elim (ip_oa179 c) (fun e => e ▸ ip_o179)
theorem ip_oa181 : ∀ c, c < 181 → ip_okl c = true := fun c h => (Nat.lt_or_eq_of_le (Nat.le_of_lt_succ h)).elim (ip_oa180 c) (fun e => e ▸ ip_o180)
theorem ip_oa182 : ∀ c, c < 182 → ip_okl c = true := fun c h => (Nat.lt_or_eq_of_le (Nat.le_of_lt_succ h)).elim (ip_oa181 c) (fun e => e ▸ ip_o181)
theorem ip_oa183 : ∀ c, c < 183 → ip_okl c = true := fun c h => (Nat.lt_or_eq_of_le (Nat.le_of_lt_succ h)).elim (ip_oa182 c) (fun e => e ▸ ip_o182)
theorem ip_oa184 : ∀ c, c < 184 → ip_okl c = true := fun c h => (Nat.lt_or_eq_of_le (Nat.le_of_lt_succ h)).elim (ip_oa183 c) (fun e => e ▸ ip_o183)
theorem ip_oa185 : ∀ c, c < 185 → ip_okl c = true := fun c h => (Nat.lt_or_eq_of_le (Nat.le_of_lt_succ h)).elim (ip_oa184 c) (fun e => e ▸ ip_o184)
theorem ip_oa186 : ∀ c, c < 186 → ip_okl c = true := fun c h => (Nat.lt_or_eq_of_le (Nat.le_of_lt_succ h)).elim (ip_oa185 c) (fun e => e ▸ ip_o185)
theorem ip_oa187 : ∀ c, c < 187 → ip_okl c = true := fun c h => (Nat.lt_or_eq_of_le (Nat.le_of_lt_succ h)).elim (ip_oa186 c) (fun e => e ▸ ip_o186)
theorem ip_oa188 : ∀ c, c < 188 → ip_okl c = true := fun c h => (Nat.lt_or_eq_of_le (Nat.le_of_lt_succ h)).elim (ip_oa187 c) (fun e => e ▸ ip_o187)
theorem ip_oa189 : ∀ c, c < 189 → ip_okl c = true := fun c h => (Nat.lt_or_eq_of_le (Nat.le_of_lt_succ h)).elim (ip_oa188 c) (fun e => e ▸ ip_o188)
theorem ip_oa190 : ∀ c, c < 190 → ip_okl c = true := fun c h => (Nat.lt_or_eq_of_le (Nat.le_of_lt_succ h)).elim (ip_oa189 c) (fun e => e ▸ ip_o189)
theorem ip_oa191 : ∀ c, c < 191 → ip_okl c = true := fun c h => (Nat.lt_or_eq_of_le (Nat.le_of_lt_succ h)).elim (ip_oa190 c) (fun e => e ▸ ip_o190)
theorem ip_oa192 : ∀ c, c < 192 → ip_okl c = true := fun c h => (Nat.lt_or_eq_of_le (Nat.le_of_lt_succ h)).elim (ip_oa191 c) (fun e => e ▸ ip_o191)
theorem ip_oa193 : ∀ c, c < 193 → ip_okl c = true := fun c h => (Nat.lt_or_eq_of_le (Nat.le_of_lt_succ h)).elim (ip_oa192 c) (fun e => e ▸ ip_o192)
theorem ip_oa194 : ∀ c, c < 194 → ip_okl c = true := fun c h => (Nat.lt_or_eq_of_le (Nat.le_of_lt_succ h)).elim (ip_oa193 c) (fun e => e ▸ ip_o193)
theorem ip_oa195 : ∀ c, c < 195 → ip_okl c = true := fun c h => (Nat.lt_or_eq_of_le (Nat.le_of_lt_succ h)).elim (ip_oa194 c) (fun e => e ▸ ip_o194)
theorem ip_oa196 : ∀ c, c < 196 → ip_okl c = true := fun c h => (Nat.lt_or_eq_of_le (Nat.le_of_lt_succ h)).elim (ip_oa195 c) (fun e => e ▸ ip_o195)
theorem ip_oa197 : ∀ c, c < 197 → ip_okl c = true := fun c h => (Nat.lt_or_eq_of_le (Nat.le_of_lt_succ h)).elim (ip_oa196 c) (fun e => e ▸ ip_o196)
theorem ip_oa198 : ∀ c, c < 198 → ip_okl c = true := fun c h => (Nat.lt_or_eq_of_le (Nat.le_of_lt_succ h)).elim (ip_oa197 c) (fun e => e ▸ ip_o197)
theorem ip_oa199 : ∀ c, c < 199 → ip_okl c = true := fun c h => (Nat.lt_or_eq_of_le (Nat.le_of_lt_succ h)).elim (ip_oa198 c) (fun e => e ▸ ip_o198)
theorem ip_oa200 : ∀ c, c < 200 → ip_okl c = true := fun c h => (Nat.lt_or_eq_of_le (Nat.le_of_lt_succ h)).elim (ip_oa199 c) (fun e => e ▸ ip_o199)
theorem ip_oa201 : ∀ c, c < 201 → ip_okl c = true := fun c h => (Nat.lt_or_eq_of_le (Nat.le_of_lt_succ h)).elim (ip_oa200 c) (fun e => e ▸ ip_o200)
theorem ip_oa202 : ∀ c, c < 202 → ip_okl c = true := fun c h => (Nat.lt_or_eq_of_le (Nat.le_of_lt_succ h)).elim (ip_oa201 c) (fun e => e ▸ ip_o201)
theorem ip_oa203 : ∀ c, c < 203 → ip_okl c = true := fun c h => (Nat.lt_or_eq_of_le (Nat.le_of_lt_succ h)).elim (ip_oa202 c) (fun e => e ▸ ip_o202)
theorem ip_oa204 : ∀ c, c < 204 → ip_okl c = true := fun c h => (Nat.lt_or_eq_of_le (Nat.le_of_lt_succ h)).elim (ip_oa203 c) (fun e => e ▸ ip_o203)
theorem ip_oa205 : ∀ c, c < 205 → ip_okl c = true := fun c h => (Nat.lt_or_eq_of_le (Nat.le_of_lt_succ h)).elim (ip_oa204 c) (fun e => e ▸ ip_o204)
theorem ip_oa206 : ∀ c, c < 206 → ip_okl c = true := fun c h => (Nat.lt_or_eq_of_le (Nat.le_of_lt_succ h)).elim (ip_oa205 c) (fun e => e ▸ ip_o205)
theorem ip_oa207 : ∀ c, c < 207 → ip_okl c = true := fun c h => (Nat.lt_or_eq_of_le (Nat.le_of_lt_succ h)).elim (ip_oa206 c) (fun e => e ▸ ip_o206)
theorem ip_oa208 : ∀ c, c < 208 → ip_okl c = true := fun c h => (Nat.lt_or_eq_of_le (Nat.le_of_lt_succ h)).elim (ip_oa207 c) (fun e => e ▸ ip_o207)
theorem ip_oa209 : ∀ c, c < 209 → ip_okl c = true := fun c h => (Nat.lt_or_eq_of_le (Nat.le_of_lt_succ h)).elim (ip_oa208 c) (fun e => e ▸ ip_o208)
theorem ip_oa210 : ∀ c, c < 210 → ip_okl c = true := fun c h => (Nat.lt_or_eq_of_le (Nat.le_of_lt_succ h)).elim (ip_oa209 c) (fun e => e ▸ ip_o209)
theorem ip_oa211 : ∀ c, c < 211 → ip_okl c = true := fun c h => (Nat.lt_or_eq_of_le (Nat.le_of_lt_succ h)).elim (ip_oa210 c) (fun e => e ▸ ip_o210)
theorem ip_oa212 : ∀ c, c < 212 → ip_okl c = true := fun c h => (Nat.lt_or_eq_of_le (Nat.le_of_lt_succ h)).elim (ip_oa211 c) (fun e => e ▸ ip_o211)
theorem ip_oa213 : ∀ c, c < 213 → ip_okl c = true := fun c h => (Nat.lt_or_eq_of_le (Nat.le_of_lt_succ h)).elim (ip_oa212 c) (fun e => e ▸ ip_o212)
theorem ip_oa214 : ∀ c, c < 214 → ip_okl c = true := fun c h => (Nat.lt_or_eq_of_le (Nat.le_of_lt_succ h)).elim (ip_oa213 c) (fun e => e ▸ ip_o213)
theorem ip_oa215 : ∀ c, c < 215 → ip_okl c = true := fun c h => (Nat.lt_or_eq_of_le (Nat.le_of_lt_succ h)).elim (ip_oa214 c) (fun e => e ▸ ip_o214)
theorem ip_oa216 : ∀ c, c < 216 → ip_okl c = true := fun c h => (Nat.lt_or_eq_of_le (Nat.le_of_lt_succ h)).elim (ip_oa215 c) (fun e => e ▸ ip_o215)
theorem ip_oa217 : ∀ c, c < 217 → ip_okl c = true := fun c h => (Nat.lt_or_eq_of_le (Nat.le_of_lt_succ h)).elim (ip_oa216 c) (fun e => e ▸ ip_o216)
theorem ip_oa218 : ∀ c, c < 218 → ip_okl c = true := fun c h => (Nat.lt_or_eq_of_le (Nat.le_of_lt_succ h)).elim (ip_oa217 c) (fun e => e ▸ ip_o217)
theorem ip_oa219 : ∀ c, c < 219 → ip_okl c = true := fun c h => (Nat.lt_or_eq_of_le (Nat.le_of_lt_succ h)).elim (ip_oa218 c) (fun e => e ▸ ip_o218)
theorem ip_oa220 : ∀ c, c < 220 → ip_okl c = true := fun c h => (Nat.lt_or_eq_of_le (Nat.le_of_lt_succ h)).elim (ip_oa219 c) (fun e => e ▸ ip_o219)
theorem ip_oa221 : ∀ c, c < 221 → ip_okl c = true := fun c h => (Nat.lt_or_eq_of_le (Nat.le_of_lt_succ h)).elim (ip_oa220 c) (fun e => e ▸ ip_o220)
theorem ip_oa222 : ∀ c, c < 222 → ip_okl c = true := fun c h => (Nat.lt_or_eq_of_le (Nat.le_of_lt_succ h)).elim (ip_oa221 c) (fun e => e ▸ ip_o221)
theorem ip_oa223 : ∀ c, c < 223 → ip_okl c = true := fun c h => (Nat.lt_or_eq_of_le (Nat.le_of_lt_succ h)).elim (ip_oa222 c) (fun e => e ▸ ip_o222)
theorem ip_oa224 : ∀ c, c < 224 → ip_okl c = true := fun c h => (Nat.lt_or_eq_of_le (Nat.le_of_lt_succ h)).elim (ip_oa223 c) (fun e => e ▸ ip_o223)
theorem ip_oa225 : ∀ c, c < 225 → ip_okl c = true := fun c h => (Nat.lt_or_eq_of_le (Nat.le_of_lt_succ h)).elim (ip_oa224 c) (fun e => e ▸ ip_o224)
theorem ip_oa226 : ∀ c, c < 226 → ip_okl c = true := fun c h => (Nat.lt_or_eq_of_le (Nat.le_of_lt_succ h)).elim (ip_oa225 c) (fun e => e ▸ ip_o225)
theorem ip_oa227 : ∀ c, c < 227 → ip_okl c = true := fun c h => (Nat.lt_or_eq_of_le (Nat.le_of_lt_succ h)).elim (ip_oa226 c) (fun e => e ▸ ip_o226)
theorem ip_oa228 : ∀ c, c < 228 → ip_okl c = true := fun c h => (Nat.lt_or_eq_of_le (Nat.le_of_lt_succ h)).elim (ip_oa227 c) (fun e => e ▸ ip_o227)
theorem ip_oa229 : ∀ c, c < 229 → ip_okl c = true := fun c h => (Nat.lt_or_eq_of_le (Nat.le_of_lt_succ h)).elim (ip_oa228 c) (fun e => e ▸ ip_o228)
theorem ip_oa230 : ∀ c, c < 230 → ip_okl c = true := fun c h => (Nat.lt_or_eq_of_le (Nat.le_of_lt_succ h)).elim (ip_oa229 c) (fun e => e ▸ ip_o229)
theorem ip_oa231 : ∀ c, c < 231 → ip_okl c = true := fun c h => (Nat.lt_or_eq_of_le (Nat.le_of_lt_succ h)).elim (ip_oa230 c) (fun e => e ▸ ip_o230)
theorem ip_oa232 : ∀ c, c < 232 → ip_okl c = true := fun c h => (Nat.lt_or_eq_of_le (Nat.le_of_lt_succ h)).elim (ip_oa231 c) (fun e => e ▸ ip_o231)
theorem ip_oa233 : ∀ c, c < 233 → ip_okl c = true := fun c h => (Nat.lt_or_eq_of_le (Nat.le_of_lt_succ h)).elim (ip_oa232 c) (fun e => e ▸ ip_o232)
theorem ip_oa234 : ∀ c, c < 234 → ip_okl c = true := fun c h => (Nat.lt_or_eq_of_le (Nat.le_of_lt_succ h)).elim (ip_oa233 c) (fun e => e ▸ ip_o233)
theorem ip_oa235 : ∀ c, c < 235 → ip_okl c = true := fun c h => (Nat.lt_or_eq_of_le (Nat.le_of_lt_succ h)).elim (ip_oa234 c) (fun e => e ▸ ip_o234)
theorem ip_oa236 : ∀ c, c < 236 → ip_okl c = true := fun c h => (Nat.lt_or_eq_of_le (Nat.le_of_lt_succ h)).elim (ip_oa235 c) (fun e => e ▸ ip_o235)
theorem ip_oa237 : ∀ c, c < 237 → ip_okl c = true := fun c h => (Nat.lt_or_eq_of_le (Nat.le_of_lt_succ h)).elim (ip_oa236 c) (fun e => e ▸ ip_o236)
theorem ip_oa238 : ∀ c, c < 238 → ip_okl c = true := fun c h => (Nat.lt_or_eq_of_le (Nat.le_of_lt_succ h)).elim (ip_oa237 c) (fun e => e ▸ ip_o237)
theorem ip_oa239 : ∀ c, c < 239 → ip_okl c = true := fun c h => (Nat.lt_or_eq_of_le (Nat.le_of_lt_succ h)).elim (ip_oa238 c) (fun e => e ▸ ip_o238)
theorem ip_oa240 : ∀ c, c < 240 → ip_okl c = true := fun c h => (Nat.lt_or_eq_of_le (Nat.le_of_lt_succ h)).elim (ip_oa239 c) (fun e => e ▸ ip_o239)
theorem ip_oa241 : ∀ c, c < 241 → ip_okl c = true := fun c h => (Nat.lt_or_eq_of_le (Nat.le_of_lt_succ h)).elim (ip_oa240 c) (fun e => e ▸ ip_o240)
theorem ip_oa242 : ∀ c, c < 242 → ip_okl c = true := fun c h => (Nat.lt_or_eq_of_le (Nat.le_of_lt_succ h)).elim (ip_oa241 c) (fun e => e ▸ ip_o241)
theorem ip_oa243 : ∀ c, c < 243 → ip_okl c = true := fun c h => (Nat.lt_or_eq_of_le (Nat.le_of_lt_succ h)).elim (ip_oa242 c) (fun e => e ▸ ip_o242)
theorem ip_oa244 : ∀ c, c < 244 → ip_okl c = true := fun c h => (Nat.lt_or_eq_of_le (Nat.le_of_lt_succ h)).elim (ip_oa243 c) (fun e => e ▸ ip_o243)
theorem ip_oa245 : ∀ c, c < 245 → ip_okl c = true := fun c h => (Nat.lt_or_eq_of_le (Nat.le_of_lt_succ h)).elim (ip_oa244 c) (fun e => e ▸ ip_o244)
theorem ip_oa246 : ∀ c, c < 246 → ip_okl c = true := fun c h => (Nat.lt_or_eq_of_le (Nat.le_of_lt_succ h)).elim (ip_oa245 c) (fun e => e ▸ ip_o245)
theorem ip_oa247 : ∀ c, c < 247 → ip_okl c = true := fun c h => (Nat.lt_or_eq_of_le (Nat.le_of_lt_succ h)).elim (ip_oa246 c) (fun e => e ▸ ip_o246)
theorem ip_oa248 : ∀ c, c < 248 → ip_okl c = true := fun c h => (Nat.lt_or_eq_of_le (Nat.le_of_lt_succ h)).elim (ip_oa247 c) (fun e => e ▸ ip_o247)
theorem ip_oa249 : ∀ c, c < 249 → ip_okl c = true := fun c h => (Nat.lt_or_eq_of_le (Nat.le_of_lt_succ h)).elim (ip_oa248 c) (fun e => e ▸ ip_o248)
theorem ip_oa250 : ∀ c, c < 250 → ip_okl c = true := fun c h => (Nat.lt_or_eq_of_le (Nat.le_of_lt_succ h)).elim (ip_oa249 c) (fun e => e ▸ ip_o249)
theorem ip_oa251 : ∀ c, c < 251 → ip_okl c = true := fun c h => (Nat.lt_or_eq_of_le (Nat.le_of_lt_succ h)).elim (ip_oa250 c) (fun e => e ▸ ip_o250)
theorem ip_oa252 : ∀ c, c < 252 → ip_okl c = true := fun c h => (Nat.lt_or_eq_of_le (Nat.le_of_lt_succ h)).elim (ip_oa251 c) (fun e => e ▸ ip_o251)
theorem ip_oa253 : ∀ c, c < 253 → ip_okl c = true := fun c h => (Nat.lt_or_eq_of_le (Nat.le_of_lt_succ h)).elim (ip_oa252 c) (fun e => e ▸ ip_o252)
theorem ip_oa254 : ∀ c, c < 254 → ip_okl c = true := fun c h => (Nat.lt_or_eq_of_le (Nat.le_of_lt_succ h)).elim (ip_oa253 c) (fun e => e ▸ ip_o253)
theorem ip_oa255 : ∀ c, c < 255 → ip_okl c = true := fun c h => (Nat.lt_or_eq_of_le (Nat.le_of_lt_succ h)).elim (ip_oa254 c) (fun e => e ▸ ip_o254)
theorem ip_oa256 : ∀ c, c < 256 → ip_okl c = true := fun c h => (Nat.lt_or_eq_of_le (Nat.le_of_lt_succ h)).elim (ip_oa255 c) (fun e => e ▸ ip_o255)
theorem ip_oa257 : ∀ c, c < 257 → ip_okl c = true := fun c h => (Nat.lt_or_eq_of_le (Nat.le_of_lt_succ h)).elim (ip_oa256 c) (fun e => e ▸ ip_o256)
theorem ip_oa258 : ∀ c, c < 258 → ip_okl c = true := fun c h => (Nat.lt_or_eq_of_le (Nat.le_of_lt_succ h)).elim (ip_oa257 c) (fun e => e ▸ ip_o257)
theorem ip_oa259 : ∀ c, c < 259 → ip_okl c = true := fun c h => (Nat.lt_or_eq_of_le (Nat.le_of_lt_succ h)).elim (ip_oa258 c) (fun e => e ▸ ip_o258)
theorem ip_oa260 : ∀ c, c < 260 → ip_okl c = true := fun c h => (Nat.lt_or_eq_of_le (Nat.le_of_lt_succ h)).elim (ip_oa259 c) (fun e => e ▸ ip_o259)
theorem ip_oa261 : ∀ c, c < 261 → ip_okl c = true := fun c h => (Nat.lt_or_eq_of_le (Nat.le_of_lt_succ h)).elim (ip_oa260 c) (fun e => e ▸ ip_o260)
theorem ip_oa262 : ∀ c, c < 262 → ip_okl c = true := fun c h => (Nat.lt_or_eq_of_le (Nat.le_of_lt_succ h)).elim (ip_oa261 c) (fun e => e ▸ ip_o261)
theorem ip_oa263 : ∀ c, c < 263 → ip_okl c = true := fun c h => (Nat.lt_or_eq_of_le (Nat.le_of_lt_succ h)).elim (ip_oa262 c) (fun e => e ▸ ip_o262)
theorem ip_oa264 : ∀ c, c < 264 → ip_okl c = true := fun c h => (Nat.lt_or_eq_of_le (Nat.le_of_lt_succ h)).elim (ip_oa263 c) (fun e => e ▸ ip_o263)
theorem ip_oa265 : ∀ c, c < 265 → ip_okl c = true := fun c h => (Nat.lt_or_eq_of_le (Nat.le_of_lt_succ h)).elim (ip_oa264 c) (fun e => e ▸ ip_o264)
theorem ip_oa266 : ∀ c, c < 266 → ip_okl c = true := fun c h => (Nat.lt_or_eq_of_le (Nat.le_of_lt_succ h)).elim (ip_oa265 c) (fun e => e ▸ ip_o265)
theorem ip_oa267 : ∀ c, c < 267 → ip_okl c = true := fun c h => (Nat.lt_or_eq_of_le (Nat.le_of_lt_succ h)).elim (ip_oa266 c) (fun e => e ▸ ip_o266)
theorem ip_oa268 : ∀ c, c < 268 → ip_okl c = true := fun c h => (Nat.lt_or_eq_of_le (Nat.le_of_lt_succ h)).elim (ip_oa267 c) (fun e => e ▸ ip_o267)
theorem ip_oa269 : ∀ c, c < 269 → ip_okl c = true := fun c h => (Nat.lt_or_eq_of_le (Nat.le_of_lt_succ h)).elim (ip_oa268 c) (fun e => e ▸ ip_o268)
theorem ip_oa270 : ∀ c, c < 270 → ip_okl c = true := fun c h => (Nat.lt_or_eq_of_le (Nat.le_of_lt_succ h)).elim (ip_oa269 c) (fun e => e ▸ ip_o269)
theorem ip_oa271 : ∀ c, c < 271 → ip_okl c = true := fun c h => (Nat.lt_or_eq_of_le (Nat.le_of_lt_succ h)).elim (ip_oa270 c) (fun e => e ▸ ip_o270)
theorem ip_oa272 : ∀ c, c < 272 → ip_okl c = true := fun c h => (Nat.lt_or_eq_of_le (Nat.le_of_lt_succ h)).elim (ip_oa271 c) (fun e => e ▸ ip_o271)
theorem ip_oa273 : ∀ c, c < 273 → ip_okl c = true := fun c h => (Nat.lt_or_eq_of_le (Nat.le_of_lt_succ h)).elim (ip_oa272 c) (fun e => e ▸ ip_o272)
theorem ip_oa274 : ∀ c, c < 274 → ip_okl c = true := fun c h => (Nat.lt_or_eq_of_le (Nat.le_of_lt_succ h)).elim (ip_oa273 c) (fun e => e ▸ ip_o273)
theorem ip_oa275 : ∀ c, c < 275 → ip_okl c = true := fun c h => (Nat.lt_or_eq_of_le (Nat.le_of_lt_succ h)).elim (ip_oa274 c) (fun e => e ▸ ip_o274)
theorem ip_oa276 : ∀ c, c < 276 → ip_okl c = true := fun c h => (Nat.lt_or_eq_of_le (Nat.le_of_lt_succ h)).elim (ip_oa275 c) (fun e => e ▸ ip_o275)
theorem ip_oa277 : ∀ c, c < 277 → ip_okl c = true := fun c h => (Nat.lt_or_eq_of_le (Nat.le_of_lt_succ h)).elim (ip_oa276 c) (fun e => e ▸ ip_o276)
theorem ip_oa278 : ∀ c, c < 278 → ip_okl c = true := fun c h => (Nat.lt_or_eq_of_le (Nat.le_of_lt_succ h)).elim (ip_oa277 c) (fun e => e ▸ ip_o277)
theorem ip_oa279 : ∀ c, c < 279 → ip_okl c = true := fun c h => (Nat.lt_or_eq_of_le (Nat.le_of_lt_succ h)).elim (ip_oa278 c) (fun e => e ▸ ip_o278)
theorem ip_oa280 : ∀ c, c < 280 → ip_okl c = true := fun c h => (Nat.lt_or_eq_of_le (Nat.le_of_lt_succ h)).elim (ip_oa279 c) (fun e => e ▸ ip_o279)
theorem ip_oa281 : ∀ c, c < 281 → ip_okl c = true := fun c h => (Nat.lt_or_eq_of_le (Nat.le_of_lt_succ h)).elim (ip_oa280 c) (fun e => e ▸ ip_o280)
theorem ip_oa282 : ∀ c, c < 282 → ip_okl c = true := fun c h => (Nat.lt_or_eq_of_le (Nat.le_of_lt_succ h)).elim (ip_oa281 c) (fun e => e ▸ ip_o281)
theorem ip_oa283 : ∀ c, c < 283 → ip_okl c = true := fun c h => (Nat.lt_or_eq_of_le (Nat.le_of_lt_succ h)).elim (ip_oa282 c) (fun e => e ▸ ip_o282)
theorem ip_oa284 : ∀ c, c < 284 → ip_okl c = true := fun c h => (Nat.lt_or_eq_of_le (Nat.le_of_lt_succ h)).elim (ip_oa283 c) (fun e => e ▸ ip_o283)
theorem ip_oa285 : ∀ c, c < 285 → ip_okl c = true := fun c h => (Nat.lt_or_eq_of_le (Nat.le_of_lt_succ h)).elim (ip_oa284 c) (fun e => e ▸ ip_o284)
theorem ip_oa286 : ∀ c, c < 286 → ip_okl c = true := fun c h => (Nat.lt_or_eq_of_le (Nat.le_of_lt_succ h)).elim (ip_oa285 c) (fun e => e ▸ ip_o285)
theorem ip_oa287 : ∀ c, c < 287 → ip_okl c = true := fun c h => (Nat.lt_or_eq_of_le (Nat.le_of_lt_succ h)).elim (ip_oa286 c) (fun e => e ▸ ip_o286)
theorem ip_oa288 : ∀ c, c < 288 → ip_okl c = true := fun c h => (Nat.lt_or_eq_of_le (Nat.le_of_lt_succ h)).elim (ip_oa287 c) (fun e => e ▸ ip_o287)
theorem ip_oa289 : ∀ c, c < 289 → ip_okl c = true := fun c h => (Nat.lt_or_eq_of_le (Nat.le_of_lt_succ h)).elim (ip_oa288 c) (fun e => e ▸ ip_o288)
theorem ip_oa290 : ∀ c, c < 290 → ip_okl c = true := fun c h => (Nat.lt_or_eq_of_le (Nat.le_of_lt_succ h)).elim (ip_oa289 c) (fun e => e ▸ ip_o289)
theorem ip_oa291 : ∀ c, c < 291 → ip_okl c = true := fun c h => (Nat.lt_or_eq_of_le (Nat.le_of_lt_succ h)).elim (ip_oa290 c) (fun e => e ▸ ip_o290)
theorem ip_oa292 : ∀ c, c < 292 → ip_okl c = true := fun c h => (Nat.lt_or_eq_of_le (Nat.le_of_lt_succ h)).elim (ip_oa291 c) (fun e => e ▸ ip_o291)
theorem ip_oa293 : ∀ c, c < 293 → ip_okl c = true := fun c h => (Nat.lt_or_eq_of_le (Nat.le_of_lt_succ h)).elim (ip_oa292 c) (fun e => e ▸ ip_o292)
theorem ip_oa294 : ∀ c, c < 294 → ip_okl c = true := fun c h => (Nat.lt_or_eq_of_le (Nat.le_of_lt_succ h)).elim (ip_oa293 c) (fun e => e ▸ ip_o293)
theorem ip_oa295 : ∀ c, c < 295 → ip_okl c = true := fun c h => (Nat.lt_or_eq_of_le (Nat.le_of_lt_succ h)).elim (ip_oa294 c) (fun e => e ▸ ip_o294)
theorem ip_oa296 : ∀ c, c < 296 → ip_okl c = true := fun c h => (Nat.lt_or_eq_of_le (Nat.le_of_lt_succ h)).elim (ip_oa295 c) (fun e => e ▸ ip_o295)
set_option maxRecDepth 100000 in
theorem ip_cs_len : ip_cs.length = 296 := by decide +kernel
theorem ip_mem_lookup {l : List (Nat × ip_E)} {k : Nat} {e : ip_E} (h : l.lookup k = some e) : (k, e) ∈ l := by
  induction l with
  | nil => cases h
  | cons q l ih =>
    obtain ⟨a, x⟩ := q
    rw [List.lookup_cons] at h
    by_cases hk : k = a
    · subst hk
      have e0 : (k == k) = true := by simp
      rw [e0] at h
      cases h
      exact List.mem_cons_self
    · have e0 : (k == a) = false := by simpa using hk
      rw [e0] at h
      exact List.mem_cons_of_mem _ (ih h)
theorem ip_at_ok {y pc : Nat} {e : ip_E} (h : ip_at y pc = some e) : y < 296 ∧ ip_ok y pc e = true := by
  unfold ip_at at h
  have hy : y < 296 := by
    rcases Nat.lt_or_ge y 296 with q | q
    · exact q
    · rw [List.getD_eq_getElem?_getD, List.getElem?_eq_none (by rw [ip_cs_len]; exact q)] at h
      cases h
  exact ⟨hy, List.all_eq_true.mp (ip_oa296 y hy) (pc, e) (ip_mem_lookup h)⟩
end
noncomputable section
-- PART 12.base
-- THE WORLD of the cells
def ip_W (s : State) : Prop := (∀ w ∈ lw_tbl, ip_gw w = true → w.before #[] s = true) ∧ va_AO RX8 s ∧ va_AO RX5 s
theorem ip_gw_use {w : Cond} (hg : ip_gw w = true) {A : Array Value} {s : State} (h : w.before #[] s = true) : w.before A s = true := by
  by_cases ho : w.onTables = true
  · exact va_Nw.use ho h
  · have h1 : goodWord w = true ∨ ip_isN w = true := by simpa [ip_gw] using hg
    rcases h1 with h1 | h1
    · rcases good_of_word h1 with h2 | ⟨ty, rfl⟩
      · rw [Bool.and_eq_true] at h2
        exact absurd h2.1 ho
      · exact h
    · cases w <;> first | (simp [ip_isN] at h1; done) | (exact absurd rfl ho)
theorem ip_W.use {s : State} (h : ip_W s) {w : Cond} (hw : w ∈ lw_tbl) (hg : ip_gw w = true) (A : Array Value) : w.before A s = true := ip_gw_use hg (h.1 w hw hg)
theorem ip_W.warm {s U : State} (h : ip_W s) (hW : s.WarmedH U.vm) : ip_W U := by
  refine ⟨fun w hw hg => ?_, va_AO.moved hW.alike h.2.1, va_AO.moved hW.alike h.2.2⟩
  have h0 := h.1 w hw hg
  have h1 : goodWord w = true ∨ ip_isN w = true := by simpa [ip_gw] using hg
  rcases h1 with h1 | h1
  · exact word_at hW (good_of_word h1) h0
  · cases w with
    | fieldLinkNest => exact va_Nw.warmF hW h0
    | methodLinkNest => exact va_Nw.warmM hW h0
    | _ => simp [ip_isN] at h1
/-- the same under another frame -/
theorem ip_W.frame {s U : State} (h : ip_W s) (hv : s.vm = U.vm) : ip_W U := by
  refine ⟨fun w hw hg => ?_, va_AO.moved (by rw [hv]; exact Vm.Alike.refl _) h.2.1, va_AO.moved (by rw [hv]; exact Vm.Alike.refl _) h.2.2⟩
  have h0 := h.1 w hw hg
  have h1 : goodWord w = true ∨ ip_isN w = true := by simpa [ip_gw] using hg
  rcases h1 with h1 | h1
  · rcases good_of_word h1 with h2 | ⟨ty, rfl⟩
    · rw [Bool.and_eq_true] at h2
      exact va_Nw.same h2.1 hv h0
    · have e : s.setVm U.vm = s := by rw [← hv]; rfl
      have h3 : (Cond.arrayClass ty).before #[] (s.setVm U.vm) = true := by rw [e]; exact h0
      exact h3
  · cases w with
    | fieldLinkNest => exact va_Nw.same rfl hv h0
    | methodLinkNest => exact va_Nw.same rfl hv h0
    | _ => simp [ip_isN] at h1
def ip_rf (base : Nat) (o : Option Nat) : Option Nat := o.map (fun k => base + k)
def ip_fv (base : Nat) (M : ip_H) (k ci j : Nat) : Value := if ip_kd (ip_fty ci j) = 1 then .long (M.2.2.1 k j) else if ip_kd (ip_fty ci j) = 2 then va_rf (ip_rf base (M.2.2.2 k j)) else .int (M.2.1 k j)
def ip_en (base : Nat) (cA : Nat → ClassId) (M : ip_H) (k : Nat) (q : Nat × Nat × Nat) : va_E :=
  if q.1 = 0 then .inr (q.2.1, (List.range q.2.2).map (ip_fv base M k q.2.1))
  else .inl (cA q.2.1, q.2.2, if q.2.1 = 1 then .inr (.inl (M.2.2.1 k)) else if q.2.1 < 4 then .inl (M.2.1 k) else .inr (.inr (.inr (.inr (fun j => ip_rf base (M.2.2.2 k j))))))
def ip_ws (base : Nat) (cA : Nat → ClassId) (M : ip_H) : va_W := M.1.mapIdx (fun k q => (base + k, ip_en base cA M k q))
theorem ip_ws_get (base : Nat) (cA : Nat → ClassId) (M : ip_H) (k : Nat) : (ip_ws base cA M)[k]? = (M.1[k]?).map (fun q => (base + k, ip_en base cA M k q)) := by
  unfold ip_ws
  rw [List.getElem?_mapIdx]
theorem ip_wsD (base : Nat) (cA : Nat → ClassId) (M : ip_H) : va_D (fun q => base ≤ q) (ip_ws base cA M) := by
  refine ⟨fun i j p q hi hj hpq => ?_, fun k q hk => ?_⟩
  · rw [ip_ws_get] at hi hj
    cases h1 : M.1[i]? with
    | none => rw [h1] at hi; cases hi
    | some x =>
      cases h2 : M.1[j]? with
      | none => rw [h2] at hj; cases hj
      | some z =>
        rw [h1] at hi; rw [h2] at hj
        cases hi; cases hj
        dsimp only at hpq
        omega
  · rw [ip_ws_get] at hk
    cases h1 : M.1[k]? with
    | none => rw [h1] at hk; cases hk
    | some x => rw [h1] at hk; cases hk; exact Nat.le_add_right _ _
theorem ip_ws_upd {base : Nat} {cA : Nat → ClassId} {M M1 : ip_H} (h1 : M1.1 = M.1) {k : Nat} {q : Nat × Nat × Nat} (hk : M.1[k]? = some q) (h : ∀ j z, j ≠ k → ip_en base cA M1 j z = ip_en base cA M j z) : ip_ws base cA M1 = (ip_ws base cA M).set k (base + k, ip_en base cA M1 k q) := by
  apply List.ext_getElem?
  intro j
  rw [ip_ws_get, h1]
  by_cases hj : j = k
  · subst hj
    have hl : j < (ip_ws base cA M).length := by
      have e : (ip_ws base cA M)[j]? = some (base + j, ip_en base cA M j q) := by rw [ip_ws_get, hk]; rfl
      exact (List.getElem?_eq_some_iff.mp e).1
    rw [List.getElem?_set_self hl, hk]
    rfl
  · rw [List.getElem?_set_ne (Ne.symm hj), ip_ws_get]
    cases M.1[j]? with
    | none => rfl
    | some z => simp only [Option.map_some]; rw [h j z hj]
theorem ip_en_old {base : Nat} {cA : Nat → ClassId} {M : ip_H} {q : Nat × Nat × Nat} {k : Nat} (hk : k < M.1.length) (z : Nat × Nat × Nat) : ip_en base cA (ip_nw M q) k z = ip_en base cA M k z := by
  have hne : ¬ k = M.1.length := by omega
  have e1 : (ip_nw M q).2.1 k = M.2.1 k := by funext j; show (if k = M.1.length then _ else _) = _; rw [if_neg hne]
  have e2 : (ip_nw M q).2.2.1 k = M.2.2.1 k := by funext j; show (if k = M.1.length then _ else _) = _; rw [if_neg hne]
  have e3 : (ip_nw M q).2.2.2 k = M.2.2.2 k := by funext j; show (if k = M.1.length then _ else _) = _; rw [if_neg hne]
  have e4 : ip_fv base (ip_nw M q) k z.2.1 = ip_fv base M k z.2.1 := by funext j; unfold ip_fv; rw [e1, e2, e3]
  unfold ip_en
  rw [e1, e2, e3, e4]
theorem ip_ws_push {base : Nat} {cA : Nat → ClassId} {M : ip_H} {q : Nat × Nat × Nat} : ip_ws base cA (ip_nw M q) = ip_ws base cA M ++ [(base + M.1.length, ip_en base cA (ip_nw M q) M.1.length q)] := by
  apply List.ext_getElem?
  intro j
  have hlen : (ip_ws base cA M).length = M.1.length := by simp [ip_ws]
  rw [ip_ws_get]
  show ((M.1 ++ [q])[j]?).map _ = _
  by_cases hj : j < M.1.length
  · rw [List.getElem?_append_left hj, List.getElem?_append_left (by rw [hlen]; exact hj), ip_ws_get]
    cases hq : M.1[j]? with
    | none => rfl
    | some z => simp only [Option.map_some]; rw [ip_en_old hj]
  · rw [List.getElem?_append_right (by omega), List.getElem?_append_right (by omega), hlen]
    by_cases h0 : j = M.1.length
    · subst h0
      simp
    · have e : ∀ z : Nat × va_E, ([z] : va_W)[j - M.1.length]? = none := fun z => by
        rw [List.getElem?_eq_none_iff]; simp; omega
      have e2 : ([q] : List (Nat × Nat × Nat))[j - M.1.length]? = none := by rw [List.getElem?_eq_none_iff]; simp; omega
      rw [e, e2]; rfl
theorem ip_sh_get {M : ip_H} {k : Nat} (h : (ip_sh M k).1 ≠ 2) : M.1[k]? = some (ip_sh M k) := by
  unfold ip_sh at h ⊢
  rw [List.getD_eq_getElem?_getD] at h ⊢
  cases hk : M.1[k]? with
  | none => rw [hk] at h; exact absurd rfl h
  | some q => rfl
def ip_wf (M : ip_H) : Prop := ∀ k ci n : Nat, M.1[k]? = some (0, ci, n) → ∃ q : vw_C, ip_cl[ci]? = some q ∧ q.2.2 = n
def ip_KA (cA : Nat → ClassId) (M : ip_H) (s : State) : Prop := ∀ k x n : Nat, M.1[k]? = some (1, x, n) → ArrOfT s (cA x) (ip_ty x) ∧ va_RA s (cA x) (ip_ty x)
def ip_A (cA : Nat → ClassId) (s : State) : Prop := ∀ (x : Nat) (k : ClassId), s.vm.findClass ("[" ++ (ip_ty x).toString) = some k → k = cA x
def ip_Rl (D : va_G) (cA : Nat → ClassId) (base : Nat) (H0 : Heap) (s : State) (M : ip_H) (H : Heap) (locs : List Loc) : Prop :=
  va_P D ip_cl (ip_ws base cA M) H ∧ H.size = base + M.1.length ∧ va_S (fun q => base ≤ q) H0 H locs ∧ ip_wf M ∧ ip_KA cA M s
def ip_Cx (D : va_G) (cA : Nat → ClassId) (y : Nat) (p : Program) (R : Room) (s : State) (m : MethodId) (meth : Method) (c : Code) : Prop :=
  p.tables.exec = Jvm.exec ∧ c.code = ip_by y ∧ c.maxLocals = ip_ml y ∧ s.vm.findClass (ip_os y) = some m.cls ∧ ip_W s ∧ va_K D ip_cl [] s ∧ ip_A cA s ∧ (y = ip_LAW ∨ meth.name = (ip_nm y).name) ∧ ip_fr y ≤ R.frames ∧ ip_lw y ≤ R.locals
def ip_rn (b base : Nat) : Value → Value
  | .ref k => .ref (base + k)
  | .retAddr 0 => .ref b
  | v => v
theorem ip_rn_cat (b base : Nat) (v : Value) : (ip_rn b base v).category = v.category := by
  cases v with
  | retAddr n => cases n <;> rfl
  | _ => rfl
/-- the locals that hold something, with their places -/
def ip_pl (b base : Nat) (ls : List Value) : List (Nat × Value) := (List.range ls.length).filterMap fun i => if ip_get ls i = .retAddr 1 then none else some (i, ip_rn b base (ip_get ls i))
theorem ip_pl_mem {b base : Nat} {ls : List Value} {q : Nat × Value} : q ∈ ip_pl b base ls ↔ q.1 < ls.length ∧ ip_get ls q.1 ≠ .retAddr 1 ∧ q.2 = ip_rn b base (ip_get ls q.1) := by
  unfold ip_pl
  rw [List.mem_filterMap]
  constructor
  · rintro ⟨i, hi, h⟩
    by_cases hg : ip_get ls i = .retAddr 1
    · rw [if_pos hg] at h; cases h
    · rw [if_neg hg] at h
      cases h
      exact ⟨List.mem_range.mp hi, hg, rfl⟩
  · rintro ⟨h1, h2, h3⟩
    exact ⟨q.1, List.mem_range.mpr h1, by rw [if_neg h2, ← h3]⟩
theorem ip_get_lt {ls : List Value} {i : Nat} (h : ip_get ls i ≠ .retAddr 1) : i < ls.length := by
  rcases Nat.lt_or_ge i ls.length with q | q
  · exact q
  · exact absurd (by unfold ip_get; rw [List.getD_eq_getElem?_getD, List.getElem?_eq_none q]; rfl) h
theorem ip_lv_get {b base nL : Nat} {arr : Array Slot} {ls : List Value} (h : lv_has arr nL (ip_pl b base ls)) {i : Nat} (hg : ip_get ls i ≠ .retAddr 1) : arr[i]? = some (.val (ip_rn b base (ip_get ls i))) :=
  h.2.2 (i, ip_rn b base (ip_get ls i)) (ip_pl_mem.mpr ⟨ip_get_lt hg, hg, rfl⟩)
theorem ip_get_set (ls : List Value) (i j : Nat) (v : Value) : ip_get (ls.set i v) j = if i = j ∧ i < ls.length then v else ip_get ls j := by
  unfold ip_get
  rw [List.getD_eq_getElem?_getD, List.getD_eq_getElem?_getD, List.getElem?_set]
  by_cases h : i = j
  · subst h
    by_cases hl : i < ls.length
    · simp [hl]
    · simp [hl]
  · simp [h]
theorem ip_clr_len (ls : List Value) (i : Nat) : (ip_clr ls i).length = ls.length := by
  cases i with
  | zero => rfl
  | succ j => rw [ip_clr]; split <;> simp
theorem ip_clr_get (ls : List Value) (i j : Nat) (h : ip_get (ip_clr ls i) j ≠ .retAddr 1) : ip_get (ip_clr ls i) j = ip_get ls j ∧ ¬ (j + 1 = i ∧ (ip_get ls j).category = 2) := by
  cases i with
  | zero => exact ⟨rfl, fun q => by omega⟩
  | succ i =>
    rw [ip_clr] at h ⊢
    split at h
    · rename_i hc
      rw [if_pos hc]
      rw [ip_get_set] at h ⊢
      split at h
      · exact absurd rfl h
      · rename_i hn
        rw [if_neg hn]
        refine ⟨rfl, fun q => ?_⟩
        obtain ⟨q1, q2⟩ := q
        have : i = j := by omega
        subst this
        exact hn ⟨rfl, ip_get_lt (fun z => by rw [z] at hc; cases hc)⟩
    · rename_i hc
      rw [if_neg hc]
      refine ⟨rfl, fun q => ?_⟩
      obtain ⟨q1, q2⟩ := q
      have : i = j := by omega
      subst this
      exact hc q2
theorem ip_lv_set1 {b base nL : Nat} {arr : Array Slot} {ls : List Value} {i : Nat} {v : Value} {lv' : List (Nat × Value)} (hi : i < ls.length)
    (hl : (i, ip_rn b base v) :: (ip_pl b base ls).filter (fun q => !(q.1 == i) && !(q.1 + 1 == i && q.2.category == 2)) = lv') (h : lv_has arr nL lv') : lv_has arr nL (ip_pl b base (ip_set1 ls i v)) := by
  refine ⟨h.1, h.2.1, fun q hq => h.2.2 q ?_⟩
  obtain ⟨h1, h2, h3⟩ := ip_pl_mem.mp hq
  obtain ⟨j, w⟩ := q
  dsimp only at h1 h2 h3
  subst h3
  rw [← hl]
  unfold ip_set1 at h2 ⊢
  rw [ip_get_set, ip_clr_len] at h2 ⊢
  by_cases hj : i = j
  · subst hj
    rw [if_pos ⟨rfl, hi⟩]
    exact List.mem_cons_self
  · rw [if_neg (fun q => hj q.1)] at h2 ⊢
    obtain ⟨g1, g2⟩ := ip_clr_get ls i j h2
    rw [g1] at h2 ⊢
    refine List.mem_cons_of_mem _ (List.mem_filter.mpr ⟨ip_pl_mem.mpr ⟨ip_get_lt h2, h2, rfl⟩, ?_⟩)
    have e1 : (j == i) = false := by simpa using Ne.symm hj
    dsimp only
    rw [e1, ip_rn_cat]
    by_cases hc : j + 1 = i
    · have : ¬ (ip_get ls j).category = 2 := fun q => g2 ⟨hc, q⟩
      simp [this]
    · simp [hc]
theorem ip_set1_len (ls : List Value) (i : Nat) (v : Value) : (ip_set1 ls i v).length = ls.length := by simp [ip_set1, ip_clr_len]
theorem ip_lv_set2 {b base nL : Nat} {arr : Array Slot} {ls : List Value} {i : Nat} {v : Value} {lv' : List (Nat × Value)} (hi : i + 1 < ls.length)
    (hl : (i, ip_rn b base v) :: (ip_pl b base ls).filter (fun q => !(q.1 == i) && (!(q.1 == i + 1) && !(q.1 + 1 == i && q.2.category == 2))) = lv') (h : lv_has arr nL lv') : lv_has arr nL (ip_pl b base (ip_set2 ls i v)) := by
  refine ⟨h.1, h.2.1, fun q hq => h.2.2 q ?_⟩
  obtain ⟨h1, h2, h3⟩ := ip_pl_mem.mp hq
  obtain ⟨j, w⟩ := q
  dsimp only at h1 h2 h3
  subst h3
  rw [← hl]
  unfold ip_set2 at h2 ⊢
  rw [ip_get_set, List.length_set, ip_clr_len] at h2 ⊢
  by_cases hk : i + 1 = j
  · rw [if_pos ⟨hk, hi⟩] at h2
    exact absurd rfl h2
  · rw [if_neg (fun q => hk q.1)] at h2 ⊢
    rw [ip_get_set, ip_clr_len] at h2 ⊢
    by_cases hj : i = j
    · subst hj
      rw [if_pos ⟨rfl, by omega⟩]
      exact List.mem_cons_self
    · rw [if_neg (fun q => hj q.1)] at h2 ⊢
      obtain ⟨g1, g2⟩ := ip_clr_get ls i j h2
      rw [g1] at h2 ⊢
      refine List.mem_cons_of_mem _ (List.mem_filter.mpr ⟨ip_pl_mem.mpr ⟨ip_get_lt h2, h2, rfl⟩, ?_⟩)
      have e1 : (j == i) = false := by simpa using Ne.symm hj
      have e2 : (j == i + 1) = false := by simpa using Ne.symm hk
      dsimp only
      rw [e1, e2, ip_rn_cat]
      by_cases hc : j + 1 = i
      · have : ¬ (ip_get ls j).category = 2 := fun q => g2 ⟨hc, q⟩
        simp [this]
      · simp [hc]
theorem ip_set2_len (ls : List Value) (i : Nat) (v : Value) : (ip_set2 ls i v).length = ls.length := by simp [ip_set2, ip_clr_len]
theorem ip_i1_inv {st : List Value} {f : Int32 → List Value → Option ip_Z} {z : ip_Z} (h : ip_i1 st f = some z) : ∃ x r, st = .int x :: r ∧ f x r = some z := by
  unfold ip_i1 at h
  split at h
  · exact ⟨_, _, rfl, h⟩
  · cases h
theorem ip_i2_inv {st : List Value} {f : Int32 → Int32 → List Value → Option ip_Z} {z : ip_Z} (h : ip_i2 st f = some z) : ∃ x y r, st = .int y :: .int x :: r ∧ f x y r = some z := by
  unfold ip_i2 at h
  split at h
  · exact ⟨_, _, _, rfl, h⟩
  · cases h
theorem ip_l1_inv {st : List Value} {f : Int64 → List Value → Option ip_Z} {z : ip_Z} (h : ip_l1 st f = some z) : ∃ x r, st = .long x :: r ∧ f x r = some z := by
  unfold ip_l1 at h
  split at h
  · exact ⟨_, _, rfl, h⟩
  · cases h
theorem ip_l2_inv {st : List Value} {f : Int64 → Int64 → List Value → Option ip_Z} {z : ip_Z} (h : ip_l2 st f = some z) : ∃ x y r, st = .long y :: .long x :: r ∧ f x y r = some z := by
  unfold ip_l2 at h
  split at h
  · exact ⟨_, _, _, rfl, h⟩
  · cases h
theorem ip_li_inv {st : List Value} {f : Int64 → Int32 → List Value → Option ip_Z} {z : ip_Z} (h : ip_li st f = some z) : ∃ x y r, st = .int y :: .long x :: r ∧ f x y r = some z := by
  unfold ip_li at h
  split at h
  · exact ⟨_, _, _, rfl, h⟩
  · cases h
theorem ip_r1_inv {st : List Value} {f : Nat → List Value → Option ip_Z} {z : ip_Z} (h : ip_r1 st f = some z) : ∃ x r, st = .ref x :: r ∧ f x r = some z := by
  unfold ip_r1 at h
  split at h
  · exact ⟨_, _, rfl, h⟩
  · cases h
theorem ip_dc_spec {y pc : Nat} {i : Instr} {len nx : Nat} (h : ip_dc y pc i len nx = true) : decode (ip_by y) pc = .ok (i, len) ∧ nx = pc + len := by
  simpa [ip_dc] using h
theorem ip_tg_spec {pc a : Nat} {off : Int} (h : ip_tg pc off a = true) : (pc : Int) + off = (a : Int) := by simpa [ip_tg] using h
end
noncomputable section
-- PART 13.pure
-- SOUNDNESS, one instruction at a time
section IPS
variable {p : Program} {l : Launch} {e : Env} {R : Room} {s : State} {m : MethodId} {args : Array Value} {below : List Frame} {meth : Method} {c : Code} {H : Heap} {locs : List Loc} {cells slots : Nat} {Q : State → Prop}
variable {D : va_G} {cA : Nat → ClassId} {base b y pc : Nat} {X : ip_X} {H0 : Heap} {M : ip_H} {ls st : List Value} {arr : Array Slot} {z : ip_Z} {i : Instr} {nx a k2 t w : Nat} {v : Value} {ts : List Nat}
/-- what is owed of an instruction: the machine goes where the step goes (no cell made) -/
def ip_go (p : Program) (l : Launch) (e : Env) (R : Room) (s : State) (m : MethodId) (args : Array Value) (below : List Frame) (meth : Method) (c : Code) (cells slots : Nat) (Q : State → Prop) (D : va_G) (cA : Nat → ClassId) (base b y : Nat) (H0 : Heap) (z : ip_Z) : Prop :=
  ∀ (H' : Heap) (locs' : List Loc) (arr' : Array Slot), ip_Rl D cA base H0 s z.2.2.2 H' locs' → lv_has arr' (ip_ml y) (ip_pl b base z.2.1) → z.2.1.length = ip_ml y → W p l e R s m args below meth c H' locs' cells slots Q (F0 m z.1 arr' (z.2.2.1.map (ip_rn b base)))

theorem ip_s_iconst {n : Int} (C : ip_Cx D cA y p R s m meth c) (hok : ip_ok y pc ((.iconst n), nx, a, k2, t, w, v, ts) = true) (hs : ip_step y X ((.iconst n), nx, a, k2, t, w, v, ts) ls st M = some z) (hR : ip_Rl D cA base H0 s M H locs) (hl : lv_has arr (ip_ml y) (ip_pl b base ls)) (hlen : ls.length = ip_ml y)
    (kk : ip_go p l e R s m args below meth c cells slots Q D cA base b y H0 z) : W p l e R s m args below meth c H locs cells slots Q (F0 m pc arr (st.map (ip_rn b base))) := by
  obtain ⟨hx, hb, hml, hown, hW, hK, hA, hnm, hfr, hlo⟩ := C
  simp only [ip_ok, Bool.and_eq_true, decide_eq_true_eq] at hok
  obtain ⟨h1, rfl⟩ := hok
  obtain ⟨hd, rfl⟩ := ip_dc_spec h1
  cases hs
  exact lv_iconst hx hb hd rfl (kk H locs arr hR hl hlen)

theorem ip_s_bipush {n : Int} (C : ip_Cx D cA y p R s m meth c) (hok : ip_ok y pc ((.bipush n), nx, a, k2, t, w, v, ts) = true) (hs : ip_step y X ((.bipush n), nx, a, k2, t, w, v, ts) ls st M = some z) (hR : ip_Rl D cA base H0 s M H locs) (hl : lv_has arr (ip_ml y) (ip_pl b base ls)) (hlen : ls.length = ip_ml y)
    (kk : ip_go p l e R s m args below meth c cells slots Q D cA base b y H0 z) : W p l e R s m args below meth c H locs cells slots Q (F0 m pc arr (st.map (ip_rn b base))) := by
  obtain ⟨hx, hb, hml, hown, hW, hK, hA, hnm, hfr, hlo⟩ := C
  simp only [ip_ok, Bool.and_eq_true, decide_eq_true_eq] at hok
  obtain ⟨h1, rfl⟩ := hok
  obtain ⟨hd, rfl⟩ := ip_dc_spec h1
  cases hs
  exact lv_bipush hx hb hd rfl (kk H locs arr hR hl hlen)

theorem ip_s_sipush {n : Int} (C : ip_Cx D cA y p R s m meth c) (hok : ip_ok y pc ((.sipush n), nx, a, k2, t, w, v, ts) = true) (hs : ip_step y X ((.sipush n), nx, a, k2, t, w, v, ts) ls st M = some z) (hR : ip_Rl D cA base H0 s M H locs) (hl : lv_has arr (ip_ml y) (ip_pl b base ls)) (hlen : ls.length = ip_ml y)
    (kk : ip_go p l e R s m args below meth c cells slots Q D cA base b y H0 z) : W p l e R s m args below meth c H locs cells slots Q (F0 m pc arr (st.map (ip_rn b base))) := by
  obtain ⟨hx, hb, hml, hown, hW, hK, hA, hnm, hfr, hlo⟩ := C
  simp only [ip_ok, Bool.and_eq_true, decide_eq_true_eq] at hok
  obtain ⟨h1, rfl⟩ := hok
  obtain ⟨hd, rfl⟩ := ip_dc_spec h1
  cases hs
  exact lv_sipush hx hb hd rfl (kk H locs arr hR hl hlen)

theorem ip_s_lconst {n : Fin 2} (C : ip_Cx D cA y p R s m meth c) (hok : ip_ok y pc ((.lconst n), nx, a, k2, t, w, v, ts) = true) (hs : ip_step y X ((.lconst n), nx, a, k2, t, w, v, ts) ls st M = some z) (hR : ip_Rl D cA base H0 s M H locs) (hl : lv_has arr (ip_ml y) (ip_pl b base ls)) (hlen : ls.length = ip_ml y)
    (kk : ip_go p l e R s m args below meth c cells slots Q D cA base b y H0 z) : W p l e R s m args below meth c H locs cells slots Q (F0 m pc arr (st.map (ip_rn b base))) := by
  obtain ⟨hx, hb, hml, hown, hW, hK, hA, hnm, hfr, hlo⟩ := C
  simp only [ip_ok, Bool.and_eq_true, decide_eq_true_eq] at hok
  obtain ⟨h1, rfl⟩ := hok
  obtain ⟨hd, rfl⟩ := ip_dc_spec h1
  cases hs
  exact lv_lconst hx hb hd rfl (kk H locs arr hR hl hlen)

theorem ip_s_ldc {n : Nat} (C : ip_Cx D cA y p R s m meth c) (hok : ip_ok y pc ((.ldc n), nx, a, k2, t, w, v, ts) = true) (hs : ip_step y X ((.ldc n), nx, a, k2, t, w, v, ts) ls st M = some z) (hR : ip_Rl D cA base H0 s M H locs) (hl : lv_has arr (ip_ml y) (ip_pl b base ls)) (hlen : ls.length = ip_ml y)
    (kk : ip_go p l e R s m args below meth c cells slots Q D cA base b y H0 z) : W p l e R s m args below meth c H locs cells slots Q (F0 m pc arr (st.map (ip_rn b base))) := by
  obtain ⟨hx, hb, hml, hown, hW, hK, hA, hnm, hfr, hlo⟩ := C
  simp only [ip_ok, Bool.and_eq_true] at hok
  obtain ⟨h1, h2⟩ := hok
  obtain ⟨hd, rfl⟩ := ip_dc_spec h1
  cases hs
  cases v with
  | int x =>
    have h3 : lw_tbl[w]? = some (.constant (ip_os y) n x) := by simpa using h2
    exact lv_ldc hx hb hown (hW.use (List.mem_of_getElem? h3) rfl _) hd (kk H locs arr hR hl hlen)
  | _ => simp at h2

theorem ip_s_ldc_w {n : Nat} (C : ip_Cx D cA y p R s m meth c) (hok : ip_ok y pc ((.ldc_w n), nx, a, k2, t, w, v, ts) = true) (hs : ip_step y X ((.ldc_w n), nx, a, k2, t, w, v, ts) ls st M = some z) (hR : ip_Rl D cA base H0 s M H locs) (hl : lv_has arr (ip_ml y) (ip_pl b base ls)) (hlen : ls.length = ip_ml y)
    (kk : ip_go p l e R s m args below meth c cells slots Q D cA base b y H0 z) : W p l e R s m args below meth c H locs cells slots Q (F0 m pc arr (st.map (ip_rn b base))) := by
  obtain ⟨hx, hb, hml, hown, hW, hK, hA, hnm, hfr, hlo⟩ := C
  simp only [ip_ok, Bool.and_eq_true] at hok
  obtain ⟨h1, h2⟩ := hok
  obtain ⟨hd, rfl⟩ := ip_dc_spec h1
  cases hs
  cases v with
  | int x =>
    have h3 : lw_tbl[w]? = some (.constant (ip_os y) n x) := by simpa using h2
    exact lv_ldcw hx hb hown (hW.use (List.mem_of_getElem? h3) rfl _) hd (kk H locs arr hR hl hlen)
  | _ => simp at h2

theorem ip_s_ldc2_w {n : Nat} (C : ip_Cx D cA y p R s m meth c) (hok : ip_ok y pc ((.ldc2_w n), nx, a, k2, t, w, v, ts) = true) (hs : ip_step y X ((.ldc2_w n), nx, a, k2, t, w, v, ts) ls st M = some z) (hR : ip_Rl D cA base H0 s M H locs) (hl : lv_has arr (ip_ml y) (ip_pl b base ls)) (hlen : ls.length = ip_ml y)
    (kk : ip_go p l e R s m args below meth c cells slots Q D cA base b y H0 z) : W p l e R s m args below meth c H locs cells slots Q (F0 m pc arr (st.map (ip_rn b base))) := by
  obtain ⟨hx, hb, hml, hown, hW, hK, hA, hnm, hfr, hlo⟩ := C
  simp only [ip_ok, Bool.and_eq_true] at hok
  obtain ⟨h1, h2⟩ := hok
  obtain ⟨hd, rfl⟩ := ip_dc_spec h1
  cases hs
  cases v with
  | long x =>
    have h3 : lw_tbl[w]? = some (.constantLong (ip_os y) n x) := by simpa using h2
    exact lv_ldc2 hx hb hown (hW.use (List.mem_of_getElem? h3) rfl _) hd (kk H locs arr hR hl hlen)
  | _ => simp at h2

theorem ip_s_iload {n : Nat} (C : ip_Cx D cA y p R s m meth c) (hok : ip_ok y pc ((.iload n), nx, a, k2, t, w, v, ts) = true) (hs : ip_step y X ((.iload n), nx, a, k2, t, w, v, ts) ls st M = some z) (hR : ip_Rl D cA base H0 s M H locs) (hl : lv_has arr (ip_ml y) (ip_pl b base ls)) (hlen : ls.length = ip_ml y)
    (kk : ip_go p l e R s m args below meth c cells slots Q D cA base b y H0 z) : W p l e R s m args below meth c H locs cells slots Q (F0 m pc arr (st.map (ip_rn b base))) := by
  obtain ⟨hx, hb, hml, hown, hW, hK, hA, hnm, hfr, hlo⟩ := C
  simp only [ip_ok, Bool.and_eq_true, decide_eq_true_eq] at hok
  obtain ⟨h1, h2⟩ := hok
  obtain ⟨hd, rfl⟩ := ip_dc_spec h1
  simp only [ip_step] at hs
  split at hs
  · rename_i x hg
    cases hs
    have hv := ip_lv_get hl (i := a) (by rw [hg]; exact fun q => by cases q)
    rw [hg] at hv
    exact lv_iload hx hb hd (by rw [h2]; exact hv) (kk H locs arr hR hl hlen)
  · cases hs

theorem ip_s_iload_n {n : Fin 4} (C : ip_Cx D cA y p R s m meth c) (hok : ip_ok y pc ((.iload_n n), nx, a, k2, t, w, v, ts) = true) (hs : ip_step y X ((.iload_n n), nx, a, k2, t, w, v, ts) ls st M = some z) (hR : ip_Rl D cA base H0 s M H locs) (hl : lv_has arr (ip_ml y) (ip_pl b base ls)) (hlen : ls.length = ip_ml y)
    (kk : ip_go p l e R s m args below meth c cells slots Q D cA base b y H0 z) : W p l e R s m args below meth c H locs cells slots Q (F0 m pc arr (st.map (ip_rn b base))) := by
  obtain ⟨hx, hb, hml, hown, hW, hK, hA, hnm, hfr, hlo⟩ := C
  simp only [ip_ok, Bool.and_eq_true, decide_eq_true_eq] at hok
  obtain ⟨h1, h2⟩ := hok
  obtain ⟨hd, rfl⟩ := ip_dc_spec h1
  simp only [ip_step] at hs
  split at hs
  · rename_i x hg
    cases hs
    have hv := ip_lv_get hl (i := a) (by rw [hg]; exact fun q => by cases q)
    rw [hg] at hv
    exact lv_iload_n hx hb hd h2 hv (kk H locs arr hR hl hlen)
  · cases hs

theorem ip_s_lload {n : Nat} (C : ip_Cx D cA y p R s m meth c) (hok : ip_ok y pc ((.lload n), nx, a, k2, t, w, v, ts) = true) (hs : ip_step y X ((.lload n), nx, a, k2, t, w, v, ts) ls st M = some z) (hR : ip_Rl D cA base H0 s M H locs) (hl : lv_has arr (ip_ml y) (ip_pl b base ls)) (hlen : ls.length = ip_ml y)
    (kk : ip_go p l e R s m args below meth c cells slots Q D cA base b y H0 z) : W p l e R s m args below meth c H locs cells slots Q (F0 m pc arr (st.map (ip_rn b base))) := by
  obtain ⟨hx, hb, hml, hown, hW, hK, hA, hnm, hfr, hlo⟩ := C
  simp only [ip_ok, Bool.and_eq_true, decide_eq_true_eq] at hok
  obtain ⟨h1, h2⟩ := hok
  obtain ⟨hd, rfl⟩ := ip_dc_spec h1
  simp only [ip_step] at hs
  split at hs
  · rename_i x hg
    cases hs
    have hv := ip_lv_get hl (i := a) (by rw [hg]; exact fun q => by cases q)
    rw [hg] at hv
    exact lv_lload hx hb hd (by rw [h2]; exact hv) (kk H locs arr hR hl hlen)
  · cases hs

theorem ip_s_lload_n {n : Fin 4} (C : ip_Cx D cA y p R s m meth c) (hok : ip_ok y pc ((.lload_n n), nx, a, k2, t, w, v, ts) = true) (hs : ip_step y X ((.lload_n n), nx, a, k2, t, w, v, ts) ls st M = some z) (hR : ip_Rl D cA base H0 s M H locs) (hl : lv_has arr (ip_ml y) (ip_pl b base ls)) (hlen : ls.length = ip_ml y)
    (kk : ip_go p l e R s m args below meth c cells slots Q D cA base b y H0 z) : W p l e R s m args below meth c H locs cells slots Q (F0 m pc arr (st.map (ip_rn b base))) := by
  obtain ⟨hx, hb, hml, hown, hW, hK, hA, hnm, hfr, hlo⟩ := C
  simp only [ip_ok, Bool.and_eq_true, decide_eq_true_eq] at hok
  obtain ⟨h1, h2⟩ := hok
  obtain ⟨hd, rfl⟩ := ip_dc_spec h1
  simp only [ip_step] at hs
  split at hs
  · rename_i x hg
    cases hs
    have hv := ip_lv_get hl (i := a) (by rw [hg]; exact fun q => by cases q)
    rw [hg] at hv
    exact lv_lload_n hx hb hd h2 hv (kk H locs arr hR hl hlen)
  · cases hs

theorem ip_s_aload {n : Nat} (C : ip_Cx D cA y p R s m meth c) (hok : ip_ok y pc ((.aload n), nx, a, k2, t, w, v, ts) = true) (hs : ip_step y X ((.aload n), nx, a, k2, t, w, v, ts) ls st M = some z) (hR : ip_Rl D cA base H0 s M H locs) (hl : lv_has arr (ip_ml y) (ip_pl b base ls)) (hlen : ls.length = ip_ml y)
    (kk : ip_go p l e R s m args below meth c cells slots Q D cA base b y H0 z) : W p l e R s m args below meth c H locs cells slots Q (F0 m pc arr (st.map (ip_rn b base))) := by
  obtain ⟨hx, hb, hml, hown, hW, hK, hA, hnm, hfr, hlo⟩ := C
  simp only [ip_ok, Bool.and_eq_true, decide_eq_true_eq] at hok
  obtain ⟨h1, h2⟩ := hok
  obtain ⟨hd, rfl⟩ := ip_dc_spec h1
  simp only [ip_step] at hs
  split at hs
  · rename_i x hg
    cases hs
    have hv := ip_lv_get hl (i := a) (by rw [hg]; exact fun q => by cases q)
    rw [hg] at hv
    exact lv_aload hx hb hd (by rw [h2]; exact hv) (kk H locs arr hR hl hlen)
  · rename_i hg
    cases hs
    have hv := ip_lv_get hl (i := a) (by rw [hg]; exact fun q => by cases q)
    rw [hg] at hv
    exact lv_aload hx hb hd (by rw [h2]; exact hv) (kk H locs arr hR hl hlen)
  · cases hs

theorem ip_s_aload_n {n : Fin 4} (C : ip_Cx D cA y p R s m meth c) (hok : ip_ok y pc ((.aload_n n), nx, a, k2, t, w, v, ts) = true) (hs : ip_step y X ((.aload_n n), nx, a, k2, t, w, v, ts) ls st M = some z) (hR : ip_Rl D cA base H0 s M H locs) (hl : lv_has arr (ip_ml y) (ip_pl b base ls)) (hlen : ls.length = ip_ml y)
    (kk : ip_go p l e R s m args below meth c cells slots Q D cA base b y H0 z) : W p l e R s m args below meth c H locs cells slots Q (F0 m pc arr (st.map (ip_rn b base))) := by
  obtain ⟨hx, hb, hml, hown, hW, hK, hA, hnm, hfr, hlo⟩ := C
  simp only [ip_ok, Bool.and_eq_true, decide_eq_true_eq] at hok
  obtain ⟨h1, h2⟩ := hok
  obtain ⟨hd, rfl⟩ := ip_dc_spec h1
  simp only [ip_step] at hs
  split at hs
  · rename_i x hg
    cases hs
    have hv := ip_lv_get hl (i := a) (by rw [hg]; exact fun q => by cases q)
    rw [hg] at hv
    exact lv_aload_n hx hb hd h2 hv (kk H locs arr hR hl hlen)
  · rename_i hg
    cases hs
    have hv := ip_lv_get hl (i := a) (by rw [hg]; exact fun q => by cases q)
    rw [hg] at hv
    exact lv_aload_n hx hb hd h2 hv (kk H locs arr hR hl hlen)
  · cases hs

theorem ip_s_istore {n : Nat} (C : ip_Cx D cA y p R s m meth c) (hok : ip_ok y pc ((.istore n), nx, a, k2, t, w, v, ts) = true) (hs : ip_step y X ((.istore n), nx, a, k2, t, w, v, ts) ls st M = some z) (hR : ip_Rl D cA base H0 s M H locs) (hl : lv_has arr (ip_ml y) (ip_pl b base ls)) (hlen : ls.length = ip_ml y)
    (kk : ip_go p l e R s m args below meth c cells slots Q D cA base b y H0 z) : W p l e R s m args below meth c H locs cells slots Q (F0 m pc arr (st.map (ip_rn b base))) := by
  obtain ⟨hx, hb, hml, hown, hW, hK, hA, hnm, hfr, hlo⟩ := C
  simp only [ip_ok, Bool.and_eq_true, decide_eq_true_eq] at hok
  obtain ⟨h1, h2, h3⟩ := hok
  obtain ⟨hd, rfl⟩ := ip_dc_spec h1
  obtain ⟨x, r, rfl, hz⟩ := ip_i1_inv hs
  cases hz
  subst h2
  exact lv_istore hx hb hd hl h3 rfl (fun arr' hl' => kk H locs arr' hR (ip_lv_set1 (v := .int x) (by rw [hlen]; exact h3) rfl hl') ((ip_set1_len _ _ _).trans hlen))

theorem ip_s_istore_n {n : Fin 4} (C : ip_Cx D cA y p R s m meth c) (hok : ip_ok y pc ((.istore_n n), nx, a, k2, t, w, v, ts) = true) (hs : ip_step y X ((.istore_n n), nx, a, k2, t, w, v, ts) ls st M = some z) (hR : ip_Rl D cA base H0 s M H locs) (hl : lv_has arr (ip_ml y) (ip_pl b base ls)) (hlen : ls.length = ip_ml y)
    (kk : ip_go p l e R s m args below meth c cells slots Q D cA base b y H0 z) : W p l e R s m args below meth c H locs cells slots Q (F0 m pc arr (st.map (ip_rn b base))) := by
  obtain ⟨hx, hb, hml, hown, hW, hK, hA, hnm, hfr, hlo⟩ := C
  simp only [ip_ok, Bool.and_eq_true, decide_eq_true_eq] at hok
  obtain ⟨h1, h2, h3⟩ := hok
  obtain ⟨hd, rfl⟩ := ip_dc_spec h1
  obtain ⟨x, r, rfl, hz⟩ := ip_i1_inv hs
  cases hz
  skip
  exact lv_istore_n hx hb hd h2 hl h3 rfl (fun arr' hl' => kk H locs arr' hR (ip_lv_set1 (v := .int x) (by rw [hlen]; exact h3) rfl hl') ((ip_set1_len _ _ _).trans hlen))

theorem ip_s_lstore {n : Nat} (C : ip_Cx D cA y p R s m meth c) (hok : ip_ok y pc ((.lstore n), nx, a, k2, t, w, v, ts) = true) (hs : ip_step y X ((.lstore n), nx, a, k2, t, w, v, ts) ls st M = some z) (hR : ip_Rl D cA base H0 s M H locs) (hl : lv_has arr (ip_ml y) (ip_pl b base ls)) (hlen : ls.length = ip_ml y)
    (kk : ip_go p l e R s m args below meth c cells slots Q D cA base b y H0 z) : W p l e R s m args below meth c H locs cells slots Q (F0 m pc arr (st.map (ip_rn b base))) := by
  obtain ⟨hx, hb, hml, hown, hW, hK, hA, hnm, hfr, hlo⟩ := C
  simp only [ip_ok, Bool.and_eq_true, decide_eq_true_eq] at hok
  obtain ⟨h1, h2, h3⟩ := hok
  obtain ⟨hd, rfl⟩ := ip_dc_spec h1
  obtain ⟨x, r, rfl, hz⟩ := ip_l1_inv hs
  cases hz
  subst h2
  exact lv_lstore hx hb hd hl h3 rfl (fun arr' hl' => kk H locs arr' hR (ip_lv_set2 (v := .long x) (by rw [hlen]; exact h3) rfl hl') ((ip_set2_len _ _ _).trans hlen))

theorem ip_s_lstore_n {n : Fin 4} (C : ip_Cx D cA y p R s m meth c) (hok : ip_ok y pc ((.lstore_n n), nx, a, k2, t, w, v, ts) = true) (hs : ip_step y X ((.lstore_n n), nx, a, k2, t, w, v, ts) ls st M = some z) (hR : ip_Rl D cA base H0 s M H locs) (hl : lv_has arr (ip_ml y) (ip_pl b base ls)) (hlen : ls.length = ip_ml y)
    (kk : ip_go p l e R s m args below meth c cells slots Q D cA base b y H0 z) : W p l e R s m args below meth c H locs cells slots Q (F0 m pc arr (st.map (ip_rn b base))) := by
  obtain ⟨hx, hb, hml, hown, hW, hK, hA, hnm, hfr, hlo⟩ := C
  simp only [ip_ok, Bool.and_eq_true, decide_eq_true_eq] at hok
  obtain ⟨h1, h2, h3⟩ := hok
  obtain ⟨hd, rfl⟩ := ip_dc_spec h1
  obtain ⟨x, r, rfl, hz⟩ := ip_l1_inv hs
  cases hz
  skip
  exact lv_lstore_n hx hb hd h2 hl h3 rfl (fun arr' hl' => kk H locs arr' hR (ip_lv_set2 (v := .long x) (by rw [hlen]; exact h3) rfl hl') ((ip_set2_len _ _ _).trans hlen))

theorem ip_s_astore {n : Nat} (C : ip_Cx D cA y p R s m meth c) (hok : ip_ok y pc ((.astore n), nx, a, k2, t, w, v, ts) = true) (hs : ip_step y X ((.astore n), nx, a, k2, t, w, v, ts) ls st M = some z) (hR : ip_Rl D cA base H0 s M H locs) (hl : lv_has arr (ip_ml y) (ip_pl b base ls)) (hlen : ls.length = ip_ml y)
    (kk : ip_go p l e R s m args below meth c cells slots Q D cA base b y H0 z) : W p l e R s m args below meth c H locs cells slots Q (F0 m pc arr (st.map (ip_rn b base))) := by
  obtain ⟨hx, hb, hml, hown, hW, hK, hA, hnm, hfr, hlo⟩ := C
  simp only [ip_ok, Bool.and_eq_true, decide_eq_true_eq] at hok
  obtain ⟨h1, h2, h3⟩ := hok
  obtain ⟨hd, rfl⟩ := ip_dc_spec h1
  obtain ⟨x, r, rfl, hz⟩ := ip_r1_inv hs
  cases hz
  subst h2
  exact lv_astore hx hb hd hl h3 rfl (fun arr' hl' => kk H locs arr' hR (ip_lv_set1 (v := .ref x) (by rw [hlen]; exact h3) rfl hl') ((ip_set1_len _ _ _).trans hlen))

theorem ip_s_astore_n {n : Fin 4} (C : ip_Cx D cA y p R s m meth c) (hok : ip_ok y pc ((.astore_n n), nx, a, k2, t, w, v, ts) = true) (hs : ip_step y X ((.astore_n n), nx, a, k2, t, w, v, ts) ls st M = some z) (hR : ip_Rl D cA base H0 s M H locs) (hl : lv_has arr (ip_ml y) (ip_pl b base ls)) (hlen : ls.length = ip_ml y)
    (kk : ip_go p l e R s m args below meth c cells slots Q D cA base b y H0 z) : W p l e R s m args below meth c H locs cells slots Q (F0 m pc arr (st.map (ip_rn b base))) := by
  obtain ⟨hx, hb, hml, hown, hW, hK, hA, hnm, hfr, hlo⟩ := C
  simp only [ip_ok, Bool.and_eq_true, decide_eq_true_eq] at hok
  obtain ⟨h1, h2, h3⟩ := hok
  obtain ⟨hd, rfl⟩ := ip_dc_spec h1
  obtain ⟨x, r, rfl, hz⟩ := ip_r1_inv hs
  cases hz
  skip
  exact lv_astore_n hx hb hd h2 hl h3 rfl (fun arr' hl' => kk H locs arr' hR (ip_lv_set1 (v := .ref x) (by rw [hlen]; exact h3) rfl hl') ((ip_set1_len _ _ _).trans hlen))

theorem ip_s_iinc {n : Nat} {k : Int} (C : ip_Cx D cA y p R s m meth c) (hok : ip_ok y pc ((.iinc n k), nx, a, k2, t, w, v, ts) = true) (hs : ip_step y X ((.iinc n k), nx, a, k2, t, w, v, ts) ls st M = some z) (hR : ip_Rl D cA base H0 s M H locs) (hl : lv_has arr (ip_ml y) (ip_pl b base ls)) (hlen : ls.length = ip_ml y)
    (kk : ip_go p l e R s m args below meth c cells slots Q D cA base b y H0 z) : W p l e R s m args below meth c H locs cells slots Q (F0 m pc arr (st.map (ip_rn b base))) := by
  obtain ⟨hx, hb, hml, hown, hW, hK, hA, hnm, hfr, hlo⟩ := C
  simp only [ip_ok, Bool.and_eq_true, Bool.or_eq_true, decide_eq_true_eq] at hok
  obtain ⟨h1, h2, h3, h4⟩ := hok
  subst h4
  subst h2
  simp only [ip_step] at hs
  split at hs
  · rename_i x q hg hq
    cases hq
    cases hs
    have hne : ip_get ls n ≠ .retAddr 1 := by rw [hg]; exact fun q => by cases q
    have hm : (n, ip_rn b base (ip_get ls n)) ∈ ip_pl b base ls := ip_pl_mem.mpr ⟨ip_get_lt hne, hne, rfl⟩
    rw [hg] at hm
    obtain ⟨j, hj⟩ := List.getElem?_of_mem hm
    rcases h1 with h1 | h1
    · obtain ⟨hd, rfl⟩ := ip_dc_spec h1
      exact lv_iinc hx hb hd hl hj rfl h3 rfl (fun arr' hl' => kk H locs arr' hR (ip_lv_set1 (v := .int _) (by rw [hlen]; exact h3) rfl hl') ((ip_set1_len _ _ _).trans hlen))
    · obtain ⟨hd, rfl⟩ := ip_dc_spec h1
      exact lv_iincW hx hb hd hl hj rfl h3 rfl (fun arr' hl' => kk H locs arr' hR (ip_lv_set1 (v := .int _) (by rw [hlen]; exact h3) rfl hl') ((ip_set1_len _ _ _).trans hlen))
  · cases hs

theorem ip_s_iadd (C : ip_Cx D cA y p R s m meth c) (hok : ip_ok y pc (.iadd, nx, a, k2, t, w, v, ts) = true) (hs : ip_step y X (.iadd, nx, a, k2, t, w, v, ts) ls st M = some z) (hR : ip_Rl D cA base H0 s M H locs) (hl : lv_has arr (ip_ml y) (ip_pl b base ls)) (hlen : ls.length = ip_ml y)
    (kk : ip_go p l e R s m args below meth c cells slots Q D cA base b y H0 z) : W p l e R s m args below meth c H locs cells slots Q (F0 m pc arr (st.map (ip_rn b base))) := by
  obtain ⟨hx, hb, hml, hown, hW, hK, hA, hnm, hfr, hlo⟩ := C
  simp only [ip_ok] at hok
  obtain ⟨hd, rfl⟩ := ip_dc_spec hok
  obtain ⟨x, q, r, rfl, hz⟩ := ip_i2_inv hs
  cases hz
  exact lv_iadd hx hb hd (kk H locs arr hR hl hlen)

theorem ip_s_isub (C : ip_Cx D cA y p R s m meth c) (hok : ip_ok y pc (.isub, nx, a, k2, t, w, v, ts) = true) (hs : ip_step y X (.isub, nx, a, k2, t, w, v, ts) ls st M = some z) (hR : ip_Rl D cA base H0 s M H locs) (hl : lv_has arr (ip_ml y) (ip_pl b base ls)) (hlen : ls.length = ip_ml y)
    (kk : ip_go p l e R s m args below meth c cells slots Q D cA base b y H0 z) : W p l e R s m args below meth c H locs cells slots Q (F0 m pc arr (st.map (ip_rn b base))) := by
  obtain ⟨hx, hb, hml, hown, hW, hK, hA, hnm, hfr, hlo⟩ := C
  simp only [ip_ok] at hok
  obtain ⟨hd, rfl⟩ := ip_dc_spec hok
  obtain ⟨x, q, r, rfl, hz⟩ := ip_i2_inv hs
  cases hz
  exact lv_isub hx hb hd (kk H locs arr hR hl hlen)

theorem ip_s_imul (C : ip_Cx D cA y p R s m meth c) (hok : ip_ok y pc (.imul, nx, a, k2, t, w, v, ts) = true) (hs : ip_step y X (.imul, nx, a, k2, t, w, v, ts) ls st M = some z) (hR : ip_Rl D cA base H0 s M H locs) (hl : lv_has arr (ip_ml y) (ip_pl b base ls)) (hlen : ls.length = ip_ml y)
    (kk : ip_go p l e R s m args below meth c cells slots Q D cA base b y H0 z) : W p l e R s m args below meth c H locs cells slots Q (F0 m pc arr (st.map (ip_rn b base))) := by
  obtain ⟨hx, hb, hml, hown, hW, hK, hA, hnm, hfr, hlo⟩ := C
  simp only [ip_ok] at hok
  obtain ⟨hd, rfl⟩ := ip_dc_spec hok
  obtain ⟨x, q, r, rfl, hz⟩ := ip_i2_inv hs
  cases hz
  exact lv_imul hx hb hd (kk H locs arr hR hl hlen)

theorem ip_s_iand (C : ip_Cx D cA y p R s m meth c) (hok : ip_ok y pc (.iand, nx, a, k2, t, w, v, ts) = true) (hs : ip_step y X (.iand, nx, a, k2, t, w, v, ts) ls st M = some z) (hR : ip_Rl D cA base H0 s M H locs) (hl : lv_has arr (ip_ml y) (ip_pl b base ls)) (hlen : ls.length = ip_ml y)
    (kk : ip_go p l e R s m args below meth c cells slots Q D cA base b y H0 z) : W p l e R s m args below meth c H locs cells slots Q (F0 m pc arr (st.map (ip_rn b base))) := by
  obtain ⟨hx, hb, hml, hown, hW, hK, hA, hnm, hfr, hlo⟩ := C
  simp only [ip_ok] at hok
  obtain ⟨hd, rfl⟩ := ip_dc_spec hok
  obtain ⟨x, q, r, rfl, hz⟩ := ip_i2_inv hs
  cases hz
  exact lv_iand hx hb hd (kk H locs arr hR hl hlen)

theorem ip_s_ior (C : ip_Cx D cA y p R s m meth c) (hok : ip_ok y pc (.ior, nx, a, k2, t, w, v, ts) = true) (hs : ip_step y X (.ior, nx, a, k2, t, w, v, ts) ls st M = some z) (hR : ip_Rl D cA base H0 s M H locs) (hl : lv_has arr (ip_ml y) (ip_pl b base ls)) (hlen : ls.length = ip_ml y)
    (kk : ip_go p l e R s m args below meth c cells slots Q D cA base b y H0 z) : W p l e R s m args below meth c H locs cells slots Q (F0 m pc arr (st.map (ip_rn b base))) := by
  obtain ⟨hx, hb, hml, hown, hW, hK, hA, hnm, hfr, hlo⟩ := C
  simp only [ip_ok] at hok
  obtain ⟨hd, rfl⟩ := ip_dc_spec hok
  obtain ⟨x, q, r, rfl, hz⟩ := ip_i2_inv hs
  cases hz
  exact lv_ior hx hb hd (kk H locs arr hR hl hlen)

theorem ip_s_ixor (C : ip_Cx D cA y p R s m meth c) (hok : ip_ok y pc (.ixor, nx, a, k2, t, w, v, ts) = true) (hs : ip_step y X (.ixor, nx, a, k2, t, w, v, ts) ls st M = some z) (hR : ip_Rl D cA base H0 s M H locs) (hl : lv_has arr (ip_ml y) (ip_pl b base ls)) (hlen : ls.length = ip_ml y)
    (kk : ip_go p l e R s m args below meth c cells slots Q D cA base b y H0 z) : W p l e R s m args below meth c H locs cells slots Q (F0 m pc arr (st.map (ip_rn b base))) := by
  obtain ⟨hx, hb, hml, hown, hW, hK, hA, hnm, hfr, hlo⟩ := C
  simp only [ip_ok] at hok
  obtain ⟨hd, rfl⟩ := ip_dc_spec hok
  obtain ⟨x, q, r, rfl, hz⟩ := ip_i2_inv hs
  cases hz
  exact lv_ixor hx hb hd (kk H locs arr hR hl hlen)

theorem ip_s_ishl (C : ip_Cx D cA y p R s m meth c) (hok : ip_ok y pc (.ishl, nx, a, k2, t, w, v, ts) = true) (hs : ip_step y X (.ishl, nx, a, k2, t, w, v, ts) ls st M = some z) (hR : ip_Rl D cA base H0 s M H locs) (hl : lv_has arr (ip_ml y) (ip_pl b base ls)) (hlen : ls.length = ip_ml y)
    (kk : ip_go p l e R s m args below meth c cells slots Q D cA base b y H0 z) : W p l e R s m args below meth c H locs cells slots Q (F0 m pc arr (st.map (ip_rn b base))) := by
  obtain ⟨hx, hb, hml, hown, hW, hK, hA, hnm, hfr, hlo⟩ := C
  simp only [ip_ok] at hok
  obtain ⟨hd, rfl⟩ := ip_dc_spec hok
  obtain ⟨x, q, r, rfl, hz⟩ := ip_i2_inv hs
  cases hz
  exact lv_ishl hx hb hd (kk H locs arr hR hl hlen)

theorem ip_s_ishr (C : ip_Cx D cA y p R s m meth c) (hok : ip_ok y pc (.ishr, nx, a, k2, t, w, v, ts) = true) (hs : ip_step y X (.ishr, nx, a, k2, t, w, v, ts) ls st M = some z) (hR : ip_Rl D cA base H0 s M H locs) (hl : lv_has arr (ip_ml y) (ip_pl b base ls)) (hlen : ls.length = ip_ml y)
    (kk : ip_go p l e R s m args below meth c cells slots Q D cA base b y H0 z) : W p l e R s m args below meth c H locs cells slots Q (F0 m pc arr (st.map (ip_rn b base))) := by
  obtain ⟨hx, hb, hml, hown, hW, hK, hA, hnm, hfr, hlo⟩ := C
  simp only [ip_ok] at hok
  obtain ⟨hd, rfl⟩ := ip_dc_spec hok
  obtain ⟨x, q, r, rfl, hz⟩ := ip_i2_inv hs
  cases hz
  exact lv_ishr hx hb hd (kk H locs arr hR hl hlen)

theorem ip_s_ladd (C : ip_Cx D cA y p R s m meth c) (hok : ip_ok y pc (.ladd, nx, a, k2, t, w, v, ts) = true) (hs : ip_step y X (.ladd, nx, a, k2, t, w, v, ts) ls st M = some z) (hR : ip_Rl D cA base H0 s M H locs) (hl : lv_has arr (ip_ml y) (ip_pl b base ls)) (hlen : ls.length = ip_ml y)
    (kk : ip_go p l e R s m args below meth c cells slots Q D cA base b y H0 z) : W p l e R s m args below meth c H locs cells slots Q (F0 m pc arr (st.map (ip_rn b base))) := by
  obtain ⟨hx, hb, hml, hown, hW, hK, hA, hnm, hfr, hlo⟩ := C
  simp only [ip_ok] at hok
  obtain ⟨hd, rfl⟩ := ip_dc_spec hok
  obtain ⟨x, q, r, rfl, hz⟩ := ip_l2_inv hs
  cases hz
  exact lv_ladd hx hb hd (kk H locs arr hR hl hlen)

theorem ip_s_lsub (C : ip_Cx D cA y p R s m meth c) (hok : ip_ok y pc (.lsub, nx, a, k2, t, w, v, ts) = true) (hs : ip_step y X (.lsub, nx, a, k2, t, w, v, ts) ls st M = some z) (hR : ip_Rl D cA base H0 s M H locs) (hl : lv_has arr (ip_ml y) (ip_pl b base ls)) (hlen : ls.length = ip_ml y)
    (kk : ip_go p l e R s m args below meth c cells slots Q D cA base b y H0 z) : W p l e R s m args below meth c H locs cells slots Q (F0 m pc arr (st.map (ip_rn b base))) := by
  obtain ⟨hx, hb, hml, hown, hW, hK, hA, hnm, hfr, hlo⟩ := C
  simp only [ip_ok] at hok
  obtain ⟨hd, rfl⟩ := ip_dc_spec hok
  obtain ⟨x, q, r, rfl, hz⟩ := ip_l2_inv hs
  cases hz
  exact lv_lsub hx hb hd (kk H locs arr hR hl hlen)

theorem ip_s_lmul (C : ip_Cx D cA y p R s m meth c) (hok : ip_ok y pc (.lmul, nx, a, k2, t, w, v, ts) = true) (hs : ip_step y X (.lmul, nx, a, k2, t, w, v, ts) ls st M = some z) (hR : ip_Rl D cA base H0 s M H locs) (hl : lv_has arr (ip_ml y) (ip_pl b base ls)) (hlen : ls.length = ip_ml y)
    (kk : ip_go p l e R s m args below meth c cells slots Q D cA base b y H0 z) : W p l e R s m args below meth c H locs cells slots Q (F0 m pc arr (st.map (ip_rn b base))) := by
  obtain ⟨hx, hb, hml, hown, hW, hK, hA, hnm, hfr, hlo⟩ := C
  simp only [ip_ok] at hok
  obtain ⟨hd, rfl⟩ := ip_dc_spec hok
  obtain ⟨x, q, r, rfl, hz⟩ := ip_l2_inv hs
  cases hz
  exact lv_lmul hx hb hd (kk H locs arr hR hl hlen)

theorem ip_s_land (C : ip_Cx D cA y p R s m meth c) (hok : ip_ok y pc (.land, nx, a, k2, t, w, v, ts) = true) (hs : ip_step y X (.land, nx, a, k2, t, w, v, ts) ls st M = some z) (hR : ip_Rl D cA base H0 s M H locs) (hl : lv_has arr (ip_ml y) (ip_pl b base ls)) (hlen : ls.length = ip_ml y)
    (kk : ip_go p l e R s m args below meth c cells slots Q D cA base b y H0 z) : W p l e R s m args below meth c H locs cells slots Q (F0 m pc arr (st.map (ip_rn b base))) := by
  obtain ⟨hx, hb, hml, hown, hW, hK, hA, hnm, hfr, hlo⟩ := C
  simp only [ip_ok] at hok
  obtain ⟨hd, rfl⟩ := ip_dc_spec hok
  obtain ⟨x, q, r, rfl, hz⟩ := ip_l2_inv hs
  cases hz
  exact lv_land hx hb hd (kk H locs arr hR hl hlen)

theorem ip_s_lor (C : ip_Cx D cA y p R s m meth c) (hok : ip_ok y pc (.lor, nx, a, k2, t, w, v, ts) = true) (hs : ip_step y X (.lor, nx, a, k2, t, w, v, ts) ls st M = some z) (hR : ip_Rl D cA base H0 s M H locs) (hl : lv_has arr (ip_ml y) (ip_pl b base ls)) (hlen : ls.length = ip_ml y)
    (kk : ip_go p l e R s m args below meth c cells slots Q D cA base b y H0 z) : W p l e R s m args below meth c H locs cells slots Q (F0 m pc arr (st.map (ip_rn b base))) := by
  obtain ⟨hx, hb, hml, hown, hW, hK, hA, hnm, hfr, hlo⟩ := C
  simp only [ip_ok] at hok
  obtain ⟨hd, rfl⟩ := ip_dc_spec hok
  obtain ⟨x, q, r, rfl, hz⟩ := ip_l2_inv hs
  cases hz
  exact lv_lor hx hb hd (kk H locs arr hR hl hlen)

theorem ip_s_lxor (C : ip_Cx D cA y p R s m meth c) (hok : ip_ok y pc (.lxor, nx, a, k2, t, w, v, ts) = true) (hs : ip_step y X (.lxor, nx, a, k2, t, w, v, ts) ls st M = some z) (hR : ip_Rl D cA base H0 s M H locs) (hl : lv_has arr (ip_ml y) (ip_pl b base ls)) (hlen : ls.length = ip_ml y)
    (kk : ip_go p l e R s m args below meth c cells slots Q D cA base b y H0 z) : W p l e R s m args below meth c H locs cells slots Q (F0 m pc arr (st.map (ip_rn b base))) := by
  obtain ⟨hx, hb, hml, hown, hW, hK, hA, hnm, hfr, hlo⟩ := C
  simp only [ip_ok] at hok
  obtain ⟨hd, rfl⟩ := ip_dc_spec hok
  obtain ⟨x, q, r, rfl, hz⟩ := ip_l2_inv hs
  cases hz
  exact lv_lxor hx hb hd (kk H locs arr hR hl hlen)

theorem ip_s_idiv (C : ip_Cx D cA y p R s m meth c) (hok : ip_ok y pc (.idiv, nx, a, k2, t, w, v, ts) = true) (hs : ip_step y X (.idiv, nx, a, k2, t, w, v, ts) ls st M = some z) (hR : ip_Rl D cA base H0 s M H locs) (hl : lv_has arr (ip_ml y) (ip_pl b base ls)) (hlen : ls.length = ip_ml y)
    (kk : ip_go p l e R s m args below meth c cells slots Q D cA base b y H0 z) : W p l e R s m args below meth c H locs cells slots Q (F0 m pc arr (st.map (ip_rn b base))) := by
  obtain ⟨hx, hb, hml, hown, hW, hK, hA, hnm, hfr, hlo⟩ := C
  simp only [ip_ok] at hok
  obtain ⟨hd, rfl⟩ := ip_dc_spec hok
  obtain ⟨x, q, r, rfl, hz⟩ := ip_i2_inv hs
  split at hz
  · cases hz
  · rename_i hne
    cases hz
    exact lv_idiv hx hb hd hne (kk H locs arr hR hl hlen)

theorem ip_s_irem (C : ip_Cx D cA y p R s m meth c) (hok : ip_ok y pc (.irem, nx, a, k2, t, w, v, ts) = true) (hs : ip_step y X (.irem, nx, a, k2, t, w, v, ts) ls st M = some z) (hR : ip_Rl D cA base H0 s M H locs) (hl : lv_has arr (ip_ml y) (ip_pl b base ls)) (hlen : ls.length = ip_ml y)
    (kk : ip_go p l e R s m args below meth c cells slots Q D cA base b y H0 z) : W p l e R s m args below meth c H locs cells slots Q (F0 m pc arr (st.map (ip_rn b base))) := by
  obtain ⟨hx, hb, hml, hown, hW, hK, hA, hnm, hfr, hlo⟩ := C
  simp only [ip_ok] at hok
  obtain ⟨hd, rfl⟩ := ip_dc_spec hok
  obtain ⟨x, q, r, rfl, hz⟩ := ip_i2_inv hs
  split at hz
  · cases hz
  · rename_i hne
    cases hz
    exact lv_irem hx hb hd hne (kk H locs arr hR hl hlen)

theorem ip_s_ldiv (C : ip_Cx D cA y p R s m meth c) (hok : ip_ok y pc (.ldiv, nx, a, k2, t, w, v, ts) = true) (hs : ip_step y X (.ldiv, nx, a, k2, t, w, v, ts) ls st M = some z) (hR : ip_Rl D cA base H0 s M H locs) (hl : lv_has arr (ip_ml y) (ip_pl b base ls)) (hlen : ls.length = ip_ml y)
    (kk : ip_go p l e R s m args below meth c cells slots Q D cA base b y H0 z) : W p l e R s m args below meth c H locs cells slots Q (F0 m pc arr (st.map (ip_rn b base))) := by
  obtain ⟨hx, hb, hml, hown, hW, hK, hA, hnm, hfr, hlo⟩ := C
  simp only [ip_ok] at hok
  obtain ⟨hd, rfl⟩ := ip_dc_spec hok
  obtain ⟨x, q, r, rfl, hz⟩ := ip_l2_inv hs
  split at hz
  · cases hz
  · rename_i hne
    cases hz
    exact lv_ldiv hx hb hd hne (kk H locs arr hR hl hlen)

theorem ip_s_lrem (C : ip_Cx D cA y p R s m meth c) (hok : ip_ok y pc (.lrem, nx, a, k2, t, w, v, ts) = true) (hs : ip_step y X (.lrem, nx, a, k2, t, w, v, ts) ls st M = some z) (hR : ip_Rl D cA base H0 s M H locs) (hl : lv_has arr (ip_ml y) (ip_pl b base ls)) (hlen : ls.length = ip_ml y)
    (kk : ip_go p l e R s m args below meth c cells slots Q D cA base b y H0 z) : W p l e R s m args below meth c H locs cells slots Q (F0 m pc arr (st.map (ip_rn b base))) := by
  obtain ⟨hx, hb, hml, hown, hW, hK, hA, hnm, hfr, hlo⟩ := C
  simp only [ip_ok] at hok
  obtain ⟨hd, rfl⟩ := ip_dc_spec hok
  obtain ⟨x, q, r, rfl, hz⟩ := ip_l2_inv hs
  split at hz
  · cases hz
  · rename_i hne
    cases hz
    exact lv_lrem hx hb hd hne (kk H locs arr hR hl hlen)

theorem ip_s_ineg (C : ip_Cx D cA y p R s m meth c) (hok : ip_ok y pc (.ineg, nx, a, k2, t, w, v, ts) = true) (hs : ip_step y X (.ineg, nx, a, k2, t, w, v, ts) ls st M = some z) (hR : ip_Rl D cA base H0 s M H locs) (hl : lv_has arr (ip_ml y) (ip_pl b base ls)) (hlen : ls.length = ip_ml y)
    (kk : ip_go p l e R s m args below meth c cells slots Q D cA base b y H0 z) : W p l e R s m args below meth c H locs cells slots Q (F0 m pc arr (st.map (ip_rn b base))) := by
  obtain ⟨hx, hb, hml, hown, hW, hK, hA, hnm, hfr, hlo⟩ := C
  simp only [ip_ok] at hok
  obtain ⟨hd, rfl⟩ := ip_dc_spec hok
  obtain ⟨x, r, rfl, hz⟩ := ip_i1_inv hs
  cases hz
  exact lv_ineg hx hb hd (kk H locs arr hR hl hlen)

theorem ip_s_lneg (C : ip_Cx D cA y p R s m meth c) (hok : ip_ok y pc (.lneg, nx, a, k2, t, w, v, ts) = true) (hs : ip_step y X (.lneg, nx, a, k2, t, w, v, ts) ls st M = some z) (hR : ip_Rl D cA base H0 s M H locs) (hl : lv_has arr (ip_ml y) (ip_pl b base ls)) (hlen : ls.length = ip_ml y)
    (kk : ip_go p l e R s m args below meth c cells slots Q D cA base b y H0 z) : W p l e R s m args below meth c H locs cells slots Q (F0 m pc arr (st.map (ip_rn b base))) := by
  obtain ⟨hx, hb, hml, hown, hW, hK, hA, hnm, hfr, hlo⟩ := C
  simp only [ip_ok] at hok
  obtain ⟨hd, rfl⟩ := ip_dc_spec hok
  obtain ⟨x, r, rfl, hz⟩ := ip_l1_inv hs
  cases hz
  exact lv_lneg hx hb hd (kk H locs arr hR hl hlen)

theorem ip_s_lshl (C : ip_Cx D cA y p R s m meth c) (hok : ip_ok y pc (.lshl, nx, a, k2, t, w, v, ts) = true) (hs : ip_step y X (.lshl, nx, a, k2, t, w, v, ts) ls st M = some z) (hR : ip_Rl D cA base H0 s M H locs) (hl : lv_has arr (ip_ml y) (ip_pl b base ls)) (hlen : ls.length = ip_ml y)
    (kk : ip_go p l e R s m args below meth c cells slots Q D cA base b y H0 z) : W p l e R s m args below meth c H locs cells slots Q (F0 m pc arr (st.map (ip_rn b base))) := by
  obtain ⟨hx, hb, hml, hown, hW, hK, hA, hnm, hfr, hlo⟩ := C
  simp only [ip_ok] at hok
  obtain ⟨hd, rfl⟩ := ip_dc_spec hok
  obtain ⟨x, q, r, rfl, hz⟩ := ip_li_inv hs
  cases hz
  exact lv_lshl hx hb hd rfl (kk H locs arr hR hl hlen)

theorem ip_s_lshr (C : ip_Cx D cA y p R s m meth c) (hok : ip_ok y pc (.lshr, nx, a, k2, t, w, v, ts) = true) (hs : ip_step y X (.lshr, nx, a, k2, t, w, v, ts) ls st M = some z) (hR : ip_Rl D cA base H0 s M H locs) (hl : lv_has arr (ip_ml y) (ip_pl b base ls)) (hlen : ls.length = ip_ml y)
    (kk : ip_go p l e R s m args below meth c cells slots Q D cA base b y H0 z) : W p l e R s m args below meth c H locs cells slots Q (F0 m pc arr (st.map (ip_rn b base))) := by
  obtain ⟨hx, hb, hml, hown, hW, hK, hA, hnm, hfr, hlo⟩ := C
  simp only [ip_ok] at hok
  obtain ⟨hd, rfl⟩ := ip_dc_spec hok
  obtain ⟨x, q, r, rfl, hz⟩ := ip_li_inv hs
  cases hz
  exact lv_lshr hx hb hd rfl (kk H locs arr hR hl hlen)

theorem ip_s_lushr (C : ip_Cx D cA y p R s m meth c) (hok : ip_ok y pc (.lushr, nx, a, k2, t, w, v, ts) = true) (hs : ip_step y X (.lushr, nx, a, k2, t, w, v, ts) ls st M = some z) (hR : ip_Rl D cA base H0 s M H locs) (hl : lv_has arr (ip_ml y) (ip_pl b base ls)) (hlen : ls.length = ip_ml y)
    (kk : ip_go p l e R s m args below meth c cells slots Q D cA base b y H0 z) : W p l e R s m args below meth c H locs cells slots Q (F0 m pc arr (st.map (ip_rn b base))) := by
  obtain ⟨hx, hb, hml, hown, hW, hK, hA, hnm, hfr, hlo⟩ := C
  simp only [ip_ok] at hok
  obtain ⟨hd, rfl⟩ := ip_dc_spec hok
  obtain ⟨x, q, r, rfl, hz⟩ := ip_li_inv hs
  cases hz
  exact lv_lushr hx hb hd rfl (kk H locs arr hR hl hlen)

theorem ip_s_lcmp (C : ip_Cx D cA y p R s m meth c) (hok : ip_ok y pc (.lcmp, nx, a, k2, t, w, v, ts) = true) (hs : ip_step y X (.lcmp, nx, a, k2, t, w, v, ts) ls st M = some z) (hR : ip_Rl D cA base H0 s M H locs) (hl : lv_has arr (ip_ml y) (ip_pl b base ls)) (hlen : ls.length = ip_ml y)
    (kk : ip_go p l e R s m args below meth c cells slots Q D cA base b y H0 z) : W p l e R s m args below meth c H locs cells slots Q (F0 m pc arr (st.map (ip_rn b base))) := by
  obtain ⟨hx, hb, hml, hown, hW, hK, hA, hnm, hfr, hlo⟩ := C
  simp only [ip_ok] at hok
  obtain ⟨hd, rfl⟩ := ip_dc_spec hok
  obtain ⟨x, q, r, rfl, hz⟩ := ip_l2_inv hs
  cases hz
  exact W.lcmp hx hb hd (kk H locs arr hR hl hlen)

theorem ip_s_i2l (C : ip_Cx D cA y p R s m meth c) (hok : ip_ok y pc (.i2l, nx, a, k2, t, w, v, ts) = true) (hs : ip_step y X (.i2l, nx, a, k2, t, w, v, ts) ls st M = some z) (hR : ip_Rl D cA base H0 s M H locs) (hl : lv_has arr (ip_ml y) (ip_pl b base ls)) (hlen : ls.length = ip_ml y)
    (kk : ip_go p l e R s m args below meth c cells slots Q D cA base b y H0 z) : W p l e R s m args below meth c H locs cells slots Q (F0 m pc arr (st.map (ip_rn b base))) := by
  obtain ⟨hx, hb, hml, hown, hW, hK, hA, hnm, hfr, hlo⟩ := C
  simp only [ip_ok] at hok
  obtain ⟨hd, rfl⟩ := ip_dc_spec hok
  obtain ⟨x, r, rfl, hz⟩ := ip_i1_inv hs
  cases hz
  exact lv_i2l hx hb hd rfl (kk H locs arr hR hl hlen)

theorem ip_s_l2i (C : ip_Cx D cA y p R s m meth c) (hok : ip_ok y pc (.l2i, nx, a, k2, t, w, v, ts) = true) (hs : ip_step y X (.l2i, nx, a, k2, t, w, v, ts) ls st M = some z) (hR : ip_Rl D cA base H0 s M H locs) (hl : lv_has arr (ip_ml y) (ip_pl b base ls)) (hlen : ls.length = ip_ml y)
    (kk : ip_go p l e R s m args below meth c cells slots Q D cA base b y H0 z) : W p l e R s m args below meth c H locs cells slots Q (F0 m pc arr (st.map (ip_rn b base))) := by
  obtain ⟨hx, hb, hml, hown, hW, hK, hA, hnm, hfr, hlo⟩ := C
  simp only [ip_ok] at hok
  obtain ⟨hd, rfl⟩ := ip_dc_spec hok
  obtain ⟨x, r, rfl, hz⟩ := ip_l1_inv hs
  cases hz
  exact lv_l2i hx hb hd rfl (kk H locs arr hR hl hlen)

theorem ip_s_i2b (C : ip_Cx D cA y p R s m meth c) (hok : ip_ok y pc (.i2b, nx, a, k2, t, w, v, ts) = true) (hs : ip_step y X (.i2b, nx, a, k2, t, w, v, ts) ls st M = some z) (hR : ip_Rl D cA base H0 s M H locs) (hl : lv_has arr (ip_ml y) (ip_pl b base ls)) (hlen : ls.length = ip_ml y)
    (kk : ip_go p l e R s m args below meth c cells slots Q D cA base b y H0 z) : W p l e R s m args below meth c H locs cells slots Q (F0 m pc arr (st.map (ip_rn b base))) := by
  obtain ⟨hx, hb, hml, hown, hW, hK, hA, hnm, hfr, hlo⟩ := C
  simp only [ip_ok] at hok
  obtain ⟨hd, rfl⟩ := ip_dc_spec hok
  obtain ⟨x, r, rfl, hz⟩ := ip_i1_inv hs
  cases hz
  exact lv_i2b hx hb hd rfl (kk H locs arr hR hl hlen)

theorem ip_s_goto {off : Int} (C : ip_Cx D cA y p R s m meth c) (hok : ip_ok y pc ((.goto off), nx, a, k2, t, w, v, ts) = true) (hs : ip_step y X ((.goto off), nx, a, k2, t, w, v, ts) ls st M = some z) (hR : ip_Rl D cA base H0 s M H locs) (hl : lv_has arr (ip_ml y) (ip_pl b base ls)) (hlen : ls.length = ip_ml y)
    (kk : ip_go p l e R s m args below meth c cells slots Q D cA base b y H0 z) : W p l e R s m args below meth c H locs cells slots Q (F0 m pc arr (st.map (ip_rn b base))) := by
  obtain ⟨hx, hb, hml, hown, hW, hK, hA, hnm, hfr, hlo⟩ := C
  simp only [ip_ok, Bool.and_eq_true, decide_eq_true_eq] at hok
  obtain ⟨hd, h2⟩ := hok
  cases hs
  exact lv_goto hx hb hd (ip_tg_spec h2) (kk H locs arr hR hl hlen)

theorem ip_s_ifCond {cd : ClassFile.Cond} {off : Int} (C : ip_Cx D cA y p R s m meth c) (hok : ip_ok y pc ((.ifCond cd off), nx, a, k2, t, w, v, ts) = true) (hs : ip_step y X ((.ifCond cd off), nx, a, k2, t, w, v, ts) ls st M = some z) (hR : ip_Rl D cA base H0 s M H locs) (hl : lv_has arr (ip_ml y) (ip_pl b base ls)) (hlen : ls.length = ip_ml y)
    (kk : ip_go p l e R s m args below meth c cells slots Q D cA base b y H0 z) : W p l e R s m args below meth c H locs cells slots Q (F0 m pc arr (st.map (ip_rn b base))) := by
  obtain ⟨hx, hb, hml, hown, hW, hK, hA, hnm, hfr, hlo⟩ := C
  simp only [ip_ok, Bool.and_eq_true] at hok
  obtain ⟨h1, h2⟩ := hok
  obtain ⟨hd, rfl⟩ := ip_dc_spec h1
  have ht := ip_tg_spec h2
  obtain ⟨x, r, rfl, hz⟩ := ip_i1_inv hs
  cases hz
  cases cd with
  | eq =>
    refine lv_if_eq hx hb hd ht (fun g => ?_) (fun g => ?_)
    · have k1 := kk H locs arr hR hl hlen
      dsimp only [ip_cd] at k1
      simp only [g, decide_true, decide_false, Bool.not_true, Bool.not_false, if_true, if_false, Bool.false_eq_true] at k1
      exact k1
    · have k1 := kk H locs arr hR hl hlen
      dsimp only [ip_cd] at k1
      simp only [g, decide_true, decide_false, Bool.not_true, Bool.not_false, if_true, if_false, Bool.false_eq_true] at k1
      exact k1
  | ne =>
    refine lv_if_ne hx hb hd ht (fun g => ?_) (fun g => ?_)
    · have k1 := kk H locs arr hR hl hlen
      dsimp only [ip_cd] at k1
      simp only [g, decide_true, decide_false, Bool.not_true, Bool.not_false, if_true, if_false, Bool.false_eq_true] at k1
      exact k1
    · have k1 := kk H locs arr hR hl hlen
      dsimp only [ip_cd] at k1
      simp only [g, decide_true, decide_false, Bool.not_true, Bool.not_false, if_true, if_false, Bool.false_eq_true] at k1
      exact k1
  | lt =>
    refine lv_if_lt hx hb hd ht (fun g => ?_) (fun g => ?_)
    · have k1 := kk H locs arr hR hl hlen
      dsimp only [ip_cd] at k1
      simp only [g, decide_true, decide_false, Bool.not_true, Bool.not_false, if_true, if_false, Bool.false_eq_true] at k1
      exact k1
    · have k1 := kk H locs arr hR hl hlen
      dsimp only [ip_cd] at k1
      simp only [g, decide_true, decide_false, Bool.not_true, Bool.not_false, if_true, if_false, Bool.false_eq_true] at k1
      exact k1
  | ge =>
    refine lv_if_ge hx hb hd ht (fun g => ?_) (fun g => ?_)
    · have k1 := kk H locs arr hR hl hlen
      dsimp only [ip_cd] at k1
      simp only [g, decide_true, decide_false, Bool.not_true, Bool.not_false, if_true, if_false, Bool.false_eq_true] at k1
      exact k1
    · have k1 := kk H locs arr hR hl hlen
      dsimp only [ip_cd] at k1
      simp only [g, decide_true, decide_false, Bool.not_true, Bool.not_false, if_true, if_false, Bool.false_eq_true] at k1
      exact k1
  | gt =>
    refine lv_if_gt hx hb hd ht (fun g => ?_) (fun g => ?_)
    · have k1 := kk H locs arr hR hl hlen
      dsimp only [ip_cd] at k1
      simp only [g, decide_true, decide_false, Bool.not_true, Bool.not_false, if_true, if_false, Bool.false_eq_true] at k1
      exact k1
    · have k1 := kk H locs arr hR hl hlen
      dsimp only [ip_cd] at k1
      simp only [g, decide_true, decide_false, Bool.not_true, Bool.not_false, if_true, if_false, Bool.false_eq_true] at k1
      exact k1
  | le =>
    refine lv_if_le hx hb hd ht (fun g => ?_) (fun g => ?_)
    · have k1 := kk H locs arr hR hl hlen
      dsimp only [ip_cd] at k1
      simp only [g, decide_true, decide_false, Bool.not_true, Bool.not_false, if_true, if_false, Bool.false_eq_true] at k1
      exact k1
    · have k1 := kk H locs arr hR hl hlen
      dsimp only [ip_cd] at k1
      simp only [g, decide_true, decide_false, Bool.not_true, Bool.not_false, if_true, if_false, Bool.false_eq_true] at k1
      exact k1

theorem ip_s_if_icmp {cd : ClassFile.Cond} {off : Int} (C : ip_Cx D cA y p R s m meth c) (hok : ip_ok y pc ((.if_icmp cd off), nx, a, k2, t, w, v, ts) = true) (hs : ip_step y X ((.if_icmp cd off), nx, a, k2, t, w, v, ts) ls st M = some z) (hR : ip_Rl D cA base H0 s M H locs) (hl : lv_has arr (ip_ml y) (ip_pl b base ls)) (hlen : ls.length = ip_ml y)
    (kk : ip_go p l e R s m args below meth c cells slots Q D cA base b y H0 z) : W p l e R s m args below meth c H locs cells slots Q (F0 m pc arr (st.map (ip_rn b base))) := by
  obtain ⟨hx, hb, hml, hown, hW, hK, hA, hnm, hfr, hlo⟩ := C
  simp only [ip_ok, Bool.and_eq_true] at hok
  obtain ⟨h1, h2⟩ := hok
  obtain ⟨hd, rfl⟩ := ip_dc_spec h1
  have ht := ip_tg_spec h2
  obtain ⟨x, q, r, rfl, hz⟩ := ip_i2_inv hs
  cases hz
  cases cd with
  | eq =>
    refine lv_icmp_eq hx hb hd ht (fun g => ?_) (fun g => ?_)
    · have k1 := kk H locs arr hR hl hlen
      dsimp only [ip_cd] at k1
      simp only [g, decide_true, decide_false, Bool.not_true, Bool.not_false, if_true, if_false, Bool.false_eq_true] at k1
      exact k1
    · have k1 := kk H locs arr hR hl hlen
      dsimp only [ip_cd] at k1
      simp only [g, decide_true, decide_false, Bool.not_true, Bool.not_false, if_true, if_false, Bool.false_eq_true] at k1
      exact k1
  | ne =>
    refine lv_icmp_ne hx hb hd ht (fun g => ?_) (fun g => ?_)
    · have k1 := kk H locs arr hR hl hlen
      dsimp only [ip_cd] at k1
      simp only [g, decide_true, decide_false, Bool.not_true, Bool.not_false, if_true, if_false, Bool.false_eq_true] at k1
      exact k1
    · have k1 := kk H locs arr hR hl hlen
      dsimp only [ip_cd] at k1
      simp only [g, decide_true, decide_false, Bool.not_true, Bool.not_false, if_true, if_false, Bool.false_eq_true] at k1
      exact k1
  | lt =>
    refine lv_icmp_lt hx hb hd ht (fun g => ?_) (fun g => ?_)
    · have k1 := kk H locs arr hR hl hlen
      dsimp only [ip_cd] at k1
      simp only [g, decide_true, decide_false, Bool.not_true, Bool.not_false, if_true, if_false, Bool.false_eq_true] at k1
      exact k1
    · have k1 := kk H locs arr hR hl hlen
      dsimp only [ip_cd] at k1
      simp only [g, decide_true, decide_false, Bool.not_true, Bool.not_false, if_true, if_false, Bool.false_eq_true] at k1
      exact k1
  | ge =>
    refine lv_icmp_ge hx hb hd ht (fun g => ?_) (fun g => ?_)
    · have k1 := kk H locs arr hR hl hlen
      dsimp only [ip_cd] at k1
      simp only [g, decide_true, decide_false, Bool.not_true, Bool.not_false, if_true, if_false, Bool.false_eq_true] at k1
      exact k1
    · have k1 := kk H locs arr hR hl hlen
      dsimp only [ip_cd] at k1
      simp only [g, decide_true, decide_false, Bool.not_true, Bool.not_false, if_true, if_false, Bool.false_eq_true] at k1
      exact k1
  | gt =>
    refine lv_icmp_gt hx hb hd ht (fun g => ?_) (fun g => ?_)
    · have k1 := kk H locs arr hR hl hlen
      dsimp only [ip_cd] at k1
      simp only [g, decide_true, decide_false, Bool.not_true, Bool.not_false, if_true, if_false, Bool.false_eq_true] at k1
      exact k1
    · have k1 := kk H locs arr hR hl hlen
      dsimp only [ip_cd] at k1
      simp only [g, decide_true, decide_false, Bool.not_true, Bool.not_false, if_true, if_false, Bool.false_eq_true] at k1
      exact k1
  | le =>
    refine lv_icmp_le hx hb hd ht (fun g => ?_) (fun g => ?_)
    · have k1 := kk H locs arr hR hl hlen
      dsimp only [ip_cd] at k1
      simp only [g, decide_true, decide_false, Bool.not_true, Bool.not_false, if_true, if_false, Bool.false_eq_true] at k1
      exact k1
    · have k1 := kk H locs arr hR hl hlen
      dsimp only [ip_cd] at k1
      simp only [g, decide_true, decide_false, Bool.not_true, Bool.not_false, if_true, if_false, Bool.false_eq_true] at k1
      exact k1

theorem ip_s_tableswitch {d lo hi : Int} {offs : Array Int} (C : ip_Cx D cA y p R s m meth c) (hok : ip_ok y pc ((.tableswitch d lo hi offs), nx, a, k2, t, w, v, ts) = true) (hs : ip_step y X ((.tableswitch d lo hi offs), nx, a, k2, t, w, v, ts) ls st M = some z) (hR : ip_Rl D cA base H0 s M H locs) (hl : lv_has arr (ip_ml y) (ip_pl b base ls)) (hlen : ls.length = ip_ml y)
    (kk : ip_go p l e R s m args below meth c cells slots Q D cA base b y H0 z) : W p l e R s m args below meth c H locs cells slots Q (F0 m pc arr (st.map (ip_rn b base))) := by
  obtain ⟨hx, hb, hml, hown, hW, hK, hA, hnm, hfr, hlo⟩ := C
  simp only [ip_ok, Bool.and_eq_true, decide_eq_true_eq] at hok
  obtain ⟨hd, h2, h3, h4, h5⟩ := hok
  obtain ⟨x, r, rfl, hz⟩ := ip_i1_inv hs
  cases hz
  have k1 := kk H locs arr hR hl hlen
  dsimp only at k1
  by_cases ho : x.toInt < lo ∨ hi < x.toInt
  · rw [if_pos ho] at k1
    exact lv_tableOut hx hb hd ho (ip_tg_spec h2) k1
  · rw [if_neg ho] at k1
    have g1 : ¬ x.toInt < lo := fun q => ho (Or.inl q)
    have g2 : ¬ hi < x.toInt := fun q => ho (Or.inr q)
    have g3 : (x.toInt - lo).toNat < ts.length := by omega
    have g4 := List.all_eq_true.mp h5 _ (List.mem_range.mpr g3)
    have g5 : (pc : Int) + offs.getD (x.toInt - lo).toNat 0 = ((ts.getD (x.toInt - lo).toNat a : Nat) : Int) := by simpa using g4
    refine lv_tableIn hx hb hd g1 g2 (off := offs.getD (x.toInt - lo).toNat 0) ?_ g5 k1
    rw [Array.getD_eq_getD_getElem?, Array.getElem?_eq_getElem (by omega)]
    rfl

theorem ip_s_dup (C : ip_Cx D cA y p R s m meth c) (hok : ip_ok y pc (.dup, nx, a, k2, t, w, v, ts) = true) (hs : ip_step y X (.dup, nx, a, k2, t, w, v, ts) ls st M = some z) (hR : ip_Rl D cA base H0 s M H locs) (hl : lv_has arr (ip_ml y) (ip_pl b base ls)) (hlen : ls.length = ip_ml y)
    (kk : ip_go p l e R s m args below meth c cells slots Q D cA base b y H0 z) : W p l e R s m args below meth c H locs cells slots Q (F0 m pc arr (st.map (ip_rn b base))) := by
  obtain ⟨hx, hb, hml, hown, hW, hK, hA, hnm, hfr, hlo⟩ := C
  simp only [ip_ok] at hok
  obtain ⟨hd, rfl⟩ := ip_dc_spec hok
  simp only [ip_step] at hs
  split at hs
  · cases hs
    exact lv_dup hx hb hd rfl (kk H locs arr hR hl hlen)
  · cases hs
    exact lv_dup hx hb hd rfl (kk H locs arr hR hl hlen)
  · cases hs

theorem ip_s_dup2 (C : ip_Cx D cA y p R s m meth c) (hok : ip_ok y pc (.dup2, nx, a, k2, t, w, v, ts) = true) (hs : ip_step y X (.dup2, nx, a, k2, t, w, v, ts) ls st M = some z) (hR : ip_Rl D cA base H0 s M H locs) (hl : lv_has arr (ip_ml y) (ip_pl b base ls)) (hlen : ls.length = ip_ml y)
    (kk : ip_go p l e R s m args below meth c cells slots Q D cA base b y H0 z) : W p l e R s m args below meth c H locs cells slots Q (F0 m pc arr (st.map (ip_rn b base))) := by
  obtain ⟨hx, hb, hml, hown, hW, hK, hA, hnm, hfr, hlo⟩ := C
  simp only [ip_ok] at hok
  obtain ⟨hd, rfl⟩ := ip_dc_spec hok
  simp only [ip_step] at hs
  split at hs
  · cases hs
    exact lv_dup2_11 hx hb hd rfl rfl (kk H locs arr hR hl hlen)
  · cases hs

theorem ip_s_pop (C : ip_Cx D cA y p R s m meth c) (hok : ip_ok y pc (.pop, nx, a, k2, t, w, v, ts) = true) (hs : ip_step y X (.pop, nx, a, k2, t, w, v, ts) ls st M = some z) (hR : ip_Rl D cA base H0 s M H locs) (hl : lv_has arr (ip_ml y) (ip_pl b base ls)) (hlen : ls.length = ip_ml y)
    (kk : ip_go p l e R s m args below meth c cells slots Q D cA base b y H0 z) : W p l e R s m args below meth c H locs cells slots Q (F0 m pc arr (st.map (ip_rn b base))) := by
  obtain ⟨hx, hb, hml, hown, hW, hK, hA, hnm, hfr, hlo⟩ := C
  simp only [ip_ok] at hok
  obtain ⟨hd, rfl⟩ := ip_dc_spec hok
  simp only [ip_step] at hs
  split at hs
  · cases hs
    exact lv_pop hx hb hd rfl (kk H locs arr hR hl hlen)
  · cases hs

theorem ip_s_pop2 (C : ip_Cx D cA y p R s m meth c) (hok : ip_ok y pc (.pop2, nx, a, k2, t, w, v, ts) = true) (hs : ip_step y X (.pop2, nx, a, k2, t, w, v, ts) ls st M = some z) (hR : ip_Rl D cA base H0 s M H locs) (hl : lv_has arr (ip_ml y) (ip_pl b base ls)) (hlen : ls.length = ip_ml y)
    (kk : ip_go p l e R s m args below meth c cells slots Q D cA base b y H0 z) : W p l e R s m args below meth c H locs cells slots Q (F0 m pc arr (st.map (ip_rn b base))) := by
  obtain ⟨hx, hb, hml, hown, hW, hK, hA, hnm, hfr, hlo⟩ := C
  simp only [ip_ok] at hok
  obtain ⟨hd, rfl⟩ := ip_dc_spec hok
  simp only [ip_step] at hs
  split at hs
  · cases hs
    exact lv_pop2_2 hx hb hd rfl (kk H locs arr hR hl hlen)
  · cases hs

end IPS
end
noncomputable section
-- PART 14.heap
-- SOUNDNESS of the instructions that read or write cells, or make them
theorem ip_cls_use {ci : Nat} {q : vw_C} (h : ip_cl[ci]? = some q) : ip_cl.getD ci (RX0, TX0, 0) = q ∧ ci < 12 ∧ q ∈ ip_cl := by
  refine ⟨by rw [List.getD_eq_getElem?_getD, h]; rfl, ?_, List.mem_of_getElem? h⟩
  have := (List.getElem?_eq_some_iff.mp h).1
  exact this
theorem ip_lays {q : vw_C} (hq : q ∈ ip_cl) {s : State} (hW : ip_W s) (args : Array Value) : ∀ w ∈ u_ws q.1 q.2.1 q.2.2, w.before args s = true := by
  intro w hw
  have h1 := List.all_eq_true.mp ip_Lw q hq
  have h2 := List.all_eq_true.mp h1 w hw
  rw [Bool.and_eq_true, decide_eq_true_eq] at h2
  exact hW.use h2.1 h2.2 args
theorem ip_apart {q : vw_C} (hq : q ∈ ip_cl) : ∀ a, a < q.2.2 → ∀ b, b < q.2.2 → a ≠ b → (q.2.1 a).2.1 ≠ (q.2.1 b).2.1 := by
  intro a ha b hb hne
  have h1 := List.all_eq_true.mp (List.all_eq_true.mp (List.all_eq_true.mp ip_Tn q hq) a (List.mem_range.mpr ha)) b (List.mem_range.mpr hb)
  rw [Bool.or_eq_true, decide_eq_true_eq, decide_eq_true_eq] at h1
  exact h1.resolve_left hne
theorem ip_parse {ci : Nat} {q : vw_C} (h : ip_cl[ci]? = some q) : ∀ k, k < q.2.2 → parseFieldDescriptor (q.2.1 k).2.2.1 = some (ip_fty ci k) ∧ (q.2.1 k).1 = q.1 := by
  intro k hk
  obtain ⟨h1, h2, -⟩ := ip_cls_use h
  have h3 := List.all_eq_true.mp ip_Ty ci (List.mem_range.mpr h2)
  rw [h1] at h3
  have h4 := List.all_eq_true.mp h3 k (List.mem_range.mpr hk)
  rw [Bool.and_eq_true, decide_eq_true_eq, decide_eq_true_eq] at h4
  exact h4
theorem ip_flink {y w n a k : Nat} {q : vw_C} (hw : ip_F[w]? = some (ip_oc y, n, a, k, false)) (hc : ip_cl[a]? = some q) {s : State} (hW : ip_W s) (args : Array Value) : (Cond.fieldLink (ip_os y) n (q.2.1 k).1 (q.2.1 k).2.1 (q.2.1 k).2.2.1).before args s = true := by
  obtain ⟨h1, h2⟩ := ip_F_ok _ (List.mem_of_getElem? hw)
  have e : ip_FC (ip_oc y, n, a, k, false) = Cond.fieldLink (ip_os y) n (q.2.1 k).1 (q.2.1 k).2.1 (q.2.1 k).2.2.1 := by
    simp only [ip_FC, (ip_cls_use hc).1, ip_os, Bool.false_eq_true, if_false]
  rw [e] at h1 h2
  exact hW.use h1 h2 args
theorem ip_flinkN {y w n a k : Nat} {q : vw_C} (hw : ip_F[w]? = some (ip_oc y, n, a, k, true)) (hc : ip_cl[a]? = some q) {s : State} (hW : ip_W s) (args : Array Value) : (Cond.fieldLinkNest (ip_os y) n (q.2.1 k).1 (q.2.1 k).2.1 (q.2.1 k).2.2.1 RX10).before args s = true := by
  obtain ⟨h1, h2⟩ := ip_F_ok _ (List.mem_of_getElem? hw)
  have e : ip_FC (ip_oc y, n, a, k, true) = Cond.fieldLinkNest (ip_os y) n (q.2.1 k).1 (q.2.1 k).2.1 (q.2.1 k).2.2.1 RX10 := by
    simp only [ip_FC, (ip_cls_use hc).1, ip_os, if_true]
  rw [e] at h1 h2
  exact hW.use h1 h2 args
theorem ip_en_uI {base : Nat} {cA : Nat → ClassId} {M : ip_H} {k j : Nat} {v : Int32} : ∀ (i : Nat) (z : Nat × Nat × Nat), i ≠ k → ip_en base cA (ip_uI M k j v) i z = ip_en base cA M i z := by
  intro i z hi
  have e1 : (ip_uI M k j v).2.1 i = M.2.1 i := by funext b; show (if i = k ∧ b = j then _ else _) = _; rw [if_neg (fun q => hi q.1)]
  have e4 : ip_fv base (ip_uI M k j v) i z.2.1 = ip_fv base M i z.2.1 := by funext b; unfold ip_fv; rw [e1]; rfl
  unfold ip_en
  rw [e1, e4]; rfl
theorem ip_en_uL {base : Nat} {cA : Nat → ClassId} {M : ip_H} {k j : Nat} {v : Int64} : ∀ (i : Nat) (z : Nat × Nat × Nat), i ≠ k → ip_en base cA (ip_uL M k j v) i z = ip_en base cA M i z := by
  intro i z hi
  have e1 : (ip_uL M k j v).2.2.1 i = M.2.2.1 i := by funext b; show (if i = k ∧ b = j then _ else _) = _; rw [if_neg (fun q => hi q.1)]
  have e4 : ip_fv base (ip_uL M k j v) i z.2.1 = ip_fv base M i z.2.1 := by funext b; unfold ip_fv; rw [e1]; rfl
  unfold ip_en
  rw [e1, e4]; rfl
theorem ip_en_uR {base : Nat} {cA : Nat → ClassId} {M : ip_H} {k j : Nat} {v : Option Nat} : ∀ (i : Nat) (z : Nat × Nat × Nat), i ≠ k → ip_en base cA (ip_uR M k j v) i z = ip_en base cA M i z := by
  intro i z hi
  have e1 : (ip_uR M k j v).2.2.2 i = M.2.2.2 i := by funext b; show (if i = k ∧ b = j then _ else _) = _; rw [if_neg (fun q => hi q.1)]
  have e4 : ip_fv base (ip_uR M k j v) i z.2.1 = ip_fv base M i z.2.1 := by funext b; unfold ip_fv; rw [e1]; rfl
  unfold ip_en
  rw [e1, e4]; rfl
section IPH
variable {D : va_G} {cA : Nat → ClassId} {base : Nat} {H0 H H1 : Heap} {s : State} {M M1 : ip_H} {locs : List Loc}
theorem ip_Rl.set (hR : ip_Rl D cA base H0 s M H locs) (h1 : M1.1 = M.1) {k : Nat} {q : Nat × Nat × Nat} (hk : M.1[k]? = some q) (hen : ∀ (i : Nat) (z : Nat × Nat × Nat), i ≠ k → ip_en base cA M1 i z = ip_en base cA M i z)
    (he : va_at D ip_cl (base + k, ip_en base cA M1 k q) H1) (hz : H1.size = H.size) (oq : ∀ x, x ≠ base + k → H1[x]? = H[x]?) (j : Nat) : ip_Rl D cA base H0 s M1 H1 (locs ++ [⟨base + k, j⟩]) := by
  obtain ⟨hP, hsz, hS, hwf, hKA⟩ := hR
  have hw : (ip_ws base cA M)[k]? = some (base + k, ip_en base cA M k q) := by rw [ip_ws_get, hk]; rfl
  refine ⟨?_, by rw [hz, h1]; exact hsz, hS.put hz oq (Nat.le_add_right _ _), fun a b c h => hwf a b c (by rw [← h1]; exact h), fun a b c h => hKA a b c (by rw [← h1]; exact h)⟩
  rw [ip_ws_upd h1 hk hen]
  exact hP.set (ip_wsD base cA M) hw he oq
theorem ip_obj {k : Nat} (h0 : (ip_sh M k).1 = 0) {a : Nat} (h1 : (ip_sh M k).2.1 = a) (hR : ip_Rl D cA base H0 s M H locs) : ∃ q : vw_C, ip_cl[a]? = some q ∧ M.1[k]? = some (0, a, q.2.2) ∧ (ip_ws base cA M)[k]? = some (base + k, .inr (a, (List.range q.2.2).map (ip_fv base M k a))) := by
  have hk := ip_sh_get (M := M) (k := k) (by rw [h0]; decide)
  rcases hx : ip_sh M k with ⟨x1, x2, x3⟩
  rw [hx] at h0 h1 hk
  dsimp only at h0 h1
  subst h0; subst h1
  obtain ⟨q, hq1, hq2⟩ := hR.2.2.2.1 k x2 x3 hk
  subst hq2
  refine ⟨q, hq1, hk, ?_⟩
  rw [ip_ws_get, hk]
  rfl
theorem ip_arr {k : Nat} (h0 : (ip_sh M k).1 = 1) (hR : ip_Rl D cA base H0 s M H locs) : M.1[k]? = some (1, (ip_sh M k).2.1, (ip_sh M k).2.2) ∧ (ip_ws base cA M)[k]? = some (base + k, ip_en base cA M k (1, (ip_sh M k).2.1, (ip_sh M k).2.2)) ∧ ArrOfT s (cA (ip_sh M k).2.1) (ip_ty (ip_sh M k).2.1) ∧ va_RA s (cA (ip_sh M k).2.1) (ip_ty (ip_sh M k).2.1) := by
  have hk := ip_sh_get (M := M) (k := k) (by rw [h0]; decide)
  have e : ip_sh M k = (1, (ip_sh M k).2.1, (ip_sh M k).2.2) := by rw [← h0]
  rw [e] at hk
  exact ⟨hk, by rw [ip_ws_get, hk]; rfl, hR.2.2.2.2 k _ _ hk⟩
theorem ip_fv_set {base : Nat} {M M1 : ip_H} {k a b n : Nat} {v : Value} (h : ∀ j, j < n → ip_fv base M1 k a j = if j = b then v else ip_fv base M k a j) : (List.range n).map (ip_fv base M1 k a) = ((List.range n).map (ip_fv base M k a)).set b v := by
  apply List.ext_getElem?
  intro j
  rw [List.getElem?_set, List.getElem?_map, List.getElem?_map, List.length_map, List.length_range]
  by_cases hj : j < n
  · rw [List.getElem?_range hj, Option.map_some, Option.map_some, h j hj]
    by_cases hb : b = j
    · subst hb; simp [hj]
    · rw [if_neg (fun q => hb q.symm), if_neg hb]
  · rw [List.getElem?_eq_none (by simpa using hj), Option.map_none, Option.map_none]
    by_cases hb : b = j
    · subst hb; rw [if_pos rfl, if_neg hj]
    · rw [if_neg hb]
end IPH
theorem ip_ixp {i : Int32} {n : Nat} (h : ip_ix i n = true) : vp_in i n := by
  unfold ip_ix at h
  rw [Bool.and_eq_true, decide_eq_true_eq, decide_eq_true_eq] at h
  exact fun q => q.elim h.1 (fun g => by omega)

theorem ip_kd0 {ty : FieldType} (h : ip_kd ty = 0) : ty = .int := by cases ty <;> first | rfl | (simp [ip_kd] at h)
theorem ip_kd1 {ty : FieldType} (h : ip_kd ty = 1) : ty = .long := by cases ty <;> first | rfl | (simp [ip_kd] at h)
theorem ip_kd3 {ty : FieldType} (h : ip_kd ty = 3) : ty = .boolean := by cases ty <;> first | rfl | (simp [ip_kd] at h)
def ip_ref : FieldType → Bool
  | .object _ => true
  | .array _ => true
  | _ => false
set_option maxRecDepth 100000 in
theorem ip_kdp : ((List.range 12).all fun ci => (List.range (ip_cl.getD ci (RX0, TX0, 0)).2.2).all fun a => decide (ip_kd (ip_fty ci a) ≠ 2) || ip_ref (ip_fty ci a)) = true := by decide +kernel
theorem ip_kdc (ci a : Nat) (h : ∃ q : vw_C, ip_cl[ci]? = some q ∧ a < q.2.2) : ip_kd (ip_fty ci a) = 2 → ip_ref (ip_fty ci a) = true := by
  obtain ⟨q, hq, ha⟩ := h
  obtain ⟨h1, h2, -⟩ := ip_cls_use hq
  have h3 := List.all_eq_true.mp ip_kdp ci (List.mem_range.mpr h2)
  rw [h1] at h3
  have h4 := List.all_eq_true.mp h3 a (List.mem_range.mpr ha)
  rw [Bool.or_eq_true, decide_eq_true_eq] at h4
  exact fun h => h4.resolve_left (fun g => g h)
theorem ip_kd2 {ty : FieldType} {x : Nat} (hc : ip_kd ty = 2 → ip_ref ty = true) (h : ip_kd ty = 2) : narrow ty (.ref x) = .ref x ∧ fits ty (.ref x) = true := by
  have h1 := hc h
  cases ty with
  | object n => exact ⟨rfl, rfl⟩
  | array n => exact ⟨rfl, rfl⟩
  | _ => simp [ip_ref] at h1
theorem ip_own_cl {a : Nat} {q : vw_C} (h : ip_cl[a]? = some q) : q.1 = ip_own.getD a "" := by
  obtain ⟨h1, h2, -⟩ := ip_cls_use h
  have h3 : ((List.range 12).all fun ci => decide ((ip_cl.getD ci (RX0, TX0, 0)).1 = ip_own.getD ci "")) = true := by decide +kernel
  have h4 := List.all_eq_true.mp h3 a (List.mem_range.mpr h2)
  rw [h1, decide_eq_true_eq] at h4
  exact h4

-- ==== ROWS
section IPH2
variable {p : Program} {l : Launch} {e : Env} {R : Room} {s : State} {m : MethodId} {args : Array Value} {below : List Frame} {meth : Method} {c : Code} {H : Heap} {locs : List Loc} {cells slots : Nat} {Q : State → Prop}
variable {D : va_G} {cA : Nat → ClassId} {base b y pc : Nat} {X : ip_X} {H0 : Heap} {M : ip_H} {ls st : List Value} {arr : Array Slot} {z : ip_Z} {i : Instr} {nx a k2 t w : Nat} {v : Value} {ts : List Nat}

theorem ip_s_getfield {n : Nat} (C : ip_Cx D cA y p R s m meth c) (hok : ip_ok y pc ((.getfield n), nx, a, k2, t, w, v, ts) = true) (hs : ip_step y X ((.getfield n), nx, a, k2, t, w, v, ts) ls st M = some z) (hR : ip_Rl D cA base H0 s M H locs) (hl : lv_has arr (ip_ml y) (ip_pl b base ls)) (hlen : ls.length = ip_ml y)
    (kk : ip_go p l e R s m args below meth c cells slots Q D cA base b y H0 z) : W p l e R s m args below meth c H locs cells slots Q (F0 m pc arr (st.map (ip_rn b base))) := by
  obtain ⟨hx, hb, hml, hown, hW, hK, hA, hnm, hfr, hlo⟩ := C
  simp only [ip_ok, Bool.and_eq_true, decide_eq_true_eq] at hok
  obtain ⟨h1, h2, h3, h4⟩ := hok
  obtain ⟨hd, rfl⟩ := ip_dc_spec h1
  obtain ⟨k, r, rfl, hz⟩ := ip_r1_inv hs
  split at hz
  · rename_i hg
    obtain ⟨q, hq, hk, he⟩ := ip_obj hg.1 hg.2 hR
    rw [hq] at h4
    have h4 : k2 < q.2.2 := by simpa using h4
    cases hz
    have hv : ((List.range q.2.2).map (ip_fv base M k a))[k2]? = some (ip_fv base M k a k2) := by rw [List.getElem?_map, List.getElem?_range h4]; rfl
    have k1 := kk H locs arr hR hl hlen
    have e1 : ip_rn b base (if t = 1 then .long (M.2.2.1 k k2) else if t = 2 then ip_vr (M.2.2.2 k k2) else .int (M.2.1 k k2)) = ip_fv base M k a k2 := by
      unfold ip_fv
      rw [← h3]
      by_cases g1 : t = 1
      · rw [if_pos g1, if_pos g1]; rfl
      · rw [if_neg g1, if_neg g1]
        by_cases g2 : t = 2
        · rw [if_pos g2, if_pos g2]; cases M.2.2.2 k k2 <;> rfl
        · rw [if_neg g2, if_neg g2]; rfl
    rw [List.map_cons, e1] at k1
    rcases h2 with h2 | h2
    · exact va_get hx hb (ip_lays (List.mem_of_getElem? hq) hW args) (fun _ h => h) hown hK hR.1 k he hq k2 h4 (ip_flink h2 hq hW args) (fun _ h => h) hv hd k1
    · exact va_getN hx hb (ip_lays (List.mem_of_getElem? hq) hW args) (fun _ h => h) hown hK hR.1 k he hq k2 h4 (ip_flinkN h2 hq hW args) (fun _ h => h) hv hd k1
  · cases hz

/-- putfield, of any of the three kinds of link -/
theorem ip_put (C : ip_Cx D cA y p R s m meth c) (hR : ip_Rl D cA base H0 s M H locs) {M1 : ip_H} {n k : Nat} {q : vw_C} {v0 : Value} {r : List Value} (hd : decode (ip_by y) pc = .ok (.putfield n, 3)) (hq : ip_cl[a]? = some q) (hk : M.1[k]? = some (0, a, q.2.2)) (he : (ip_ws base cA M)[k]? = some (base + k, .inr (a, (List.range q.2.2).map (ip_fv base M k a)))) (h4 : k2 < q.2.2)
    (h2 : ip_F[w]? = some (ip_oc y, n, a, k2, false) ∨ ip_F[w]? = some (ip_oc y, n, a, k2, true)) (h5 : ip_fin a k2 = true → (ip_nm y).name = "<init>" ∧ ip_oc y = a ∧ ip_F[w]? = some (ip_oc y, n, a, k2, false))
    (hn : narrow (ip_fty a k2) v0 = v0) (hfit : fits (ip_fty a k2) v0 = true) (h1 : M1.1 = M.1) (hen : ∀ (i : Nat) (z : Nat × Nat × Nat), i ≠ k → ip_en base cA M1 i z = ip_en base cA M i z) (hfs : ∀ j, j < q.2.2 → ip_fv base M1 k a j = if j = k2 then v0 else ip_fv base M k a j)
    (kk : ∀ (H1 : Heap) (locs1 : List Loc), ip_Rl D cA base H0 s M1 H1 locs1 → W p l e R s m args below meth c H1 locs1 cells slots Q (F0 m (pc + 3) arr r)) : W p l e R s m args below meth c H locs cells slots Q (F0 m pc arr (v0 :: .ref (base + k) :: r)) := by
  obtain ⟨hx, hb, hml, hown, hW, hK, hA, hnm, hfr, hlo⟩ := C
  have hm := List.mem_of_getElem? hq
  have hts := ip_lays hm hW args
  have hap := va_apart (own := ip_os y) (s := s) hts (fun _ h => h) (ip_fty a) (fun j hj => (ip_parse hq j hj).1) (ip_apart hm) hK hq
  obtain ⟨r0, g1, cell, q1, q2, q3, q4⟩ := hR.1 k _ he
  have hr : r0 = q := Option.some.inj (g1.symm.trans hq)
  subst hr
  obtain ⟨hS, hfc, kC, hkC, hkind⟩ := hK.1 a _ hq
  obtain ⟨cf, kf, fi, f, hi, hsl⟩ := hS k2 h4
  have hlay := hts _ (u_in_lay (C := r0.1) (T := r0.2.1) h4)
  have hst := (u_facts hfc hkC (u_lays hts (fun _ h => h) h4) hi).1
  have hdt := (ip_parse hq k2 h4).1
  have hsz : f.slot < cell.slots.size := by rw [hsl]; exact k2_hasslot (q4 k2 h4)
  have fin : ∀ H1 : Heap, H1[base + k]? = some (cell.setSlot f.slot v0) → H1.size = H.size → (∀ x, x ≠ base + k → H1[x]? = H[x]?) → ip_Rl D cA base H0 s M1 H1 (locs ++ [⟨base + k, f.slot⟩]) := by
    intro H1 e1 e2 e3
    refine hR.set h1 hk hen ?_ e2 e3 f.slot
    refine ⟨r0, hq, t_OB.to (V := updV (vp_V ((List.range r0.2.2).map (ip_fv base M k a))) k2 v0) ⟨_, e1, q2, q3, ?_⟩ (fun j hj => ?_)⟩
    · rw [hsl]; exact t_set q4 hap h4 v0
    · have e4 := ip_fv_set (M := M) (M1 := M1) hfs
      show _ = vp_V ((List.range r0.2.2).map (ip_fv base M1 k a)) j
      rw [e4]
      exact vp_updV_set (by simpa using h4) v0 j
  by_cases hf : ip_fin a k2 = true
  · obtain ⟨i1, i2, i3⟩ := h5 hf
    have hf2 : (r0.2.1 k2).2.2.2 = true := by
      unfold ip_fin at hf
      rw [hq] at hf
      exact hf
    have hl2 := hlay
    unfold u_lay at hl2
    rw [if_pos hf2] at hl2
    have hcf : m.cls = cf := by
      obtain ⟨_, _, c', _, _, _, -, -, hf', -, -, -, hown2, -⟩ := Cond.laysFinal_spec hl2
      have e1 : c' = cf := by have := hi.symm.trans hf'; simp at this; exact this.1.symm
      have e0 : (r0.2.1 k2).1 = ip_os y := by
        rw [(ip_parse hq k2 h4).2]
        have e9 : ip_os y = ip_own.getD a "" := by unfold ip_os; rw [i2]
        rw [e9]
        exact ip_own_cl hq
      rw [e0] at hown2
      rw [← e1]; exact Option.some.inj (hown.symm.trans hown2)
    have h6 := u_fits hfc hkC hkind (Or.inr hl2) hi hdt hn hfit
    have hnm2 : meth.name = "<init>" := by
      rcases hnm with g | g
      · subst g; exact absurd i1 (by decide +kernel)
      · exact g.trans i1
    refine W.putFinK hx hb hown (ip_flink i3 hq hW args) hi hst hcf hnm2 (by rw [q2]; exact h6) q1 q3 hsz rfl rfl hd fun H' e1 e2 e3 => ?_
    exact kk H' _ (fin H' e1 e2 e3)
  · have hf2 : (r0.2.1 k2).2.2.2 = false := by
      unfold ip_fin at hf
      rw [hq] at hf
      simpa using hf
    have hl2 := hlay
    unfold u_lay at hl2
    rw [if_neg (by rw [hf2]; decide)] at hl2
    have h6 := u_store hfc hkC hkind hl2 hi hdt hn hfit
    rcases h2 with h2 | h2
    · refine W.putK hx hb (f := f) ⟨hown, ip_flink h2 hq hW args, ⟨_, _, _, hi⟩, hst⟩ (by rw [q2]; exact h6) q1 q3 hsz rfl rfl hd fun H' e1 e2 e3 => ?_
      exact kk H' _ (fin H' e1 e2 e3)
    · refine va_WputK hx hb (f := f) hown (ip_flinkN h2 hq hW args) hi hst (by rw [q2]; exact h6) q1 q3 hsz rfl rfl hd fun H' e1 e2 e3 => ?_
      exact kk H' _ (fin H' e1 e2 e3)

theorem ip_s_putfield {n : Nat} (C : ip_Cx D cA y p R s m meth c) (hok : ip_ok y pc ((.putfield n), nx, a, k2, t, w, v, ts) = true) (hs : ip_step y X ((.putfield n), nx, a, k2, t, w, v, ts) ls st M = some z) (hR : ip_Rl D cA base H0 s M H locs) (hl : lv_has arr (ip_ml y) (ip_pl b base ls)) (hlen : ls.length = ip_ml y)
    (kk : ip_go p l e R s m args below meth c cells slots Q D cA base b y H0 z) : W p l e R s m args below meth c H locs cells slots Q (F0 m pc arr (st.map (ip_rn b base))) := by
  obtain ⟨hx, hb, hml, hown, hW, hK, hA, hnm, hfr, hlo⟩ := C
  have C : ip_Cx D cA y p R s m meth c := ⟨hx, hb, hml, hown, hW, hK, hA, hnm, hfr, hlo⟩
  simp only [ip_ok, Bool.and_eq_true, decide_eq_true_eq, Bool.or_eq_true, Bool.not_eq_true'] at hok
  obtain ⟨h1, h2, h3, h4, h5⟩ := hok
  have h5 : ip_fin a k2 = true → (ip_nm y).name = "<init>" ∧ ip_oc y = a ∧ ip_F[w]? = some (ip_oc y, n, a, k2, false) := fun g => h5.resolve_left (by rw [g]; decide)
  obtain ⟨hd, rfl⟩ := ip_dc_spec h1
  simp only [ip_step] at hs
  split at hs
  · rename_i x k r
    split at hs
    · rename_i hg
      have hty : ip_fty a k2 = .int ∨ (ip_fty a k2 = .boolean ∧ (x = 0 ∨ x = 1)) := by
        rw [h3] at hg
        rcases hg.2.2 with g | ⟨g1, g2⟩
        · exact Or.inl (ip_kd0 g)
        · exact Or.inr ⟨ip_kd3 g1, g2⟩
      obtain ⟨q, hq, hk, he⟩ := ip_obj hg.1 hg.2.1 hR
      rw [hq] at h4
      have h4 : k2 < q.2.2 := by simpa using h4
      cases hs
      refine ip_put C hR hd hq hk he h4 h2 h5 (M1 := ip_uI M k k2 x) (v0 := .int x) ?_ ?_ rfl ip_en_uI ?_ (fun H1 locs1 hR1 => kk H1 locs1 arr hR1 hl hlen)
      · rcases hty with g | ⟨g, rfl | rfl⟩ <;> rw [g] <;> rfl
      · rcases hty with g | ⟨g, rfl | rfl⟩ <;> rw [g] <;> rfl
      · intro j hj
        unfold ip_fv
        by_cases hjk : j = k2
        · subst hjk
          have e1 : ¬ ip_kd (ip_fty a j) = 1 := by rcases hty with g | ⟨g, -⟩ <;> rw [g] <;> decide
          have e2 : ¬ ip_kd (ip_fty a j) = 2 := by rcases hty with g | ⟨g, -⟩ <;> rw [g] <;> decide
          rw [if_pos rfl, if_neg e1, if_neg e2]
          show Value.int (if k = k ∧ j = j then x else _) = _
          rw [if_pos ⟨rfl, rfl⟩]
        · rw [if_neg hjk]
          show (if _ then Value.long (M.2.2.1 k j) else if _ then va_rf (ip_rf base (M.2.2.2 k j)) else Value.int (if k = k ∧ j = k2 then x else M.2.1 k j)) = _
          rw [if_neg (fun g : k = k ∧ j = k2 => hjk g.2)]
    · cases hs
  · rename_i x k r
    split at hs
    · rename_i hg
      have hty : ip_fty a k2 = .long := ip_kd1 (by rw [← h3]; exact hg.2.2)
      obtain ⟨q, hq, hk, he⟩ := ip_obj hg.1 hg.2.1 hR
      rw [hq] at h4
      have h4 : k2 < q.2.2 := by simpa using h4
      cases hs
      refine ip_put C hR hd hq hk he h4 h2 h5 (M1 := ip_uL M k k2 x) (v0 := .long x) ?_ ?_ rfl ip_en_uL ?_ (fun H1 locs1 hR1 => kk H1 locs1 arr hR1 hl hlen)
      · rw [hty]; rfl
      · rw [hty]; rfl
      · intro j hj
        unfold ip_fv
        by_cases hjk : j = k2
        · subst hjk
          have e1 : ip_kd (ip_fty a j) = 1 := by rw [hty]; rfl
          rw [if_pos rfl, if_pos e1]
          show Value.long (if k = k ∧ j = j then x else _) = _
          rw [if_pos ⟨rfl, rfl⟩]
        · rw [if_neg hjk]
          show (if _ then Value.long (if k = k ∧ j = k2 then x else M.2.2.1 k j) else if _ then va_rf (ip_rf base (M.2.2.2 k j)) else Value.int (M.2.1 k j)) = _
          rw [if_neg (fun g : k = k ∧ j = k2 => hjk g.2)]
    · cases hs
  · rename_i x k r
    split at hs
    · rename_i hg
      have hty : narrow (ip_fty a k2) (.ref (base + x)) = .ref (base + x) ∧ fits (ip_fty a k2) (.ref (base + x)) = true := ip_kd2 (ip_kdc _ _ (by
        obtain ⟨q, hq, -⟩ := ip_obj hg.1 hg.2.1 hR
        rw [hq] at h4
        exact ⟨q, hq, by simpa using h4⟩)) (by rw [← h3]; exact hg.2.2)
      obtain ⟨q, hq, hk, he⟩ := ip_obj hg.1 hg.2.1 hR
      rw [hq] at h4
      have h4 : k2 < q.2.2 := by simpa using h4
      cases hs
      refine ip_put C hR hd hq hk he h4 h2 h5 (M1 := ip_uR M k k2 (some x)) (v0 := .ref (base + x)) hty.1 hty.2 rfl ip_en_uR ?_ (fun H1 locs1 hR1 => kk H1 locs1 arr hR1 hl hlen)
      · intro j hj
        unfold ip_fv
        by_cases hjk : j = k2
        · subst hjk
          have e1 : ip_kd (ip_fty a j) = 2 := by rw [← h3]; exact hg.2.2
          have e2 : ¬ ip_kd (ip_fty a j) = 1 := by rw [e1]; decide
          rw [if_pos rfl, if_neg e2, if_pos e1]
          show va_rf (ip_rf base (if k = k ∧ j = j then some x else _)) = _
          rw [if_pos ⟨rfl, rfl⟩]
          rfl
        · rw [if_neg hjk]
          show (if _ then Value.long (M.2.2.1 k j) else if _ then va_rf (ip_rf base (if k = k ∧ j = k2 then some x else M.2.2.2 k j)) else Value.int (M.2.1 k j)) = _
          rw [if_neg (fun g : k = k ∧ j = k2 => hjk g.2)]
    · cases hs
  · cases hs
end IPH2
end
noncomputable section
-- PART 15.arr
-- SOUNDNESS: arrays, cells made, Object.<init>, arraycopy
section IPA
variable {p : Program} {l : Launch} {e : Env} {R : Room} {s : State} {m : MethodId} {args : Array Value} {below : List Frame} {meth : Method} {c : Code} {H : Heap} {locs : List Loc} {cells slots : Nat} {Q : State → Prop}
variable {D : va_G} {cA : Nat → ClassId} {base b y pc : Nat} {X : ip_X} {H0 : Heap} {M : ip_H} {ls st : List Value} {arr : Array Slot} {z : ip_Z} {i : Instr} {nx a k2 t w : Nat} {v : Value} {ts : List Nat}
theorem ip_KT {D : va_G} {s : State} {cA : ClassId} {ty : FieldType} (hK : va_K D ip_cl [] s) (h : ArrOfT s cA ty ∧ va_RA s cA ty) : va_K D ip_cl [(cA, ty)] s := ⟨hK.1, fun k q hk => by
  have hz : k < 1 := (List.getElem?_eq_some_iff.mp hk).1
  rw [show k = 0 by omega] at hk
  cases hk
  exact h⟩
theorem ip_en_i {base : Nat} {cA : Nat → ClassId} {M : ip_H} {k x n : Nat} (h1 : ¬ x = 1) (h2 : x < 4) : ip_en base cA M k (1, x, n) = .inl (cA x, n, .inl (M.2.1 k)) := by
  unfold ip_en
  rw [if_neg (show ¬ (1 : Nat) = 0 from Nat.one_ne_zero)]
  dsimp only
  rw [if_neg h1, if_pos h2]
theorem ip_en_l {base : Nat} {cA : Nat → ClassId} {M : ip_H} {k n : Nat} : ip_en base cA M k (1, 1, n) = .inl (cA 1, n, .inr (.inl (M.2.2.1 k))) := rfl
theorem ip_en_q {base : Nat} {cA : Nat → ClassId} {M : ip_H} {k x n : Nat} (h2 : 4 ≤ x) : ip_en base cA M k (1, x, n) = .inl (cA x, n, .inr (.inr (.inr (.inr (fun j => ip_rf base (M.2.2.2 k j)))))) := by
  unfold ip_en
  rw [if_neg (show ¬ (1 : Nat) = 0 from Nat.one_ne_zero)]
  dsimp only
  rw [if_neg (by omega), if_neg (by omega)]

theorem ip_s_arraylength (C : ip_Cx D cA y p R s m meth c) (hok : ip_ok y pc (.arraylength, nx, a, k2, t, w, v, ts) = true) (hs : ip_step y X (.arraylength, nx, a, k2, t, w, v, ts) ls st M = some z) (hR : ip_Rl D cA base H0 s M H locs) (hX : y = ip_LAW → va_X b X.1 X.2 s H0 ∧ b < H0.size ∧ ¬ base ≤ b) (hl : lv_has arr (ip_ml y) (ip_pl b base ls)) (hlen : ls.length = ip_ml y)
    (kk : ip_go p l e R s m args below meth c cells slots Q D cA base b y H0 z) : W p l e R s m args below meth c H locs cells slots Q (F0 m pc arr (st.map (ip_rn b base))) := by
  obtain ⟨hx, hb, hml, hown, hW, hK, hA, hnm, hfr, hlo⟩ := C
  simp only [ip_ok] at hok
  obtain ⟨hd, rfl⟩ := ip_dc_spec hok
  simp only [ip_step] at hs
  split at hs
  · rename_i k r
    split at hs
    · rename_i hg
      obtain ⟨hk, he, hAr⟩ := ip_arr hg hR
      cases hs
      have hn0 : ¬ ((1 : Nat), (ip_sh M k).2.1, (ip_sh M k).2.2).1 = 0 := Nat.one_ne_zero
      unfold ip_en at he
      rw [if_neg hn0] at he
      exact va_alen hx hb (ip_KT hK hAr) hR.1 k 0 he rfl rfl hd (kk H locs arr hR hl hlen)
    · cases hs
  · rename_i r
    split at hs
    · rename_i hg
      obtain ⟨h1, h2, h3⟩ := hX hg
      cases hs
      exact va_slen hx hb h1 h2 h3 hR.2.2.1 hd (kk H locs arr hR hl hlen)
    · cases hs
  · cases hs

theorem ip_s_iaload (C : ip_Cx D cA y p R s m meth c) (hok : ip_ok y pc (.iaload, nx, a, k2, t, w, v, ts) = true) (hs : ip_step y X (.iaload, nx, a, k2, t, w, v, ts) ls st M = some z) (hR : ip_Rl D cA base H0 s M H locs) (hX : y = ip_LAW → va_X b X.1 X.2 s H0 ∧ b < H0.size ∧ ¬ base ≤ b) (hl : lv_has arr (ip_ml y) (ip_pl b base ls)) (hlen : ls.length = ip_ml y)
    (kk : ip_go p l e R s m args below meth c cells slots Q D cA base b y H0 z) : W p l e R s m args below meth c H locs cells slots Q (F0 m pc arr (st.map (ip_rn b base))) := by
  obtain ⟨hx, hb, hml, hown, hW, hK, hA, hnm, hfr, hlo⟩ := C
  simp only [ip_ok] at hok
  obtain ⟨hd, rfl⟩ := ip_dc_spec hok
  simp only [ip_step] at hs
  split at hs
  · rename_i j k r
    split at hs
    · rename_i hg
      obtain ⟨hk, he, hAr⟩ := ip_arr hg.1 hR
      rw [ip_en_i (by rw [hg.2.1]; decide) (by rw [hg.2.1]; decide)] at he
      cases hs
      have hAr2 := ip_KT hK hAr
      have hty : ip_ty (ip_sh M k).2.1 = .int := by rw [hg.2.1]; rfl
      rw [hty] at hAr2
      exact va_iald hx hb hAr2 hR.1 k 0 he rfl (ip_ixp hg.2.2) hd (kk H locs arr hR hl hlen)
    · cases hs
  · rename_i j r
    split at hs
    · rename_i hg
      obtain ⟨h1, h2, h3⟩ := hX hg.1
      cases hs
      exact va_sld hx hb h1 h2 h3 hR.2.2.1 (ip_ixp hg.2) hd (kk H locs arr hR hl hlen)
    · cases hs
  · cases hs

theorem ip_s_laload (C : ip_Cx D cA y p R s m meth c) (hok : ip_ok y pc (.laload, nx, a, k2, t, w, v, ts) = true) (hs : ip_step y X (.laload, nx, a, k2, t, w, v, ts) ls st M = some z) (hR : ip_Rl D cA base H0 s M H locs) (hl : lv_has arr (ip_ml y) (ip_pl b base ls)) (hlen : ls.length = ip_ml y)
    (kk : ip_go p l e R s m args below meth c cells slots Q D cA base b y H0 z) : W p l e R s m args below meth c H locs cells slots Q (F0 m pc arr (st.map (ip_rn b base))) := by
  obtain ⟨hx, hb, hml, hown, hW, hK, hA, hnm, hfr, hlo⟩ := C
  simp only [ip_ok] at hok
  obtain ⟨hd, rfl⟩ := ip_dc_spec hok
  simp only [ip_step] at hs
  split at hs
  · rename_i j k r
    split at hs
    · rename_i hg
      obtain ⟨hk, he, hAr⟩ := ip_arr hg.1 hR
      have hAr2 := ip_KT hK hAr
      rw [hg.2.1] at he hAr2
      rw [ip_en_l] at he
      cases hs
      exact va_lald hx hb hAr2 hR.1 k 0 he rfl (ip_ixp hg.2.2) hd (kk H locs arr hR hl hlen)
    · cases hs
  · cases hs

theorem ip_s_baload (C : ip_Cx D cA y p R s m meth c) (hok : ip_ok y pc (.baload, nx, a, k2, t, w, v, ts) = true) (hs : ip_step y X (.baload, nx, a, k2, t, w, v, ts) ls st M = some z) (hR : ip_Rl D cA base H0 s M H locs) (hl : lv_has arr (ip_ml y) (ip_pl b base ls)) (hlen : ls.length = ip_ml y)
    (kk : ip_go p l e R s m args below meth c cells slots Q D cA base b y H0 z) : W p l e R s m args below meth c H locs cells slots Q (F0 m pc arr (st.map (ip_rn b base))) := by
  obtain ⟨hx, hb, hml, hown, hW, hK, hA, hnm, hfr, hlo⟩ := C
  simp only [ip_ok] at hok
  obtain ⟨hd, rfl⟩ := ip_dc_spec hok
  simp only [ip_step] at hs
  split at hs
  · rename_i j k r
    split at hs
    · rename_i hg
      obtain ⟨hk, he, hAr⟩ := ip_arr hg.1 hR
      have hAr2 := ip_KT hK hAr
      cases hs
      rcases hg.2.1 with g | g
      · rw [ip_en_i (by rw [g]; decide) (by rw [g]; decide)] at he
        rw [g] at he hAr2
        exact va_bald hx hb hAr2 hR.1 k 0 he rfl (ip_ixp hg.2.2) hd (kk H locs arr hR hl hlen)
      · rw [ip_en_i (by rw [g]; decide) (by rw [g]; decide)] at he
        rw [g] at he hAr2
        exact va_zald hx hb hAr2 hR.1 k 0 he rfl (ip_ixp hg.2.2) hd (kk H locs arr hR hl hlen)
    · cases hs
  · cases hs

theorem ip_tyo {x : Nat} (h : 4 ≤ x) : ip_ty x = .object (if x = 4 then RX8 else RX5) := by
  match x, h with
  | 4, _ => rfl
  | x + 5, _ => show FieldType.object RX5 = _; rw [if_neg (by omega)]
theorem ip_vrn {b base : Nat} (o : Option Nat) : ip_rn b base (ip_vr o) = va_rf (ip_rf base o) := by cases o <;> rfl

theorem ip_s_aaload (C : ip_Cx D cA y p R s m meth c) (hok : ip_ok y pc (.aaload, nx, a, k2, t, w, v, ts) = true) (hs : ip_step y X (.aaload, nx, a, k2, t, w, v, ts) ls st M = some z) (hR : ip_Rl D cA base H0 s M H locs) (hl : lv_has arr (ip_ml y) (ip_pl b base ls)) (hlen : ls.length = ip_ml y)
    (kk : ip_go p l e R s m args below meth c cells slots Q D cA base b y H0 z) : W p l e R s m args below meth c H locs cells slots Q (F0 m pc arr (st.map (ip_rn b base))) := by
  obtain ⟨hx, hb, hml, hown, hW, hK, hA, hnm, hfr, hlo⟩ := C
  simp only [ip_ok] at hok
  obtain ⟨hd, rfl⟩ := ip_dc_spec hok
  simp only [ip_step] at hs
  split at hs
  · rename_i j k r
    split at hs
    · rename_i hg
      obtain ⟨hk, he, hAr⟩ := ip_arr hg.1 hR
      have hAr2 := ip_KT hK hAr
      rw [ip_tyo hg.2.1] at hAr2
      rw [ip_en_q hg.2.1] at he
      cases hs
      have k1 := kk H locs arr hR hl hlen
      rw [List.map_cons, ip_vrn] at k1
      exact va_aldq hx hb hAr2 hR.1 k 0 he rfl (ip_ixp hg.2.2) hd k1
    · cases hs
  · cases hs

theorem ip_wr_i {base : Nat} {M : ip_H} {H1 : Heap} {cA : Nat → ClassId} {k x n j : Nat} {q : Int32} (h1 : ¬ x = 1) (h2 : x < 4) (e : H1[base + k]? = some ((vp_cell (cA x) (n, .inl (M.2.1 k))).setSlot j (.int q))) : va_at D ip_cl (base + k, ip_en base cA (ip_uI M k j q) k (1, x, n)) H1 := by
  rw [ip_en_i h1 h2]
  show H1[base + k]? = some (vp_cell _ _)
  rw [e, vp_cell_i, vp_cell_i, arrV_store]
  congr 2
  funext g
  by_cases hg : g = j
  · subst hg; simp [updV, ip_uI]
  · simp [updV, ip_uI, hg]

theorem ip_s_iastore (C : ip_Cx D cA y p R s m meth c) (hok : ip_ok y pc (.iastore, nx, a, k2, t, w, v, ts) = true) (hs : ip_step y X (.iastore, nx, a, k2, t, w, v, ts) ls st M = some z) (hR : ip_Rl D cA base H0 s M H locs) (hl : lv_has arr (ip_ml y) (ip_pl b base ls)) (hlen : ls.length = ip_ml y)
    (kk : ip_go p l e R s m args below meth c cells slots Q D cA base b y H0 z) : W p l e R s m args below meth c H locs cells slots Q (F0 m pc arr (st.map (ip_rn b base))) := by
  obtain ⟨hx, hb, hml, hown, hW, hK, hA, hnm, hfr, hlo⟩ := C
  simp only [ip_ok] at hok
  obtain ⟨hd, rfl⟩ := ip_dc_spec hok
  simp only [ip_step] at hs
  split at hs
  · rename_i q j k r
    split at hs
    · rename_i hg
      obtain ⟨hk, he, hAr⟩ := ip_arr hg.1 hR
      have g1 : ¬ (ip_sh M k).2.1 = 1 := by rw [hg.2.1]; decide
      have g2 : (ip_sh M k).2.1 < 4 := by rw [hg.2.1]; decide
      rw [ip_en_i g1 g2] at he
      have hty : ip_ty (ip_sh M k).2.1 = .int := by rw [hg.2.1]; rfl
      rw [hty] at hAr
      have hin := ip_ixp hg.2.2
      cases hs
      refine W.iast hx hb (hR.1 k _ he) (hAr.1 _ (fun j => .int (M.2.1 k j))) (fun q => by cases q) (by show ¬ (j < 0 ∨ (arrV _ _ _).slots.size ≤ _); rw [arrV_size]; exact hin) rfl rfl hd fun H1 e z oq => ?_
      exact kk H1 _ arr (hR.set (M1 := ip_uI M k j.toNatClampNeg _) rfl hk ip_en_uI (ip_wr_i g1 g2 e) z oq _) hl hlen
    · cases hs
  · cases hs

theorem ip_s_lastore (C : ip_Cx D cA y p R s m meth c) (hok : ip_ok y pc (.lastore, nx, a, k2, t, w, v, ts) = true) (hs : ip_step y X (.lastore, nx, a, k2, t, w, v, ts) ls st M = some z) (hR : ip_Rl D cA base H0 s M H locs) (hl : lv_has arr (ip_ml y) (ip_pl b base ls)) (hlen : ls.length = ip_ml y)
    (kk : ip_go p l e R s m args below meth c cells slots Q D cA base b y H0 z) : W p l e R s m args below meth c H locs cells slots Q (F0 m pc arr (st.map (ip_rn b base))) := by
  obtain ⟨hx, hb, hml, hown, hW, hK, hA, hnm, hfr, hlo⟩ := C
  simp only [ip_ok] at hok
  obtain ⟨hd, rfl⟩ := ip_dc_spec hok
  simp only [ip_step] at hs
  split at hs
  · rename_i q j k r
    split at hs
    · rename_i hg
      obtain ⟨hk, he, hAr⟩ := ip_arr hg.1 hR
      rw [hg.2.1] at hk he hAr
      rw [ip_en_l] at he
      have hin := ip_ixp hg.2.2
      cases hs
      refine W.last hx hb (hR.1 k _ he) (hAr.1 _ (fun j => .long (M.2.2.1 k j))) (fun q => by cases q) (by show ¬ (j < 0 ∨ (arrV _ _ _).slots.size ≤ _); rw [arrV_size]; exact hin) rfl rfl hd fun H1 e z oq => ?_
      refine kk H1 _ arr (hR.set (M1 := ip_uL M k j.toNatClampNeg q) rfl hk ip_en_uL ?_ z oq _) hl hlen
      rw [ip_en_l]
      show H1[base + k]? = some (vp_cell _ _)
      rw [e, vp_cell_l, vp_cell_l, arrV_store]
      congr 2
      funext g
      by_cases hg : g = j.toNatClampNeg
      · subst hg; simp [updV, ip_uL]
      · simp [updV, ip_uL, hg]
    · cases hs
  · cases hs

theorem ip_s_bastore (C : ip_Cx D cA y p R s m meth c) (hok : ip_ok y pc (.bastore, nx, a, k2, t, w, v, ts) = true) (hs : ip_step y X (.bastore, nx, a, k2, t, w, v, ts) ls st M = some z) (hR : ip_Rl D cA base H0 s M H locs) (hl : lv_has arr (ip_ml y) (ip_pl b base ls)) (hlen : ls.length = ip_ml y)
    (kk : ip_go p l e R s m args below meth c cells slots Q D cA base b y H0 z) : W p l e R s m args below meth c H locs cells slots Q (F0 m pc arr (st.map (ip_rn b base))) := by
  obtain ⟨hx, hb, hml, hown, hW, hK, hA, hnm, hfr, hlo⟩ := C
  simp only [ip_ok] at hok
  obtain ⟨hd, rfl⟩ := ip_dc_spec hok
  simp only [ip_step] at hs
  split at hs
  · rename_i q j k r
    split at hs
    · rename_i hg
      obtain ⟨hk, he, hAr⟩ := ip_arr hg.1 hR
      have hin := ip_ixp hg.2.2
      have g1 : ¬ (ip_sh M k).2.1 = 1 := by rcases hg.2.1 with g | g <;> rw [g] <;> decide
      have g2 : (ip_sh M k).2.1 < 4 := by rcases hg.2.1 with g | g <;> rw [g] <;> decide
      rw [ip_en_i g1 g2] at he
      cases hs
      rcases hg.2.1 with g | g
      · have hty : ip_ty (ip_sh M k).2.1 = .byte := by rw [g]; rfl
        rw [hty] at hAr
        rw [if_pos g] at kk
        refine W.bast hx hb (hR.1 k _ he) (hAr.1 _ (fun j => .int (M.2.1 k j))) (fun q => by cases q) (by show ¬ (j < 0 ∨ (arrV _ _ _).slots.size ≤ _); rw [arrV_size]; exact hin) rfl rfl hd fun H1 e z oq => ?_
        exact kk H1 _ arr (hR.set (M1 := ip_uI M k j.toNatClampNeg _) rfl hk ip_en_uI (ip_wr_i g1 g2 e) z oq _) hl hlen
      · have hty : ip_ty (ip_sh M k).2.1 = .boolean := by rw [g]; rfl
        rw [hty] at hAr
        rw [if_neg (by rw [g]; decide)] at kk
        refine W.zast hx hb (hR.1 k _ he) (hAr.1 _ (fun j => .int (M.2.1 k j))) (fun q => by cases q) (by show ¬ (j < 0 ∨ (arrV _ _ _).slots.size ≤ _); rw [arrV_size]; exact hin) rfl rfl hd fun H1 e z oq => ?_
        exact kk H1 _ arr (hR.set (M1 := ip_uI M k j.toNatClampNeg _) rfl hk ip_en_uI (ip_wr_i g1 g2 e) z oq _) hl hlen
    · cases hs
  · cases hs

theorem ip_Rl.push (hR : ip_Rl D cA base H0 s M H locs) {H1 : Heap} {q : Nat × Nat × Nat} (hz : H1.size = base + M.1.length + 1) (o1 : ∀ x, x < base + M.1.length → H1[x]? = H[x]?) (he : va_at D ip_cl (base + M.1.length, ip_en base cA (ip_nw M q) M.1.length q) H1)
    (hw : q.1 = 0 → ∃ g : vw_C, ip_cl[q.2.1]? = some g ∧ g.2.2 = q.2.2) (hk : q.1 = 1 → ArrOfT s (cA q.2.1) (ip_ty q.2.1) ∧ va_RA s (cA q.2.1) (ip_ty q.2.1)) : ip_Rl D cA base H0 s (ip_nw M q) H1 locs := by
  obtain ⟨hP, hsz, hS, hwf, hKA⟩ := hR
  have key : ∀ (k : Nat) (g : Nat × Nat × Nat), (ip_nw M q).1[k]? = some g → M.1[k]? = some g ∨ g = q := by
    intro k g h
    have h : (M.1 ++ [q])[k]? = some g := h
    by_cases hl : k < M.1.length
    · rw [List.getElem?_append_left hl] at h; exact Or.inl h
    · rw [List.getElem?_append_right (by omega)] at h
      have hz : k - M.1.length < 1 := (List.getElem?_eq_some_iff.mp h).1
      rw [show k - M.1.length = 0 by omega] at h
      cases h; exact Or.inr rfl
  have hk2 : ∀ (k : Nat) (x : Nat × va_E), (ip_ws base cA M)[k]? = some x → H1[x.1]? = H[x.1]? := fun k x hx => o1 x.1 (by rw [← hsz]; exact (hP k x hx).lt)
  refine ⟨?_, by rw [hz]; show _ = base + (M.1 ++ [q]).length; rw [List.length_append]; rfl, ⟨by rw [hz, ← hsz]; exact Nat.le_succ_of_le hS.1, fun x h1 h2 => (o1 x (by rw [← hsz]; exact Nat.lt_of_lt_of_le h1 hS.1)).trans (hS.2.1 x h1 h2), hS.2.2⟩, ?_, ?_⟩
  · rw [ip_ws_push]
    refine (hP.kept hk2).app (fun k x hx => ?_)
    have hz : k < 1 := (List.getElem?_eq_some_iff.mp hx).1
    rw [show k = 0 by omega] at hx
    cases hx
    exact he
  · intro k ci n h
    rcases key k _ h with h | h
    · exact hwf k ci n h
    · exact (by rw [← h] at hw; exact hw rfl)
  · intro k x n h
    rcases key k _ h with h | h
    · exact hKA k x n h
    · exact (by rw [← h] at hk; exact hk rfl)
theorem ip_sh_nw (M : ip_H) (q : Nat × Nat × Nat) : ip_sh (ip_nw M q) M.1.length = q := by simp [ip_sh, ip_nw]
theorem ip_def {ty : FieldType} (hc : ip_kd ty = 2 → ip_ref ty = true) (hf : ty ≠ .float ∧ ty ≠ .double) : defaultValue ty = if ip_kd ty = 1 then .long 0 else if ip_kd ty = 2 then .null else .int 0 := by
  cases ty with
  | float => exact absurd rfl hf.1
  | double => exact absurd rfl hf.2
  | object n => rfl
  | array n => rfl
  | int => rfl
  | long => rfl
  | boolean => rfl
  | byte => exact absurd (hc rfl) (by decide)
  | char => exact absurd (hc rfl) (by decide)
  | short => exact absurd (hc rfl) (by decide)

theorem ip_s_new {n : Nat} (C : ip_Cx D cA y p R s m meth c) (hok : ip_ok y pc ((.new n), nx, a, k2, t, w, v, ts) = true) (hs : ip_step y X ((.new n), nx, a, k2, t, w, v, ts) ls st M = some z) (hR : ip_Rl D cA base H0 s M H locs) (hcells : cells + 1 ≤ R.cells) (hslots : slots + k2 ≤ R.slots) (hl : lv_has arr (ip_ml y) (ip_pl b base ls)) (hlen : ls.length = ip_ml y)
    (kk : ip_go p l e R s m args below meth c (cells + 1) (slots + k2) Q D cA base b y H0 z) : W p l e R s m args below meth c H locs cells slots Q (F0 m pc arr (st.map (ip_rn b base))) := by
  obtain ⟨hx, hb, hml, hown, hW, hK, hA, hnm, hfr, hlo⟩ := C
  simp only [ip_ok, Bool.and_eq_true] at hok
  obtain ⟨h1, h2⟩ := hok
  obtain ⟨hd, rfl⟩ := ip_dc_spec h1
  cases hs
  cases hq : ip_cl[a]? with
  | none => rw [hq] at h2; cases h2
  | some q =>
    rw [hq] at h2
    simp only [Bool.and_eq_true, decide_eq_true_eq] at h2
    obtain ⟨h3, h4, h5, h6⟩ := h2
    subst h3
    have hm := List.mem_of_getElem? hq
    have hts := ip_lays hm hW args
    have hKn := hK.1 a _ hq
    refine W.newcK hx hb hown (hW.use h4 rfl args) (hW.use h5 rfl args) (hW.use h6 rfl args) rfl hd hcells hslots hKn.2.1 hR.2.1 fun H1 kC hkC e1 z1 o1 => ?_
    refine kk H1 locs arr (hR.push z1 o1 ?_ (fun _ => ⟨q, hq, rfl⟩) (fun g => by cases g)) hl hlen
    refine ⟨q, hq, (u_born (ip_fty a) hts (fun _ h => h) hKn hkC e1 (fun j hj => (ip_parse hq j hj).1)).to (fun j hj => ?_)⟩
    have hf : ip_fty a j ≠ .float ∧ ip_fty a j ≠ .double := by
      obtain ⟨i1, i2, -⟩ := ip_cls_use hq
      have h3 : ((List.range 12).all fun ci => (List.range (ip_cl.getD ci (RX0, TX0, 0)).2.2).all fun a => decide (ip_fty ci a ≠ .float) && decide (ip_fty ci a ≠ .double)) = true := by decide +kernel
      have h7 := List.all_eq_true.mp h3 a (List.mem_range.mpr i2)
      rw [i1] at h7
      have h8 := List.all_eq_true.mp h7 j (List.mem_range.mpr hj)
      simpa using h8
    rw [ip_def (ip_kdc a j ⟨q, hq, hj⟩) hf]
    show _ = ((List.range q.2.2).map (ip_fv base (ip_nw M (0, a, q.2.2)) M.1.length a)).getD j .null
    rw [List.getD_eq_getElem?_getD, List.getElem?_map, List.getElem?_range hj, Option.map_some, Option.getD_some]
    unfold ip_fv
    show _ = if _ then Value.long (if M.1.length = M.1.length then 0 else _) else if _ then va_rf (ip_rf base (if M.1.length = M.1.length then none else _)) else Value.int (if M.1.length = M.1.length then 0 else _)
    rw [if_pos rfl, if_pos rfl, if_pos rfl]
    rfl

theorem ip_s_newarray {n : ArrayType} (C : ip_Cx D cA y p R s m meth c) (hok : ip_ok y pc ((.newarray n), nx, a, k2, t, w, v, ts) = true) (hs : ip_step y X ((.newarray n), nx, a, k2, t, w, v, ts) ls st M = some z) (hR : ip_Rl D cA base H0 s M H locs) {N : Nat} (hN : (ip_sh z.2.2.2 M.1.length).2.2 = N) (hcells : cells + 1 ≤ R.cells) (hslots : slots + N ≤ R.slots) (hl : lv_has arr (ip_ml y) (ip_pl b base ls)) (hlen : ls.length = ip_ml y)
    (kk : ip_go p l e R s m args below meth c (cells + 1) (slots + N) Q D cA base b y H0 z) : W p l e R s m args below meth c H locs cells slots Q (F0 m pc arr (st.map (ip_rn b base))) := by
  obtain ⟨hx, hb, hml, hown, hW, hK, hA, hnm, hfr, hlo⟩ := C
  simp only [ip_ok, Bool.and_eq_true, decide_eq_true_eq] at hok
  obtain ⟨h1, h2, h3, h4⟩ := hok
  obtain ⟨hd, rfl⟩ := ip_dc_spec h1
  obtain ⟨x, r, rfl, hz⟩ := ip_i1_inv hs
  split at hz
  · rename_i hg
    cases hz
    have hcs : x.toNatClampNeg = N := by rw [← hN]; exact (congrArg (fun q : Nat × Nat × Nat => q.2.2) (ip_sh_nw M (1, a, x.toNatClampNeg))).symm
    have hbytes : x.toNatClampNeg * componentBytes (newarray.typeOf n) ≤ 536870912 := by
      have : componentBytes (newarray.typeOf n) ≤ 8 := by cases n <;> decide
      have := Nat.mul_le_mul hg.2 this
      omega
    rw [← hcs] at hslots kk
    refine va_newaK hx hb (by rw [h2]; exact hW.use h4 rfl args) rfl hd rfl hg.1 rfl hbytes hcells hslots hR.2.1 fun H1 cA1 e1 z1 o1 hAr hNm => ?_
    have hca : cA1 = cA a := hA a cA1 (by rw [← h2]; exact hNm)
    subst hca
    rw [h2] at e1 hAr hNm
    refine kk H1 locs arr (hR.push (q := (1, a, x.toNatClampNeg)) z1 o1 ?_ (fun g => by cases g) (fun _ => ⟨hAr, ?_⟩)) hl hlen
    · match a, h3 with
      | 0, _ => rw [ip_en_i (by decide) (by decide)]; show H1[_]? = some (vp_cell _ (_, .inl (fun b => if M.1.length = M.1.length then 0 else _))); rw [e1]; simp only [if_true]; rfl
      | 1, _ => rw [ip_en_l]; show H1[_]? = some (vp_cell _ (_, .inr (.inl (fun b => if M.1.length = M.1.length then 0 else _)))); rw [e1]; simp only [if_true]; rfl
      | 2, _ => rw [ip_en_i (by decide) (by decide)]; show H1[_]? = some (vp_cell _ (_, .inl (fun b => if M.1.length = M.1.length then 0 else _))); rw [e1]; simp only [if_true]; rfl
      | 3, _ => rw [ip_en_i (by decide) (by decide)]; show H1[_]? = some (vp_cell _ (_, .inl (fun b => if M.1.length = M.1.length then 0 else _))); rw [e1]; simp only [if_true]; rfl
    · match a, h3, hNm with
      | 0, _, hNm => exact hNm
      | 1, _, hNm => exact hNm
      | 2, _, hNm => exact hNm
      | 3, _, hNm => exact hNm
  · cases hz

theorem ip_s_anewarray {n : Nat} (C : ip_Cx D cA y p R s m meth c) (hok : ip_ok y pc ((.anewarray n), nx, a, k2, t, w, v, ts) = true) (hs : ip_step y X ((.anewarray n), nx, a, k2, t, w, v, ts) ls st M = some z) (hR : ip_Rl D cA base H0 s M H locs) {N : Nat} (hN : (ip_sh z.2.2.2 M.1.length).2.2 = N) (hcells : cells + 1 ≤ R.cells) (hslots : slots + N ≤ R.slots) (hl : lv_has arr (ip_ml y) (ip_pl b base ls)) (hlen : ls.length = ip_ml y)
    (kk : ip_go p l e R s m args below meth c (cells + 1) (slots + N) Q D cA base b y H0 z) : W p l e R s m args below meth c H locs cells slots Q (F0 m pc arr (st.map (ip_rn b base))) := by
  obtain ⟨hx, hb, hml, hown, hW, hK, hA, hnm, hfr, hlo⟩ := C
  simp only [ip_ok, Bool.and_eq_true, Bool.or_eq_true, decide_eq_true_eq] at hok
  obtain ⟨h1, h2, h3⟩ := hok
  obtain ⟨hd, rfl⟩ := ip_dc_spec h1
  obtain ⟨x, r, rfl, hz⟩ := ip_i1_inv hs
  split at hz
  · rename_i hg
    cases hz
    have hcs : x.toNatClampNeg = N := by rw [← hN]; exact (congrArg (fun q : Nat × Nat × Nat => q.2.2) (ip_sh_nw M (1, a, x.toNatClampNeg))).symm
    rw [← hcs] at hslots kk
    have ha4 : 4 ≤ a := by omega
    have hover : va_AO (if a = 4 then RX8 else RX5) s := by split; exact hW.2.1; exact hW.2.2
    refine W.anew hx hb hown (hW.use h3 rfl args) (va_AO.use hover) rfl hd rfl hg.1 (by omega) hcells hslots fun cA1 kA comp f1 f2 f3 f4 => ?_
    generalize hH1 : H.push ({ cls := cA1, slots := Array.replicate x.toNatClampNeg .null, vm := .none } : Cell) = H1
    have z1 : H1.size = base + M.1.length + 1 := by rw [← hH1, Array.size_push, hR.2.1]
    have e1 : H1[base + M.1.length]? = some (arrV cA1 x.toNatClampNeg (fun _ => .null)) := by rw [← hR.2.1, ← hH1, Array.getElem?_push_size, ← arrV_new]
    have o1 : ∀ q : Nat, q < base + M.1.length → H1[q]? = H[q]? := fun q hq => by rw [← hH1, Array.getElem?_push, if_neg (by rw [hR.2.1]; exact Nat.ne_of_lt hq)]
    have hty := ip_tyo ha4
    have hca : cA1 = cA a := hA a cA1 (by rw [hty]; exact f1)
    subst hca
    have hAr : ArrOfT s (cA a) (ip_ty a) := by rw [hty]; exact fun N z => ⟨(fun k h => by cases h), kA, f2, comp, f3⟩
    have k1 := kk H1 locs arr (hR.push z1 o1 (q := (1, a, x.toNatClampNeg)) (by
      rw [ip_en_q ha4]
      show H1[_]? = some (vp_cell _ (_, .inr (.inr (.inr (.inr (fun j => ip_rf base (if M.1.length = M.1.length then none else _)))))))
      rw [e1]; simp only [if_true]; rfl) (fun g => by cases g) (fun _ => ⟨hAr, by rw [show ip_ty ((1, a, x.toNatClampNeg) : Nat × Nat × Nat).2.1 = _ from hty]; exact ⟨kA, comp, f2, f3, f4, f1⟩⟩)) hl hlen
    rw [hR.2.1]
    exact k1
  · cases hz

theorem ip_s_aastore (C : ip_Cx D cA y p R s m meth c) (hok : ip_ok y pc (.aastore, nx, a, k2, t, w, v, ts) = true) (hs : ip_step y X (.aastore, nx, a, k2, t, w, v, ts) ls st M = some z) (hR : ip_Rl D cA base H0 s M H locs) (hl : lv_has arr (ip_ml y) (ip_pl b base ls)) (hlen : ls.length = ip_ml y)
    (kk : ip_go p l e R s m args below meth c cells slots Q D cA base b y H0 z) : W p l e R s m args below meth c H locs cells slots Q (F0 m pc arr (st.map (ip_rn b base))) := by
  obtain ⟨hx, hb, hml, hown, hW, hK, hA, hnm, hfr, hlo⟩ := C
  simp only [ip_ok] at hok
  obtain ⟨hd, rfl⟩ := ip_dc_spec hok
  simp only [ip_step] at hs
  split at hs
  · rename_i q j k r
    split at hs
    · rename_i hg
      obtain ⟨g1, g2, g3, g4, g5⟩ := hg
      obtain ⟨hk, he, hAr⟩ := ip_arr g1 hR
      obtain ⟨cl, hq, hk2, he2⟩ := ip_obj g3 rfl hR
      have hin := ip_ixp g5
      rw [ip_en_q g2] at he
      have hRA := hAr.2
      have hcl1 : FieldType.object cl.1 = ip_ty (ip_sh M k).2.1 := by
        rw [ip_tyo g2]
        rw [g4] at hq
        by_cases h4 : (ip_sh M k).2.1 = 4
        · rw [h4] at hq; rw [if_pos h4]
          have e : ip_cl[ip_oi 4]? = some (RX8, TX8, 4) := rfl
          rw [e] at hq; cases hq; rfl
        · rw [if_neg h4]
          have e0 : ip_oi (ip_sh M k).2.1 = 5 := by unfold ip_oi; split <;> first | (rename_i h; exact absurd h h4) | rfl
          rw [e0] at hq
          have e : ip_cl[5]? = some (RX5, TX5, 8) := rfl
          rw [e] at hq; cases hq; rfl
      rw [← hcl1] at hRA
      obtain ⟨kA, comp, k1, k3, k4, -⟩ := hRA
      have hcls := (hK.1 _ _ hq).2
      have hcomp : comp = D.1 (ip_sh M q).2.1 := Option.some.inj (k4.symm.trans hcls.1)
      subst hcomp
      obtain ⟨kC, hkC, -⟩ := id hcls.2
      obtain ⟨r', hr', cellV, i1, i2, i3, -⟩ := hR.1 q _ he2
      cases hs
      have h0 : ¬ j < 0 := fun q => hin (Or.inl q)
      have hlt : j.toNatClampNeg < (ip_sh M k).2.2 := Nat.not_le.mp fun q => hin (Or.inr q)
      refine W.aast hx hb (hR.1 k _ he) (fun q h => by cases h) (fun h => by cases h) k1 k3 rfl hkC ⟨h0, by show _ < (arrV _ _ _).slots.size; rw [arrV_size]; exact hlt⟩ i1 (fun q h => by rw [i3] at h; cases h) (by rw [i2]; exact hkC) (by rw [i2]; exact va_assign hcls) rfl rfl hd fun H1 e z oq => ?_
      refine kk H1 _ arr (hR.set (M1 := ip_uR M k j.toNatClampNeg (some q)) rfl hk ip_en_uR ?_ z oq _) hl hlen
      rw [ip_en_q g2]
      show H1[base + k]? = some (vp_cell _ _)
      rw [e, vp_cell_q, vp_cell_q, arrV_store]
      congr 2
      funext g
      by_cases hg : g = j.toNatClampNeg
      · subst hg; simp [updV, ip_uR, va_rf, ip_rf]
      · simp [updV, ip_uR, hg]
    · cases hs
  · cases hs

theorem ip_cats (r : List Value) (b base : Nat) : ((r.map (ip_rn b base)).map fun v => v.category).sum ≤ 2 * r.length := by
  induction r with
  | nil => exact Nat.le_refl _
  | cons v r ih =>
    have h1 : (ip_rn b base v).category ≤ 2 := by rcases lv_cat (ip_rn b base v) with h | h <;> omega
    simp only [List.map_cons, List.sum_cons, List.length_cons]
    omega
set_option maxRecDepth 100000 in
theorem ip_oi1 : Cond.instanceMethod Lib.objectInit ∈ lw_tbl := (ip_t1 (List.mem_of_getElem? (l := tables_1_1) (i := 21) rfl))
set_option maxRecDepth 100000 in
theorem ip_oi2 : Cond.code Lib.objectInit ⟨#[0xb1]⟩ 1 none ∈ lw_tbl := (ip_t1 (List.mem_of_getElem? (l := tables_1_1) (i := 22) rfl))
set_option maxRecDepth 100000 in
theorem ip_ac1 : Cond.native arraycopyName ∈ lw_tbl := (ip_t2 (List.mem_of_getElem? (l := tables_1_2) (i := 153) rfl))
set_option maxRecDepth 100000 in
theorem ip_ac2 : Cond.static arraycopyName ∈ lw_tbl := (ip_t2 (List.mem_of_getElem? (l := tables_1_2) (i := 152) rfl))
set_option maxRecDepth 100000 in
theorem ip_ac3 : Cond.initialized "java/lang/System" ∈ lw_tbl := (ip_t1 (List.mem_of_getElem? (l := tables_1_1) (i := 14) rfl))

theorem ip_s_objInit {n : Nat} (C : ip_Cx D cA y p R s m meth c) (hok : ip_ok y pc ((.invokespecial n), nx, a, k2, t, w, v, ts) = true) (hs : ip_step y X ((.invokespecial n), nx, a, k2, t, w, v, ts) ls st M = some z) (hR : ip_Rl D cA base H0 s M H locs) (hl : lv_has arr (ip_ml y) (ip_pl b base ls)) (hlen : ls.length = ip_ml y)
    (kk : ip_go p l e R s m args below meth c cells slots Q D cA base b y H0 z) : W p l e R s m args below meth c H locs cells slots Q (F0 m pc arr (st.map (ip_rn b base))) := by
  obtain ⟨hx, hb, hml, hown, hW, hK, hA, hnm, hfr, hlo⟩ := C
  simp only [ip_ok, Bool.and_eq_true] at hok
  obtain ⟨h1, h2⟩ := hok
  obtain ⟨hd, rfl⟩ := ip_dc_spec h1
  obtain ⟨x, r, rfl, hz⟩ := ip_r1_inv hs
  split at hz
  · rename_i hg
    rw [if_pos hg.1] at h2
    simp only [Bool.and_eq_true, decide_eq_true_eq] at h2
    obtain ⟨h3, h4, h5⟩ := h2
    cases hz
    have hc := ip_cats r b base
    refine W.objInit hx hb hown (hW.use h3 rfl args) (hW.use ip_oi1 rfl args) (hW.use ip_oi2 rfl args) rfl (hl.1.trans hml.symm) rfl hd (by omega) ?_ (kk H locs arr hR hl hlen)
    show 2 * 0 + _ + 12 ≤ _
    omega
  · cases hz

/-- arraycopy between two arrays of numbers -/
theorem ip_Wcopy {α : Type} (mk : α → Value) {cc : ByteArray} (hexec : p.tables.exec = Jvm.exec) (hb : c.code = cc) (hml : c.maxLocals = arr.size) {own : String} {index : Nat} (hown : s.vm.findClass own = some m.cls) (hlink : (Cond.methodLink own index arraycopyName).before args s = true) (hnat : (Cond.native arraycopyName).before args s = true) (hstat : (Cond.static arraycopyName).before args s = true) (hini : (Cond.initialized "java/lang/System").before args s = true)
    {a0 a1 : Nat} {c0 c1 : ClassId} {n0 n1 : Nat} {f g : Nat → α} {ty : FieldType} (hc0 : H[a0]? = some (arrV c0 n0 (fun j => mk (f j)))) (hc1 : H[a1]? = some (arrV c1 n1 (fun j => mk (g j)))) (hA0 : ArrOfT s c0 ty) (hA1 : ArrOfT s c1 ty) (hprim : refKind ty = false) (htk : ∀ (U : State) (k : ClassId) (j : Nat), U.takes k (mk (f j)))
    {sp dp n : Int32} (h1 : ¬ sp < 0) (h2 : ¬ dp < 0) (h3 : ¬ n < 0) (h4 : sp.toNatClampNeg + n.toNatClampNeg ≤ n0) (h5 : dp.toNatClampNeg + n.toNatClampNeg ≤ n1) (hfit : ∀ i, i < n.toNatClampNeg → fits ty (mk (f (sp.toNatClampNeg + i))) = true)
    {rest : List Value} (hframes : 1 ≤ R.frames) (hlocals : (rest.map fun v => v.category).sum + (nativeFrameWords "java/lang/System" "arraycopy" 5 + 11) ≤ R.locals) (hdg : decode cc pc = .ok (.invokestatic index, 3))
    (kk : ∀ (H1 : Heap) (L : List Loc), (∀ q ∈ L, q.base = a1) → H1[a1]? = some (arrV c1 n1 (fun j => mk (va_cpy f g sp.toNatClampNeg dp.toNatClampNeg n.toNatClampNeg j))) → H1.size = H.size → (∀ q : Nat, q ≠ a1 → H1[q]? = H[q]?) → W p l e R s m args below meth c H1 (locs ++ L) cells slots Q (F0 m (pc + 3) arr rest)) : W p l e R s m args below meth c H locs cells slots Q (F0 m pc arr (.int n :: .int dp :: .ref a1 :: .int sp :: .ref a0 :: rest)) := by
  have nn : ∀ z : Int32, ¬ z < 0 → z.toInt = (z.toNatClampNeg : Int) := by
    intro z hz
    have hz0 : (0 : Int) ≤ z.toInt := by
      have := Int32.not_lt.mp hz
      simpa using Int32.le_iff_toInt_le.mp this
    show z.toInt = ((z.toInt.toNat : Nat) : Int)
    omega
  intro T hT X
  obtain ⟨-, k0, hk0, cm0, hkk0⟩ := hA0 n0 (fun j => mk (f j))
  obtain ⟨-, k1, hk1, cm1, hkk1⟩ := hA1 n1 (fun j => mk (g j))
  have e0 : ∀ i, i < n.toNatClampNeg → (arrV c0 n0 (fun j => mk (f j))).slots.getD (sp.toNatClampNeg + i) .null = mk (f (sp.toNatClampNeg + i)) := by
    intro i hi
    rw [Array.getD_eq_getD_getElem?, arrV_read _ _ (by omega)]
    rfl
  obtain ⟨vm', X', step⟩ := X.arraycopy hexec hown hlink hnat hstat hini (src := a0) (dst := a1) (cs := arrV c0 n0 (fun j => mk (f j))) (cd := arrV c1 n1 (fun j => mk (g j))) (srcPos := sp) (destPos := dp) (n := n) (by rw [hT]; exact hc0) (by rw [hT]; exact hc1)
    (fun _ h => by cases h) (fun _ h => by cases h) (fun h => by cases h) (fun h => by cases h) hk0 hk1 hkk0 hkk1 (by simp [hprim]) h1 h2 h3
    (by rw [nn sp h1, nn n h3, arrV_size]; omega)
    (by rw [nn dp h2, nn n h3, arrV_size]; omega)
    (fun vm₁ _ i hi => ⟨by rw [e0 i hi]; exact hfit i hi, by rw [e0 i hi]; exact htk _ _ _⟩)
    (g := F0 m pc arr (.int n :: .int dp :: .ref a1 :: .int sp :: .ref a0 :: rest)) rfl (by rw [hml]) (rest := rest) rfl (by rw [hb]; exact hdg) hframes (by show 2 * 0 + _ + _ ≤ _; omega)
  have e1 : copied (arrV c0 n0 (fun j => mk (f j))) (arrV c1 n1 (fun j => mk (g j))) sp dp n = arrV c1 n1 (fun j => mk (va_cpy f g sp.toNatClampNeg dp.toNatClampNeg n.toNatClampNeg j)) := va_copied mk c0 c1 f g h4
  rw [e1] at X' step
  have hl : a1 < T.heap.size := by rw [hT]; exact (Array.getElem?_eq_some_iff.mp hc1).1
  obtain ⟨t, x1, y1⟩ := kk _ _ (fun q hq => by
      obtain ⟨z, -, hz⟩ := List.mem_map.mp hq
      rw [← hz]) (heapAt_setCell_self (s := T.setVm vm') _ hl) (by rw [size_setCell]; exact congrArg Array.size hT) (fun q hq => by rw [heapAt_setCell_ne _ (Ne.symm hq)]; rw [← hT]; rfl) _ rfl X'
  exact ⟨t, step t x1, y1⟩
theorem ip_en_cpI {base : Nat} {cA : Nat → ClassId} {M : ip_H} {k0 k1 sp dp n : Nat} : ∀ (i : Nat) (z : Nat × Nat × Nat), i ≠ k1 → ip_en base cA (ip_cpI M k0 k1 sp dp n) i z = ip_en base cA M i z := by
  intro i z hi
  have e1 : (ip_cpI M k0 k1 sp dp n).2.1 i = M.2.1 i := by show (if i = k1 then _ else _) = _; rw [if_neg hi]
  have e4 : ip_fv base (ip_cpI M k0 k1 sp dp n) i z.2.1 = ip_fv base M i z.2.1 := by funext b; unfold ip_fv; rw [e1]; rfl
  unfold ip_en
  rw [e1, e4]; rfl
theorem ip_en_cpL {base : Nat} {cA : Nat → ClassId} {M : ip_H} {k0 k1 sp dp n : Nat} : ∀ (i : Nat) (z : Nat × Nat × Nat), i ≠ k1 → ip_en base cA (ip_cpL M k0 k1 sp dp n) i z = ip_en base cA M i z := by
  intro i z hi
  have e1 : (ip_cpL M k0 k1 sp dp n).2.2.1 i = M.2.2.1 i := by show (if i = k1 then _ else _) = _; rw [if_neg hi]
  have e4 : ip_fv base (ip_cpL M k0 k1 sp dp n) i z.2.1 = ip_fv base M i z.2.1 := by funext b; unfold ip_fv; rw [e1]; rfl
  unfold ip_en
  rw [e1, e4]; rfl
theorem ip_Rl.setL (hR : ip_Rl D cA base H0 s M H locs) {M1 : ip_H} {H1 : Heap} (h1 : M1.1 = M.1) {k : Nat} {q : Nat × Nat × Nat} (hk : M.1[k]? = some q) (hen : ∀ (i : Nat) (z : Nat × Nat × Nat), i ≠ k → ip_en base cA M1 i z = ip_en base cA M i z)
    (he : va_at D ip_cl (base + k, ip_en base cA M1 k q) H1) (hz : H1.size = H.size) (oq : ∀ x, x ≠ base + k → H1[x]? = H[x]?) {L : List Loc} (hL : ∀ x ∈ L, x.base = base + k) : ip_Rl D cA base H0 s M1 H1 (locs ++ L) := by
  obtain ⟨g1, g2, g3, g4, g5⟩ := hR.set h1 hk hen he hz oq 0
  refine ⟨g1, g2, ⟨g3.1, g3.2.1, fun x hx => ?_⟩, g4, g5⟩
  rcases List.mem_append.mp hx with h | h
  · exact hR.2.2.1.2.2 x h
  · rw [hL x h]; exact Nat.le_add_right _ _

theorem ip_s_copy {n : Nat} (C : ip_Cx D cA y p R s m meth c) (hok : ip_ok y pc ((.invokestatic n), nx, a, k2, t, w, v, ts) = true) (hs : ip_step y X ((.invokestatic n), nx, a, k2, t, w, v, ts) ls st M = some z) (hR : ip_Rl D cA base H0 s M H locs) (hl : lv_has arr (ip_ml y) (ip_pl b base ls)) (hlen : ls.length = ip_ml y)
    (kk : ip_go p l e R s m args below meth c cells slots Q D cA base b y H0 z) : W p l e R s m args below meth c H locs cells slots Q (F0 m pc arr (st.map (ip_rn b base))) := by
  obtain ⟨hx, hb, hml, hown, hW, hK, hA, hnm, hfr, hlo⟩ := C
  simp only [ip_ok, Bool.and_eq_true] at hok
  obtain ⟨h1, h2⟩ := hok
  obtain ⟨hd, rfl⟩ := ip_dc_spec h1
  simp only [ip_step] at hs
  split at hs
  · rename_i q dp k1 sp k0 r
    split at hs
    · rename_i hg
      obtain ⟨i1, i2, i3, i4, i5, i6, i7, i8, i9, i10, i11⟩ := hg
      rw [if_pos i1] at h2
      simp only [Bool.and_eq_true, decide_eq_true_eq] at h2
      obtain ⟨h3, h4, h5⟩ := h2
      obtain ⟨hk0, he0, hAr0⟩ := ip_arr i3 hR
      obtain ⟨hk1, he1, hAr1⟩ := ip_arr i4 hR
      have hc := ip_cats r b base
      have hlo2 : ((r.map (ip_rn b base)).map fun v => v.category).sum + (nativeFrameWords "java/lang/System" "arraycopy" 5 + 11) ≤ R.locals := by omega
      rw [← i5] at hAr1 he1 hk1
      have w1 := hW.use h3 rfl args
      have w2 := hW.use ip_ac1 rfl args
      have w3 := hW.use ip_ac2 rfl args
      have w4 := hW.use ip_ac3 rfl args
      have hmL : c.maxLocals = arr.size := hml.trans hl.1.symm
      by_cases hL : (ip_sh M k0).2.1 = 1
      · rw [if_pos hL] at hs
        cases hs
        rw [hL] at hAr0 hAr1 he0 he1 hk1
        rw [ip_en_l] at he0 he1
        refine ip_Wcopy (fun z : Int64 => Value.long z) hx hb hmL hown w1 w2 w3 w4 (hR.1 k0 _ he0) (hR.1 k1 _ he1) hAr0.1 hAr1.1 rfl (fun _ _ _ => trivial) i7 i8 i9 i10 i11 (fun _ _ => rfl) (by omega) hlo2 hd fun H1 L hLL e z oq => ?_
        refine kk H1 _ arr (hR.setL (M1 := ip_cpL M k0 k1 sp.toNatClampNeg dp.toNatClampNeg q.toNatClampNeg) rfl hk1 ip_en_cpL ?_ z oq hLL) hl hlen
        rw [ip_en_l]
        show H1[base + k1]? = some (vp_cell _ (_, .inr (.inl (if k1 = k1 then _ else _))))
        rw [if_pos rfl]
        exact e
      · rw [if_neg hL] at hs
        split at hs
        · rename_i hf
          cases hs
          have g2 : (ip_sh M k0).2.1 < 4 := by omega
          rw [ip_en_i hL g2] at he0 he1
          have hfit : ∀ i, i < q.toNatClampNeg → fits (ip_ty (ip_sh M k0).2.1) (.int (M.2.1 k0 (sp.toNatClampNeg + i))) = true := by
            intro i hi
            rcases hf with hf | hf
            · rw [hf]; rfl
            · have h0 : (ip_sh M k0).2.1 = 0 ∨ (ip_sh M k0).2.1 = 2 := by omega
              rcases h0 with h0 | h0
              · rw [h0]; rfl
              · rw [h0]; exact hf i (List.mem_range.mpr hi)
          have hpr : refKind (ip_ty (ip_sh M k0).2.1) = false := by
            have h0 : (ip_sh M k0).2.1 = 0 ∨ (ip_sh M k0).2.1 = 2 := by omega
            rcases h0 with h0 | h0 <;> rw [h0] <;> rfl
          refine ip_Wcopy (fun z : Int32 => Value.int z) hx hb hmL hown w1 w2 w3 w4 (hR.1 k0 _ he0) (hR.1 k1 _ he1) hAr0.1 hAr1.1 hpr (fun _ _ _ => trivial) i7 i8 i9 i10 i11 hfit (by omega) hlo2 hd fun H1 L hLL e z oq => ?_
          refine kk H1 _ arr (hR.setL (M1 := ip_cpI M k0 k1 sp.toNatClampNeg dp.toNatClampNeg q.toNatClampNeg) rfl hk1 ip_en_cpI ?_ z oq hLL) hl hlen
          rw [ip_en_i hL g2]
          show H1[base + k1]? = some (vp_cell _ (_, .inl (if k1 = k1 then _ else _)))
          rw [if_pos rfl]
          exact e
        · cases hs
    · cases hs
  · cases hs
end IPA
end
noncomputable section
-- PART 16.sound
-- SOUNDNESS of the interpreter: what it answers, the machine answers
theorem ip_nw_len (M : ip_H) (q : Nat × Nat × Nat) : (ip_nw M q).1.length - M.1.length = 1 ∧ ip_size (ip_nw M q).1 - ip_size M.1 = q.2.2 := by
  have e1 : (ip_nw M q).1 = M.1 ++ [q] := rfl
  rw [e1, List.length_append]
  refine ⟨by simp, ?_⟩
  unfold ip_size
  rw [List.map_append, List.sum_append]
  simp
theorem ip_nw_le (M : ip_H) (q : Nat × Nat × Nat) : M.1.length ≤ (ip_nw M q).1.length ∧ ip_size M.1 ≤ ip_size (ip_nw M q).1 := by
  have e1 : (ip_nw M q).1 = M.1 ++ [q] := rfl
  rw [e1, List.length_append]
  refine ⟨by omega, ?_⟩
  unfold ip_size
  rw [List.map_append, List.sum_append]
  omega
def ip_isA : Instr → Bool
  | .new _ => true
  | .newarray _ => true
  | .anewarray _ => true
  | _ => false
theorem ip_step_sh {y : Nat} {X : ip_X} {i : Instr} {nx a k2 t w : Nat} {v : Value} {ts : List Nat} {ls st : List Value} {M : ip_H} {z : ip_Z} (hA : ip_isA i = false) (h : ip_step y X (i, nx, a, k2, t, w, v, ts) ls st M = some z) : z.2.2.2.1 = M.1 := by
  cases i <;> first
    | (cases hA; done)
    | (cases h; rfl)
    | (obtain ⟨x, q, r, rfl, hz⟩ := ip_i2_inv h; first | (cases hz; rfl) | (split at hz <;> first | (cases hz; rfl) | (cases hz; done)))
    | (obtain ⟨x, q, r, rfl, hz⟩ := ip_l2_inv h; first | (cases hz; rfl) | (split at hz <;> first | (cases hz; rfl) | (cases hz; done)))
    | (obtain ⟨x, q, r, rfl, hz⟩ := ip_li_inv h; cases hz; rfl)
    | (obtain ⟨x, r, rfl, hz⟩ := ip_i1_inv h; cases hz; rfl)
    | (obtain ⟨x, r, rfl, hz⟩ := ip_l1_inv h; cases hz; rfl)
    | (obtain ⟨x, r, rfl, hz⟩ := ip_r1_inv h; first | (cases hz; rfl) | (split at hz <;> first | (cases hz; rfl) | (cases hz; done)))
    | (simp only [ip_step] at h; repeat' (first | (cases h; rfl) | (cases h; done) | split at h))
theorem ip_step_le {y : Nat} {X : ip_X} {e : ip_E} {ls st : List Value} {M : ip_H} {z : ip_Z} (h : ip_step y X e ls st M = some z) : M.1.length ≤ z.2.2.2.1.length ∧ ip_size M.1 ≤ ip_size z.2.2.2.1 := by
  obtain ⟨i, nx, a, k2, t, w, v, ts⟩ := e
  by_cases hA : ip_isA i = true
  · cases i <;> first
      | (cases hA; done)
      | (cases h; exact ip_nw_le _ _)
      | (obtain ⟨x, r, rfl, hz⟩ := ip_i1_inv h; split at hz <;> first | (cases hz; exact ip_nw_le _ _) | (cases hz; done))
  · rw [ip_step_sh (by simpa using hA) h]
    exact ⟨Nat.le_refl _, Nat.le_refl _⟩
theorem ip_exec_le (X : ip_X) : ∀ (n y pc : Nat) (ls st : List Value) (M : ip_H) (z : Option Value × ip_H), ip_exec X n y pc ls st M = some z → M.1.length ≤ z.2.1.length ∧ ip_size M.1 ≤ ip_size z.2.1 := by
  intro n
  induction n with
  | zero => intro y pc ls st M z h; cases h
  | succ n ih =>
    intro y pc ls st M z h
    rw [ip_exec] at h
    split at h
    · cases h
    · rename_i e he
      split at h
      · split at h
        · split at h
          · cases h
          · rename_i r M1 hx
            have h1 := ih _ _ _ _ _ _ hx
            have h2 := ih _ _ _ _ _ _ h
            exact ⟨Nat.le_trans h1.1 h2.1, Nat.le_trans h1.2 h2.2⟩
        · cases h
      · split at h
        · cases h
          exact ⟨Nat.le_refl _, Nat.le_refl _⟩
        · split at h
          · cases h
          · rename_i w hw
            have h1 := ip_step_le hw
            have h2 := ih _ _ _ _ _ _ h
            exact ⟨Nat.le_trans h1.1 h2.1, Nat.le_trans h1.2 h2.2⟩
section IPD
variable {p : Program} {l : Launch} {e : Env} {R : Room} {s : State} {m : MethodId} {args : Array Value} {below : List Frame} {meth : Method} {c : Code} {H : Heap} {locs : List Loc} {cells slots : Nat} {Q : State → Prop}
variable {D : va_G} {cA : Nat → ClassId} {base b y pc : Nat} {X : ip_X} {H0 : Heap} {M : ip_H} {ls st : List Value} {arr : Array Slot} {z : ip_Z}
theorem ip_go_same (h : z.2.2.2.1 = M.1) (kk : ip_go p l e R s m args below meth c (cells + (z.2.2.2.1.length - M.1.length)) (slots + (ip_size z.2.2.2.1 - ip_size M.1)) Q D cA base b y H0 z) : ip_go p l e R s m args below meth c cells slots Q D cA base b y H0 z := by
  rw [h, Nat.sub_self, Nat.sub_self] at kk
  exact kk
theorem ip_stepW {en : ip_E} (C : ip_Cx D cA y p R s m meth c) (hok : ip_ok y pc en = true) (hic : ip_ic en = false) (hs : ip_step y X en ls st M = some z) (hR : ip_Rl D cA base H0 s M H locs) (hX : y = ip_LAW → va_X b X.1 X.2 s H0 ∧ b < H0.size ∧ ¬ base ≤ b) (hl : lv_has arr (ip_ml y) (ip_pl b base ls)) (hlen : ls.length = ip_ml y)
    (hcells : cells + (z.2.2.2.1.length - M.1.length) ≤ R.cells) (hslots : slots + (ip_size z.2.2.2.1 - ip_size M.1) ≤ R.slots)
    (kk : ip_go p l e R s m args below meth c (cells + (z.2.2.2.1.length - M.1.length)) (slots + (ip_size z.2.2.2.1 - ip_size M.1)) Q D cA base b y H0 z) : W p l e R s m args below meth c H locs cells slots Q (F0 m pc arr (st.map (ip_rn b base))) := by
  obtain ⟨i, nx, a, k2, t, w, v, ts⟩ := en
  by_cases hA : ip_isA i = true
  · cases i with
    | new n =>
      have hz : z.2.2.2 = ip_nw M (0, a, k2) := by cases hs; rfl
      have h1 := ip_nw_len M (0, a, k2)
      rw [hz, h1.1] at hcells
      rw [hz, h1.2] at hslots
      rw [hz, h1.1, h1.2] at kk
      exact ip_s_new C hok hs hR hcells hslots hl hlen kk
    | newarray n =>
      have hz : z.2.2.2 = ip_nw M (1, a, (ip_sh z.2.2.2 M.1.length).2.2) := by
        obtain ⟨x, r, rfl, hz⟩ := ip_i1_inv hs
        split at hz
        · cases hz
          dsimp only
          rw [ip_sh_nw]
        · cases hz
      have h1 := ip_nw_len M (1, a, (ip_sh z.2.2.2 M.1.length).2.2)
      rw [← hz] at h1
      rw [h1.1] at hcells
      rw [h1.2] at hslots
      rw [h1.1, h1.2] at kk
      exact ip_s_newarray C hok hs hR rfl hcells hslots hl hlen kk
    | anewarray n =>
      have hz : z.2.2.2 = ip_nw M (1, a, (ip_sh z.2.2.2 M.1.length).2.2) := by
        obtain ⟨x, r, rfl, hz⟩ := ip_i1_inv hs
        split at hz
        · cases hz
          dsimp only
          rw [ip_sh_nw]
        · cases hz
      have h1 := ip_nw_len M (1, a, (ip_sh z.2.2.2 M.1.length).2.2)
      rw [← hz] at h1
      rw [h1.1] at hcells
      rw [h1.2] at hslots
      rw [h1.1, h1.2] at kk
      exact ip_s_anewarray C hok hs hR rfl hcells hslots hl hlen kk
    | _ => cases hA
  · have k1 := ip_go_same (ip_step_sh (by simpa using hA) hs) kk
    cases i with
    | iconst n => exact ip_s_iconst C hok hs hR hl hlen k1
    | bipush n => exact ip_s_bipush C hok hs hR hl hlen k1
    | sipush n => exact ip_s_sipush C hok hs hR hl hlen k1
    | lconst n => exact ip_s_lconst C hok hs hR hl hlen k1
    | ldc n => exact ip_s_ldc C hok hs hR hl hlen k1
    | ldc_w n => exact ip_s_ldc_w C hok hs hR hl hlen k1
    | ldc2_w n => exact ip_s_ldc2_w C hok hs hR hl hlen k1
    | iload n => exact ip_s_iload C hok hs hR hl hlen k1
    | iload_n n => exact ip_s_iload_n C hok hs hR hl hlen k1
    | lload n => exact ip_s_lload C hok hs hR hl hlen k1
    | lload_n n => exact ip_s_lload_n C hok hs hR hl hlen k1
    | aload n => exact ip_s_aload C hok hs hR hl hlen k1
    | aload_n n => exact ip_s_aload_n C hok hs hR hl hlen k1
    | istore n => exact ip_s_istore C hok hs hR hl hlen k1
    | istore_n n => exact ip_s_istore_n C hok hs hR hl hlen k1
    | lstore n => exact ip_s_lstore C hok hs hR hl hlen k1
    | lstore_n n => exact ip_s_lstore_n C hok hs hR hl hlen k1
    | astore n => exact ip_s_astore C hok hs hR hl hlen k1
    | astore_n n => exact ip_s_astore_n C hok hs hR hl hlen k1
    | iinc n k => exact ip_s_iinc C hok hs hR hl hlen k1
    | iadd => exact ip_s_iadd C hok hs hR hl hlen k1
    | isub => exact ip_s_isub C hok hs hR hl hlen k1
    | imul => exact ip_s_imul C hok hs hR hl hlen k1
    | idiv => exact ip_s_idiv C hok hs hR hl hlen k1
    | irem => exact ip_s_irem C hok hs hR hl hlen k1
    | ineg => exact ip_s_ineg C hok hs hR hl hlen k1
    | iand => exact ip_s_iand C hok hs hR hl hlen k1
    | ior => exact ip_s_ior C hok hs hR hl hlen k1
    | ixor => exact ip_s_ixor C hok hs hR hl hlen k1
    | ishl => exact ip_s_ishl C hok hs hR hl hlen k1
    | ishr => exact ip_s_ishr C hok hs hR hl hlen k1
    | ladd => exact ip_s_ladd C hok hs hR hl hlen k1
    | lsub => exact ip_s_lsub C hok hs hR hl hlen k1
    | lmul => exact ip_s_lmul C hok hs hR hl hlen k1
    | ldiv => exact ip_s_ldiv C hok hs hR hl hlen k1
    | lrem => exact ip_s_lrem C hok hs hR hl hlen k1
    | lneg => exact ip_s_lneg C hok hs hR hl hlen k1
    | land => exact ip_s_land C hok hs hR hl hlen k1
    | lor => exact ip_s_lor C hok hs hR hl hlen k1
    | lxor => exact ip_s_lxor C hok hs hR hl hlen k1
    | lshl => exact ip_s_lshl C hok hs hR hl hlen k1
    | lshr => exact ip_s_lshr C hok hs hR hl hlen k1
    | lushr => exact ip_s_lushr C hok hs hR hl hlen k1
    | lcmp => exact ip_s_lcmp C hok hs hR hl hlen k1
    | i2l => exact ip_s_i2l C hok hs hR hl hlen k1
    | l2i => exact ip_s_l2i C hok hs hR hl hlen k1
    | i2b => exact ip_s_i2b C hok hs hR hl hlen k1
    | goto off => exact ip_s_goto C hok hs hR hl hlen k1
    | ifCond cd off => exact ip_s_ifCond C hok hs hR hl hlen k1
    | if_icmp cd off => exact ip_s_if_icmp C hok hs hR hl hlen k1
    | tableswitch d lo hi offs => exact ip_s_tableswitch C hok hs hR hl hlen k1
    | dup => exact ip_s_dup C hok hs hR hl hlen k1
    | dup2 => exact ip_s_dup2 C hok hs hR hl hlen k1
    | pop => exact ip_s_pop C hok hs hR hl hlen k1
    | pop2 => exact ip_s_pop2 C hok hs hR hl hlen k1
    | getfield n => exact ip_s_getfield C hok hs hR hl hlen k1
    | putfield n => exact ip_s_putfield C hok hs hR hl hlen k1
    | arraylength => exact ip_s_arraylength C hok hs hR hX hl hlen k1
    | iaload => exact ip_s_iaload C hok hs hR hX hl hlen k1
    | laload => exact ip_s_laload C hok hs hR hl hlen k1
    | baload => exact ip_s_baload C hok hs hR hl hlen k1
    | aaload => exact ip_s_aaload C hok hs hR hl hlen k1
    | iastore => exact ip_s_iastore C hok hs hR hl hlen k1
    | lastore => exact ip_s_lastore C hok hs hR hl hlen k1
    | bastore => exact ip_s_bastore C hok hs hR hl hlen k1
    | aastore => exact ip_s_aastore C hok hs hR hl hlen k1
    | invokespecial n => exact ip_s_objInit C hok hs hR hl hlen k1
    | invokestatic n => exact ip_s_copy C hok hs hR hl hlen k1
    | _ => first | exact absurd rfl hA | (cases hs; done)
end IPD
theorem ip_pad_len (b base : Nat) (vs : List Value) : (lg_sl (vs.map (ip_rn b base))).length = (ip_pad vs).length := by
  induction vs with
  | nil => rfl
  | cons v vs ih =>
    have e1 : lg_sl ((v :: vs).map (ip_rn b base)) = (if (ip_rn b base v).category = 2 then [Slot.val (ip_rn b base v), .second] else [Slot.val (ip_rn b base v)]) ++ lg_sl (vs.map (ip_rn b base)) := rfl
    have e2 : ip_pad (v :: vs) = (if v.category = 2 then [v, .retAddr 1] else [v]) ++ ip_pad vs := rfl
    rw [e1, e2, List.length_append, List.length_append, ih, ip_rn_cat]
    split <;> rfl
theorem ip_pad_get (b base : Nat) : ∀ (vs : List Value) (off j : Nat), ip_get (ip_pad vs) j ≠ .retAddr 1 → (off + j, ip_rn b base (ip_get (ip_pad vs) j)) ∈ lv_args off (vs.map (ip_rn b base)) := by
  intro vs
  induction vs with
  | nil => intro off j h; exact absurd rfl h
  | cons v vs ih =>
    intro off j h
    have e2 : ip_pad (v :: vs) = (if v.category = 2 then [v, .retAddr 1] else [v]) ++ ip_pad vs := rfl
    have e3 : lv_args off ((v :: vs).map (ip_rn b base)) = (off, ip_rn b base v) :: lv_args (if (ip_rn b base v).category = 2 then off + 2 else off + 1) (vs.map (ip_rn b base)) := rfl
    rw [e2] at h ⊢
    rw [e3, ip_rn_cat]
    by_cases hc : v.category = 2
    · rw [if_pos hc] at h ⊢
      rw [if_pos hc]
      match j, h with
      | 0, h => exact List.mem_cons_self
      | 1, h => exact absurd rfl h
      | j + 2, h =>
        have e4 : ip_get ([v, .retAddr 1] ++ ip_pad vs) (j + 2) = ip_get (ip_pad vs) j := rfl
        rw [e4] at h ⊢
        have := ih (off + 2) j h
        rw [show off + 2 + j = off + (j + 2) by omega] at this
        exact List.mem_cons_of_mem _ this
    · rw [if_neg hc] at h ⊢
      rw [if_neg hc]
      match j, h with
      | 0, h => exact List.mem_cons_self
      | j + 1, h =>
        have e4 : ip_get ([v] ++ ip_pad vs) (j + 1) = ip_get (ip_pad vs) j := rfl
        rw [e4] at h ⊢
        have := ih (off + 1) j h
        rw [show off + 1 + j = off + (j + 1) by omega] at this
        exact List.mem_cons_of_mem _ this
theorem ip_ent_get (n : Nat) (vs : List Value) (j : Nat) (h : ip_get (ip_ent n vs) j ≠ .retAddr 1) : ip_get (ip_ent n vs) j = ip_get (ip_pad vs) j := by
  unfold ip_ent ip_get at h ⊢
  rw [List.getD_eq_getElem?_getD] at h ⊢
  rw [List.getD_eq_getElem?_getD]
  by_cases hj : j < (ip_pad vs).length
  · rw [List.getElem?_append_left hj]
  · rw [List.getElem?_append_right (by omega)] at h ⊢
    exfalso
    apply h
    cases hr : (List.replicate (n - (ip_pad vs).length) (Value.retAddr 1))[j - (ip_pad vs).length]? with
    | none => rfl
    | some q => rw [List.eq_of_mem_replicate (List.mem_of_getElem? hr)]; rfl
theorem ip_ent_len {n : Nat} {vs : List Value} (h : (ip_pad vs).length ≤ n) : (ip_ent n vs).length = n := by
  unfold ip_ent
  rw [List.length_append, List.length_replicate]
  omega
/-- what a method finds, and what it leaves -/
def ip_B (D : va_G) (cA : Nat → ClassId) (base : Nat) (M : ip_H) (U : State) : Prop := va_P D ip_cl (ip_ws base cA M) U.heap ∧ U.heap.size = base + M.1.length ∧ ip_wf M ∧ ip_KA cA M U ∧ ip_W U ∧ va_K D ip_cl [] U ∧ ip_A cA U
def ip_Qc (D : va_G) (cA : Nat → ClassId) (b base : Nat) (r : Option Value) (M1 : ip_H) : Array Value → State → Outcome → State → Prop := fun _ st oc t => oc = .returned (r.map (ip_rn b base)) ∧ va_P D ip_cl (ip_ws base cA M1) t.heap ∧ t.heap.size = base + M1.1.length ∧ ip_wf M1 ∧ ip_KA cA M1 t ∧ va_F (fun q => base ≤ q) st t
theorem ip_KA.moved {cA : Nat → ClassId} {M : ip_H} {u U : State} (hvm : u.vm.Alike U.vm) (h : ip_KA cA M u) : ip_KA cA M U := fun k x n hk => ⟨arrOfT_moved hvm (h k x n hk).1, (h k x n hk).2.moved hvm⟩
theorem ip_A.moved {cA : Nat → ClassId} {u U : State} (hvm : u.vm.Alike U.vm) (h : ip_A cA u) : ip_A cA U := fun x k hk => h x k (by rw [← hvm.findClass]; exact hk)
def ip_rm (c : Nat) (M M1 : ip_H) : Room := { frames := ip_fr c, cells := M1.1.length - M.1.length, slots := ip_size M1.1 - ip_size M.1, locals := ip_lw c }
def ip_wd (c : Nat) : List Cond := [Cond.code (ip_nm c) (ip_by c) (ip_ml c) (ip_rt c)]
def ip_Pr (l : Launch) (X : ip_X) (D : va_G) (cA : Nat → ClassId) (base b : Nat) (n : Nat) : Prop :=
  ∀ (y pc : Nat) (ls st : List Value) (M : ip_H) (r : Option Value) (Mf : ip_H), ip_exec X n y pc ls st M = some (r, Mf) →
  ∀ (p : Program) (e : Env) (R : Room) (s : State) (m : MethodId) (args : Array Value) (below : List Frame) (meth : Method) (c : Code) (H : Heap) (locs : List Loc) (cells slots : Nat) (Q : State → Prop) (H0 : Heap) (arr : Array Slot),
  ip_Cx D cA y p R s m meth c → cells + (Mf.1.length - M.1.length) ≤ R.cells → slots + (ip_size Mf.1 - ip_size M.1) ≤ R.slots → ip_Rl D cA base H0 s M H locs → (y = ip_LAW → va_X b X.1 X.2 s H0 ∧ b < H0.size ∧ ¬ base ≤ b) →
  lv_has arr (ip_ml y) (ip_pl b base ls) → ls.length = ip_ml y →
  (∀ (H' : Heap) (locs' : List Loc) (pc' : Nat) (arr' : Array Slot) (en : ip_E) (st0 : List Value), ip_Rl D cA base H0 s Mf H' locs' → ip_at y pc' = some en → ip_rv en st0 = some r → W p l e R s m args below meth c H' locs' (cells + (Mf.1.length - M.1.length)) (slots + (ip_size Mf.1 - ip_size M.1)) Q (F0 m pc' arr' (st0.map (ip_rn b base)))) →
  W p l e R s m args below meth c H locs cells slots Q (F0 m pc arr (st.map (ip_rn b base)))
theorem ip_MetofW {l : Launch} {y : MethodName} {ws ws' : List Cond} {rm : Room} {Pc : Array Value → State → Prop} {Qc : Array Value → State → Outcome → State → Prop} {mc ms : Nat} {free : Addr → Prop} {cc : ByteArray} {maxL : Nat} {ret : Option FieldType}
    (hy : plainFor y = true) (hw : ws = Cond.code y cc maxL ret :: ws')
    (body : ∀ p e s m args below meth c s₁, BodyLoose p l y (headSpec ws rm) cc maxL ret e s m args below meth c s₁ → c.maxLocals = maxL → Pc args s →
      W p l e (headSpec ws rm).room s m args below meth c s.heap [] 0 0 (MQ below Qc args s mc ms free) (entryFrame m args maxL)) : Met l y ws rm Pc Qc mc ms free := by
  refine MetFree.of_bodySF (code := cc) (maxLocals := maxL) (ret := ret) hy ?_ ?_
  · intro args s m h hn
    obtain ⟨meth, c, h1, h2, h3, h4, h5, h6, -, -⟩ := Cond.code_spec hn (atoms_spec (ws := ws) h _ (by rw [hw]; exact List.mem_cons_self))
    exact ⟨meth, c, h1, h2, h3, h4, h5, h6⟩
  · intro p e s m args below meth c s₁ B hml hP _
    have hh0 : s₁.heap = s.heap := by rw [B.state]; rfl
    obtain ⟨t, a1, o, b1, b2, b3⟩ := body p e s m args below meth c s₁ B hml hP s₁ hh0 (Stand.of_body B)
    exact ⟨t, o, a1, b1, b2, ⟨b3.1, b3.2⟩⟩
theorem ip_met {l : Launch} {X : ip_X} {D : va_G} {cA : Nat → ClassId} {base b n c : Nat} (IH : ip_Pr l X D cA base b n) (hc : c < 295) {vs : List Value} {M M1 : ip_H} {r : Option Value} (hx : ip_exec X n c 0 (ip_ent (ip_ml c) vs) [] M = some (r, M1)) (hfit : (ip_pad vs).length ≤ ip_ml c) :
    Met l (ip_nm c) (ip_wd c) (ip_rm c M M1) (va_Pc (vs.map (ip_rn b base)) (ip_B D cA base M)) (ip_Qc D cA b base r M1) (M1.1.length - M.1.length) (ip_size M1.1 - ip_size M.1) (fun q => base ≤ q) := by
  obtain ⟨w1, w2, w3, w4, w5⟩ := ip_M_ok c hc
  refine ip_MetofW w4 rfl ?_
  intro p e s m args below meth c0 s₁ B hml hv
  obtain ⟨rfl, hP, hsz, hwf, hKA, hW, hK, hA⟩ := hv
  have hN : c ≠ ip_LAW := by unfold ip_LAW; omega
  have C : ip_Cx D cA c p (headSpec (ip_wd c) (ip_rm c M M1)).room s m meth c0 := ⟨B.exec, B.bytes, hml, by rw [w5]; exact findClass_of_methodNamed B.named, hW, hK, hA, Or.inr (name_of_methodNamed B.named B.method).1, Nat.le_refl _, Nat.le_refl _⟩
  have hl := lv_entry (vs.map (ip_rn b base)) (n := ip_ml c) (by rw [ip_pad_len]; exact hfit)
  rw [lg_entry_eq]
  generalize (lg_sl (vs.map (ip_rn b base)) ++ List.replicate (ip_ml c - (lg_sl (vs.map (ip_rn b base))).length) Slot.unset).toArray = arr at hl ⊢
  have hl2 : lv_has arr (ip_ml c) (ip_pl b base (ip_ent (ip_ml c) vs)) := ⟨hl.1, hl.2.1, fun q hq => hl.2.2 q (by
    obtain ⟨h1, h2, h3⟩ := ip_pl_mem.mp hq
    have g := ip_ent_get _ _ _ h2
    have g2 := ip_pad_get b base vs 0 q.1 (by rw [← g]; exact h2)
    rw [← g, Nat.zero_add, ← h3] at g2
    exact g2)⟩
  have hR : ip_Rl D cA base s.heap s M s.heap [] := ⟨hP, hsz, va_S.rf, hwf, hKA⟩
  refine IH c 0 _ [] M r M1 hx p e _ s m _ below meth c0 s.heap [] 0 0 _ s.heap arr C (by rw [Nat.zero_add]; exact Nat.le_refl _) (by rw [Nat.zero_add]; exact Nat.le_refl _) hR (fun h => absurd h hN) hl2 (ip_ent_len hfit) ?_
  intro H' locs' pc' arr' en st0 hR' hat hrv
  obtain ⟨-, hok⟩ := ip_at_ok hat
  have hq : ∀ t : State, t.heap = H' → s.WarmedH t.vm → ip_Qc D cA b base r M1 ((vs.map (ip_rn b base)).toArray) s (.returned (r.map (ip_rn b base))) t := fun t ht hWm => ⟨rfl, by rw [ht]; exact hR'.1, by rw [ht]; exact hR'.2.1, hR'.2.2.2.1, hR'.2.2.2.2.moved hWm.alike, hR'.2.2.1.F ht⟩
  have hf : ∀ q ∈ locs', base ≤ q.base := hR'.2.2.1.2.2
  have hlk := B.notSynchronized
  rw [Nat.zero_add, Nat.zero_add]
  obtain ⟨i, nx, a, k2, t, w, v, ts⟩ := en
  unfold ip_rv at hrv
  dsimp only at hrv
  split at hrv
  · rename_i x
    split at hrv
    · rename_i hcond
      cases hrv
      simp only [ip_ok, Bool.and_eq_true, decide_eq_true_eq] at hok
      obtain ⟨h1, h2⟩ := hok
      obtain ⟨hd, -⟩ := ip_dc_spec h1
      rcases h2 with ⟨h3, h4⟩ | ⟨h3, h4⟩
      · exact W.zret B.exec B.bytes (B.returns.trans h4) rfl hq hf hd (hlocks := hlk)
      · have hn : narrow .boolean (.int x) = .int x := by
          rcases hcond with g | rfl | rfl
          · omega
          · rfl
          · rfl
        exact W.zret B.exec B.bytes (B.returns.trans h4) hn hq hf hd (hlocks := hlk)
    · cases hrv
  · cases hrv
    simp only [ip_ok, Bool.and_eq_true, decide_eq_true_eq] at hok
    obtain ⟨h1, h2⟩ := hok
    obtain ⟨hd, -⟩ := ip_dc_spec h1
    exact W.lret B.exec B.bytes (B.returns.trans h2) hq hf hd (hlocks := hlk)
  · cases hrv
    simp only [ip_ok, Bool.and_eq_true] at hok
    obtain ⟨h1, h2⟩ := hok
    obtain ⟨hd, -⟩ := ip_dc_spec h1
    cases hrt : ip_rt c with
    | none => rw [hrt] at h2; cases h2
    | some rt =>
      rw [hrt] at h2
      cases rt with
      | object nn => exact W.aret B.exec B.bytes (B.returns.trans hrt) (Or.inl ⟨nn, rfl⟩) (Or.inr ⟨_, rfl⟩) hq hf hd (hlocks := hlk)
      | _ => cases h2
  · cases hrv
    simp only [ip_ok, Bool.and_eq_true, decide_eq_true_eq] at hok
    obtain ⟨h1, h2⟩ := hok
    obtain ⟨hd, -⟩ := ip_dc_spec h1
    exact W.vret B.exec B.bytes (B.returns.trans h2) hq hf hd (hlocks := hlk)
  · cases hrv
theorem ip_blind {D : va_G} {cA : Nat → ClassId} {base : Nat} {M : ip_H} {av : List Value} : FrameBlind (va_Pc av (ip_B D cA base M)) := by
  intro a U g mk q
  obtain ⟨q0, q1, q2, q3, q4, q5, q6, q7⟩ := q
  exact ⟨q0, q1, q2, q3, ip_KA.moved (u := U) (U := U.calling g mk a) (Vm.Alike.refl U.vm) q4, ip_W.frame (s := U) (U := U.calling g mk a) q5 rfl, va_K.moved (u := U) (U := U.calling g mk a) (Vm.Alike.refl U.vm) q6, ip_A.moved (u := U) (U := U.calling g mk a) (Vm.Alike.refl U.vm) q7⟩
set_option maxRecDepth 100000 in
theorem ip_Kl : (ip_K.all fun r => decide (r.2.2.1 < 295)) = true := by decide +kernel
theorem ip_K_lt {r : Nat × Nat × Nat × Nat} (h : r ∈ ip_K) : r.2.2.1 < 295 := by simpa using List.all_eq_true.mp ip_Kl r h
section IPC
variable {p : Program} {l : Launch} {e : Env} {R : Room} {s : State} {m : MethodId} {args : Array Value} {below : List Frame} {meth : Method} {c0 : Code} {H : Heap} {locs : List Loc} {cells slots : Nat} {Q : State → Prop}
variable {D : va_G} {cA : Nat → ClassId} {base b y pc : Nat} {X : ip_X} {H0 : Heap} {M M1 : ip_H} {ls st : List Value} {arr : Array Slot} {r : Option Value} {rest : List Value} {a : Array Value} {st0 : List Value}
theorem ip_after {mc ms : Nat} (hR : ip_Rl D cA base H0 s M H locs) (hr : va_Run p l e R s m args below meth c0 H locs cells slots mc ms (F0 m pc arr st0) rest (ip_Qc D cA b base r M1 a) (fun q => base ≤ q))
    (kk : ∀ (H1 : Heap) (locs1 : List Loc), ip_Rl D cA base H0 s M1 H1 locs1 → W p l e R s m args below meth c0 H1 locs1 (cells + mc) (slots + ms) Q (F0 m (pc + 3) arr ((r.map (ip_rn b base)).toList ++ rest))) : W p l e R s m args below meth c0 H locs cells slots Q (F0 m pc arr st0) := by
  intro T hT X
  obtain ⟨v, st₀, t, T', L, h0, X', hL, e1, e2, ⟨hv, hP, hsz, hwf, hKA, hz, hk⟩, st⟩ := hr T hT X
  have hv : v = r.map (ip_rn b base) := Outcome.returned.inj hv
  subst hv
  rw [h0] at hz hk
  have hal : t.vm.Alike s.vm := by rw [← e2]; exact X'.warmed.alike.symm
  have hS := hR.2.2.1
  obtain ⟨t2, a1, b1⟩ := kk T'.heap (locs ++ L) ⟨by rw [e1]; exact hP, by rw [e1]; exact hsz, ⟨Nat.le_trans hS.1 (by rw [e1]; exact hz), fun q h1 h2 => by rw [e1, hk q (Nat.lt_of_lt_of_le h1 hS.1) h2]; exact hS.2.1 q h1 h2, fun q hq => by
      rcases List.mem_append.mp hq with h | h
      · exact hS.2.2 q h
      · exact hL q h⟩, hwf, hKA.moved hal⟩ T' rfl X'
  exact ⟨t2, st t2 a1, b1⟩
theorem ip_nargs {c k : Nat} (h : (parseMethodDescriptor (ip_nm c).desc).map (fun d => d.parameters.length) = some k) : ∀ sig, parseMethodDescriptor (ip_nm c).desc = some sig → k = sig.parameters.length := by
  intro sig hs
  rw [hs] at h
  exact (Option.some.inj h).symm
theorem ip_nargs1 {c k : Nat} (h : (parseMethodDescriptor (ip_nm c).desc).map (fun d => d.parameters.length + 1) = some (k + 1)) : ∀ sig, parseMethodDescriptor (ip_nm c).desc = some sig → k = sig.parameters.length := by
  intro sig hs
  rw [hs] at h
  have h2 : sig.parameters.length + 1 = k + 1 := Option.some.inj h
  omega
theorem ip_cw_rn (l : List Value) (b base : Nat) : ((l.map (ip_rn b base)).map fun v => v.category).sum = ip_cw l := by
  induction l with
  | nil => rfl
  | cons v l ih =>
    unfold ip_cw at *
    simp only [List.map_cons, List.sum_cons, ip_rn_cat, ih]
theorem ip_callW {n : Nat} {en : ip_E} (IH : ip_Pr l X D cA base b n) (C : ip_Cx D cA y p R s m meth c0) (hok : ip_ok y pc en = true) (hic : ip_ic en = true) (hk : en.2.2.2.1 ≤ st.length) (h4 : ip_cw (st.drop en.2.2.2.1) ≤ 8) (hrc : ip_rc en (st.take en.2.2.2.1).reverse M = true)
    (hx : ip_exec X n en.2.2.1 0 (ip_ent (ip_ml en.2.2.1) (st.take en.2.2.2.1).reverse) [] M = some (r, M1)) (hR : ip_Rl D cA base H0 s M H locs) (hl : lv_has arr (ip_ml y) (ip_pl b base ls))
    (hcells : cells + (M1.1.length - M.1.length) ≤ R.cells) (hslots : slots + (ip_size M1.1 - ip_size M.1) ≤ R.slots)
    (kk : ∀ (H1 : Heap) (locs1 : List Loc), ip_Rl D cA base H0 s M1 H1 locs1 → W p l e R s m args below meth c0 H1 locs1 (cells + (M1.1.length - M.1.length)) (slots + (ip_size M1.1 - ip_size M.1)) Q (F0 m en.2.1 arr ((r.toList ++ st.drop en.2.2.2.1).map (ip_rn b base)))) : W p l e R s m args below meth c0 H locs cells slots Q (F0 m pc arr (st.map (ip_rn b base))) := by
  obtain ⟨hex, hb, hml, hown, hW, hK, hA, hnm, hfr, hlo⟩ := C
  obtain ⟨i, nx, c, k, t, w, v, ts⟩ := en
  dsimp only at hk h4 hrc hx kk
  unfold ip_rc at hrc
  rw [Bool.and_eq_true, decide_eq_true_eq] at hrc
  obtain ⟨hfit, hrc⟩ := hrc
  dsimp only at hfit hrc
  have hB : ∀ U : State, U.heap = H → s.WarmedH U.vm → ip_B D cA base M U := fun U hU hWm => ⟨by rw [hU]; exact hR.1, by rw [hU]; exact hR.2.1, hR.2.2.2.1, hR.2.2.2.2.moved hWm.alike, hW.warm hWm, va_K.moved hWm.alike hK, hA.moved hWm.alike⟩
  have hcat : 2 * (F0 m pc arr (st.map (ip_rn b base))).monitorRoom + (((st.drop k).map (ip_rn b base)).map fun v => v.category).sum ≤ 8 := lv_room (by rw [ip_cw_rn]; exact h4)
  have hstk : st.map (ip_rn b base) = (((st.take k).reverse.map (ip_rn b base)).reverse) ++ (st.drop k).map (ip_rn b base) := by
    rw [← List.map_reverse, List.reverse_reverse, ← List.map_append, List.take_append_drop]
  have hrl : ∀ o : Option Value, (o.map (ip_rn b base)).toList ++ (st.drop k).map (ip_rn b base) = (o.toList ++ st.drop k).map (ip_rn b base) := fun o => by cases o <;> simp
  have key : ∀ (hc : c < 295) (hfr1 : ip_fr c + 1 ≤ ip_fr y) (hlo1 : 8 + (ip_ml c + 11) + ip_lw c ≤ ip_lw y), (ip_rm c M M1).cells = M1.1.length - M.1.length ∧ (ip_rm c M M1).slots = ip_size M1.1 - ip_size M.1 ∧ (ip_rm c M M1).frames + 1 ≤ R.frames ∧ 8 + (ip_ml c + 11) + (ip_rm c M M1).locals ≤ R.locals ∧ (∀ w ∈ ip_wd c, ∀ (a' : Array Value) (U : State), s.WarmedH U.vm → w.before a' U = true) ∧ Cond.code (ip_nm c) (ip_by c) (ip_ml c) (ip_rt c) ∈ ip_wd c := by
    intro hc hfr1 hlo1
    obtain ⟨w1, -⟩ := ip_M_ok c hc
    refine ⟨rfl, rfl, Nat.le_trans hfr1 hfr, Nat.le_trans hlo1 hlo, fun w hw a' U hWm => ?_, List.mem_cons_self⟩
    rw [List.mem_singleton.mp hw]
    exact word_at hWm (Or.inl rfl) (hW.use w1 rfl args)
  cases i with
  | invokestatic n2 =>
    simp only [ip_ok, Bool.and_eq_true] at hok
    obtain ⟨h1, h2⟩ := hok
    obtain ⟨hd, rfl⟩ := ip_dc_spec h1
    have ht6 : t < 6 := by simpa [ip_ic] using hic
    rw [if_neg (by omega)] at h2
    simp only [Bool.and_eq_true, decide_eq_true_eq] at h2
    obtain ⟨g1, g2, g3, g4, g5⟩ := h2
    have hc := ip_K_lt (List.mem_of_getElem? g2)
    obtain ⟨w1, w2, w3, w4, w5⟩ := ip_M_ok c hc
    obtain ⟨⟨k1, k2, k3⟩, k4, k5, k6⟩ := ip_K_ok _ (List.mem_of_getElem? g2)
    have hM := ip_met IH hc hx hfit
    have hst : (Cond.static (ip_nm c)).before args s = true := by
      have e0 : ip_KS (ip_oc y, n2, c, t) = Cond.static (ip_nm c) := by unfold ip_KS; rw [if_pos g1]
      rw [e0] at k2 k5
      exact hW.use k2 k5 args
    have hlen2 : ((st.take k).reverse.map (ip_rn b base)).length = k := by simp; omega
    have hPS : PreS s H (va_Pc ((st.take k).reverse.map (ip_rn b base)) (ip_B D cA base M)) ((st.take k).reverse.map (ip_rn b base)) := ⟨ip_blind, fun U hU hWm => ⟨rfl, hB U hU hWm⟩⟩
    obtain ⟨q1, q2, q3, q4, q5, q6⟩ := key hc g4 g5
    rcases g1 with rfl | rfl
    · have hln : (Cond.methodLink (ip_os y) n2 (ip_nm c)).before args s = true := hW.use k1 k4 args
      refine ip_after (a := ((st.take k).reverse.map (ip_rn b base)).toArray) hR (va_runS (l := l) (own := ip_os y) (Ts := []) (n := k) ⟨hex, hb, hml, hown, fun _ h => by cases h⟩ hM ⟨⟨q1, q2, q3, q4, q5, q6, hW.use w1 rfl args, hW.use w2 rfl args, w3, ip_nargs g3, hln⟩, hst⟩ hPS rfl hlen2 hl.1 hstk hcat hd ⟨hcells, hslots⟩) (fun H1 locs1 hR1 => ?_)
      rw [hrl]
      exact kk H1 locs1 hR1
    · have hln : (Cond.methodLinkNest (ip_os y) n2 (ip_nm c) RX10).before args s = true := hW.use k1 k4 args
      refine ip_after (a := ((st.take k).reverse.map (ip_rn b base)).toArray) hR (va_runSN (l := l) (own := ip_os y) (Ts := []) (n := k) ⟨hex, hb, hml, hown, fun _ h => by cases h⟩ hM ⟨⟨⟨q1, q2, q3, q4, q5, q6⟩, hW.use w1 rfl args, hW.use w2 rfl args, w3, ip_nargs g3, hln⟩, hst, trivial⟩ hPS rfl hlen2 hl.1 hstk hcat hd ⟨hcells, hslots⟩) (fun H1 locs1 hR1 => ?_)
      rw [hrl]
      exact kk H1 locs1 hR1
  | invokevirtual n2 =>
    simp only [ip_ok, Bool.and_eq_true, decide_eq_true_eq] at hok
    obtain ⟨h1, g1, g2, g3, g4, g5⟩ := hok
    obtain ⟨hd, rfl⟩ := ip_dc_spec h1
    have hc := ip_K_lt (List.mem_of_getElem? g2)
    obtain ⟨w1, w2, w3, w4, w5⟩ := ip_M_ok c hc
    obtain ⟨⟨k1, k2, k3⟩, k4, k5, k6⟩ := ip_K_ok _ (List.mem_of_getElem? g2)
    have hM := ip_met IH hc hx hfit
    obtain ⟨q1, q2, q3, q4, q5, q6⟩ := key hc g4 g5
    obtain ⟨a0, As, hargs⟩ : ∃ a0 As, (st.take k).reverse = .ref a0 :: As := by
      cases hA0 : (st.take k).reverse with
      | nil => rw [hA0] at hrc; rcases g1 with rfl | rfl <;> cases hrc
      | cons v0 As => cases v0 with
        | ref a0 => exact ⟨a0, As, rfl⟩
        | _ => rw [hA0] at hrc; rcases g1 with rfl | rfl <;> cases hrc
    rw [hargs] at hM hstk hrc
    have hobj : (ip_sh M a0).1 = 0 ∧ (ip_sh M a0).2.1 = ip_oc c := by
      rcases g1 with rfl | rfl <;> simpa using hrc
    obtain ⟨q, hq, hk0, he0⟩ := ip_obj hobj.1 hobj.2 hR
    have hrecv := va_recv hK hR.1 hq he0
    have hqn : q.1 = (ip_nm c).cls := by rw [ip_own_cl hq]; exact w5
    rw [hqn] at hrecv
    have hkl : (st.take k).length = k := by simp; omega
    have hlen2 : (As.map (ip_rn b base)).length + 1 = k := by
      have := congrArg List.length hargs
      simp only [List.length_reverse, hkl, List.length_cons] at this
      rw [List.length_map]; omega
    have hstk2 : st.map (ip_rn b base) = (As.map (ip_rn b base)).reverse ++ .ref (base + a0) :: (st.drop k).map (ip_rn b base) := by
      rw [hstk]; simp [ip_rn]
    have hin : (Cond.instanceMethod (ip_nm c)).before args s = true := by
      have e0 : ip_KS (ip_oc y, n2, c, t) = Cond.instanceMethod (ip_nm c) := by unfold ip_KS; rw [if_neg (by dsimp only; omega)]
      rw [e0] at k2 k5
      exact hW.use k2 k5 args
    have hse : (Cond.selects (ip_nm c).cls (ip_nm c) (ip_nm c)).before args s = true := by
      have e0 : ip_KV (ip_oc y, n2, c, t) = Cond.selects (ip_nm c).cls (ip_nm c) (ip_nm c) := by unfold ip_KV; rw [if_pos g1]
      rw [e0] at k3 k6
      exact hW.use k3 k6 args
    have hPV : PreV s H (ip_nm c).cls (base + a0) (va_Pc ((Value.ref a0 :: As).map (ip_rn b base)) (ip_B D cA base M)) (As.map (ip_rn b base)) := ⟨ip_blind, hrecv, fun U hU hWm => ⟨rfl, hB U hU hWm⟩⟩
    have g3 : (parseMethodDescriptor (ip_nm c).desc).map (fun d => d.parameters.length + 1) = some ((As.map (ip_rn b base)).length + 1) := by rw [hlen2]; exact g3
    rcases g1 with rfl | rfl
    · have hln : (Cond.methodLink (ip_os y) n2 (ip_nm c)).before args s = true := hW.use k1 k4 args
      refine ip_after (a := (Value.ref (base + a0) :: As.map (ip_rn b base)).toArray) hR (va_runV (l := l) (own := ip_os y) (Ts := []) (n := (As.map (ip_rn b base)).length) ⟨hex, hb, hml, hown, fun _ h => by cases h⟩ hM ⟨⟨q1, q2, q3, q4, q5, q6, hW.use w1 rfl args, hW.use w2 rfl args, w3, ip_nargs1 g3, hln⟩, hin, hse⟩ hPV rfl rfl hl.1 hstk2 hcat hd ⟨hcells, hslots⟩) (fun H1 locs1 hR1 => ?_)
      rw [hrl]
      exact kk H1 locs1 hR1
    · have hln : (Cond.methodLinkNest (ip_os y) n2 (ip_nm c) RX10).before args s = true := hW.use k1 k4 args
      refine ip_after (a := (Value.ref (base + a0) :: As.map (ip_rn b base)).toArray) hR (va_runVN (l := l) (own := ip_os y) (Ts := []) (n := (As.map (ip_rn b base)).length) ⟨hex, hb, hml, hown, fun _ h => by cases h⟩ hM ⟨⟨⟨q1, q2, q3, q4, q5, q6⟩, hW.use w1 rfl args, hW.use w2 rfl args, w3, ip_nargs1 g3, hln⟩, hin, hse⟩ hPV rfl rfl hl.1 hstk2 hcat hd ⟨hcells, hslots⟩) (fun H1 locs1 hR1 => ?_)
      rw [hrl]
      exact kk H1 locs1 hR1
  | invokespecial n2 =>
    simp only [ip_ok, Bool.and_eq_true] at hok
    obtain ⟨h1, h2⟩ := hok
    obtain ⟨hd, rfl⟩ := ip_dc_spec h1
    have ht6 : t < 6 := by simpa [ip_ic] using hic
    rw [if_neg (by omega)] at h2
    simp only [Bool.and_eq_true, decide_eq_true_eq] at h2
    obtain ⟨g1, g2, g3, g4, g5, g6, g7⟩ := h2
    have hc := ip_K_lt (List.mem_of_getElem? g2)
    obtain ⟨w1, w2, w3, w4, w5⟩ := ip_M_ok c hc
    obtain ⟨⟨k1, k2, k3⟩, k4, k5, k6⟩ := ip_K_ok _ (List.mem_of_getElem? g2)
    have hM := ip_met IH hc hx hfit
    obtain ⟨q1, q2, q3, q4, q5, q6⟩ := key hc g4 g5
    obtain ⟨a0, As, hargs⟩ : ∃ a0 As, (st.take k).reverse = .ref a0 :: As := by
      cases hA0 : (st.take k).reverse with
      | nil => rw [hA0] at hrc; rcases g1 with rfl | rfl <;> cases hrc
      | cons v0 As => cases v0 with
        | ref a0 => exact ⟨a0, As, rfl⟩
        | _ => rw [hA0] at hrc; rcases g1 with rfl | rfl <;> cases hrc
    rw [hargs] at hM hstk hrc
    have hkl : (st.take k).length = k := by simp; omega
    have hlen2 : (As.map (ip_rn b base)).length + 1 = k := by
      have := congrArg List.length hargs
      simp only [List.length_reverse, hkl, List.length_cons] at this
      rw [List.length_map]; omega
    have hstk2 : st.map (ip_rn b base) = (As.map (ip_rn b base)).reverse ++ .ref (base + a0) :: (st.drop k).map (ip_rn b base) := by
      rw [hstk]; simp [ip_rn]
    have hin : (Cond.instanceMethod (ip_nm c)).before args s = true := by
      have e0 : ip_KS (ip_oc y, n2, c, t) = Cond.instanceMethod (ip_nm c) := by unfold ip_KS; rw [if_neg (by dsimp only; omega)]
      rw [e0] at k2 k5
      exact hW.use k2 k5 args
    have hPV : PreS s H (va_Pc ((Value.ref a0 :: As).map (ip_rn b base)) (ip_B D cA base M)) (.ref (base + a0) :: As.map (ip_rn b base)) := ⟨ip_blind, fun U hU hWm => ⟨rfl, hB U hU hWm⟩⟩
    have g3 : (parseMethodDescriptor (ip_nm c).desc).map (fun d => d.parameters.length + 1) = some ((As.map (ip_rn b base)).length + 1) := by rw [hlen2]; exact g3
    rw [g7] at q6
    have hcd := hW.use w1 rfl args
    rw [g7] at hcd
    rcases g1 with rfl | rfl
    · have hln : (Cond.methodLink (ip_os y) n2 (ip_nm c)).before args s = true := hW.use k1 k4 args
      refine ip_after (a := (Value.ref (base + a0) :: As.map (ip_rn b base)).toArray) hR (va_runI (l := l) (own := ip_os y) (Ts := []) (n := (As.map (ip_rn b base)).length) ⟨hex, hb, hml, hown, fun _ h => by cases h⟩ hM ⟨⟨q1, q2, q3, q4, q5, q6, hcd, hW.use w2 rfl args, w3, ip_nargs1 g3, hln⟩, g6, hin⟩ hPV rfl rfl hl.1 hstk2 hcat hd ⟨hcells, hslots⟩) (fun H1 locs1 hR1 => ?_)
      rw [hrl]
      exact kk H1 locs1 hR1
    · have hln : (Cond.methodLinkNest (ip_os y) n2 (ip_nm c) RX10).before args s = true := hW.use k1 k4 args
      refine ip_after (a := (Value.ref (base + a0) :: As.map (ip_rn b base)).toArray) hR (va_runIN (l := l) (own := ip_os y) (Ts := []) (n := (As.map (ip_rn b base)).length) ⟨hex, hb, hml, hown, fun _ h => by cases h⟩ hM ⟨⟨⟨q1, q2, q3, q4, q5, q6⟩, hcd, hW.use w2 rfl args, w3, ip_nargs1 g3, hln⟩, g6, hin⟩ hPV rfl rfl hl.1 hstk2 hcat hd ⟨hcells, hslots⟩) (fun H1 locs1 hR1 => ?_)
      rw [hrl]
      exact kk H1 locs1 hR1
  | _ => cases hic
end IPC
theorem ip_sound (l : Launch) (X : ip_X) (D : va_G) (cA : Nat → ClassId) (base b : Nat) : ∀ n, ip_Pr l X D cA base b n := by
  intro n
  induction n with
  | zero => intro y pc ls st M r Mf h; cases h
  | succ n ih =>
    intro y pc ls st M r Mf hex p e R s m args below meth c H locs cells slots Q H0 arr C hcells hslots hR hX hl hlen kk
    rw [ip_exec] at hex
    split at hex
    · cases hex
    · rename_i en he
      obtain ⟨-, hok⟩ := ip_at_ok he
      split at hex
      · rename_i hic
        split at hex
        · rename_i hg
          split at hex
          · cases hex
          · rename_i r1 M1 hx1
            have l1 := ip_exec_le X _ _ _ _ _ _ _ hx1
            have l2 := ip_exec_le X _ _ _ _ _ _ _ hex
            dsimp only at l1 l2
            refine ip_callW (ls := ls) ih C hok hic hg.1 hg.2.1 hg.2.2 hx1 hR hl (by omega) (by omega) (fun H1 locs1 hR1 => ?_)
            refine ih _ _ _ _ _ _ _ hex p e R s m args below meth c H1 locs1 _ _ Q H0 arr C (by omega) (by omega) hR1 hX hl hlen (fun H' locs' pc' arr' en' st0 hR' h1 h2 => ?_)
            have k1 := kk H' locs' pc' arr' en' st0 hR' h1 h2
            rw [show cells + (M1.1.length - M.1.length) + (Mf.1.length - M1.1.length) = cells + (Mf.1.length - M.1.length) by omega, show slots + (ip_size M1.1 - ip_size M.1) + (ip_size Mf.1 - ip_size M1.1) = slots + (ip_size Mf.1 - ip_size M.1) by omega]
            exact k1
        · cases hex
      · rename_i hic
        split at hex
        · rename_i r' hrv
          cases hex
          have k1 := kk H locs pc arr en st hR he hrv
          rw [Nat.sub_self, Nat.sub_self, Nat.add_zero, Nat.add_zero] at k1
          exact k1
        · split at hex
          · cases hex
          · rename_i z hz
            have l1 := ip_step_le hz
            have l2 := ip_exec_le X _ _ _ _ _ _ _ hex
            dsimp only at l1 l2
            refine ip_stepW C hok (by simpa using hic) hz hR hX hl hlen (by omega) (by omega) (fun H1 locs1 arr1 hR1 hl1 hlen1 => ?_)
            refine ih _ _ _ _ _ _ _ hex p e R s m args below meth c H1 locs1 _ _ Q H0 arr1 C (by omega) (by omega) hR1 hX hl1 hlen1 (fun H' locs' pc' arr' en' st0 hR' h1 h2 => ?_)
            have k1 := kk H' locs' pc' arr' en' st0 hR' h1 h2
            rw [show cells + (z.2.2.2.1.length - M.1.length) + (Mf.1.length - z.2.2.2.1.length) = cells + (Mf.1.length - M.1.length) by omega, show slots + (ip_size z.2.2.2.1 - ip_size M.1) + (ip_size Mf.1 - ip_size z.2.2.2.1) = slots + (ip_size Mf.1 - ip_size M.1) by omega]
            exact k1
end
noncomputable section
-- PART 17.wp
-- WEAKEST PRECONDITIONS over the interpreter: an equation an instruction
def ip_wp (X : ip_X) (y pc : Nat) (ls st : List Value) (M : ip_H) (K : Option Value → ip_H → Prop) : Prop := ∃ (n : Nat) (z : Option Value × ip_H), ip_exec X n y pc ls st M = some z ∧ K z.1 z.2
section WP
variable {X : ip_X} {y pc nx a k2 t w : Nat} {v : Value} {ts : List Nat} {ls st : List Value} {M : ip_H} {K : Option Value → ip_H → Prop}
theorem ip_cw_len {l : List Value} (h : l.length ≤ 4) : ip_cw l ≤ 8 := by
  have key : ∀ l : List Value, ip_cw l ≤ 2 * l.length := by
    intro l
    induction l with
    | nil => exact Nat.le_refl _
    | cons v l ih =>
      have h1 : v.category ≤ 2 := by rcases lv_cat v with h | h <;> omega
      unfold ip_cw at *
      simp only [List.map_cons, List.sum_cons, List.length_cons]
      omega
  have := key l
  omega
theorem wp_step {e : ip_E} {z : ip_Z} (he : ip_at y pc = some e) (hic : ip_ic e = false) (hrv : ip_rv e st = none) (hs : ip_step y X e ls st M = some z) : ip_wp X y pc ls st M K = ip_wp X y z.1 z.2.1 z.2.2.1 z.2.2.2 K := by
  have hic2 : ¬ ip_ic e = true := by rw [hic]; decide
  apply propext
  constructor
  · rintro ⟨n, q, h, hK⟩
    cases n with
    | zero => cases h
    | succ n =>
      rw [ip_exec, he] at h
      dsimp only at h
      rw [if_neg hic2, hrv] at h
      dsimp only at h
      rw [hs] at h
      exact ⟨n, q, h, hK⟩
  · rintro ⟨n, q, h, hK⟩
    refine ⟨n + 1, q, ?_, hK⟩
    rw [ip_exec, he]
    dsimp only
    rw [if_neg hic2, hrv]
    dsimp only
    rw [hs]
    exact h
theorem wp_st {e : ip_E} {pc1 : Nat} {ls1 st1 : List Value} {M1 : ip_H} (he : ip_at y pc = some e) (hic : ip_ic e = false) (hrv : ip_rv e st = none) (hs : ip_step y X e ls st M = some (pc1, ls1, st1, M1)) : ip_wp X y pc ls st M K = ip_wp X y pc1 ls1 st1 M1 K := wp_step he hic hrv hs
theorem wp_stuck {e : ip_E} (he : ip_at y pc = some e) (hic : ip_ic e = false) (hrv : ip_rv e st = none) (hs : ip_step y X e ls st M = none) : ip_wp X y pc ls st M K = False := by
  have hic2 : ¬ ip_ic e = true := by rw [hic]; decide
  apply propext
  refine ⟨?_, fun h => h.elim⟩
  rintro ⟨n, q, h, hK⟩
  cases n with
  | zero => cases h
  | succ n =>
    rw [ip_exec, he] at h
    dsimp only at h
    rw [if_neg hic2, hrv] at h
    dsimp only at h
    rw [hs] at h
    cases h
theorem wp_ret {e : ip_E} {r : Option Value} (he : ip_at y pc = some e) (hic : ip_ic e = false) (hrv : ip_rv e st = some r) : ip_wp X y pc ls st M K = K r M := by
  have hic2 : ¬ ip_ic e = true := by rw [hic]; decide
  apply propext
  constructor
  · rintro ⟨n, q, h, hK⟩
    cases n with
    | zero => cases h
    | succ n =>
      rw [ip_exec, he] at h
      dsimp only at h
      rw [if_neg hic2, hrv] at h
      cases h
      exact hK
  · intro h
    refine ⟨1, (r, M), ?_, h⟩
    rw [ip_exec, he]
    dsimp only
    rw [if_neg hic2, hrv]
/-- a call: the callee, then what is behind it -/
theorem wp_call {e : ip_E} (he : ip_at y pc = some e) (hic : ip_ic e = true) (hk : e.2.2.2.1 ≤ st.length) (h4 : ip_cw (st.drop e.2.2.2.1) ≤ 8) (hrc : ip_rc e (st.take e.2.2.2.1).reverse M = true) :
    ip_wp X y pc ls st M K = ip_wp X e.2.2.1 0 (ip_ent (ip_ml e.2.2.1) (st.take e.2.2.2.1).reverse) [] M (fun r M1 => ip_wp X y e.2.1 ls (r.toList ++ st.drop e.2.2.2.1) M1 K) := by
  apply propext
  constructor
  · rintro ⟨n, q, h, hK⟩
    cases n with
    | zero => cases h
    | succ n =>
      rw [ip_exec, he] at h
      dsimp only at h
      rw [if_pos hic, if_pos ⟨hk, h4, hrc⟩] at h
      split at h
      · cases h
      · rename_i r M1 hx
        exact ⟨n, (r, M1), hx, n, q, h, hK⟩
  · rintro ⟨n, ⟨r, M1⟩, hx, n2, q, h, hK⟩
    refine ⟨(n + n2) + 1, q, ?_, hK⟩
    rw [ip_exec, he]
    dsimp only
    rw [if_pos hic, if_pos ⟨hk, h4, hrc⟩, ip_mono_le X (Nat.le_add_right n n2) hx]
    exact ip_mono_le X (Nat.le_add_left n2 n) h
def ip_ki (q : Value) (k : Int32 → Prop) : Prop := match q with
  | .int x => k x
  | _ => False
def ip_kl (q : Value) (k : Int64 → Prop) : Prop := match q with
  | .long x => k x
  | _ => False
def ip_ka (q : Value) (k : Value → Prop) : Prop := match q with
  | .ref x => k (.ref x)
  | .retAddr 0 => k (.retAddr 0)
  | _ => False
theorem ip_ki_int (x : Int32) (k : Int32 → Prop) : ip_ki (.int x) k = k x := rfl
theorem ip_kl_long (x : Int64) (k : Int64 → Prop) : ip_kl (.long x) k = k x := rfl
theorem ip_ka_ref (x : Nat) (k : Value → Prop) : ip_ka (.ref x) k = k (.ref x) := rfl
theorem ip_ka_scr (k : Value → Prop) : ip_ka (.retAddr 0) k = k (.retAddr 0) := rfl
theorem wp_iconst {n : Int} (h : ip_at y pc = some (.iconst n, nx, a, k2, t, w, v, ts)) : ip_wp X y pc ls st M K = ip_wp X y nx ls (v :: st) M K := wp_st h rfl rfl rfl
theorem wp_bipush {n : Int} (h : ip_at y pc = some (.bipush n, nx, a, k2, t, w, v, ts)) : ip_wp X y pc ls st M K = ip_wp X y nx ls (v :: st) M K := wp_st h rfl rfl rfl
theorem wp_sipush {n : Int} (h : ip_at y pc = some (.sipush n, nx, a, k2, t, w, v, ts)) : ip_wp X y pc ls st M K = ip_wp X y nx ls (v :: st) M K := wp_st h rfl rfl rfl
theorem wp_lconst {n : Fin 2} (h : ip_at y pc = some (.lconst n, nx, a, k2, t, w, v, ts)) : ip_wp X y pc ls st M K = ip_wp X y nx ls (v :: st) M K := wp_st h rfl rfl rfl
theorem wp_ldc {n : Nat} (h : ip_at y pc = some (.ldc n, nx, a, k2, t, w, v, ts)) : ip_wp X y pc ls st M K = ip_wp X y nx ls (v :: st) M K := wp_st h rfl rfl rfl
theorem wp_ldc_w {n : Nat} (h : ip_at y pc = some (.ldc_w n, nx, a, k2, t, w, v, ts)) : ip_wp X y pc ls st M K = ip_wp X y nx ls (v :: st) M K := wp_st h rfl rfl rfl
theorem wp_ldc2_w {n : Nat} (h : ip_at y pc = some (.ldc2_w n, nx, a, k2, t, w, v, ts)) : ip_wp X y pc ls st M K = ip_wp X y nx ls (v :: st) M K := wp_st h rfl rfl rfl
theorem wp_iload {n : Nat} (h : ip_at y pc = some (.iload n, nx, a, k2, t, w, v, ts)) : ip_wp X y pc ls st M K = ip_ki (ip_get ls a) (fun x => ip_wp X y nx ls (.int x :: st) M K) := by
  cases hg : ip_get ls a with
  | int x => exact wp_st h rfl rfl (by simp only [ip_step, hg])
  | _ => exact wp_stuck h rfl rfl (by simp only [ip_step, hg])
theorem wp_iload_n {n : Fin 4} (h : ip_at y pc = some (.iload_n n, nx, a, k2, t, w, v, ts)) : ip_wp X y pc ls st M K = ip_ki (ip_get ls a) (fun x => ip_wp X y nx ls (.int x :: st) M K) := by
  cases hg : ip_get ls a with
  | int x => exact wp_st h rfl rfl (by simp only [ip_step, hg])
  | _ => exact wp_stuck h rfl rfl (by simp only [ip_step, hg])
theorem wp_lload {n : Nat} (h : ip_at y pc = some (.lload n, nx, a, k2, t, w, v, ts)) : ip_wp X y pc ls st M K = ip_kl (ip_get ls a) (fun x => ip_wp X y nx ls (.long x :: st) M K) := by
  cases hg : ip_get ls a with
  | long x => exact wp_st h rfl rfl (by simp only [ip_step, hg])
  | _ => exact wp_stuck h rfl rfl (by simp only [ip_step, hg])
theorem wp_lload_n {n : Fin 4} (h : ip_at y pc = some (.lload_n n, nx, a, k2, t, w, v, ts)) : ip_wp X y pc ls st M K = ip_kl (ip_get ls a) (fun x => ip_wp X y nx ls (.long x :: st) M K) := by
  cases hg : ip_get ls a with
  | long x => exact wp_st h rfl rfl (by simp only [ip_step, hg])
  | _ => exact wp_stuck h rfl rfl (by simp only [ip_step, hg])
theorem wp_aload {n : Nat} (h : ip_at y pc = some (.aload n, nx, a, k2, t, w, v, ts)) : ip_wp X y pc ls st M K = ip_ka (ip_get ls a) (fun x => ip_wp X y nx ls (x :: st) M K) := by
  cases hg : ip_get ls a with
  | ref x => exact wp_st h rfl rfl (by simp only [ip_step, hg])
  | retAddr x => cases x with
    | zero => exact wp_st h rfl rfl (by simp only [ip_step, hg])
    | succ x => exact wp_stuck h rfl rfl (by simp only [ip_step, hg])
  | _ => exact wp_stuck h rfl rfl (by simp only [ip_step, hg])
theorem wp_aload_n {n : Fin 4} (h : ip_at y pc = some (.aload_n n, nx, a, k2, t, w, v, ts)) : ip_wp X y pc ls st M K = ip_ka (ip_get ls a) (fun x => ip_wp X y nx ls (x :: st) M K) := by
  cases hg : ip_get ls a with
  | ref x => exact wp_st h rfl rfl (by simp only [ip_step, hg])
  | retAddr x => cases x with
    | zero => exact wp_st h rfl rfl (by simp only [ip_step, hg])
    | succ x => exact wp_stuck h rfl rfl (by simp only [ip_step, hg])
  | _ => exact wp_stuck h rfl rfl (by simp only [ip_step, hg])
theorem wp_istore {n : Nat} {x : Int32} (h : ip_at y pc = some (.istore n, nx, a, k2, t, w, v, ts)) : ip_wp X y pc ls (.int x :: st) M K = ip_wp X y nx (ip_set1 ls a (.int x)) st M K := wp_st h rfl rfl rfl
theorem wp_istore_n {n : Fin 4} {x : Int32} (h : ip_at y pc = some (.istore_n n, nx, a, k2, t, w, v, ts)) : ip_wp X y pc ls (.int x :: st) M K = ip_wp X y nx (ip_set1 ls a (.int x)) st M K := wp_st h rfl rfl rfl
theorem wp_lstore {n : Nat} {x : Int64} (h : ip_at y pc = some (.lstore n, nx, a, k2, t, w, v, ts)) : ip_wp X y pc ls (.long x :: st) M K = ip_wp X y nx (ip_set2 ls a (.long x)) st M K := wp_st h rfl rfl rfl
theorem wp_lstore_n {n : Fin 4} {x : Int64} (h : ip_at y pc = some (.lstore_n n, nx, a, k2, t, w, v, ts)) : ip_wp X y pc ls (.long x :: st) M K = ip_wp X y nx (ip_set2 ls a (.long x)) st M K := wp_st h rfl rfl rfl
theorem wp_astore_n {n : Fin 4} {x : Nat} (h : ip_at y pc = some (.astore_n n, nx, a, k2, t, w, v, ts)) : ip_wp X y pc ls (.ref x :: st) M K = ip_wp X y nx (ip_set1 ls a (.ref x)) st M K := wp_st h rfl rfl rfl
theorem wp_iinc {n : Nat} {k : Int} {c : Int32} (h : ip_at y pc = some (.iinc n k, nx, a, k2, t, w, .int c, ts)) : ip_wp X y pc ls st M K = ip_ki (ip_get ls a) (fun x => ip_wp X y nx (ip_set1 ls a (.int (x + c))) st M K) := by
  cases hg : ip_get ls a with
  | int x => exact wp_st h rfl rfl (by simp only [ip_step, hg])
  | _ => exact wp_stuck h rfl rfl (by simp only [ip_step, hg])
theorem wp_iadd {x q : Int32} (h : ip_at y pc = some (.iadd, nx, a, k2, t, w, v, ts)) : ip_wp X y pc ls (.int q :: .int x :: st) M K = ip_wp X y nx ls (.int (x + q) :: st) M K := wp_st h rfl rfl rfl
theorem wp_isub {x q : Int32} (h : ip_at y pc = some (.isub, nx, a, k2, t, w, v, ts)) : ip_wp X y pc ls (.int q :: .int x :: st) M K = ip_wp X y nx ls (.int (x - q) :: st) M K := wp_st h rfl rfl rfl
theorem wp_imul {x q : Int32} (h : ip_at y pc = some (.imul, nx, a, k2, t, w, v, ts)) : ip_wp X y pc ls (.int q :: .int x :: st) M K = ip_wp X y nx ls (.int (x * q) :: st) M K := wp_st h rfl rfl rfl
theorem wp_iand {x q : Int32} (h : ip_at y pc = some (.iand, nx, a, k2, t, w, v, ts)) : ip_wp X y pc ls (.int q :: .int x :: st) M K = ip_wp X y nx ls (.int (x &&& q) :: st) M K := wp_st h rfl rfl rfl
theorem wp_ixor {x q : Int32} (h : ip_at y pc = some (.ixor, nx, a, k2, t, w, v, ts)) : ip_wp X y pc ls (.int q :: .int x :: st) M K = ip_wp X y nx ls (.int (x ^^^ q) :: st) M K := wp_st h rfl rfl rfl
theorem wp_ishr {x q : Int32} (h : ip_at y pc = some (.ishr, nx, a, k2, t, w, v, ts)) : ip_wp X y pc ls (.int q :: .int x :: st) M K = ip_wp X y nx ls (.int (x >>> (q &&& 31)) :: st) M K := wp_st h rfl rfl rfl
theorem wp_ladd {x q : Int64} (h : ip_at y pc = some (.ladd, nx, a, k2, t, w, v, ts)) : ip_wp X y pc ls (.long q :: .long x :: st) M K = ip_wp X y nx ls (.long (x + q) :: st) M K := wp_st h rfl rfl rfl
theorem wp_lsub {x q : Int64} (h : ip_at y pc = some (.lsub, nx, a, k2, t, w, v, ts)) : ip_wp X y pc ls (.long q :: .long x :: st) M K = ip_wp X y nx ls (.long (x - q) :: st) M K := wp_st h rfl rfl rfl
theorem wp_lmul {x q : Int64} (h : ip_at y pc = some (.lmul, nx, a, k2, t, w, v, ts)) : ip_wp X y pc ls (.long q :: .long x :: st) M K = ip_wp X y nx ls (.long (x * q) :: st) M K := wp_st h rfl rfl rfl
theorem wp_land {x q : Int64} (h : ip_at y pc = some (.land, nx, a, k2, t, w, v, ts)) : ip_wp X y pc ls (.long q :: .long x :: st) M K = ip_wp X y nx ls (.long (x &&& q) :: st) M K := wp_st h rfl rfl rfl
theorem wp_lor {x q : Int64} (h : ip_at y pc = some (.lor, nx, a, k2, t, w, v, ts)) : ip_wp X y pc ls (.long q :: .long x :: st) M K = ip_wp X y nx ls (.long (x ||| q) :: st) M K := wp_st h rfl rfl rfl
theorem wp_lxor {x q : Int64} (h : ip_at y pc = some (.lxor, nx, a, k2, t, w, v, ts)) : ip_wp X y pc ls (.long q :: .long x :: st) M K = ip_wp X y nx ls (.long (x ^^^ q) :: st) M K := wp_st h rfl rfl rfl
theorem wp_lcmp {x q : Int64} (h : ip_at y pc = some (.lcmp, nx, a, k2, t, w, v, ts)) : ip_wp X y pc ls (.long q :: .long x :: st) M K = ip_wp X y nx ls (.int (lg_cmp x q) :: st) M K := wp_st h rfl rfl rfl
theorem wp_idiv {x q : Int32} (h : ip_at y pc = some (.idiv, nx, a, k2, t, w, v, ts)) : ip_wp X y pc ls (.int q :: .int x :: st) M K = if q = 0 then False else ip_wp X y nx ls (.int (x / q) :: st) M K := by
  by_cases hq : q = 0
  · rw [if_pos hq]
    refine wp_stuck h rfl rfl ?_
    simp only [ip_step, ip_i2, ip_l2, if_pos hq]
  · rw [if_neg hq]
    refine wp_st (st1 := .int (x / q) :: st) h rfl rfl ?_
    simp only [ip_step, ip_i2, ip_l2, if_neg hq]
theorem wp_irem {x q : Int32} (h : ip_at y pc = some (.irem, nx, a, k2, t, w, v, ts)) : ip_wp X y pc ls (.int q :: .int x :: st) M K = if q = 0 then False else ip_wp X y nx ls (.int (x - x / q * q) :: st) M K := by
  by_cases hq : q = 0
  · rw [if_pos hq]
    refine wp_stuck h rfl rfl ?_
    simp only [ip_step, ip_i2, ip_l2, if_pos hq]
  · rw [if_neg hq]
    refine wp_st (st1 := .int (x - x / q * q) :: st) h rfl rfl ?_
    simp only [ip_step, ip_i2, ip_l2, if_neg hq]
theorem wp_ldiv {x q : Int64} (h : ip_at y pc = some (.ldiv, nx, a, k2, t, w, v, ts)) : ip_wp X y pc ls (.long q :: .long x :: st) M K = if q = 0 then False else ip_wp X y nx ls (.long (x / q) :: st) M K := by
  by_cases hq : q = 0
  · rw [if_pos hq]
    refine wp_stuck h rfl rfl ?_
    simp only [ip_step, ip_i2, ip_l2, if_pos hq]
  · rw [if_neg hq]
    refine wp_st (st1 := .long (x / q) :: st) h rfl rfl ?_
    simp only [ip_step, ip_i2, ip_l2, if_neg hq]
theorem wp_lrem {x q : Int64} (h : ip_at y pc = some (.lrem, nx, a, k2, t, w, v, ts)) : ip_wp X y pc ls (.long q :: .long x :: st) M K = if q = 0 then False else ip_wp X y nx ls (.long (x - x / q * q) :: st) M K := by
  by_cases hq : q = 0
  · rw [if_pos hq]
    refine wp_stuck h rfl rfl ?_
    simp only [ip_step, ip_i2, ip_l2, if_pos hq]
  · rw [if_neg hq]
    refine wp_st (st1 := .long (x - x / q * q) :: st) h rfl rfl ?_
    simp only [ip_step, ip_i2, ip_l2, if_neg hq]
theorem wp_ineg {x : Int32} (h : ip_at y pc = some (.ineg, nx, a, k2, t, w, v, ts)) : ip_wp X y pc ls (.int x :: st) M K = ip_wp X y nx ls (.int (-x) :: st) M K := wp_st h rfl rfl rfl
theorem wp_lneg {x : Int64} (h : ip_at y pc = some (.lneg, nx, a, k2, t, w, v, ts)) : ip_wp X y pc ls (.long x :: st) M K = ip_wp X y nx ls (.long (-x) :: st) M K := wp_st h rfl rfl rfl
theorem wp_i2l {x : Int32} (h : ip_at y pc = some (.i2l, nx, a, k2, t, w, v, ts)) : ip_wp X y pc ls (.int x :: st) M K = ip_wp X y nx ls (.long (x.toInt64) :: st) M K := wp_st h rfl rfl rfl
theorem wp_l2i {x : Int64} (h : ip_at y pc = some (.l2i, nx, a, k2, t, w, v, ts)) : ip_wp X y pc ls (.long x :: st) M K = ip_wp X y nx ls (.int (x.toInt32) :: st) M K := wp_st h rfl rfl rfl
theorem wp_i2b {x : Int32} (h : ip_at y pc = some (.i2b, nx, a, k2, t, w, v, ts)) : ip_wp X y pc ls (.int x :: st) M K = ip_wp X y nx ls (.int (x.toInt8.toInt32) :: st) M K := wp_st h rfl rfl rfl
theorem wp_lshl {x : Int64} {q : Int32} (h : ip_at y pc = some (.lshl, nx, a, k2, t, w, v, ts)) : ip_wp X y pc ls (.int q :: .long x :: st) M K = ip_wp X y nx ls (.long (x <<< (q.toInt64 &&& 63)) :: st) M K := wp_st h rfl rfl rfl
theorem wp_lshr {x : Int64} {q : Int32} (h : ip_at y pc = some (.lshr, nx, a, k2, t, w, v, ts)) : ip_wp X y pc ls (.int q :: .long x :: st) M K = ip_wp X y nx ls (.long (x >>> (q.toInt64 &&& 63)) :: st) M K := wp_st h rfl rfl rfl
theorem wp_lushr {x : Int64} {q : Int32} (h : ip_at y pc = some (.lushr, nx, a, k2, t, w, v, ts)) : ip_wp X y pc ls (.int q :: .long x :: st) M K = ip_wp X y nx ls (.long ((x.toUInt64 >>> (q.toInt64.toUInt64 &&& Int64.toUInt64 63)).toInt64) :: st) M K := wp_st h rfl rfl rfl
theorem wp_goto {off : Int} (h : ip_at y pc = some (.goto off, nx, a, k2, t, w, v, ts)) : ip_wp X y pc ls st M K = ip_wp X y a ls st M K := wp_st h rfl rfl rfl
theorem wp_ifCond_eq {x : Int32} {off : Int} (h : ip_at y pc = some (.ifCond .eq off, nx, a, k2, t, w, v, ts)) : ip_wp X y pc ls (.int x :: st) M K = if x = 0 then ip_wp X y a ls st M K else ip_wp X y nx ls st M K := by
  have e := wp_step (X := X) (ls := ls) (st := .int x :: st) (M := M) (K := K) h rfl rfl rfl
  rw [e]
  dsimp only
  by_cases hc : x = 0
  · have h2 : ip_cd .eq x 0 = true := by simp [ip_cd, hc]
    rw [if_pos hc, h2]; rfl
  · have h2 : ip_cd .eq x 0 = false := by simp [ip_cd, hc]
    rw [if_neg hc, h2]; rfl
theorem wp_ifCond_ne {x : Int32} {off : Int} (h : ip_at y pc = some (.ifCond .ne off, nx, a, k2, t, w, v, ts)) : ip_wp X y pc ls (.int x :: st) M K = if x = 0 then ip_wp X y nx ls st M K else ip_wp X y a ls st M K := by
  have e := wp_step (X := X) (ls := ls) (st := .int x :: st) (M := M) (K := K) h rfl rfl rfl
  rw [e]
  dsimp only
  by_cases hc : x = 0
  · have h2 : ip_cd .ne x 0 = false := by simp [ip_cd, hc]
    rw [if_pos hc, h2]; rfl
  · have h2 : ip_cd .ne x 0 = true := by simp [ip_cd, hc]
    rw [if_neg hc, h2]; rfl
theorem wp_ifCond_lt {x : Int32} {off : Int} (h : ip_at y pc = some (.ifCond .lt off, nx, a, k2, t, w, v, ts)) : ip_wp X y pc ls (.int x :: st) M K = if x < 0 then ip_wp X y a ls st M K else ip_wp X y nx ls st M K := by
  have e := wp_step (X := X) (ls := ls) (st := .int x :: st) (M := M) (K := K) h rfl rfl rfl
  rw [e]
  dsimp only
  by_cases hc : x < 0
  · have h2 : ip_cd .lt x 0 = true := by simp [ip_cd, hc]
    rw [if_pos hc, h2]; rfl
  · have h2 : ip_cd .lt x 0 = false := by simp [ip_cd, hc]
    rw [if_neg hc, h2]; rfl
theorem wp_ifCond_ge {x : Int32} {off : Int} (h : ip_at y pc = some (.ifCond .ge off, nx, a, k2, t, w, v, ts)) : ip_wp X y pc ls (.int x :: st) M K = if x < 0 then ip_wp X y nx ls st M K else ip_wp X y a ls st M K := by
  have e := wp_step (X := X) (ls := ls) (st := .int x :: st) (M := M) (K := K) h rfl rfl rfl
  rw [e]
  dsimp only
  by_cases hc : x < 0
  · have h2 : ip_cd .ge x 0 = false := by simp [ip_cd, hc, Int32.not_le, Int32.not_lt]
    rw [if_pos hc, h2]; rfl
  · have h2 : ip_cd .ge x 0 = true := by simp [ip_cd, hc, Int32.not_le.mp, Int32.not_lt.mp hc]
    rw [if_neg hc, h2]; rfl
theorem wp_ifCond_gt {x : Int32} {off : Int} (h : ip_at y pc = some (.ifCond .gt off, nx, a, k2, t, w, v, ts)) : ip_wp X y pc ls (.int x :: st) M K = if 0 < x then ip_wp X y a ls st M K else ip_wp X y nx ls st M K := by
  have e := wp_step (X := X) (ls := ls) (st := .int x :: st) (M := M) (K := K) h rfl rfl rfl
  rw [e]
  dsimp only
  by_cases hc : 0 < x
  · have h2 : ip_cd .gt x 0 = true := by simp [ip_cd, hc]
    rw [if_pos hc, h2]; rfl
  · have h2 : ip_cd .gt x 0 = false := by simp [ip_cd, hc]
    rw [if_neg hc, h2]; rfl
theorem wp_ifCond_le {x : Int32} {off : Int} (h : ip_at y pc = some (.ifCond .le off, nx, a, k2, t, w, v, ts)) : ip_wp X y pc ls (.int x :: st) M K = if 0 < x then ip_wp X y nx ls st M K else ip_wp X y a ls st M K := by
  have e := wp_step (X := X) (ls := ls) (st := .int x :: st) (M := M) (K := K) h rfl rfl rfl
  rw [e]
  dsimp only
  by_cases hc : 0 < x
  · have h2 : ip_cd .le x 0 = false := by simp [ip_cd, hc, Int32.not_le, Int32.not_lt]
    rw [if_pos hc, h2]; rfl
  · have h2 : ip_cd .le x 0 = true := by simp [ip_cd, hc, Int32.not_le.mp, Int32.not_lt.mp hc]
    rw [if_neg hc, h2]; rfl
theorem wp_if_icmp_eq {x q : Int32} {off : Int} (h : ip_at y pc = some (.if_icmp .eq off, nx, a, k2, t, w, v, ts)) : ip_wp X y pc ls (.int q :: .int x :: st) M K = if x = q then ip_wp X y a ls st M K else ip_wp X y nx ls st M K := by
  have e := wp_step (X := X) (ls := ls) (st := .int q :: .int x :: st) (M := M) (K := K) h rfl rfl rfl
  rw [e]
  dsimp only
  by_cases hc : x = q
  · have h2 : ip_cd .eq x q = true := by simp [ip_cd, hc]
    rw [if_pos hc, h2]; rfl
  · have h2 : ip_cd .eq x q = false := by simp [ip_cd, hc]
    rw [if_neg hc, h2]; rfl
theorem wp_if_icmp_ne {x q : Int32} {off : Int} (h : ip_at y pc = some (.if_icmp .ne off, nx, a, k2, t, w, v, ts)) : ip_wp X y pc ls (.int q :: .int x :: st) M K = if x = q then ip_wp X y nx ls st M K else ip_wp X y a ls st M K := by
  have e := wp_step (X := X) (ls := ls) (st := .int q :: .int x :: st) (M := M) (K := K) h rfl rfl rfl
  rw [e]
  dsimp only
  by_cases hc : x = q
  · have h2 : ip_cd .ne x q = false := by simp [ip_cd, hc]
    rw [if_pos hc, h2]; rfl
  · have h2 : ip_cd .ne x q = true := by simp [ip_cd, hc]
    rw [if_neg hc, h2]; rfl
theorem wp_if_icmp_lt {x q : Int32} {off : Int} (h : ip_at y pc = some (.if_icmp .lt off, nx, a, k2, t, w, v, ts)) : ip_wp X y pc ls (.int q :: .int x :: st) M K = if x < q then ip_wp X y a ls st M K else ip_wp X y nx ls st M K := by
  have e := wp_step (X := X) (ls := ls) (st := .int q :: .int x :: st) (M := M) (K := K) h rfl rfl rfl
  rw [e]
  dsimp only
  by_cases hc : x < q
  · have h2 : ip_cd .lt x q = true := by simp [ip_cd, hc]
    rw [if_pos hc, h2]; rfl
  · have h2 : ip_cd .lt x q = false := by simp [ip_cd, hc]
    rw [if_neg hc, h2]; rfl
theorem wp_if_icmp_ge {x q : Int32} {off : Int} (h : ip_at y pc = some (.if_icmp .ge off, nx, a, k2, t, w, v, ts)) : ip_wp X y pc ls (.int q :: .int x :: st) M K = if x < q then ip_wp X y nx ls st M K else ip_wp X y a ls st M K := by
  have e := wp_step (X := X) (ls := ls) (st := .int q :: .int x :: st) (M := M) (K := K) h rfl rfl rfl
  rw [e]
  dsimp only
  by_cases hc : x < q
  · have h2 : ip_cd .ge x q = false := by simp [ip_cd, hc, Int32.not_le, Int32.not_lt]
    rw [if_pos hc, h2]; rfl
  · have h2 : ip_cd .ge x q = true := by simp [ip_cd, hc, Int32.not_le.mp, Int32.not_lt.mp hc]
    rw [if_neg hc, h2]; rfl
theorem wp_if_icmp_gt {x q : Int32} {off : Int} (h : ip_at y pc = some (.if_icmp .gt off, nx, a, k2, t, w, v, ts)) : ip_wp X y pc ls (.int q :: .int x :: st) M K = if q < x then ip_wp X y a ls st M K else ip_wp X y nx ls st M K := by
  have e := wp_step (X := X) (ls := ls) (st := .int q :: .int x :: st) (M := M) (K := K) h rfl rfl rfl
  rw [e]
  dsimp only
  by_cases hc : q < x
  · have h2 : ip_cd .gt x q = true := by simp [ip_cd, hc]
    rw [if_pos hc, h2]; rfl
  · have h2 : ip_cd .gt x q = false := by simp [ip_cd, hc]
    rw [if_neg hc, h2]; rfl
theorem wp_if_icmp_le {x q : Int32} {off : Int} (h : ip_at y pc = some (.if_icmp .le off, nx, a, k2, t, w, v, ts)) : ip_wp X y pc ls (.int q :: .int x :: st) M K = if q < x then ip_wp X y nx ls st M K else ip_wp X y a ls st M K := by
  have e := wp_step (X := X) (ls := ls) (st := .int q :: .int x :: st) (M := M) (K := K) h rfl rfl rfl
  rw [e]
  dsimp only
  by_cases hc : q < x
  · have h2 : ip_cd .le x q = false := by simp [ip_cd, hc, Int32.not_le, Int32.not_lt]
    rw [if_pos hc, h2]; rfl
  · have h2 : ip_cd .le x q = true := by simp [ip_cd, hc, Int32.not_le.mp, Int32.not_lt.mp hc]
    rw [if_neg hc, h2]; rfl
theorem wp_tableswitch {x : Int32} {d lo hi : Int} {offs : Array Int} (h : ip_at y pc = some (.tableswitch d lo hi offs, nx, a, k2, t, w, v, ts)) : ip_wp X y pc ls (.int x :: st) M K = if x.toInt < lo ∨ hi < x.toInt then ip_wp X y a ls st M K else ip_wp X y (ts.getD (x.toInt - lo).toNat a) ls st M K := by
  have e := wp_step (X := X) (ls := ls) (st := .int x :: st) (M := M) (K := K) h rfl rfl rfl
  rw [e]
  dsimp only
  split <;> rfl
theorem wp_dup_r {x : Nat} (h : ip_at y pc = some (.dup, nx, a, k2, t, w, v, ts)) : ip_wp X y pc ls (.ref x :: st) M K = ip_wp X y nx ls (.ref x :: .ref x :: st) M K := wp_st h rfl rfl rfl
theorem wp_dup_i {x : Int32} (h : ip_at y pc = some (.dup, nx, a, k2, t, w, v, ts)) : ip_wp X y pc ls (.int x :: st) M K = ip_wp X y nx ls (.int x :: .int x :: st) M K := wp_st h rfl rfl rfl
theorem wp_dup2 {x : Int32} {q : Nat} (h : ip_at y pc = some (.dup2, nx, a, k2, t, w, v, ts)) : ip_wp X y pc ls (.int x :: .ref q :: st) M K = ip_wp X y nx ls (.int x :: .ref q :: .int x :: .ref q :: st) M K := wp_st h rfl rfl rfl
theorem wp_pop {x : Int32} (h : ip_at y pc = some (.pop, nx, a, k2, t, w, v, ts)) : ip_wp X y pc ls (.int x :: st) M K = ip_wp X y nx ls st M K := wp_st h rfl rfl rfl
theorem wp_pop2 {x : Int64} (h : ip_at y pc = some (.pop2, nx, a, k2, t, w, v, ts)) : ip_wp X y pc ls (.long x :: st) M K = ip_wp X y nx ls st M K := wp_st h rfl rfl rfl
theorem wp_getI {n k : Nat} (h : ip_at y pc = some (.getfield n, nx, a, k2, 0, w, v, ts)) : ip_wp X y pc ls (.ref k :: st) M K = if (ip_sh M k).1 = 0 ∧ (ip_sh M k).2.1 = a then ip_wp X y nx ls (.int (M.2.1 k k2) :: st) M K else False := by
  by_cases hc : (ip_sh M k).1 = 0 ∧ (ip_sh M k).2.1 = a
  · rw [if_pos hc]
    refine wp_st h rfl rfl ?_
    first | exact if_pos hc | (simp only [ip_step, ip_r1, ip_i1]; exact if_pos (by simpa using hc))
  · rw [if_neg hc]
    refine wp_stuck h rfl rfl ?_
    first | exact if_neg hc | (simp only [ip_step, ip_r1, ip_i1]; exact if_neg (by simpa using hc))
theorem wp_getZ {n k : Nat} (h : ip_at y pc = some (.getfield n, nx, a, k2, 3, w, v, ts)) : ip_wp X y pc ls (.ref k :: st) M K = if (ip_sh M k).1 = 0 ∧ (ip_sh M k).2.1 = a then ip_wp X y nx ls (.int (M.2.1 k k2) :: st) M K else False := by
  by_cases hc : (ip_sh M k).1 = 0 ∧ (ip_sh M k).2.1 = a
  · rw [if_pos hc]
    refine wp_st h rfl rfl ?_
    first | exact if_pos hc | (simp only [ip_step, ip_r1, ip_i1]; exact if_pos (by simpa using hc))
  · rw [if_neg hc]
    refine wp_stuck h rfl rfl ?_
    first | exact if_neg hc | (simp only [ip_step, ip_r1, ip_i1]; exact if_neg (by simpa using hc))
theorem wp_getL {n k : Nat} (h : ip_at y pc = some (.getfield n, nx, a, k2, 1, w, v, ts)) : ip_wp X y pc ls (.ref k :: st) M K = if (ip_sh M k).1 = 0 ∧ (ip_sh M k).2.1 = a then ip_wp X y nx ls (.long (M.2.2.1 k k2) :: st) M K else False := by
  by_cases hc : (ip_sh M k).1 = 0 ∧ (ip_sh M k).2.1 = a
  · rw [if_pos hc]
    refine wp_st h rfl rfl ?_
    first | exact if_pos hc | (simp only [ip_step, ip_r1, ip_i1]; exact if_pos (by simpa using hc))
  · rw [if_neg hc]
    refine wp_stuck h rfl rfl ?_
    first | exact if_neg hc | (simp only [ip_step, ip_r1, ip_i1]; exact if_neg (by simpa using hc))
theorem wp_getR {n k : Nat} (h : ip_at y pc = some (.getfield n, nx, a, k2, 2, w, v, ts)) : ip_wp X y pc ls (.ref k :: st) M K = if (ip_sh M k).1 = 0 ∧ (ip_sh M k).2.1 = a then ip_wp X y nx ls (ip_vr (M.2.2.2 k k2) :: st) M K else False := by
  by_cases hc : (ip_sh M k).1 = 0 ∧ (ip_sh M k).2.1 = a
  · rw [if_pos hc]
    refine wp_st h rfl rfl ?_
    first | exact if_pos hc | (simp only [ip_step, ip_r1, ip_i1]; exact if_pos (by simpa using hc))
  · rw [if_neg hc]
    refine wp_stuck h rfl rfl ?_
    first | exact if_neg hc | (simp only [ip_step, ip_r1, ip_i1]; exact if_neg (by simpa using hc))
theorem wp_putI {n k : Nat} {x : Int32} (h : ip_at y pc = some (.putfield n, nx, a, k2, 0, w, v, ts)) : ip_wp X y pc ls (.int x :: .ref k :: st) M K = if (ip_sh M k).1 = 0 ∧ (ip_sh M k).2.1 = a then ip_wp X y nx ls st (ip_uI M k k2 x) K else False := by
  by_cases hc : (ip_sh M k).1 = 0 ∧ (ip_sh M k).2.1 = a
  · rw [if_pos hc]
    refine wp_st h rfl rfl ?_
    first | exact if_pos ⟨hc.1, hc.2, Or.inl rfl⟩ | (simp only [ip_step, ip_r1, ip_i1]; exact if_pos (by simpa using hc))
  · rw [if_neg hc]
    refine wp_stuck h rfl rfl ?_
    first | exact if_neg (fun g => hc ⟨g.1, g.2.1⟩) | (simp only [ip_step, ip_r1, ip_i1]; exact if_neg (by simpa using hc))
theorem wp_putZ {n k : Nat} {x : Int32} (h : ip_at y pc = some (.putfield n, nx, a, k2, 3, w, v, ts)) : ip_wp X y pc ls (.int x :: .ref k :: st) M K = if (ip_sh M k).1 = 0 ∧ (ip_sh M k).2.1 = a ∧ (x = 0 ∨ x = 1) then ip_wp X y nx ls st (ip_uI M k k2 x) K else False := by
  by_cases hc : (ip_sh M k).1 = 0 ∧ (ip_sh M k).2.1 = a ∧ (x = 0 ∨ x = 1)
  · rw [if_pos hc]
    refine wp_st h rfl rfl ?_
    first | exact if_pos ⟨hc.1, hc.2.1, Or.inr ⟨rfl, hc.2.2⟩⟩ | (simp only [ip_step, ip_r1, ip_i1]; exact if_pos (by simpa using hc))
  · rw [if_neg hc]
    refine wp_stuck h rfl rfl ?_
    first | exact if_neg (fun g => g.2.2.elim (fun z => by cases z) (fun z => hc ⟨g.1, g.2.1, z.2⟩)) | (simp only [ip_step, ip_r1, ip_i1]; exact if_neg (by simpa using hc))
theorem wp_putL {n k : Nat} {x : Int64} (h : ip_at y pc = some (.putfield n, nx, a, k2, 1, w, v, ts)) : ip_wp X y pc ls (.long x :: .ref k :: st) M K = if (ip_sh M k).1 = 0 ∧ (ip_sh M k).2.1 = a then ip_wp X y nx ls st (ip_uL M k k2 x) K else False := by
  by_cases hc : (ip_sh M k).1 = 0 ∧ (ip_sh M k).2.1 = a
  · rw [if_pos hc]
    refine wp_st h rfl rfl ?_
    first | exact if_pos ⟨hc.1, hc.2, rfl⟩ | (simp only [ip_step, ip_r1, ip_i1]; exact if_pos (by simpa using hc))
  · rw [if_neg hc]
    refine wp_stuck h rfl rfl ?_
    first | exact if_neg (fun g => hc ⟨g.1, g.2.1⟩) | (simp only [ip_step, ip_r1, ip_i1]; exact if_neg (by simpa using hc))
theorem wp_alen {k : Nat} (h : ip_at y pc = some (.arraylength, nx, a, k2, t, w, v, ts)) : ip_wp X y pc ls (.ref k :: st) M K = if (ip_sh M k).1 = 1 then ip_wp X y nx ls (.int (Int32.ofNat (ip_sh M k).2.2) :: st) M K else False := by
  by_cases hc : (ip_sh M k).1 = 1
  · rw [if_pos hc]
    refine wp_st h rfl rfl ?_
    first | exact if_pos hc | (simp only [ip_step, ip_r1, ip_i1]; exact if_pos (by simpa using hc))
  · rw [if_neg hc]
    refine wp_stuck h rfl rfl ?_
    first | exact if_neg hc | (simp only [ip_step, ip_r1, ip_i1]; exact if_neg (by simpa using hc))
theorem wp_slen (h : ip_at y pc = some (.arraylength, nx, a, k2, t, w, v, ts)) : ip_wp X y pc ls (.retAddr 0 :: st) M K = if y = ip_LAW then ip_wp X y nx ls (.int (Int32.ofNat X.1) :: st) M K else False := by
  by_cases hc : y = ip_LAW
  · rw [if_pos hc]
    refine wp_st h rfl rfl ?_
    first | exact if_pos hc | (simp only [ip_step, ip_r1, ip_i1]; exact if_pos (by simpa using hc))
  · rw [if_neg hc]
    refine wp_stuck h rfl rfl ?_
    first | exact if_neg hc | (simp only [ip_step, ip_r1, ip_i1]; exact if_neg (by simpa using hc))
theorem wp_iaload {i : Int32} {k : Nat} (h : ip_at y pc = some (.iaload, nx, a, k2, t, w, v, ts)) : ip_wp X y pc ls (.int i :: .ref k :: st) M K = if (ip_sh M k).1 = 1 ∧ (ip_sh M k).2.1 = 0 ∧ ip_ix i (ip_sh M k).2.2 = true then ip_wp X y nx ls (.int (M.2.1 k i.toNatClampNeg) :: st) M K else False := by
  by_cases hc : (ip_sh M k).1 = 1 ∧ (ip_sh M k).2.1 = 0 ∧ ip_ix i (ip_sh M k).2.2 = true
  · rw [if_pos hc]
    refine wp_st h rfl rfl ?_
    first | exact if_pos hc | (simp only [ip_step, ip_r1, ip_i1]; exact if_pos (by simpa using hc))
  · rw [if_neg hc]
    refine wp_stuck h rfl rfl ?_
    first | exact if_neg hc | (simp only [ip_step, ip_r1, ip_i1]; exact if_neg (by simpa using hc))
theorem wp_saload {i : Int32} (h : ip_at y pc = some (.iaload, nx, a, k2, t, w, v, ts)) : ip_wp X y pc ls (.int i :: .retAddr 0 :: st) M K = if y = ip_LAW ∧ ip_ix i X.1 = true then ip_wp X y nx ls (.int (X.2 i.toNatClampNeg) :: st) M K else False := by
  by_cases hc : y = ip_LAW ∧ ip_ix i X.1 = true
  · rw [if_pos hc]
    refine wp_st h rfl rfl ?_
    first | exact if_pos hc | (simp only [ip_step, ip_r1, ip_i1]; exact if_pos (by simpa using hc))
  · rw [if_neg hc]
    refine wp_stuck h rfl rfl ?_
    first | exact if_neg hc | (simp only [ip_step, ip_r1, ip_i1]; exact if_neg (by simpa using hc))
theorem wp_laload {i : Int32} {k : Nat} (h : ip_at y pc = some (.laload, nx, a, k2, t, w, v, ts)) : ip_wp X y pc ls (.int i :: .ref k :: st) M K = if (ip_sh M k).1 = 1 ∧ (ip_sh M k).2.1 = 1 ∧ ip_ix i (ip_sh M k).2.2 = true then ip_wp X y nx ls (.long (M.2.2.1 k i.toNatClampNeg) :: st) M K else False := by
  by_cases hc : (ip_sh M k).1 = 1 ∧ (ip_sh M k).2.1 = 1 ∧ ip_ix i (ip_sh M k).2.2 = true
  · rw [if_pos hc]
    refine wp_st h rfl rfl ?_
    first | exact if_pos hc | (simp only [ip_step, ip_r1, ip_i1]; exact if_pos (by simpa using hc))
  · rw [if_neg hc]
    refine wp_stuck h rfl rfl ?_
    first | exact if_neg hc | (simp only [ip_step, ip_r1, ip_i1]; exact if_neg (by simpa using hc))
theorem wp_baload {i : Int32} {k : Nat} (h : ip_at y pc = some (.baload, nx, a, k2, t, w, v, ts)) : ip_wp X y pc ls (.int i :: .ref k :: st) M K = if (ip_sh M k).1 = 1 ∧ ((ip_sh M k).2.1 = 2 ∨ (ip_sh M k).2.1 = 3) ∧ ip_ix i (ip_sh M k).2.2 = true then ip_wp X y nx ls (.int (M.2.1 k i.toNatClampNeg) :: st) M K else False := by
  by_cases hc : (ip_sh M k).1 = 1 ∧ ((ip_sh M k).2.1 = 2 ∨ (ip_sh M k).2.1 = 3) ∧ ip_ix i (ip_sh M k).2.2 = true
  · rw [if_pos hc]
    refine wp_st h rfl rfl ?_
    first | exact if_pos hc | (simp only [ip_step, ip_r1, ip_i1]; exact if_pos (by simpa using hc))
  · rw [if_neg hc]
    refine wp_stuck h rfl rfl ?_
    first | exact if_neg hc | (simp only [ip_step, ip_r1, ip_i1]; exact if_neg (by simpa using hc))
theorem wp_aaload {i : Int32} {k : Nat} (h : ip_at y pc = some (.aaload, nx, a, k2, t, w, v, ts)) : ip_wp X y pc ls (.int i :: .ref k :: st) M K = if (ip_sh M k).1 = 1 ∧ 4 ≤ (ip_sh M k).2.1 ∧ ip_ix i (ip_sh M k).2.2 = true then ip_wp X y nx ls (ip_vr (M.2.2.2 k i.toNatClampNeg) :: st) M K else False := by
  by_cases hc : (ip_sh M k).1 = 1 ∧ 4 ≤ (ip_sh M k).2.1 ∧ ip_ix i (ip_sh M k).2.2 = true
  · rw [if_pos hc]
    refine wp_st h rfl rfl ?_
    first | exact if_pos hc | (simp only [ip_step, ip_r1, ip_i1]; exact if_pos (by simpa using hc))
  · rw [if_neg hc]
    refine wp_stuck h rfl rfl ?_
    first | exact if_neg hc | (simp only [ip_step, ip_r1, ip_i1]; exact if_neg (by simpa using hc))
theorem wp_iastore {i x : Int32} {k : Nat} (h : ip_at y pc = some (.iastore, nx, a, k2, t, w, v, ts)) : ip_wp X y pc ls (.int x :: .int i :: .ref k :: st) M K = if (ip_sh M k).1 = 1 ∧ (ip_sh M k).2.1 = 0 ∧ ip_ix i (ip_sh M k).2.2 = true then ip_wp X y nx ls st (ip_uI M k i.toNatClampNeg x) K else False := by
  by_cases hc : (ip_sh M k).1 = 1 ∧ (ip_sh M k).2.1 = 0 ∧ ip_ix i (ip_sh M k).2.2 = true
  · rw [if_pos hc]
    refine wp_st h rfl rfl ?_
    first | exact if_pos hc | (simp only [ip_step, ip_r1, ip_i1]; exact if_pos (by simpa using hc))
  · rw [if_neg hc]
    refine wp_stuck h rfl rfl ?_
    first | exact if_neg hc | (simp only [ip_step, ip_r1, ip_i1]; exact if_neg (by simpa using hc))
theorem wp_lastore {i : Int32} {x : Int64} {k : Nat} (h : ip_at y pc = some (.lastore, nx, a, k2, t, w, v, ts)) : ip_wp X y pc ls (.long x :: .int i :: .ref k :: st) M K = if (ip_sh M k).1 = 1 ∧ (ip_sh M k).2.1 = 1 ∧ ip_ix i (ip_sh M k).2.2 = true then ip_wp X y nx ls st (ip_uL M k i.toNatClampNeg x) K else False := by
  by_cases hc : (ip_sh M k).1 = 1 ∧ (ip_sh M k).2.1 = 1 ∧ ip_ix i (ip_sh M k).2.2 = true
  · rw [if_pos hc]
    refine wp_st h rfl rfl ?_
    first | exact if_pos hc | (simp only [ip_step, ip_r1, ip_i1]; exact if_pos (by simpa using hc))
  · rw [if_neg hc]
    refine wp_stuck h rfl rfl ?_
    first | exact if_neg hc | (simp only [ip_step, ip_r1, ip_i1]; exact if_neg (by simpa using hc))
theorem wp_bastore {i x : Int32} {k : Nat} (h : ip_at y pc = some (.bastore, nx, a, k2, t, w, v, ts)) : ip_wp X y pc ls (.int x :: .int i :: .ref k :: st) M K = if (ip_sh M k).1 = 1 ∧ ((ip_sh M k).2.1 = 2 ∨ (ip_sh M k).2.1 = 3) ∧ ip_ix i (ip_sh M k).2.2 = true then ip_wp X y nx ls st (ip_uI M k i.toNatClampNeg (if (ip_sh M k).2.1 = 2 then x.toInt8.toInt32 else x &&& 1)) K else False := by
  by_cases hc : (ip_sh M k).1 = 1 ∧ ((ip_sh M k).2.1 = 2 ∨ (ip_sh M k).2.1 = 3) ∧ ip_ix i (ip_sh M k).2.2 = true
  · rw [if_pos hc]
    refine wp_st h rfl rfl ?_
    first | exact if_pos hc | (simp only [ip_step, ip_r1, ip_i1]; exact if_pos (by simpa using hc))
  · rw [if_neg hc]
    refine wp_stuck h rfl rfl ?_
    first | exact if_neg hc | (simp only [ip_step, ip_r1, ip_i1]; exact if_neg (by simpa using hc))
theorem wp_new {n : Nat} (h : ip_at y pc = some (.new n, nx, a, k2, t, w, v, ts)) : ip_wp X y pc ls st M K = ip_wp X y nx ls (.ref M.1.length :: st) (ip_nw M (0, a, k2)) K := wp_st h rfl rfl rfl
theorem wp_copy {n0 : Nat} {n dp sp : Int32} {k0 k1 : Nat} (h : ip_at y pc = some (.invokestatic n0, nx, a, k2, 7, w, v, ts)) (h0 : st.length ≤ 4) (h1 : (ip_sh M k0).1 = 1 ∧ (ip_sh M k1).1 = 1 ∧ (ip_sh M k0).2.1 = (ip_sh M k1).2.1 ∧ (ip_sh M k0).2.1 < 3) (h2 : ¬ sp < 0 ∧ ¬ dp < 0 ∧ ¬ n < 0 ∧ sp.toNatClampNeg + n.toNatClampNeg ≤ (ip_sh M k0).2.2 ∧ dp.toNatClampNeg + n.toNatClampNeg ≤ (ip_sh M k1).2.2) (h3 : (ip_sh M k0).2.1 < 2 ∨ ∀ i, i < n.toNatClampNeg → fits .byte (.int (M.2.1 k0 (sp.toNatClampNeg + i))) = true) :
    ip_wp X y pc ls (.int n :: .int dp :: .ref k1 :: .int sp :: .ref k0 :: st) M K = ip_wp X y nx ls st (if (ip_sh M k0).2.1 = 1 then ip_cpL M k0 k1 sp.toNatClampNeg dp.toNatClampNeg n.toNatClampNeg else ip_cpI M k0 k1 sp.toNatClampNeg dp.toNatClampNeg n.toNatClampNeg) K := by
  refine wp_st h rfl rfl ?_
  refine (if_pos ⟨rfl, h0, h1.1, h1.2.1, h1.2.2.1, h1.2.2.2, h2.1, h2.2.1, h2.2.2.1, h2.2.2.2.1, h2.2.2.2.2⟩).trans ?_
  by_cases hL : (ip_sh M k0).2.1 = 1
  · rw [if_pos hL, if_pos hL]
  · rw [if_neg hL, if_neg hL, if_pos]
    rcases h3 with h3 | h3
    · exact Or.inl (by omega)
    · exact Or.inr (fun i hi => h3 i (List.mem_range.mp hi))
theorem wp_iret {x : Int32} (h : ip_at y pc = some (.ireturn, nx, a, k2, 0, w, v, ts)) : ip_wp X y pc ls [.int x] M K = K (some (.int x)) M := wp_ret h rfl rfl
theorem wp_zret {x : Int32} (h : ip_at y pc = some (.ireturn, nx, a, k2, 3, w, v, ts)) : ip_wp X y pc ls [.int x] M K = if x = 0 ∨ x = 1 then K (some (.int x)) M else False := by
  by_cases hc : x = 0 ∨ x = 1
  · rw [if_pos hc]
    exact wp_ret h rfl (by simp only [ip_rv]; rw [if_pos (Or.inr hc)])
  · rw [if_neg hc]
    exact wp_stuck h rfl (by simp only [ip_rv]; rw [if_neg (fun g => g.elim (fun z => by cases z) hc)]) rfl
theorem wp_lret {x : Int64} (h : ip_at y pc = some (.lreturn, nx, a, k2, t, w, v, ts)) : ip_wp X y pc ls [.long x] M K = K (some (.long x)) M := wp_ret h rfl rfl
theorem wp_aret {x : Nat} (h : ip_at y pc = some (.areturn, nx, a, k2, t, w, v, ts)) : ip_wp X y pc ls [.ref x] M K = K (some (.ref x)) M := wp_ret h rfl rfl
theorem wp_vret (h : ip_at y pc = some (.return_, nx, a, k2, t, w, v, ts)) : ip_wp X y pc ls [] M K = K none M := wp_ret h rfl rfl
theorem wp_callS0_1 {n : Nat} {v0 : Value} (h : ip_at y pc = some (.invokestatic n, nx, a, 1, 0, w, v, ts)) (hc : st.length ≤ 4 ∧ (ip_pad [v0]).length ≤ ip_ml a) : ip_wp X y pc ls (v0 :: st) M K = ip_wp X a 0 (ip_ent (ip_ml a) [v0]) [] M (fun r M1 => ip_wp X y nx ls (r.toList ++ st) M1 K) :=
  wp_call h rfl (by simp) (ip_cw_len (by simpa using hc.1)) (by simpa [ip_rc] using hc.2)
theorem wp_callS0_2 {n : Nat} {v0 v1 : Value} (h : ip_at y pc = some (.invokestatic n, nx, a, 2, 0, w, v, ts)) (hc : st.length ≤ 4 ∧ (ip_pad [v0, v1]).length ≤ ip_ml a) : ip_wp X y pc ls (v1 :: v0 :: st) M K = ip_wp X a 0 (ip_ent (ip_ml a) [v0, v1]) [] M (fun r M1 => ip_wp X y nx ls (r.toList ++ st) M1 K) :=
  wp_call h rfl (by simp) (ip_cw_len (by simpa using hc.1)) (by simpa [ip_rc] using hc.2)
theorem wp_callS0_3 {n : Nat} {v0 v1 v2 : Value} (h : ip_at y pc = some (.invokestatic n, nx, a, 3, 0, w, v, ts)) (hc : st.length ≤ 4 ∧ (ip_pad [v0, v1, v2]).length ≤ ip_ml a) : ip_wp X y pc ls (v2 :: v1 :: v0 :: st) M K = ip_wp X a 0 (ip_ent (ip_ml a) [v0, v1, v2]) [] M (fun r M1 => ip_wp X y nx ls (r.toList ++ st) M1 K) :=
  wp_call h rfl (by simp) (ip_cw_len (by simpa using hc.1)) (by simpa [ip_rc] using hc.2)
theorem wp_callS0_4 {n : Nat} {v0 v1 v2 v3 : Value} (h : ip_at y pc = some (.invokestatic n, nx, a, 4, 0, w, v, ts)) (hc : st.length ≤ 4 ∧ (ip_pad [v0, v1, v2, v3]).length ≤ ip_ml a) : ip_wp X y pc ls (v3 :: v2 :: v1 :: v0 :: st) M K = ip_wp X a 0 (ip_ent (ip_ml a) [v0, v1, v2, v3]) [] M (fun r M1 => ip_wp X y nx ls (r.toList ++ st) M1 K) :=
  wp_call h rfl (by simp) (ip_cw_len (by simpa using hc.1)) (by simpa [ip_rc] using hc.2)
theorem wp_callS3_2 {n : Nat} {v0 v1 : Value} (h : ip_at y pc = some (.invokestatic n, nx, a, 2, 3, w, v, ts)) (hc : st.length ≤ 4 ∧ (ip_pad [v0, v1]).length ≤ ip_ml a) : ip_wp X y pc ls (v1 :: v0 :: st) M K = ip_wp X a 0 (ip_ent (ip_ml a) [v0, v1]) [] M (fun r M1 => ip_wp X y nx ls (r.toList ++ st) M1 K) :=
  wp_call h rfl (by simp) (ip_cw_len (by simpa using hc.1)) (by simpa [ip_rc] using hc.2)
theorem wp_callV1_1 {n : Nat} {k : Nat} (h : ip_at y pc = some (.invokevirtual n, nx, a, 1, 1, w, v, ts)) (hc : st.length ≤ 4 ∧ (ip_pad [.ref k]).length ≤ ip_ml a ∧ (ip_sh M k).1 = 0 ∧ (ip_sh M k).2.1 = ip_oc a) : ip_wp X y pc ls (.ref k :: st) M K = ip_wp X a 0 (ip_ent (ip_ml a) [.ref k]) [] M (fun r M1 => ip_wp X y nx ls (r.toList ++ st) M1 K) :=
  wp_call h rfl (by simp) (ip_cw_len (by simpa using hc.1)) (by simpa [ip_rc] using hc.2)
theorem wp_callV1_2 {n : Nat} {k : Nat} {v1 : Value} (h : ip_at y pc = some (.invokevirtual n, nx, a, 2, 1, w, v, ts)) (hc : st.length ≤ 4 ∧ (ip_pad [.ref k, v1]).length ≤ ip_ml a ∧ (ip_sh M k).1 = 0 ∧ (ip_sh M k).2.1 = ip_oc a) : ip_wp X y pc ls (v1 :: .ref k :: st) M K = ip_wp X a 0 (ip_ent (ip_ml a) [.ref k, v1]) [] M (fun r M1 => ip_wp X y nx ls (r.toList ++ st) M1 K) :=
  wp_call h rfl (by simp) (ip_cw_len (by simpa using hc.1)) (by simpa [ip_rc] using hc.2)
theorem wp_callV1_3 {n : Nat} {k : Nat} {v1 v2 : Value} (h : ip_at y pc = some (.invokevirtual n, nx, a, 3, 1, w, v, ts)) (hc : st.length ≤ 4 ∧ (ip_pad [.ref k, v1, v2]).length ≤ ip_ml a ∧ (ip_sh M k).1 = 0 ∧ (ip_sh M k).2.1 = ip_oc a) : ip_wp X y pc ls (v2 :: v1 :: .ref k :: st) M K = ip_wp X a 0 (ip_ent (ip_ml a) [.ref k, v1, v2]) [] M (fun r M1 => ip_wp X y nx ls (r.toList ++ st) M1 K) :=
  wp_call h rfl (by simp) (ip_cw_len (by simpa using hc.1)) (by simpa [ip_rc] using hc.2)
theorem wp_callV1_4 {n : Nat} {k : Nat} {v1 v2 v3 : Value} (h : ip_at y pc = some (.invokevirtual n, nx, a, 4, 1, w, v, ts)) (hc : st.length ≤ 4 ∧ (ip_pad [.ref k, v1, v2, v3]).length ≤ ip_ml a ∧ (ip_sh M k).1 = 0 ∧ (ip_sh M k).2.1 = ip_oc a) : ip_wp X y pc ls (v3 :: v2 :: v1 :: .ref k :: st) M K = ip_wp X a 0 (ip_ent (ip_ml a) [.ref k, v1, v2, v3]) [] M (fun r M1 => ip_wp X y nx ls (r.toList ++ st) M1 K) :=
  wp_call h rfl (by simp) (ip_cw_len (by simpa using hc.1)) (by simpa [ip_rc] using hc.2)
theorem wp_callV1_5 {n : Nat} {k : Nat} {v1 v2 v3 v4 : Value} (h : ip_at y pc = some (.invokevirtual n, nx, a, 5, 1, w, v, ts)) (hc : st.length ≤ 4 ∧ (ip_pad [.ref k, v1, v2, v3, v4]).length ≤ ip_ml a ∧ (ip_sh M k).1 = 0 ∧ (ip_sh M k).2.1 = ip_oc a) : ip_wp X y pc ls (v4 :: v3 :: v2 :: v1 :: .ref k :: st) M K = ip_wp X a 0 (ip_ent (ip_ml a) [.ref k, v1, v2, v3, v4]) [] M (fun r M1 => ip_wp X y nx ls (r.toList ++ st) M1 K) :=
  wp_call h rfl (by simp) (ip_cw_len (by simpa using hc.1)) (by simpa [ip_rc] using hc.2)
theorem wp_callV1_6 {n : Nat} {k : Nat} {v1 v2 v3 v4 v5 : Value} (h : ip_at y pc = some (.invokevirtual n, nx, a, 6, 1, w, v, ts)) (hc : st.length ≤ 4 ∧ (ip_pad [.ref k, v1, v2, v3, v4, v5]).length ≤ ip_ml a ∧ (ip_sh M k).1 = 0 ∧ (ip_sh M k).2.1 = ip_oc a) : ip_wp X y pc ls (v5 :: v4 :: v3 :: v2 :: v1 :: .ref k :: st) M K = ip_wp X a 0 (ip_ent (ip_ml a) [.ref k, v1, v2, v3, v4, v5]) [] M (fun r M1 => ip_wp X y nx ls (r.toList ++ st) M1 K) :=
  wp_call h rfl (by simp) (ip_cw_len (by simpa using hc.1)) (by simpa [ip_rc] using hc.2)
theorem wp_callV1_8 {n : Nat} {k : Nat} {v1 v2 v3 v4 v5 v6 v7 : Value} (h : ip_at y pc = some (.invokevirtual n, nx, a, 8, 1, w, v, ts)) (hc : st.length ≤ 4 ∧ (ip_pad [.ref k, v1, v2, v3, v4, v5, v6, v7]).length ≤ ip_ml a ∧ (ip_sh M k).1 = 0 ∧ (ip_sh M k).2.1 = ip_oc a) : ip_wp X y pc ls (v7 :: v6 :: v5 :: v4 :: v3 :: v2 :: v1 :: .ref k :: st) M K = ip_wp X a 0 (ip_ent (ip_ml a) [.ref k, v1, v2, v3, v4, v5, v6, v7]) [] M (fun r M1 => ip_wp X y nx ls (r.toList ++ st) M1 K) :=
  wp_call h rfl (by simp) (ip_cw_len (by simpa using hc.1)) (by simpa [ip_rc] using hc.2)
theorem wp_callV1_9 {n : Nat} {k : Nat} {v1 v2 v3 v4 v5 v6 v7 v8 : Value} (h : ip_at y pc = some (.invokevirtual n, nx, a, 9, 1, w, v, ts)) (hc : st.length ≤ 4 ∧ (ip_pad [.ref k, v1, v2, v3, v4, v5, v6, v7, v8]).length ≤ ip_ml a ∧ (ip_sh M k).1 = 0 ∧ (ip_sh M k).2.1 = ip_oc a) : ip_wp X y pc ls (v8 :: v7 :: v6 :: v5 :: v4 :: v3 :: v2 :: v1 :: .ref k :: st) M K = ip_wp X a 0 (ip_ent (ip_ml a) [.ref k, v1, v2, v3, v4, v5, v6, v7, v8]) [] M (fun r M1 => ip_wp X y nx ls (r.toList ++ st) M1 K) :=
  wp_call h rfl (by simp) (ip_cw_len (by simpa using hc.1)) (by simpa [ip_rc] using hc.2)
theorem wp_callI2_1 {n : Nat} {k : Nat} (h : ip_at y pc = some (.invokespecial n, nx, a, 1, 2, w, v, ts)) (hc : st.length ≤ 4 ∧ (ip_pad [.ref k]).length ≤ ip_ml a ∧ (ip_sh M k).1 = 0 ∧ (ip_sh M k).2.1 = ip_oc a) : ip_wp X y pc ls (.ref k :: st) M K = ip_wp X a 0 (ip_ent (ip_ml a) [.ref k]) [] M (fun r M1 => ip_wp X y nx ls (r.toList ++ st) M1 K) :=
  wp_call h rfl (by simp) (ip_cw_len (by simpa using hc.1)) (by simpa [ip_rc] using hc.2)
end WP
theorem ip_uI_1 (M : ip_H) (k j : Nat) (x : Int32) : (ip_uI M k j x).1 = M.1 := rfl
theorem ip_uI_I (M : ip_H) (k j : Nat) (x : Int32) (p q : Nat) : (ip_uI M k j x).2.1 p q = if p = k ∧ q = j then x else M.2.1 p q := rfl
theorem ip_uI_L (M : ip_H) (k j : Nat) (x : Int32) : (ip_uI M k j x).2.2.1 = M.2.2.1 := rfl
theorem ip_uI_R (M : ip_H) (k j : Nat) (x : Int32) : (ip_uI M k j x).2.2.2 = M.2.2.2 := rfl
theorem ip_uI_sh (M : ip_H) (k j : Nat) (x : Int32) (p : Nat) : ip_sh (ip_uI M k j x) p = ip_sh M p := rfl
theorem ip_uL_1 (M : ip_H) (k j : Nat) (x : Int64) : (ip_uL M k j x).1 = M.1 := rfl
theorem ip_uL_I (M : ip_H) (k j : Nat) (x : Int64) : (ip_uL M k j x).2.1 = M.2.1 := rfl
theorem ip_uL_L (M : ip_H) (k j : Nat) (x : Int64) (p q : Nat) : (ip_uL M k j x).2.2.1 p q = if p = k ∧ q = j then x else M.2.2.1 p q := rfl
theorem ip_uL_R (M : ip_H) (k j : Nat) (x : Int64) : (ip_uL M k j x).2.2.2 = M.2.2.2 := rfl
theorem ip_uL_sh (M : ip_H) (k j : Nat) (x : Int64) (p : Nat) : ip_sh (ip_uL M k j x) p = ip_sh M p := rfl
theorem ip_get_0 (v : Value) (l : List Value) : ip_get (v :: l) 0 = v := rfl
theorem ip_get_s (v : Value) (l : List Value) (n : Nat) : ip_get (v :: l) (n + 1) = ip_get l n := rfl
theorem ip_clr_0 (ls : List Value) : ip_clr ls 0 = ls := rfl
theorem ip_clr_s (ls : List Value) (j : Nat) : ip_clr ls (j + 1) = if (ip_get ls j).category = 2 then ls.set j (.retAddr 1) else ls := rfl
theorem ip_cat_i (x : Int32) : (Value.int x).category = 1 := rfl
theorem ip_cat_l (x : Int64) : (Value.long x).category = 2 := rfl
theorem ip_cat_r (x : Nat) : (Value.ref x).category = 1 := rfl
theorem ip_cat_a (x : Nat) : (Value.retAddr x).category = 1 := rfl
theorem ip_cmp_lt (x y : Int64) : (lg_cmp x y < 0) = (x < y) := by
  unfold lg_cmp
  by_cases h1 : y < x
  · rw [if_pos h1]; simp [Int64.lt_asymm h1]
  · rw [if_neg h1]
    by_cases h2 : x = y
    · subst h2; simp
    · rw [if_neg h2]
      have : x < y := Int64.lt_of_le_of_ne (Int64.not_lt.mp h1) h2
      simp [this]
theorem ip_cmp_gt (x y : Int64) : (0 < lg_cmp x y) = (y < x) := by
  unfold lg_cmp
  by_cases h1 : y < x
  · rw [if_pos h1]; simp [h1]
  · rw [if_neg h1]
    by_cases h2 : x = y
    · subst h2; simp
    · rw [if_neg h2]; simp [h1]
theorem ip_cmp_eq (x y : Int64) : (lg_cmp x y = 0) = (x = y) := by
  unfold lg_cmp
  by_cases h1 : y < x
  · rw [if_pos h1]
    have : ¬ x = y := fun q => by subst q; exact Int64.lt_irrefl h1
    simp [this]
  · rw [if_neg h1]
    by_cases h2 : x = y
    · subst h2; simp
    · rw [if_neg h2]; simp [h2]
end
noncomputable section
-- PART 18.lk
-- LOOK-UPS by place: a list of entries the numbers of which rise
def lk_s : Nat → List (Nat × ip_E) → Bool
  | _, [] => true
  | n, a :: l => Nat.ble n a.1 && lk_s (a.1 + 1) l
theorem lk_ge : ∀ {l : List (Nat × ip_E)} {n : Nat}, lk_s n l = true → ∀ {pc : Nat} {e : ip_E}, (pc, e) ∈ l → n ≤ pc := by
  intro l
  induction l with
  | nil =>
    intro n h pc e hm
    cases hm
  | cons a l ih =>
    intro n h pc e hm
    rw [show lk_s n (a :: l) = (Nat.ble n a.1 && lk_s (a.1 + 1) l) from rfl, Bool.and_eq_true] at h
    have h1 := Nat.le_of_ble_eq_true h.1
    rcases List.mem_cons.mp hm with q | q
    · rw [← q] at h1
      exact h1
    · have h2 := ih h.2 q
      omega
theorem lk_of : ∀ {l : List (Nat × ip_E)} {n : Nat}, lk_s n l = true → ∀ {k pc : Nat} {e : ip_E}, l[k]? = some (pc, e) → l.lookup pc = some e := by
  intro l
  induction l with
  | nil =>
    intro n h k pc e hk
    cases hk
  | cons a l ih =>
    intro n h k pc e hk
    rw [show lk_s n (a :: l) = (Nat.ble n a.1 && lk_s (a.1 + 1) l) from rfl, Bool.and_eq_true] at h
    cases k with
    | zero =>
      have q : a = (pc, e) := Option.some.inj hk
      subst q
      exact List.lookup_cons_self
    | succ k =>
      have q : l[k]? = some (pc, e) := hk
      have m := lk_ge h.2 (List.mem_of_getElem? q)
      obtain ⟨x, y⟩ := a
      have ne : (pc == x) = false := by
        rw [beq_eq_false_iff_ne]
        dsimp only at m
        omega
      rw [List.lookup_cons, ne]
      exact ih h.2 q
theorem lk_apl {a b : List (Nat × ip_E)} {k : Nat} {p : Nat × ip_E} (h : a[k]? = some p) : (a ++ b)[k]? = some p := by
  obtain ⟨hk, -⟩ := List.getElem?_eq_some_iff.mp h
  rw [List.getElem?_append_left hk]
  exact h
theorem lk_app {a b : List (Nat × ip_E)} {k n : Nat} {p : Nat × ip_E} (hn : a.length = n) (h : b[k]? = some p) : (a ++ b)[n + k]? = some p := by
  rw [List.getElem?_append_right (by omega), ← hn, Nat.add_sub_cancel_left]
  exact h
end
noncomputable section
-- PART 19.graph
-- THE CELLS behind the two constructors: shapes and references
def ip_SH : List (Nat × Nat × Nat) := [(0, 10, 14), (0, 2, 5), (0, 4, 1), (1, 1, 9), (0, 8, 4), (1, 4, 6), (0, 1, 15), (1, 0, 610), (1, 2, 61), (0, 4, 1), (1, 1, 9), (0, 4, 1), (1, 1, 9), (0, 8, 4), (0, 8, 4), (0, 8, 4), (0, 8, 4), (0, 9, 2), (1, 2, 120), (0, 6, 5), (1, 2, 200), (0, 9, 2), (1, 2, 120), (0, 3, 6), (1, 5, 8), (1, 0, 8), (1, 5, 2), (1, 3, 2), (0, 5, 8), (1, 0, 24), (0, 9, 2), (1, 2, 120), (1, 0, 8), (0, 5, 8), (1, 0, 24), (0, 9, 2), (1, 2, 120), (1, 0, 8), (0, 5, 8), (1, 0, 24), (0, 9, 2), (1, 2, 120), (1, 0, 8), (0, 5, 8), (1, 0, 24), (0, 9, 2), (1, 2, 120), (1, 0, 8), (0, 5, 8), (1, 0, 24), (0, 9, 2), (1, 2, 120), (1, 0, 8), (0, 5, 8), (1, 0, 24), (0, 9, 2), (1, 2, 120), (1, 0, 8), (0, 5, 8), (1, 0, 24), (0, 9, 2), (1, 2, 120), (1, 0, 8), (0, 5, 8), (1, 0, 24), (0, 9, 2), (1, 2, 120), (1, 0, 8), (0, 5, 8), (1, 0, 24), (0, 9, 2), (1, 2, 120), (1, 0, 8), (0, 5, 8), (1, 0, 24), (0, 9, 2), (1, 2, 120), (1, 0, 8), (0, 7, 2), (1, 0, 6), (0, 1, 15), (1, 0, 610), (1, 2, 61), (0, 4, 1), (1, 1, 9), (0, 4, 1), (1, 1, 9), (0, 8, 4), (0, 8, 4), (0, 8, 4), (0, 8, 4), (0, 2, 5), (0, 4, 1), (1, 1, 9), (0, 8, 4), (0, 4, 1), (1, 1, 9), (0, 0, 2), (1, 1, 8), (1, 0, 4), (0, 8, 4), (0, 8, 4), (0, 8, 4), (0, 8, 4), (0, 8, 4), (0, 8, 4), (0, 8, 4), (0, 8, 4), (0, 11, 48), (1, 0, 821), (1, 1, 9), (1, 0, 7), (1, 0, 6568), (1, 0, 8), (1, 0, 1642), (1, 1, 72), (1, 1, 18), (1, 3, 2), (1, 1, 9), (1, 0, 8), (1, 0, 200), (1, 0, 120), (1, 1, 200), (1, 1, 9), (1, 0, 4), (1, 0, 4), (1, 0, 821), (1, 1, 9)]
def ip_rfl : List (Nat × Nat × Nat) := [(0, 0, 1), (0, 1, 5), (0, 2, 6), (0, 3, 17), (0, 4, 19), (0, 5, 23), (0, 6, 78), (0, 8, 80), (0, 9, 91), (0, 10, 95), (0, 11, 97), (0, 12, 100), (0, 13, 101), (1, 3, 2), (1, 4, 4), (2, 0, 3), (5, 0, 102), (5, 1, 103), (5, 2, 104), (5, 3, 105), (5, 4, 106), (5, 5, 107), (6, 0, 7), (6, 1, 8), (6, 2, 9), (6, 7, 11), (6, 8, 13), (6, 9, 14), (6, 10, 15), (6, 11, 16), (9, 0, 10), (11, 0, 12), (17, 0, 18), (19, 0, 20), (19, 1, 21), (21, 0, 22), (23, 0, 24), (23, 1, 25), (23, 2, 26), (23, 3, 27), (24, 0, 28), (24, 1, 33), (24, 2, 38), (24, 3, 43), (24, 4, 48), (24, 5, 53), (24, 6, 58), (24, 7, 63), (26, 0, 68), (26, 1, 73), (28, 3, 29), (28, 4, 30), (28, 5, 32), (30, 0, 31), (33, 3, 34), (33, 4, 35), (33, 5, 37), (35, 0, 36), (38, 3, 39), (38, 4, 40), (38, 5, 42), (40, 0, 41), (43, 3, 44), (43, 4, 45), (43, 5, 47), (45, 0, 46), (48, 3, 49), (48, 4, 50), (48, 5, 52), (50, 0, 51), (53, 3, 54), (53, 4, 55), (53, 5, 57), (55, 0, 56), (58, 3, 59), (58, 4, 60), (58, 5, 62), (60, 0, 61), (63, 3, 64), (63, 4, 65), (63, 5, 67), (65, 0, 66), (68, 3, 69), (68, 4, 70), (68, 5, 72), (70, 0, 71), (73, 3, 74), (73, 4, 75), (73, 5, 77), (75, 0, 76), (78, 0, 79), (80, 0, 81), (80, 1, 82), (80, 2, 83), (80, 7, 85), (80, 8, 87), (80, 9, 88), (80, 10, 89), (80, 11, 90), (83, 0, 84), (85, 0, 86), (91, 3, 92), (91, 4, 94), (92, 0, 93), (95, 0, 96), (97, 0, 98), (97, 1, 99), (108, 1, 109), (108, 2, 110), (108, 5, 111), (108, 6, 112), (108, 7, 113), (108, 8, 114), (108, 9, 115), (108, 10, 116), (108, 11, 117), (108, 28, 118), (108, 30, 119), (108, 31, 120), (108, 39, 121), (108, 42, 122), (108, 43, 123), (108, 44, 124), (108, 45, 125), (108, 46, 126), (108, 47, 127)]
def ip_rf0 (k j : Nat) : Option Nat := (ip_rfl.find? fun q => q.1 == k && q.2.1 == j).map fun q => q.2.2
def ip_G (M : ip_H) : Prop := M.1 = ip_SH ∧ ∀ k j, k < 128 → j < 48 → (ip_rf0 k j).isSome = true → M.2.2.2 k j = ip_rf0 k j
theorem ip_gr {M : ip_H} (h : ip_G M) {k j v : Nat} (hk : k < 128) (hj : j < 48) (e : ip_rf0 k j = some v) : M.2.2.2 k j = some v := (h.2 k j hk hj (by rw [e]; rfl)).trans e
theorem gS_0 {M : ip_H} (h : ip_G M) : ip_sh M 0 = (0, 10, 14) := by unfold ip_sh; rw [h.1]; rfl
theorem gS_1 {M : ip_H} (h : ip_G M) : ip_sh M 1 = (0, 2, 5) := by unfold ip_sh; rw [h.1]; rfl
theorem gS_2 {M : ip_H} (h : ip_G M) : ip_sh M 2 = (0, 4, 1) := by unfold ip_sh; rw [h.1]; rfl
theorem gS_3 {M : ip_H} (h : ip_G M) : ip_sh M 3 = (1, 1, 9) := by unfold ip_sh; rw [h.1]; rfl
theorem gS_5 {M : ip_H} (h : ip_G M) : ip_sh M 5 = (1, 4, 6) := by unfold ip_sh; rw [h.1]; rfl
theorem gS_6 {M : ip_H} (h : ip_G M) : ip_sh M 6 = (0, 1, 15) := by unfold ip_sh; rw [h.1]; rfl
theorem gS_7 {M : ip_H} (h : ip_G M) : ip_sh M 7 = (1, 0, 610) := by unfold ip_sh; rw [h.1]; rfl
theorem gS_8 {M : ip_H} (h : ip_G M) : ip_sh M 8 = (1, 2, 61) := by unfold ip_sh; rw [h.1]; rfl
theorem gS_9 {M : ip_H} (h : ip_G M) : ip_sh M 9 = (0, 4, 1) := by unfold ip_sh; rw [h.1]; rfl
theorem gS_10 {M : ip_H} (h : ip_G M) : ip_sh M 10 = (1, 1, 9) := by unfold ip_sh; rw [h.1]; rfl
theorem gS_11 {M : ip_H} (h : ip_G M) : ip_sh M 11 = (0, 4, 1) := by unfold ip_sh; rw [h.1]; rfl
theorem gS_12 {M : ip_H} (h : ip_G M) : ip_sh M 12 = (1, 1, 9) := by unfold ip_sh; rw [h.1]; rfl
theorem gS_13 {M : ip_H} (h : ip_G M) : ip_sh M 13 = (0, 8, 4) := by unfold ip_sh; rw [h.1]; rfl
theorem gS_14 {M : ip_H} (h : ip_G M) : ip_sh M 14 = (0, 8, 4) := by unfold ip_sh; rw [h.1]; rfl
theorem gS_15 {M : ip_H} (h : ip_G M) : ip_sh M 15 = (0, 8, 4) := by unfold ip_sh; rw [h.1]; rfl
theorem gS_16 {M : ip_H} (h : ip_G M) : ip_sh M 16 = (0, 8, 4) := by unfold ip_sh; rw [h.1]; rfl
theorem gS_17 {M : ip_H} (h : ip_G M) : ip_sh M 17 = (0, 9, 2) := by unfold ip_sh; rw [h.1]; rfl
theorem gS_18 {M : ip_H} (h : ip_G M) : ip_sh M 18 = (1, 2, 120) := by unfold ip_sh; rw [h.1]; rfl
theorem gS_19 {M : ip_H} (h : ip_G M) : ip_sh M 19 = (0, 6, 5) := by unfold ip_sh; rw [h.1]; rfl
theorem gS_20 {M : ip_H} (h : ip_G M) : ip_sh M 20 = (1, 2, 200) := by unfold ip_sh; rw [h.1]; rfl
theorem gS_21 {M : ip_H} (h : ip_G M) : ip_sh M 21 = (0, 9, 2) := by unfold ip_sh; rw [h.1]; rfl
theorem gS_22 {M : ip_H} (h : ip_G M) : ip_sh M 22 = (1, 2, 120) := by unfold ip_sh; rw [h.1]; rfl
theorem gS_23 {M : ip_H} (h : ip_G M) : ip_sh M 23 = (0, 3, 6) := by unfold ip_sh; rw [h.1]; rfl
theorem gS_24 {M : ip_H} (h : ip_G M) : ip_sh M 24 = (1, 5, 8) := by unfold ip_sh; rw [h.1]; rfl
theorem gS_25 {M : ip_H} (h : ip_G M) : ip_sh M 25 = (1, 0, 8) := by unfold ip_sh; rw [h.1]; rfl
theorem gS_26 {M : ip_H} (h : ip_G M) : ip_sh M 26 = (1, 5, 2) := by unfold ip_sh; rw [h.1]; rfl
theorem gS_27 {M : ip_H} (h : ip_G M) : ip_sh M 27 = (1, 3, 2) := by unfold ip_sh; rw [h.1]; rfl
theorem gS_28 {M : ip_H} (h : ip_G M) : ip_sh M 28 = (0, 5, 8) := by unfold ip_sh; rw [h.1]; rfl
theorem gS_29 {M : ip_H} (h : ip_G M) : ip_sh M 29 = (1, 0, 24) := by unfold ip_sh; rw [h.1]; rfl
theorem gS_30 {M : ip_H} (h : ip_G M) : ip_sh M 30 = (0, 9, 2) := by unfold ip_sh; rw [h.1]; rfl
theorem gS_31 {M : ip_H} (h : ip_G M) : ip_sh M 31 = (1, 2, 120) := by unfold ip_sh; rw [h.1]; rfl
theorem gS_32 {M : ip_H} (h : ip_G M) : ip_sh M 32 = (1, 0, 8) := by unfold ip_sh; rw [h.1]; rfl
theorem gS_33 {M : ip_H} (h : ip_G M) : ip_sh M 33 = (0, 5, 8) := by unfold ip_sh; rw [h.1]; rfl
theorem gS_34 {M : ip_H} (h : ip_G M) : ip_sh M 34 = (1, 0, 24) := by unfold ip_sh; rw [h.1]; rfl
theorem gS_35 {M : ip_H} (h : ip_G M) : ip_sh M 35 = (0, 9, 2) := by unfold ip_sh; rw [h.1]; rfl
theorem gS_36 {M : ip_H} (h : ip_G M) : ip_sh M 36 = (1, 2, 120) := by unfold ip_sh; rw [h.1]; rfl
theorem gS_37 {M : ip_H} (h : ip_G M) : ip_sh M 37 = (1, 0, 8) := by unfold ip_sh; rw [h.1]; rfl
theorem gS_38 {M : ip_H} (h : ip_G M) : ip_sh M 38 = (0, 5, 8) := by unfold ip_sh; rw [h.1]; rfl
theorem gS_39 {M : ip_H} (h : ip_G M) : ip_sh M 39 = (1, 0, 24) := by unfold ip_sh; rw [h.1]; rfl
theorem gS_40 {M : ip_H} (h : ip_G M) : ip_sh M 40 = (0, 9, 2) := by unfold ip_sh; rw [h.1]; rfl
theorem gS_41 {M : ip_H} (h : ip_G M) : ip_sh M 41 = (1, 2, 120) := by unfold ip_sh; rw [h.1]; rfl
theorem gS_42 {M : ip_H} (h : ip_G M) : ip_sh M 42 = (1, 0, 8) := by unfold ip_sh; rw [h.1]; rfl
theorem gS_43 {M : ip_H} (h : ip_G M) : ip_sh M 43 = (0, 5, 8) := by unfold ip_sh; rw [h.1]; rfl
theorem gS_44 {M : ip_H} (h : ip_G M) : ip_sh M 44 = (1, 0, 24) := by unfold ip_sh; rw [h.1]; rfl
theorem gS_45 {M : ip_H} (h : ip_G M) : ip_sh M 45 = (0, 9, 2) := by unfold ip_sh; rw [h.1]; rfl
theorem gS_46 {M : ip_H} (h : ip_G M) : ip_sh M 46 = (1, 2, 120) := by unfold ip_sh; rw [h.1]; rfl
theorem gS_47 {M : ip_H} (h : ip_G M) : ip_sh M 47 = (1, 0, 8) := by unfold ip_sh; rw [h.1]; rfl
theorem gS_48 {M : ip_H} (h : ip_G M) : ip_sh M 48 = (0, 5, 8) := by unfold ip_sh; rw [h.1]; rfl
theorem gS_49 {M : ip_H} (h : ip_G M) : ip_sh M 49 = (1, 0, 24) := by unfold ip_sh; rw [h.1]; rfl
theorem gS_50 {M : ip_H} (h : ip_G M) : ip_sh M 50 = (0, 9, 2) := by unfold ip_sh; rw [h.1]; rfl
theorem gS_51 {M : ip_H} (h : ip_G M) : ip_sh M 51 = (1, 2, 120) := by unfold ip_sh; rw [h.1]; rfl
theorem gS_52 {M : ip_H} (h : ip_G M) : ip_sh M 52 = (1, 0, 8) := by unfold ip_sh; rw [h.1]; rfl
theorem gS_53 {M : ip_H} (h : ip_G M) : ip_sh M 53 = (0, 5, 8) := by unfold ip_sh; rw [h.1]; rfl
theorem gS_54 {M : ip_H} (h : ip_G M) : ip_sh M 54 = (1, 0, 24) := by unfold ip_sh; rw [h.1]; rfl
theorem gS_55 {M : ip_H} (h : ip_G M) : ip_sh M 55 = (0, 9, 2) := by unfold ip_sh; rw [h.1]; rfl
theorem gS_56 {M : ip_H} (h : ip_G M) : ip_sh M 56 = (1, 2, 120) := by unfold ip_sh; rw [h.1]; rfl
theorem gS_57 {M : ip_H} (h : ip_G M) : ip_sh M 57 = (1, 0, 8) := by unfold ip_sh; rw [h.1]; rfl
theorem gS_58 {M : ip_H} (h : ip_G M) : ip_sh M 58 = (0, 5, 8) := by unfold ip_sh; rw [h.1]; rfl
theorem gS_59 {M : ip_H} (h : ip_G M) : ip_sh M 59 = (1, 0, 24) := by unfold ip_sh; rw [h.1]; rfl
theorem gS_60 {M : ip_H} (h : ip_G M) : ip_sh M 60 = (0, 9, 2) := by unfold ip_sh; rw [h.1]; rfl
theorem gS_61 {M : ip_H} (h : ip_G M) : ip_sh M 61 = (1, 2, 120) := by unfold ip_sh; rw [h.1]; rfl
theorem gS_62 {M : ip_H} (h : ip_G M) : ip_sh M 62 = (1, 0, 8) := by unfold ip_sh; rw [h.1]; rfl
theorem gS_63 {M : ip_H} (h : ip_G M) : ip_sh M 63 = (0, 5, 8) := by unfold ip_sh; rw [h.1]; rfl
theorem gS_64 {M : ip_H} (h : ip_G M) : ip_sh M 64 = (1, 0, 24) := by unfold ip_sh; rw [h.1]; rfl
theorem gS_65 {M : ip_H} (h : ip_G M) : ip_sh M 65 = (0, 9, 2) := by unfold ip_sh; rw [h.1]; rfl
theorem gS_66 {M : ip_H} (h : ip_G M) : ip_sh M 66 = (1, 2, 120) := by unfold ip_sh; rw [h.1]; rfl
theorem gS_67 {M : ip_H} (h : ip_G M) : ip_sh M 67 = (1, 0, 8) := by unfold ip_sh; rw [h.1]; rfl
theorem gS_68 {M : ip_H} (h : ip_G M) : ip_sh M 68 = (0, 5, 8) := by unfold ip_sh; rw [h.1]; rfl
theorem gS_69 {M : ip_H} (h : ip_G M) : ip_sh M 69 = (1, 0, 24) := by unfold ip_sh; rw [h.1]; rfl
theorem gS_70 {M : ip_H} (h : ip_G M) : ip_sh M 70 = (0, 9, 2) := by unfold ip_sh; rw [h.1]; rfl
theorem gS_71 {M : ip_H} (h : ip_G M) : ip_sh M 71 = (1, 2, 120) := by unfold ip_sh; rw [h.1]; rfl
theorem gS_72 {M : ip_H} (h : ip_G M) : ip_sh M 72 = (1, 0, 8) := by unfold ip_sh; rw [h.1]; rfl
theorem gS_73 {M : ip_H} (h : ip_G M) : ip_sh M 73 = (0, 5, 8) := by unfold ip_sh; rw [h.1]; rfl
theorem gS_74 {M : ip_H} (h : ip_G M) : ip_sh M 74 = (1, 0, 24) := by unfold ip_sh; rw [h.1]; rfl
theorem gS_75 {M : ip_H} (h : ip_G M) : ip_sh M 75 = (0, 9, 2) := by unfold ip_sh; rw [h.1]; rfl
theorem gS_76 {M : ip_H} (h : ip_G M) : ip_sh M 76 = (1, 2, 120) := by unfold ip_sh; rw [h.1]; rfl
theorem gS_77 {M : ip_H} (h : ip_G M) : ip_sh M 77 = (1, 0, 8) := by unfold ip_sh; rw [h.1]; rfl
theorem gS_78 {M : ip_H} (h : ip_G M) : ip_sh M 78 = (0, 7, 2) := by unfold ip_sh; rw [h.1]; rfl
theorem gS_79 {M : ip_H} (h : ip_G M) : ip_sh M 79 = (1, 0, 6) := by unfold ip_sh; rw [h.1]; rfl
theorem gS_91 {M : ip_H} (h : ip_G M) : ip_sh M 91 = (0, 2, 5) := by unfold ip_sh; rw [h.1]; rfl
theorem gS_92 {M : ip_H} (h : ip_G M) : ip_sh M 92 = (0, 4, 1) := by unfold ip_sh; rw [h.1]; rfl
theorem gS_93 {M : ip_H} (h : ip_G M) : ip_sh M 93 = (1, 1, 9) := by unfold ip_sh; rw [h.1]; rfl
theorem gS_94 {M : ip_H} (h : ip_G M) : ip_sh M 94 = (0, 8, 4) := by unfold ip_sh; rw [h.1]; rfl
theorem gS_95 {M : ip_H} (h : ip_G M) : ip_sh M 95 = (0, 4, 1) := by unfold ip_sh; rw [h.1]; rfl
theorem gS_96 {M : ip_H} (h : ip_G M) : ip_sh M 96 = (1, 1, 9) := by unfold ip_sh; rw [h.1]; rfl
theorem gS_100 {M : ip_H} (h : ip_G M) : ip_sh M 100 = (0, 8, 4) := by unfold ip_sh; rw [h.1]; rfl
theorem gS_101 {M : ip_H} (h : ip_G M) : ip_sh M 101 = (0, 8, 4) := by unfold ip_sh; rw [h.1]; rfl
theorem gS_102 {M : ip_H} (h : ip_G M) : ip_sh M 102 = (0, 8, 4) := by unfold ip_sh; rw [h.1]; rfl
theorem gS_103 {M : ip_H} (h : ip_G M) : ip_sh M 103 = (0, 8, 4) := by unfold ip_sh; rw [h.1]; rfl
theorem gS_104 {M : ip_H} (h : ip_G M) : ip_sh M 104 = (0, 8, 4) := by unfold ip_sh; rw [h.1]; rfl
theorem gS_105 {M : ip_H} (h : ip_G M) : ip_sh M 105 = (0, 8, 4) := by unfold ip_sh; rw [h.1]; rfl
theorem gS_106 {M : ip_H} (h : ip_G M) : ip_sh M 106 = (0, 8, 4) := by unfold ip_sh; rw [h.1]; rfl
theorem gS_107 {M : ip_H} (h : ip_G M) : ip_sh M 107 = (0, 8, 4) := by unfold ip_sh; rw [h.1]; rfl
theorem gS_108 {M : ip_H} (h : ip_G M) : ip_sh M 108 = (0, 11, 48) := by unfold ip_sh; rw [h.1]; rfl
theorem gS_109 {M : ip_H} (h : ip_G M) : ip_sh M 109 = (1, 0, 821) := by unfold ip_sh; rw [h.1]; rfl
theorem gS_110 {M : ip_H} (h : ip_G M) : ip_sh M 110 = (1, 1, 9) := by unfold ip_sh; rw [h.1]; rfl
theorem gS_111 {M : ip_H} (h : ip_G M) : ip_sh M 111 = (1, 0, 7) := by unfold ip_sh; rw [h.1]; rfl
theorem gS_112 {M : ip_H} (h : ip_G M) : ip_sh M 112 = (1, 0, 6568) := by unfold ip_sh; rw [h.1]; rfl
theorem gS_113 {M : ip_H} (h : ip_G M) : ip_sh M 113 = (1, 0, 8) := by unfold ip_sh; rw [h.1]; rfl
theorem gS_114 {M : ip_H} (h : ip_G M) : ip_sh M 114 = (1, 0, 1642) := by unfold ip_sh; rw [h.1]; rfl
theorem gS_115 {M : ip_H} (h : ip_G M) : ip_sh M 115 = (1, 1, 72) := by unfold ip_sh; rw [h.1]; rfl
theorem gS_116 {M : ip_H} (h : ip_G M) : ip_sh M 116 = (1, 1, 18) := by unfold ip_sh; rw [h.1]; rfl
theorem gS_117 {M : ip_H} (h : ip_G M) : ip_sh M 117 = (1, 3, 2) := by unfold ip_sh; rw [h.1]; rfl
theorem gS_118 {M : ip_H} (h : ip_G M) : ip_sh M 118 = (1, 1, 9) := by unfold ip_sh; rw [h.1]; rfl
theorem gS_119 {M : ip_H} (h : ip_G M) : ip_sh M 119 = (1, 0, 8) := by unfold ip_sh; rw [h.1]; rfl
theorem gS_120 {M : ip_H} (h : ip_G M) : ip_sh M 120 = (1, 0, 200) := by unfold ip_sh; rw [h.1]; rfl
theorem gS_121 {M : ip_H} (h : ip_G M) : ip_sh M 121 = (1, 0, 120) := by unfold ip_sh; rw [h.1]; rfl
theorem gS_122 {M : ip_H} (h : ip_G M) : ip_sh M 122 = (1, 1, 200) := by unfold ip_sh; rw [h.1]; rfl
theorem gS_123 {M : ip_H} (h : ip_G M) : ip_sh M 123 = (1, 1, 9) := by unfold ip_sh; rw [h.1]; rfl
theorem gS_124 {M : ip_H} (h : ip_G M) : ip_sh M 124 = (1, 0, 4) := by unfold ip_sh; rw [h.1]; rfl
theorem gS_125 {M : ip_H} (h : ip_G M) : ip_sh M 125 = (1, 0, 4) := by unfold ip_sh; rw [h.1]; rfl
theorem gS_126 {M : ip_H} (h : ip_G M) : ip_sh M 126 = (1, 0, 821) := by unfold ip_sh; rw [h.1]; rfl
theorem gS_127 {M : ip_H} (h : ip_G M) : ip_sh M 127 = (1, 1, 9) := by unfold ip_sh; rw [h.1]; rfl
theorem gR_0_0 {M : ip_H} (h : ip_G M) : M.2.2.2 0 0 = some 1 := ip_gr h (by decide) (by decide) rfl
theorem gR_0_1 {M : ip_H} (h : ip_G M) : M.2.2.2 0 1 = some 5 := ip_gr h (by decide) (by decide) rfl
theorem gR_0_2 {M : ip_H} (h : ip_G M) : M.2.2.2 0 2 = some 6 := ip_gr h (by decide) (by decide) rfl
theorem gR_0_3 {M : ip_H} (h : ip_G M) : M.2.2.2 0 3 = some 17 := ip_gr h (by decide) (by decide) rfl
theorem gR_0_4 {M : ip_H} (h : ip_G M) : M.2.2.2 0 4 = some 19 := ip_gr h (by decide) (by decide) rfl
theorem gR_0_5 {M : ip_H} (h : ip_G M) : M.2.2.2 0 5 = some 23 := ip_gr h (by decide) (by decide) rfl
theorem gR_0_6 {M : ip_H} (h : ip_G M) : M.2.2.2 0 6 = some 78 := ip_gr h (by decide) (by decide) rfl
theorem gR_0_9 {M : ip_H} (h : ip_G M) : M.2.2.2 0 9 = some 91 := ip_gr h (by decide) (by decide) rfl
theorem gR_0_10 {M : ip_H} (h : ip_G M) : M.2.2.2 0 10 = some 95 := ip_gr h (by decide) (by decide) rfl
theorem gR_0_11 {M : ip_H} (h : ip_G M) : M.2.2.2 0 11 = some 97 := ip_gr h (by decide) (by decide) rfl
theorem gR_0_12 {M : ip_H} (h : ip_G M) : M.2.2.2 0 12 = some 100 := ip_gr h (by decide) (by decide) rfl
theorem gR_0_13 {M : ip_H} (h : ip_G M) : M.2.2.2 0 13 = some 101 := ip_gr h (by decide) (by decide) rfl
theorem gR_1_3 {M : ip_H} (h : ip_G M) : M.2.2.2 1 3 = some 2 := ip_gr h (by decide) (by decide) rfl
theorem gR_2_0 {M : ip_H} (h : ip_G M) : M.2.2.2 2 0 = some 3 := ip_gr h (by decide) (by decide) rfl
theorem gR_5_0 {M : ip_H} (h : ip_G M) : M.2.2.2 5 0 = some 102 := ip_gr h (by decide) (by decide) rfl
theorem gR_5_1 {M : ip_H} (h : ip_G M) : M.2.2.2 5 1 = some 103 := ip_gr h (by decide) (by decide) rfl
theorem gR_5_2 {M : ip_H} (h : ip_G M) : M.2.2.2 5 2 = some 104 := ip_gr h (by decide) (by decide) rfl
theorem gR_5_3 {M : ip_H} (h : ip_G M) : M.2.2.2 5 3 = some 105 := ip_gr h (by decide) (by decide) rfl
theorem gR_5_4 {M : ip_H} (h : ip_G M) : M.2.2.2 5 4 = some 106 := ip_gr h (by decide) (by decide) rfl
theorem gR_5_5 {M : ip_H} (h : ip_G M) : M.2.2.2 5 5 = some 107 := ip_gr h (by decide) (by decide) rfl
theorem gR_6_0 {M : ip_H} (h : ip_G M) : M.2.2.2 6 0 = some 7 := ip_gr h (by decide) (by decide) rfl
theorem gR_6_1 {M : ip_H} (h : ip_G M) : M.2.2.2 6 1 = some 8 := ip_gr h (by decide) (by decide) rfl
theorem gR_6_2 {M : ip_H} (h : ip_G M) : M.2.2.2 6 2 = some 9 := ip_gr h (by decide) (by decide) rfl
theorem gR_6_7 {M : ip_H} (h : ip_G M) : M.2.2.2 6 7 = some 11 := ip_gr h (by decide) (by decide) rfl
theorem gR_6_8 {M : ip_H} (h : ip_G M) : M.2.2.2 6 8 = some 13 := ip_gr h (by decide) (by decide) rfl
theorem gR_6_9 {M : ip_H} (h : ip_G M) : M.2.2.2 6 9 = some 14 := ip_gr h (by decide) (by decide) rfl
theorem gR_6_10 {M : ip_H} (h : ip_G M) : M.2.2.2 6 10 = some 15 := ip_gr h (by decide) (by decide) rfl
theorem gR_6_11 {M : ip_H} (h : ip_G M) : M.2.2.2 6 11 = some 16 := ip_gr h (by decide) (by decide) rfl
theorem gR_9_0 {M : ip_H} (h : ip_G M) : M.2.2.2 9 0 = some 10 := ip_gr h (by decide) (by decide) rfl
theorem gR_11_0 {M : ip_H} (h : ip_G M) : M.2.2.2 11 0 = some 12 := ip_gr h (by decide) (by decide) rfl
theorem gR_17_0 {M : ip_H} (h : ip_G M) : M.2.2.2 17 0 = some 18 := ip_gr h (by decide) (by decide) rfl
theorem gR_19_0 {M : ip_H} (h : ip_G M) : M.2.2.2 19 0 = some 20 := ip_gr h (by decide) (by decide) rfl
theorem gR_19_1 {M : ip_H} (h : ip_G M) : M.2.2.2 19 1 = some 21 := ip_gr h (by decide) (by decide) rfl
theorem gR_21_0 {M : ip_H} (h : ip_G M) : M.2.2.2 21 0 = some 22 := ip_gr h (by decide) (by decide) rfl
theorem gR_23_0 {M : ip_H} (h : ip_G M) : M.2.2.2 23 0 = some 24 := ip_gr h (by decide) (by decide) rfl
theorem gR_23_1 {M : ip_H} (h : ip_G M) : M.2.2.2 23 1 = some 25 := ip_gr h (by decide) (by decide) rfl
theorem gR_23_2 {M : ip_H} (h : ip_G M) : M.2.2.2 23 2 = some 26 := ip_gr h (by decide) (by decide) rfl
theorem gR_23_3 {M : ip_H} (h : ip_G M) : M.2.2.2 23 3 = some 27 := ip_gr h (by decide) (by decide) rfl
theorem gR_24_0 {M : ip_H} (h : ip_G M) : M.2.2.2 24 0 = some 28 := ip_gr h (by decide) (by decide) rfl
theorem gR_24_1 {M : ip_H} (h : ip_G M) : M.2.2.2 24 1 = some 33 := ip_gr h (by decide) (by decide) rfl
theorem gR_24_2 {M : ip_H} (h : ip_G M) : M.2.2.2 24 2 = some 38 := ip_gr h (by decide) (by decide) rfl
theorem gR_24_3 {M : ip_H} (h : ip_G M) : M.2.2.2 24 3 = some 43 := ip_gr h (by decide) (by decide) rfl
theorem gR_24_4 {M : ip_H} (h : ip_G M) : M.2.2.2 24 4 = some 48 := ip_gr h (by decide) (by decide) rfl
theorem gR_24_5 {M : ip_H} (h : ip_G M) : M.2.2.2 24 5 = some 53 := ip_gr h (by decide) (by decide) rfl
theorem gR_24_6 {M : ip_H} (h : ip_G M) : M.2.2.2 24 6 = some 58 := ip_gr h (by decide) (by decide) rfl
theorem gR_24_7 {M : ip_H} (h : ip_G M) : M.2.2.2 24 7 = some 63 := ip_gr h (by decide) (by decide) rfl
theorem gR_26_0 {M : ip_H} (h : ip_G M) : M.2.2.2 26 0 = some 68 := ip_gr h (by decide) (by decide) rfl
theorem gR_26_1 {M : ip_H} (h : ip_G M) : M.2.2.2 26 1 = some 73 := ip_gr h (by decide) (by decide) rfl
theorem gR_28_3 {M : ip_H} (h : ip_G M) : M.2.2.2 28 3 = some 29 := ip_gr h (by decide) (by decide) rfl
theorem gR_28_4 {M : ip_H} (h : ip_G M) : M.2.2.2 28 4 = some 30 := ip_gr h (by decide) (by decide) rfl
theorem gR_28_5 {M : ip_H} (h : ip_G M) : M.2.2.2 28 5 = some 32 := ip_gr h (by decide) (by decide) rfl
theorem gR_30_0 {M : ip_H} (h : ip_G M) : M.2.2.2 30 0 = some 31 := ip_gr h (by decide) (by decide) rfl
theorem gR_33_3 {M : ip_H} (h : ip_G M) : M.2.2.2 33 3 = some 34 := ip_gr h (by decide) (by decide) rfl
theorem gR_33_4 {M : ip_H} (h : ip_G M) : M.2.2.2 33 4 = some 35 := ip_gr h (by decide) (by decide) rfl
theorem gR_33_5 {M : ip_H} (h : ip_G M) : M.2.2.2 33 5 = some 37 := ip_gr h (by decide) (by decide) rfl
theorem gR_35_0 {M : ip_H} (h : ip_G M) : M.2.2.2 35 0 = some 36 := ip_gr h (by decide) (by decide) rfl
theorem gR_38_3 {M : ip_H} (h : ip_G M) : M.2.2.2 38 3 = some 39 := ip_gr h (by decide) (by decide) rfl
theorem gR_38_4 {M : ip_H} (h : ip_G M) : M.2.2.2 38 4 = some 40 := ip_gr h (by decide) (by decide) rfl
theorem gR_38_5 {M : ip_H} (h : ip_G M) : M.2.2.2 38 5 = some 42 := ip_gr h (by decide) (by decide) rfl
theorem gR_40_0 {M : ip_H} (h : ip_G M) : M.2.2.2 40 0 = some 41 := ip_gr h (by decide) (by decide) rfl
theorem gR_43_3 {M : ip_H} (h : ip_G M) : M.2.2.2 43 3 = some 44 := ip_gr h (by decide) (by decide) rfl
theorem gR_43_4 {M : ip_H} (h : ip_G M) : M.2.2.2 43 4 = some 45 := ip_gr h (by decide) (by decide) rfl
theorem gR_43_5 {M : ip_H} (h : ip_G M) : M.2.2.2 43 5 = some 47 := ip_gr h (by decide) (by decide) rfl
theorem gR_45_0 {M : ip_H} (h : ip_G M) : M.2.2.2 45 0 = some 46 := ip_gr h (by decide) (by decide) rfl
theorem gR_48_3 {M : ip_H} (h : ip_G M) : M.2.2.2 48 3 = some 49 := ip_gr h (by decide) (by decide) rfl
theorem gR_48_4 {M : ip_H} (h : ip_G M) : M.2.2.2 48 4 = some 50 := ip_gr h (by decide) (by decide) rfl
theorem gR_48_5 {M : ip_H} (h : ip_G M) : M.2.2.2 48 5 = some 52 := ip_gr h (by decide) (by decide) rfl
theorem gR_50_0 {M : ip_H} (h : ip_G M) : M.2.2.2 50 0 = some 51 := ip_gr h (by decide) (by decide) rfl
theorem gR_53_3 {M : ip_H} (h : ip_G M) : M.2.2.2 53 3 = some 54 := ip_gr h (by decide) (by decide) rfl
theorem gR_53_4 {M : ip_H} (h : ip_G M) : M.2.2.2 53 4 = some 55 := ip_gr h (by decide) (by decide) rfl
theorem gR_53_5 {M : ip_H} (h : ip_G M) : M.2.2.2 53 5 = some 57 := ip_gr h (by decide) (by decide) rfl
theorem gR_55_0 {M : ip_H} (h : ip_G M) : M.2.2.2 55 0 = some 56 := ip_gr h (by decide) (by decide) rfl
theorem gR_58_3 {M : ip_H} (h : ip_G M) : M.2.2.2 58 3 = some 59 := ip_gr h (by decide) (by decide) rfl
theorem gR_58_4 {M : ip_H} (h : ip_G M) : M.2.2.2 58 4 = some 60 := ip_gr h (by decide) (by decide) rfl
theorem gR_58_5 {M : ip_H} (h : ip_G M) : M.2.2.2 58 5 = some 62 := ip_gr h (by decide) (by decide) rfl
theorem gR_60_0 {M : ip_H} (h : ip_G M) : M.2.2.2 60 0 = some 61 := ip_gr h (by decide) (by decide) rfl
theorem gR_63_3 {M : ip_H} (h : ip_G M) : M.2.2.2 63 3 = some 64 := ip_gr h (by decide) (by decide) rfl
theorem gR_63_4 {M : ip_H} (h : ip_G M) : M.2.2.2 63 4 = some 65 := ip_gr h (by decide) (by decide) rfl
theorem gR_63_5 {M : ip_H} (h : ip_G M) : M.2.2.2 63 5 = some 67 := ip_gr h (by decide) (by decide) rfl
theorem gR_65_0 {M : ip_H} (h : ip_G M) : M.2.2.2 65 0 = some 66 := ip_gr h (by decide) (by decide) rfl
theorem gR_68_3 {M : ip_H} (h : ip_G M) : M.2.2.2 68 3 = some 69 := ip_gr h (by decide) (by decide) rfl
theorem gR_68_4 {M : ip_H} (h : ip_G M) : M.2.2.2 68 4 = some 70 := ip_gr h (by decide) (by decide) rfl
theorem gR_68_5 {M : ip_H} (h : ip_G M) : M.2.2.2 68 5 = some 72 := ip_gr h (by decide) (by decide) rfl
theorem gR_70_0 {M : ip_H} (h : ip_G M) : M.2.2.2 70 0 = some 71 := ip_gr h (by decide) (by decide) rfl
theorem gR_73_3 {M : ip_H} (h : ip_G M) : M.2.2.2 73 3 = some 74 := ip_gr h (by decide) (by decide) rfl
theorem gR_73_4 {M : ip_H} (h : ip_G M) : M.2.2.2 73 4 = some 75 := ip_gr h (by decide) (by decide) rfl
theorem gR_73_5 {M : ip_H} (h : ip_G M) : M.2.2.2 73 5 = some 77 := ip_gr h (by decide) (by decide) rfl
theorem gR_75_0 {M : ip_H} (h : ip_G M) : M.2.2.2 75 0 = some 76 := ip_gr h (by decide) (by decide) rfl
theorem gR_78_0 {M : ip_H} (h : ip_G M) : M.2.2.2 78 0 = some 79 := ip_gr h (by decide) (by decide) rfl
theorem gR_91_3 {M : ip_H} (h : ip_G M) : M.2.2.2 91 3 = some 92 := ip_gr h (by decide) (by decide) rfl
theorem gR_91_4 {M : ip_H} (h : ip_G M) : M.2.2.2 91 4 = some 94 := ip_gr h (by decide) (by decide) rfl
theorem gR_92_0 {M : ip_H} (h : ip_G M) : M.2.2.2 92 0 = some 93 := ip_gr h (by decide) (by decide) rfl
theorem gR_95_0 {M : ip_H} (h : ip_G M) : M.2.2.2 95 0 = some 96 := ip_gr h (by decide) (by decide) rfl
theorem gR_108_1 {M : ip_H} (h : ip_G M) : M.2.2.2 108 1 = some 109 := ip_gr h (by decide) (by decide) rfl
theorem gR_108_2 {M : ip_H} (h : ip_G M) : M.2.2.2 108 2 = some 110 := ip_gr h (by decide) (by decide) rfl
theorem gR_108_5 {M : ip_H} (h : ip_G M) : M.2.2.2 108 5 = some 111 := ip_gr h (by decide) (by decide) rfl
theorem gR_108_6 {M : ip_H} (h : ip_G M) : M.2.2.2 108 6 = some 112 := ip_gr h (by decide) (by decide) rfl
theorem gR_108_7 {M : ip_H} (h : ip_G M) : M.2.2.2 108 7 = some 113 := ip_gr h (by decide) (by decide) rfl
theorem gR_108_8 {M : ip_H} (h : ip_G M) : M.2.2.2 108 8 = some 114 := ip_gr h (by decide) (by decide) rfl
theorem gR_108_9 {M : ip_H} (h : ip_G M) : M.2.2.2 108 9 = some 115 := ip_gr h (by decide) (by decide) rfl
theorem gR_108_10 {M : ip_H} (h : ip_G M) : M.2.2.2 108 10 = some 116 := ip_gr h (by decide) (by decide) rfl
theorem gR_108_11 {M : ip_H} (h : ip_G M) : M.2.2.2 108 11 = some 117 := ip_gr h (by decide) (by decide) rfl
theorem gR_108_28 {M : ip_H} (h : ip_G M) : M.2.2.2 108 28 = some 118 := ip_gr h (by decide) (by decide) rfl
theorem gR_108_30 {M : ip_H} (h : ip_G M) : M.2.2.2 108 30 = some 119 := ip_gr h (by decide) (by decide) rfl
theorem gR_108_31 {M : ip_H} (h : ip_G M) : M.2.2.2 108 31 = some 120 := ip_gr h (by decide) (by decide) rfl
theorem gR_108_39 {M : ip_H} (h : ip_G M) : M.2.2.2 108 39 = some 121 := ip_gr h (by decide) (by decide) rfl
theorem gR_108_42 {M : ip_H} (h : ip_G M) : M.2.2.2 108 42 = some 122 := ip_gr h (by decide) (by decide) rfl
theorem gR_108_43 {M : ip_H} (h : ip_G M) : M.2.2.2 108 43 = some 123 := ip_gr h (by decide) (by decide) rfl
theorem gR_108_44 {M : ip_H} (h : ip_G M) : M.2.2.2 108 44 = some 124 := ip_gr h (by decide) (by decide) rfl
theorem gR_108_45 {M : ip_H} (h : ip_G M) : M.2.2.2 108 45 = some 125 := ip_gr h (by decide) (by decide) rfl
theorem gR_108_46 {M : ip_H} (h : ip_G M) : M.2.2.2 108 46 = some 126 := ip_gr h (by decide) (by decide) rfl
theorem gR_108_47 {M : ip_H} (h : ip_G M) : M.2.2.2 108 47 = some 127 := ip_gr h (by decide) (by decide) rfl
theorem ip_G_uI (M : ip_H) (k j : Nat) (x : Int32) : ip_G (ip_uI M k j x) = ip_G M := rfl
theorem ip_G_uL (M : ip_H) (k j : Nat) (x : Int64) : ip_G (ip_uL M k j x) = ip_G M := rfl
theorem ip_G_cpI (M : ip_H) (a b c d n : Nat) : ip_G (ip_cpI M a b c d n) = ip_G M := rfl
theorem ip_G_cpL (M : ip_H) (a b c d n : Nat) : ip_G (ip_cpL M a b c d n) = ip_G M := rfl
theorem ip_cpI_I (M : ip_H) (a b c d n p q : Nat) : (ip_cpI M a b c d n).2.1 p q = if p = b then va_cpy (M.2.1 a) (M.2.1 b) c d n q else M.2.1 p q := by
  unfold ip_cpI
  by_cases h : p = b
  · simp only [h, if_true]
  · simp only [h, if_false]
theorem ip_cpI_L (M : ip_H) (a b c d n : Nat) : (ip_cpI M a b c d n).2.2.1 = M.2.2.1 := rfl
theorem ip_cpI_R (M : ip_H) (a b c d n : Nat) : (ip_cpI M a b c d n).2.2.2 = M.2.2.2 := rfl
theorem ip_cpI_sh (M : ip_H) (a b c d n p : Nat) : ip_sh (ip_cpI M a b c d n) p = ip_sh M p := rfl
theorem ip_cpL_I (M : ip_H) (a b c d n : Nat) : (ip_cpL M a b c d n).2.1 = M.2.1 := rfl
theorem ip_cpL_L (M : ip_H) (a b c d n p q : Nat) : (ip_cpL M a b c d n).2.2.1 p q = if p = b then va_cpy (M.2.2.1 a) (M.2.2.1 b) c d n q else M.2.2.1 p q := by
  unfold ip_cpL
  by_cases h : p = b
  · simp only [h, if_true]
  · simp only [h, if_false]
theorem ip_cpL_R (M : ip_H) (a b c d n : Nat) : (ip_cpL M a b c d n).2.2.2 = M.2.2.2 := rfl
theorem ip_cpL_sh (M : ip_H) (a b c d n p : Nat) : ip_sh (ip_cpL M a b c d n) p = ip_sh M p := rfl
theorem ip_vr_some (k : Nat) : ip_vr (some k) = .ref k := rfl
end
