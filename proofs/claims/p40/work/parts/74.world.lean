/-! the whole world behind both constructors (laid by wip/gen/mk74.py) -/
def gsZ (k : Nat) : Nat := [8, 7, 0, 0, 0, 0, 0, 0, 7, 0, 0, 0, 0, 0, 0, 3, 7, 0, 0, 0, 0, 0, 0, 7, 0, 0, 0, 0, 0, 0, 2, 6, 1, 4, 5, 0, 5, 0, 5, 0, 5, 0, 0, 0, 0, 9, 0, 0, 0, 0, 0, 0, 0, 0, 2, 0, 0, 0].getD k 0
def glZ (k : Nat) : Nat := [0, 0, 4, 4, 12, 5, 5, 12, 0, 4, 4, 12, 5, 5, 12, 2, 0, 4, 4, 12, 5, 5, 12, 0, 4, 4, 12, 5, 5, 12, 2, 0, 160, 4, 0, 40, 0, 40, 0, 40, 0, 40, 6, 6, 7, 0, 132, 33, 160, 9, 42, 48, 12, 35, 2, 4, 4, 160].getD k 0
def grZ (k j : Nat) : Nat := if k = 0 then [1, 8, 15, 30, 31, 33, 42, 43, 44].getD j 0 else if k = 15 then (if j = 0 then 16 else 23) else if k = 33 then [34, 36, 38].getD j 40 else if k = 45 then [46, 0, 47, 0, 0, 0, 0, 48, 0, 0, 0, 0, 0, 0, 0, 0, 49, 50, 51, 0, 52, 0, 53, 0, 54, 55, 56, 57, 0].getD j 0 else k + j + 1
def gaZ (G : zG) (b a1 a2 a3 a4 a5 a6 a7 a8 a9 y : Nat → Nat) (k : Nat) : Nat := if k < 58 then [b 0, a1 0, a1 1, a1 2, a1 3, a1 4, a1 5, a1 6, a2 0, a2 1, a2 2, a2 3, a2 4, a2 5, a2 6, b 1, a4 0, a4 1, a4 2, a4 3, a4 4, a4 5, a4 6, a5 0, a5 1, a5 2, a5 3, a5 4, a5 5, a5 6, b 2, a3 0, a3 1, b 3, a6 0, a6 1, a7 0, a7 1, a8 0, a8 1, a9 0, a9 1, b 4, b 5, b 6, y 0, y 1, y 2, y 3, y 4, y 5, y 6, y 7, y 8, y 9, y 10, y 11, y 12].getD k 0 else ga G k
def GZ (G : zG) (b a1 a2 a3 a4 a5 a6 a7 a8 a9 y : Nat → Nat) : zG := (gD G, gC G, 58, gaZ G b a1 a2 a3 a4 a5 a6 a7 a8 a9 y, gsZ, glZ, grZ)
def fcu : Nat → Int32 := (upd (upd (upd (upd (upd (upd (upd (upd (upd (fun _ => 0) 0 (Int32.ofInt (0))) 1 (Int32.ofInt (7))) 2 (Int32.ofInt (14))) 3 (Int32.ofInt (19))) 4 (Int32.ofInt (24))) 5 (Int32.ofInt (29))) 6 (Int32.ofInt (33))) 7 (Int32.ofInt (37))) 8 (Int32.ofInt (42)))
def fle : Nat → Int32 := (upd (upd (upd (upd (upd (upd (upd (upd (upd (upd (upd (upd (upd (upd (upd (upd (upd (upd (upd (upd (upd (upd (upd (upd (upd (upd (upd (upd (upd (upd (upd (upd (upd (upd (upd (upd (upd (upd (upd (upd (upd (upd (fun _ => 0) 0 (Int32.ofInt (117))) 1 (Int32.ofInt (112))) 2 (Int32.ofInt (114))) 3 (Int32.ofInt (105))) 4 (Int32.ofInt (103))) 5 (Int32.ofInt (104))) 6 (Int32.ofInt (116))) 7 (Int32.ofInt (115))) 8 (Int32.ofInt (116))) 9 (Int32.ofInt (111))) 10 (Int32.ofInt (111))) 11 (Int32.ofInt (112))) 12 (Int32.ofInt (101))) 13 (Int32.ofInt (100))) 14 (Int32.ofInt (116))) 15 (Int32.ofInt (105))) 16 (Int32.ofInt (114))) 17 (Int32.ofInt (101))) 18 (Int32.ofInt (100))) 19 (Int32.ofInt (108))) 20 (Int32.ofInt (111))) 21 (Int32.ofInt (118))) 22 (Int32.ofInt (101))) 23 (Int32.ofInt (114))) 24 (Int32.ofInt (99))) 25 (Int32.ofInt (108))) 26 (Int32.ofInt (111))) 27 (Int32.ofInt (117))) 28 (Int32.ofInt (100))) 29 (Int32.ofInt (100))) 30 (Int32.ofInt (101))) 31 (Int32.ofInt (101))) 32 (Int32.ofInt (100))) 33 (Int32.ofInt (114))) 34 (Int32.ofInt (111))) 35 (Int32.ofInt (116))) 36 (Int32.ofInt (97))) 37 (Int32.ofInt (112))) 38 (Int32.ofInt (97))) 39 (Int32.ofInt (105))) 40 (Int32.ofInt (110))) 41 (Int32.ofInt (116)))
def fla : Nat → Int32 := (upd (upd (upd (upd (fun _ => 0) 0 (Int32.ofInt (-4))) 1 (Int32.ofInt (-4))) 2 (Int32.ofInt (-4))) 3 (Int32.ofInt (-4)))
def hZ : zH := fun k j => if 1 ≤ k ∧ k ≤ 7 then hT0 (k - 1) j else if 8 ≤ k ∧ k ≤ 14 then hT0 (k - 8) j else if 16 ≤ k ∧ k ≤ 22 then hT0 (k - 16) j else if 23 ≤ k ∧ k ≤ 29 then hT0 (k - 23) j
  else if k = 49 then (fcu j).toInt else if k = 50 then (fle j).toInt else if k = 55 then (fla j).toInt else if (k = 34 ∨ k = 36 ∨ k = 38 ∨ k = 40) ∧ j = 1 then -1 else 0
theorem fn_o {f : Nat → Int32} : (fun j => Int32.ofInt (f j).toInt) = f := by funext j; exact Int32.ofInt_toInt _
section ZW
variable {G : zG} {b a1 a2 a3 a4 a5 a6 a7 a8 a9 y : Nat → Nat}
theorem zE_0 : (wSunF G b a1 a2 a3 a4 a5 a6 a7 a8 a9)[0]? = some (ga (GZ G b a1 a2 a3 a4 a5 a6 a7 a8 a9 y) 0, ceOf (GZ G b a1 a2 a3 a4 a5 a6 a7 a8 a9 y) hZ 0) := rfl
theorem zE_1 : (wSunF G b a1 a2 a3 a4 a5 a6 a7 a8 a9)[1]? = some (ga (GZ G b a1 a2 a3 a4 a5 a6 a7 a8 a9 y) 1, ceOf (GZ G b a1 a2 a3 a4 a5 a6 a7 a8 a9 y) hZ 1) := ga_c (ga_l (ga_l (ga_l (ga_l (ga_l (ga_l (ga_l (ga_l (ga_l (ga_l (ga_l (ga_l (ga_l (ga_l (ga_r (n := 0) (k := 0) (by simp [wTown_len, wTape_len, wSheet_len]) rfl)))))))))))))))
theorem zE_2 : (wSunF G b a1 a2 a3 a4 a5 a6 a7 a8 a9)[2]? = some (ga (GZ G b a1 a2 a3 a4 a5 a6 a7 a8 a9 y) 2, ceOf (GZ G b a1 a2 a3 a4 a5 a6 a7 a8 a9 y) hZ 2) := ga_c (ga_l (ga_l (ga_l (ga_l (ga_l (ga_l (ga_l (ga_l (ga_l (ga_l (ga_l (ga_l (ga_l (ga_l (ga_r (n := 0) (k := 1) (by simp [wTown_len, wTape_len, wSheet_len]) rfl)))))))))))))))
theorem zE_3 : (wSunF G b a1 a2 a3 a4 a5 a6 a7 a8 a9)[3]? = some (ga (GZ G b a1 a2 a3 a4 a5 a6 a7 a8 a9 y) 3, ceOf (GZ G b a1 a2 a3 a4 a5 a6 a7 a8 a9 y) hZ 3) := ga_c (ga_l (ga_l (ga_l (ga_l (ga_l (ga_l (ga_l (ga_l (ga_l (ga_l (ga_l (ga_l (ga_l (ga_l (ga_r (n := 0) (k := 2) (by simp [wTown_len, wTape_len, wSheet_len]) rfl)))))))))))))))
theorem zE_4 : (wSunF G b a1 a2 a3 a4 a5 a6 a7 a8 a9)[4]? = some (ga (GZ G b a1 a2 a3 a4 a5 a6 a7 a8 a9 y) 4, ceOf (GZ G b a1 a2 a3 a4 a5 a6 a7 a8 a9 y) hZ 4) := ga_c (ga_l (ga_l (ga_l (ga_l (ga_l (ga_l (ga_l (ga_l (ga_l (ga_l (ga_l (ga_l (ga_l (ga_l (ga_r (n := 0) (k := 3) (by simp [wTown_len, wTape_len, wSheet_len]) rfl)))))))))))))))
theorem zE_5 : (wSunF G b a1 a2 a3 a4 a5 a6 a7 a8 a9)[5]? = some (ga (GZ G b a1 a2 a3 a4 a5 a6 a7 a8 a9 y) 5, ceOf (GZ G b a1 a2 a3 a4 a5 a6 a7 a8 a9 y) hZ 5) := ga_c (ga_l (ga_l (ga_l (ga_l (ga_l (ga_l (ga_l (ga_l (ga_l (ga_l (ga_l (ga_l (ga_l (ga_l (ga_r (n := 0) (k := 4) (by simp [wTown_len, wTape_len, wSheet_len]) rfl)))))))))))))))
theorem zE_6 : (wSunF G b a1 a2 a3 a4 a5 a6 a7 a8 a9)[6]? = some (ga (GZ G b a1 a2 a3 a4 a5 a6 a7 a8 a9 y) 6, ceOf (GZ G b a1 a2 a3 a4 a5 a6 a7 a8 a9 y) hZ 6) := ga_c (ga_l (ga_l (ga_l (ga_l (ga_l (ga_l (ga_l (ga_l (ga_l (ga_l (ga_l (ga_l (ga_l (ga_l (ga_r (n := 0) (k := 5) (by simp [wTown_len, wTape_len, wSheet_len]) rfl)))))))))))))))
theorem zE_7 : (wSunF G b a1 a2 a3 a4 a5 a6 a7 a8 a9)[7]? = some (ga (GZ G b a1 a2 a3 a4 a5 a6 a7 a8 a9 y) 7, ceOf (GZ G b a1 a2 a3 a4 a5 a6 a7 a8 a9 y) hZ 7) := ga_c (ga_l (ga_l (ga_l (ga_l (ga_l (ga_l (ga_l (ga_l (ga_l (ga_l (ga_l (ga_l (ga_l (ga_l (ga_r (n := 0) (k := 6) (by simp [wTown_len, wTape_len, wSheet_len]) rfl)))))))))))))))
theorem zE_8 : (wSunF G b a1 a2 a3 a4 a5 a6 a7 a8 a9)[8]? = some (ga (GZ G b a1 a2 a3 a4 a5 a6 a7 a8 a9 y) 8, ceOf (GZ G b a1 a2 a3 a4 a5 a6 a7 a8 a9 y) hZ 8) := ga_c (ga_l (ga_l (ga_l (ga_l (ga_l (ga_l (ga_l (ga_l (ga_l (ga_l (ga_l (ga_l (ga_l (ga_r (n := 7) (k := 0) (by simp [wTown_len, wTape_len, wSheet_len]) rfl))))))))))))))
theorem zE_9 : (wSunF G b a1 a2 a3 a4 a5 a6 a7 a8 a9)[9]? = some (ga (GZ G b a1 a2 a3 a4 a5 a6 a7 a8 a9 y) 9, ceOf (GZ G b a1 a2 a3 a4 a5 a6 a7 a8 a9 y) hZ 9) := ga_c (ga_l (ga_l (ga_l (ga_l (ga_l (ga_l (ga_l (ga_l (ga_l (ga_l (ga_l (ga_l (ga_l (ga_r (n := 7) (k := 1) (by simp [wTown_len, wTape_len, wSheet_len]) rfl))))))))))))))
theorem zE_10 : (wSunF G b a1 a2 a3 a4 a5 a6 a7 a8 a9)[10]? = some (ga (GZ G b a1 a2 a3 a4 a5 a6 a7 a8 a9 y) 10, ceOf (GZ G b a1 a2 a3 a4 a5 a6 a7 a8 a9 y) hZ 10) := ga_c (ga_l (ga_l (ga_l (ga_l (ga_l (ga_l (ga_l (ga_l (ga_l (ga_l (ga_l (ga_l (ga_l (ga_r (n := 7) (k := 2) (by simp [wTown_len, wTape_len, wSheet_len]) rfl))))))))))))))
theorem zE_11 : (wSunF G b a1 a2 a3 a4 a5 a6 a7 a8 a9)[11]? = some (ga (GZ G b a1 a2 a3 a4 a5 a6 a7 a8 a9 y) 11, ceOf (GZ G b a1 a2 a3 a4 a5 a6 a7 a8 a9 y) hZ 11) := ga_c (ga_l (ga_l (ga_l (ga_l (ga_l (ga_l (ga_l (ga_l (ga_l (ga_l (ga_l (ga_l (ga_l (ga_r (n := 7) (k := 3) (by simp [wTown_len, wTape_len, wSheet_len]) rfl))))))))))))))
theorem zE_12 : (wSunF G b a1 a2 a3 a4 a5 a6 a7 a8 a9)[12]? = some (ga (GZ G b a1 a2 a3 a4 a5 a6 a7 a8 a9 y) 12, ceOf (GZ G b a1 a2 a3 a4 a5 a6 a7 a8 a9 y) hZ 12) := ga_c (ga_l (ga_l (ga_l (ga_l (ga_l (ga_l (ga_l (ga_l (ga_l (ga_l (ga_l (ga_l (ga_l (ga_r (n := 7) (k := 4) (by simp [wTown_len, wTape_len, wSheet_len]) rfl))))))))))))))
theorem zE_13 : (wSunF G b a1 a2 a3 a4 a5 a6 a7 a8 a9)[13]? = some (ga (GZ G b a1 a2 a3 a4 a5 a6 a7 a8 a9 y) 13, ceOf (GZ G b a1 a2 a3 a4 a5 a6 a7 a8 a9 y) hZ 13) := ga_c (ga_l (ga_l (ga_l (ga_l (ga_l (ga_l (ga_l (ga_l (ga_l (ga_l (ga_l (ga_l (ga_l (ga_r (n := 7) (k := 5) (by simp [wTown_len, wTape_len, wSheet_len]) rfl))))))))))))))
theorem zE_14 : (wSunF G b a1 a2 a3 a4 a5 a6 a7 a8 a9)[14]? = some (ga (GZ G b a1 a2 a3 a4 a5 a6 a7 a8 a9 y) 14, ceOf (GZ G b a1 a2 a3 a4 a5 a6 a7 a8 a9 y) hZ 14) := ga_c (ga_l (ga_l (ga_l (ga_l (ga_l (ga_l (ga_l (ga_l (ga_l (ga_l (ga_l (ga_l (ga_l (ga_r (n := 7) (k := 6) (by simp [wTown_len, wTape_len, wSheet_len]) rfl))))))))))))))
theorem zE_16 : (wSunF G b a1 a2 a3 a4 a5 a6 a7 a8 a9)[23]? = some (ga (GZ G b a1 a2 a3 a4 a5 a6 a7 a8 a9 y) 16, ceOf (GZ G b a1 a2 a3 a4 a5 a6 a7 a8 a9 y) hZ 16) := ga_c (ga_l (ga_l (ga_l (ga_l (ga_l (ga_r (n := 22) (k := 0) (by simp [wTown_len, wTape_len, wSheet_len]) rfl))))))
theorem zE_17 : (wSunF G b a1 a2 a3 a4 a5 a6 a7 a8 a9)[24]? = some (ga (GZ G b a1 a2 a3 a4 a5 a6 a7 a8 a9 y) 17, ceOf (GZ G b a1 a2 a3 a4 a5 a6 a7 a8 a9 y) hZ 17) := ga_c (ga_l (ga_l (ga_l (ga_l (ga_l (ga_r (n := 22) (k := 1) (by simp [wTown_len, wTape_len, wSheet_len]) rfl))))))
theorem zE_18 : (wSunF G b a1 a2 a3 a4 a5 a6 a7 a8 a9)[25]? = some (ga (GZ G b a1 a2 a3 a4 a5 a6 a7 a8 a9 y) 18, ceOf (GZ G b a1 a2 a3 a4 a5 a6 a7 a8 a9 y) hZ 18) := ga_c (ga_l (ga_l (ga_l (ga_l (ga_l (ga_r (n := 22) (k := 2) (by simp [wTown_len, wTape_len, wSheet_len]) rfl))))))
theorem zE_19 : (wSunF G b a1 a2 a3 a4 a5 a6 a7 a8 a9)[26]? = some (ga (GZ G b a1 a2 a3 a4 a5 a6 a7 a8 a9 y) 19, ceOf (GZ G b a1 a2 a3 a4 a5 a6 a7 a8 a9 y) hZ 19) := ga_c (ga_l (ga_l (ga_l (ga_l (ga_l (ga_r (n := 22) (k := 3) (by simp [wTown_len, wTape_len, wSheet_len]) rfl))))))
theorem zE_20 : (wSunF G b a1 a2 a3 a4 a5 a6 a7 a8 a9)[27]? = some (ga (GZ G b a1 a2 a3 a4 a5 a6 a7 a8 a9 y) 20, ceOf (GZ G b a1 a2 a3 a4 a5 a6 a7 a8 a9 y) hZ 20) := ga_c (ga_l (ga_l (ga_l (ga_l (ga_l (ga_r (n := 22) (k := 4) (by simp [wTown_len, wTape_len, wSheet_len]) rfl))))))
theorem zE_21 : (wSunF G b a1 a2 a3 a4 a5 a6 a7 a8 a9)[28]? = some (ga (GZ G b a1 a2 a3 a4 a5 a6 a7 a8 a9 y) 21, ceOf (GZ G b a1 a2 a3 a4 a5 a6 a7 a8 a9 y) hZ 21) := ga_c (ga_l (ga_l (ga_l (ga_l (ga_l (ga_r (n := 22) (k := 5) (by simp [wTown_len, wTape_len, wSheet_len]) rfl))))))
theorem zE_22 : (wSunF G b a1 a2 a3 a4 a5 a6 a7 a8 a9)[29]? = some (ga (GZ G b a1 a2 a3 a4 a5 a6 a7 a8 a9 y) 22, ceOf (GZ G b a1 a2 a3 a4 a5 a6 a7 a8 a9 y) hZ 22) := ga_c (ga_l (ga_l (ga_l (ga_l (ga_l (ga_r (n := 22) (k := 6) (by simp [wTown_len, wTape_len, wSheet_len]) rfl))))))
theorem zE_23 : (wSunF G b a1 a2 a3 a4 a5 a6 a7 a8 a9)[30]? = some (ga (GZ G b a1 a2 a3 a4 a5 a6 a7 a8 a9 y) 23, ceOf (GZ G b a1 a2 a3 a4 a5 a6 a7 a8 a9 y) hZ 23) := ga_c (ga_l (ga_l (ga_l (ga_l (ga_r (n := 29) (k := 0) (by simp [wTown_len, wTape_len, wSheet_len]) rfl)))))
theorem zE_24 : (wSunF G b a1 a2 a3 a4 a5 a6 a7 a8 a9)[31]? = some (ga (GZ G b a1 a2 a3 a4 a5 a6 a7 a8 a9 y) 24, ceOf (GZ G b a1 a2 a3 a4 a5 a6 a7 a8 a9 y) hZ 24) := ga_c (ga_l (ga_l (ga_l (ga_l (ga_r (n := 29) (k := 1) (by simp [wTown_len, wTape_len, wSheet_len]) rfl)))))
theorem zE_25 : (wSunF G b a1 a2 a3 a4 a5 a6 a7 a8 a9)[32]? = some (ga (GZ G b a1 a2 a3 a4 a5 a6 a7 a8 a9 y) 25, ceOf (GZ G b a1 a2 a3 a4 a5 a6 a7 a8 a9 y) hZ 25) := ga_c (ga_l (ga_l (ga_l (ga_l (ga_r (n := 29) (k := 2) (by simp [wTown_len, wTape_len, wSheet_len]) rfl)))))
theorem zE_26 : (wSunF G b a1 a2 a3 a4 a5 a6 a7 a8 a9)[33]? = some (ga (GZ G b a1 a2 a3 a4 a5 a6 a7 a8 a9 y) 26, ceOf (GZ G b a1 a2 a3 a4 a5 a6 a7 a8 a9 y) hZ 26) := ga_c (ga_l (ga_l (ga_l (ga_l (ga_r (n := 29) (k := 3) (by simp [wTown_len, wTape_len, wSheet_len]) rfl)))))
theorem zE_27 : (wSunF G b a1 a2 a3 a4 a5 a6 a7 a8 a9)[34]? = some (ga (GZ G b a1 a2 a3 a4 a5 a6 a7 a8 a9 y) 27, ceOf (GZ G b a1 a2 a3 a4 a5 a6 a7 a8 a9 y) hZ 27) := ga_c (ga_l (ga_l (ga_l (ga_l (ga_r (n := 29) (k := 4) (by simp [wTown_len, wTape_len, wSheet_len]) rfl)))))
theorem zE_28 : (wSunF G b a1 a2 a3 a4 a5 a6 a7 a8 a9)[35]? = some (ga (GZ G b a1 a2 a3 a4 a5 a6 a7 a8 a9 y) 28, ceOf (GZ G b a1 a2 a3 a4 a5 a6 a7 a8 a9 y) hZ 28) := ga_c (ga_l (ga_l (ga_l (ga_l (ga_r (n := 29) (k := 5) (by simp [wTown_len, wTape_len, wSheet_len]) rfl)))))
theorem zE_29 : (wSunF G b a1 a2 a3 a4 a5 a6 a7 a8 a9)[36]? = some (ga (GZ G b a1 a2 a3 a4 a5 a6 a7 a8 a9 y) 29, ceOf (GZ G b a1 a2 a3 a4 a5 a6 a7 a8 a9 y) hZ 29) := ga_c (ga_l (ga_l (ga_l (ga_l (ga_r (n := 29) (k := 6) (by simp [wTown_len, wTape_len, wSheet_len]) rfl)))))
theorem zE_30 : (wSunF G b a1 a2 a3 a4 a5 a6 a7 a8 a9)[16]? = some (ga (GZ G b a1 a2 a3 a4 a5 a6 a7 a8 a9 y) 30, ceOf (GZ G b a1 a2 a3 a4 a5 a6 a7 a8 a9 y) hZ 30) := ga_c (ga_l (ga_l (ga_l (ga_l (ga_l (ga_l (ga_l (ga_l (ga_l (ga_l (ga_l (ga_r (n := 15) (k := 0) (by simp [wTown_len, wTape_len, wSheet_len]) rfl))))))))))))
theorem zE_31 : (wSunF G b a1 a2 a3 a4 a5 a6 a7 a8 a9)[17]? = some (ga (GZ G b a1 a2 a3 a4 a5 a6 a7 a8 a9 y) 31, ceOf (GZ G b a1 a2 a3 a4 a5 a6 a7 a8 a9 y) hZ 31) := ga_c (ga_l (ga_l (ga_l (ga_l (ga_l (ga_l (ga_l (ga_l (ga_l (ga_l (ga_r (n := 16) (k := 0) (by simp [wTown_len, wTape_len, wSheet_len]) rfl)))))))))))
theorem zE_32 : (wSunF G b a1 a2 a3 a4 a5 a6 a7 a8 a9)[18]? = some (ga (GZ G b a1 a2 a3 a4 a5 a6 a7 a8 a9 y) 32, ceOf (GZ G b a1 a2 a3 a4 a5 a6 a7 a8 a9 y) hZ 32) := ga_c (ga_l (ga_l (ga_l (ga_l (ga_l (ga_l (ga_l (ga_l (ga_l (ga_l (ga_r (n := 16) (k := 1) (by simp [wTown_len, wTape_len, wSheet_len]) rfl)))))))))))
theorem zE_34 : (wSunF G b a1 a2 a3 a4 a5 a6 a7 a8 a9)[37]? = some (ga (GZ G b a1 a2 a3 a4 a5 a6 a7 a8 a9 y) 34, ceOf (GZ G b a1 a2 a3 a4 a5 a6 a7 a8 a9 y) hZ 34) := ga_c (ga_l (ga_l (ga_l (ga_r (n := 36) (k := 0) (by simp [wTown_len, wTape_len, wSheet_len]) rfl))))
theorem zE_35 : (wSunF G b a1 a2 a3 a4 a5 a6 a7 a8 a9)[38]? = some (ga (GZ G b a1 a2 a3 a4 a5 a6 a7 a8 a9 y) 35, ceOf (GZ G b a1 a2 a3 a4 a5 a6 a7 a8 a9 y) hZ 35) := ga_c (ga_l (ga_l (ga_l (ga_r (n := 36) (k := 1) (by simp [wTown_len, wTape_len, wSheet_len]) rfl))))
theorem zE_36 : (wSunF G b a1 a2 a3 a4 a5 a6 a7 a8 a9)[39]? = some (ga (GZ G b a1 a2 a3 a4 a5 a6 a7 a8 a9 y) 36, ceOf (GZ G b a1 a2 a3 a4 a5 a6 a7 a8 a9 y) hZ 36) := ga_c (ga_l (ga_l (ga_r (n := 38) (k := 0) (by simp [wTown_len, wTape_len, wSheet_len]) rfl)))
theorem zE_37 : (wSunF G b a1 a2 a3 a4 a5 a6 a7 a8 a9)[40]? = some (ga (GZ G b a1 a2 a3 a4 a5 a6 a7 a8 a9 y) 37, ceOf (GZ G b a1 a2 a3 a4 a5 a6 a7 a8 a9 y) hZ 37) := ga_c (ga_l (ga_l (ga_r (n := 38) (k := 1) (by simp [wTown_len, wTape_len, wSheet_len]) rfl)))
theorem zE_38 : (wSunF G b a1 a2 a3 a4 a5 a6 a7 a8 a9)[41]? = some (ga (GZ G b a1 a2 a3 a4 a5 a6 a7 a8 a9 y) 38, ceOf (GZ G b a1 a2 a3 a4 a5 a6 a7 a8 a9 y) hZ 38) := ga_c (ga_l (ga_r (n := 40) (k := 0) (by simp [wTown_len, wTape_len, wSheet_len]) rfl))
theorem zE_39 : (wSunF G b a1 a2 a3 a4 a5 a6 a7 a8 a9)[42]? = some (ga (GZ G b a1 a2 a3 a4 a5 a6 a7 a8 a9 y) 39, ceOf (GZ G b a1 a2 a3 a4 a5 a6 a7 a8 a9 y) hZ 39) := ga_c (ga_l (ga_r (n := 40) (k := 1) (by simp [wTown_len, wTape_len, wSheet_len]) rfl))
theorem zE_40 : (wSunF G b a1 a2 a3 a4 a5 a6 a7 a8 a9)[43]? = some (ga (GZ G b a1 a2 a3 a4 a5 a6 a7 a8 a9 y) 40, ceOf (GZ G b a1 a2 a3 a4 a5 a6 a7 a8 a9 y) hZ 40) := ga_c (ga_r (n := 42) (k := 0) (by simp [wTown_len, wTape_len, wSheet_len]) rfl)
theorem zE_41 : (wSunF G b a1 a2 a3 a4 a5 a6 a7 a8 a9)[44]? = some (ga (GZ G b a1 a2 a3 a4 a5 a6 a7 a8 a9 y) 41, ceOf (GZ G b a1 a2 a3 a4 a5 a6 a7 a8 a9 y) hZ 41) := ga_c (ga_r (n := 42) (k := 1) (by simp [wTown_len, wTape_len, wSheet_len]) rfl)
theorem zE_42 : (wSunF G b a1 a2 a3 a4 a5 a6 a7 a8 a9)[20]? = some (ga (GZ G b a1 a2 a3 a4 a5 a6 a7 a8 a9 y) 42, ceOf (GZ G b a1 a2 a3 a4 a5 a6 a7 a8 a9 y) hZ 42) := ga_c (ga_l (ga_l (ga_l (ga_l (ga_l (ga_l (ga_l (ga_l (ga_r (n := 19) (k := 0) (by simp [wTown_len, wTape_len, wSheet_len]) rfl)))))))))
theorem zE_43 : (wSunF G b a1 a2 a3 a4 a5 a6 a7 a8 a9)[21]? = some (ga (GZ G b a1 a2 a3 a4 a5 a6 a7 a8 a9 y) 43, ceOf (GZ G b a1 a2 a3 a4 a5 a6 a7 a8 a9 y) hZ 43) := ga_c (ga_l (ga_l (ga_l (ga_l (ga_l (ga_l (ga_l (ga_r (n := 20) (k := 0) (by simp [wTown_len, wTape_len, wSheet_len]) rfl))))))))
theorem zE_44 : (wSunF G b a1 a2 a3 a4 a5 a6 a7 a8 a9)[22]? = some (ga (GZ G b a1 a2 a3 a4 a5 a6 a7 a8 a9 y) 44, ceOf (GZ G b a1 a2 a3 a4 a5 a6 a7 a8 a9 y) hZ 44) := ga_c (ga_l (ga_l (ga_l (ga_l (ga_l (ga_l (ga_r (n := 21) (k := 0) (by simp [wTown_len, wTape_len, wSheet_len]) rfl)))))))
theorem zE_45 : (wModel G y)[0]? = some (ga (GZ G b a1 a2 a3 a4 a5 a6 a7 a8 a9 y) 45, ceOf (GZ G b a1 a2 a3 a4 a5 a6 a7 a8 a9 y) hZ 45) := rfl
theorem zE_46 : (wModel G y)[1]? = some (ga (GZ G b a1 a2 a3 a4 a5 a6 a7 a8 a9 y) 46, ceOf (GZ G b a1 a2 a3 a4 a5 a6 a7 a8 a9 y) hZ 46) := rfl
theorem zE_47 : (wModel G y)[2]? = some (ga (GZ G b a1 a2 a3 a4 a5 a6 a7 a8 a9 y) 47, ceOf (GZ G b a1 a2 a3 a4 a5 a6 a7 a8 a9 y) hZ 47) := rfl
theorem zE_48 : (wModel G y)[3]? = some (ga (GZ G b a1 a2 a3 a4 a5 a6 a7 a8 a9 y) 48, ceOf (GZ G b a1 a2 a3 a4 a5 a6 a7 a8 a9 y) hZ 48) := rfl
theorem zE_49 : (wModel G y)[4]? = some (ga (GZ G b a1 a2 a3 a4 a5 a6 a7 a8 a9 y) 49, ceOf (GZ G b a1 a2 a3 a4 a5 a6 a7 a8 a9 y) hZ 49) := by show some (y 4, (Sum.inl (gC G 0, (9, .inl fcu)) : va_E)) = some (y 4, Sum.inl (gC G 0, (9, .inl (fun j => Int32.ofInt (fcu j).toInt)))); rw [fn_o]
theorem zE_50 : (wModel G y)[5]? = some (ga (GZ G b a1 a2 a3 a4 a5 a6 a7 a8 a9 y) 50, ceOf (GZ G b a1 a2 a3 a4 a5 a6 a7 a8 a9 y) hZ 50) := by show some (y 5, (Sum.inl (gC G 0, (42, .inl fle)) : va_E)) = some (y 5, Sum.inl (gC G 0, (42, .inl (fun j => Int32.ofInt (fle j).toInt)))); rw [fn_o]
theorem zE_51 : (wModel G y)[6]? = some (ga (GZ G b a1 a2 a3 a4 a5 a6 a7 a8 a9 y) 51, ceOf (GZ G b a1 a2 a3 a4 a5 a6 a7 a8 a9 y) hZ 51) := rfl
theorem zE_52 : (wModel G y)[7]? = some (ga (GZ G b a1 a2 a3 a4 a5 a6 a7 a8 a9 y) 52, ceOf (GZ G b a1 a2 a3 a4 a5 a6 a7 a8 a9 y) hZ 52) := rfl
theorem zE_53 : (wModel G y)[8]? = some (ga (GZ G b a1 a2 a3 a4 a5 a6 a7 a8 a9 y) 53, ceOf (GZ G b a1 a2 a3 a4 a5 a6 a7 a8 a9 y) hZ 53) := rfl
theorem zE_54 : (wModel G y)[9]? = some (ga (GZ G b a1 a2 a3 a4 a5 a6 a7 a8 a9 y) 54, ceOf (GZ G b a1 a2 a3 a4 a5 a6 a7 a8 a9 y) hZ 54) := rfl
theorem zE_55 : (wModel G y)[10]? = some (ga (GZ G b a1 a2 a3 a4 a5 a6 a7 a8 a9 y) 55, ceOf (GZ G b a1 a2 a3 a4 a5 a6 a7 a8 a9 y) hZ 55) := by show some (y 10, (Sum.inl (gC G 0, (4, .inl fla)) : va_E)) = some (y 10, Sum.inl (gC G 0, (4, .inl (fun j => Int32.ofInt (fla j).toInt)))); rw [fn_o]
theorem zE_56 : (wModel G y)[11]? = some (ga (GZ G b a1 a2 a3 a4 a5 a6 a7 a8 a9 y) 56, ceOf (GZ G b a1 a2 a3 a4 a5 a6 a7 a8 a9 y) hZ 56) := rfl
theorem zE_57 : (wModel G y)[12]? = some (ga (GZ G b a1 a2 a3 a4 a5 a6 a7 a8 a9 y) 57, ceOf (GZ G b a1 a2 a3 a4 a5 a6 a7 a8 a9 y) hZ 57) := rfl
theorem vq_cong {c : ClassId} {n : Nat} {f g : Nat → Option Nat} (h : ∀ j, j < n → f j = g j) : vp_cell c (n, .inr (.inr (.inr (.inr f)))) = vp_cell c (n, .inr (.inr (.inr (.inr g)))) := by
  have e : (fun j : Fin n => va_rf (f j.val)) = fun j : Fin n => va_rf (g j.val) := by funext j; rw [h j.val j.isLt]
  simp only [vp_cell, arrV, e]
theorem zQ_15 : (wSunF G b a1 a2 a3 a4 a5 a6 a7 a8 a9)[15]? = some (b 1, .inl (gC G 3, (2, .inr (.inr (.inr (.inr (va_up (va_up (fun _ => none) 0 (some (a4 0))) 1 (some (a5 0))))))))) := ga_c (ga_l (ga_l (ga_l (ga_l (ga_l (ga_l (ga_l (ga_l (ga_l (ga_l (ga_l (ga_l (ga_r (n := 14) (k := 0) (by simp [wTown_len, wTape_len, wSheet_len]) rfl)))))))))))))
theorem zR_15 {H : Heap} (h : va_at (gD G) vwCl (b 1, .inl (gC G 3, (2, .inr (.inr (.inr (.inr (va_up (va_up (fun _ => none) 0 (some (a4 0))) 1 (some (a5 0))))))))) H) : va_at (gD G) vwCl (ga (GZ G b a1 a2 a3 a4 a5 a6 a7 a8 a9 y) 15, ceOf (GZ G b a1 a2 a3 a4 a5 a6 a7 a8 a9 y) hZ 15) H := by
  have e : vp_cell (gC G 3) (2, .inr (.inr (.inr (.inr (va_up (va_up (fun _ => none) 0 (some (a4 0))) 1 (some (a5 0))))))) = vp_cell (gC G 3) (2, .inr (.inr (.inr (.inr (fun j => some (ga (GZ G b a1 a2 a3 a4 a5 a6 a7 a8 a9 y) (gr (GZ G b a1 a2 a3 a4 a5 a6 a7 a8 a9 y) 15 j))))))) := vq_cong (fun j hj => by
    rcases (show j = 0 ∨ j = 1 by omega) with rfl | rfl <;> rfl)
  have h : _ = some _ := h
  rw [e] at h
  exact h
theorem zQ_33 : (wSunF G b a1 a2 a3 a4 a5 a6 a7 a8 a9)[19]? = some (b 3, .inl (gC G 4, (4, .inr (.inr (.inr (.inr (va_up (va_up (va_up (va_up (fun _ => none) 0 (some (a6 0))) 1 (some (a7 0))) 2 (some (a8 0))) 3 (some (a9 0))))))))) := ga_c (ga_l (ga_l (ga_l (ga_l (ga_l (ga_l (ga_l (ga_l (ga_l (ga_r (n := 18) (k := 0) (by simp [wTown_len, wTape_len, wSheet_len]) rfl))))))))))
theorem zR_33 {H : Heap} (h : va_at (gD G) vwCl (b 3, .inl (gC G 4, (4, .inr (.inr (.inr (.inr (va_up (va_up (va_up (va_up (fun _ => none) 0 (some (a6 0))) 1 (some (a7 0))) 2 (some (a8 0))) 3 (some (a9 0))))))))) H) : va_at (gD G) vwCl (ga (GZ G b a1 a2 a3 a4 a5 a6 a7 a8 a9 y) 33, ceOf (GZ G b a1 a2 a3 a4 a5 a6 a7 a8 a9 y) hZ 33) H := by
  have e : vp_cell (gC G 4) (4, .inr (.inr (.inr (.inr (va_up (va_up (va_up (va_up (fun _ => none) 0 (some (a6 0))) 1 (some (a7 0))) 2 (some (a8 0))) 3 (some (a9 0))))))) = vp_cell (gC G 4) (4, .inr (.inr (.inr (.inr (fun j => some (ga (GZ G b a1 a2 a3 a4 a5 a6 a7 a8 a9 y) (gr (GZ G b a1 a2 a3 a4 a5 a6 a7 a8 a9 y) 33 j))))))) := vq_cong (fun j hj => by
    rcases (show j = 0 ∨ j = 1 ∨ j = 2 ∨ j = 3 by omega) with rfl | rfl | rfl | rfl <;> rfl)
  have h : _ = some _ := h
  rw [e] at h
  exact h
def piZ (k : Nat) : Nat := [0, 1, 2, 3, 4, 5, 6, 7, 8, 9, 10, 11, 12, 13, 14, 15, 23, 24, 25, 26, 27, 28, 29, 30, 31, 32, 33, 34, 35, 36, 16, 17, 18, 19, 37, 38, 39, 40, 41, 42, 43, 44, 20, 21, 22, 45, 46, 47, 48, 49, 50, 51, 52, 53, 54, 55, 56, 57].getD k 0
theorem piZ_inj : ∀ i, i < 58 → ∀ j, j < 58 → piZ i = piZ j → i = j := by decide +kernel
theorem wSunF_len : (wSunF G b a1 a2 a3 a4 a5 a6 a7 a8 a9).length = 45 := by simp [wSunF, wTown_len, wTape_len, wSheet_len]
theorem zK : ∀ k, k < 58 → ∃ e, (wSunF G b a1 a2 a3 a4 a5 a6 a7 a8 a9 ++ wModel G y)[piZ k]? = some (ga (GZ G b a1 a2 a3 a4 a5 a6 a7 a8 a9 y) k, e) ∧ ∀ H, va_at (gD G) vwCl (ga (GZ G b a1 a2 a3 a4 a5 a6 a7 a8 a9 y) k, e) H → va_at (gD G) vwCl (ga (GZ G b a1 a2 a3 a4 a5 a6 a7 a8 a9 y) k, ceOf (GZ G b a1 a2 a3 a4 a5 a6 a7 a8 a9 y) hZ k) H
  | 0, _ => ⟨_, ga_l zE_0, fun _ h => h⟩
  | 1, _ => ⟨_, ga_l zE_1, fun _ h => h⟩
  | 2, _ => ⟨_, ga_l zE_2, fun _ h => h⟩
  | 3, _ => ⟨_, ga_l zE_3, fun _ h => h⟩
  | 4, _ => ⟨_, ga_l zE_4, fun _ h => h⟩
  | 5, _ => ⟨_, ga_l zE_5, fun _ h => h⟩
  | 6, _ => ⟨_, ga_l zE_6, fun _ h => h⟩
  | 7, _ => ⟨_, ga_l zE_7, fun _ h => h⟩
  | 8, _ => ⟨_, ga_l zE_8, fun _ h => h⟩
  | 9, _ => ⟨_, ga_l zE_9, fun _ h => h⟩
  | 10, _ => ⟨_, ga_l zE_10, fun _ h => h⟩
  | 11, _ => ⟨_, ga_l zE_11, fun _ h => h⟩
  | 12, _ => ⟨_, ga_l zE_12, fun _ h => h⟩
  | 13, _ => ⟨_, ga_l zE_13, fun _ h => h⟩
  | 14, _ => ⟨_, ga_l zE_14, fun _ h => h⟩
  | 15, _ => ⟨_, ga_l zQ_15, fun _ h => zR_15 h⟩
  | 16, _ => ⟨_, ga_l zE_16, fun _ h => h⟩
  | 17, _ => ⟨_, ga_l zE_17, fun _ h => h⟩
  | 18, _ => ⟨_, ga_l zE_18, fun _ h => h⟩
  | 19, _ => ⟨_, ga_l zE_19, fun _ h => h⟩
  | 20, _ => ⟨_, ga_l zE_20, fun _ h => h⟩
  | 21, _ => ⟨_, ga_l zE_21, fun _ h => h⟩
  | 22, _ => ⟨_, ga_l zE_22, fun _ h => h⟩
  | 23, _ => ⟨_, ga_l zE_23, fun _ h => h⟩
  | 24, _ => ⟨_, ga_l zE_24, fun _ h => h⟩
  | 25, _ => ⟨_, ga_l zE_25, fun _ h => h⟩
  | 26, _ => ⟨_, ga_l zE_26, fun _ h => h⟩
  | 27, _ => ⟨_, ga_l zE_27, fun _ h => h⟩
  | 28, _ => ⟨_, ga_l zE_28, fun _ h => h⟩
  | 29, _ => ⟨_, ga_l zE_29, fun _ h => h⟩
  | 30, _ => ⟨_, ga_l zE_30, fun _ h => h⟩
  | 31, _ => ⟨_, ga_l zE_31, fun _ h => h⟩
  | 32, _ => ⟨_, ga_l zE_32, fun _ h => h⟩
  | 33, _ => ⟨_, ga_l zQ_33, fun _ h => zR_33 h⟩
  | 34, _ => ⟨_, ga_l zE_34, fun _ h => h⟩
  | 35, _ => ⟨_, ga_l zE_35, fun _ h => h⟩
  | 36, _ => ⟨_, ga_l zE_36, fun _ h => h⟩
  | 37, _ => ⟨_, ga_l zE_37, fun _ h => h⟩
  | 38, _ => ⟨_, ga_l zE_38, fun _ h => h⟩
  | 39, _ => ⟨_, ga_l zE_39, fun _ h => h⟩
  | 40, _ => ⟨_, ga_l zE_40, fun _ h => h⟩
  | 41, _ => ⟨_, ga_l zE_41, fun _ h => h⟩
  | 42, _ => ⟨_, ga_l zE_42, fun _ h => h⟩
  | 43, _ => ⟨_, ga_l zE_43, fun _ h => h⟩
  | 44, _ => ⟨_, ga_l zE_44, fun _ h => h⟩
  | 45, _ => ⟨_, ga_r (n := 45) (k := 0) wSunF_len zE_45, fun _ h => h⟩
  | 46, _ => ⟨_, ga_r (n := 45) (k := 1) wSunF_len zE_46, fun _ h => h⟩
  | 47, _ => ⟨_, ga_r (n := 45) (k := 2) wSunF_len zE_47, fun _ h => h⟩
  | 48, _ => ⟨_, ga_r (n := 45) (k := 3) wSunF_len zE_48, fun _ h => h⟩
  | 49, _ => ⟨_, ga_r (n := 45) (k := 4) wSunF_len zE_49, fun _ h => h⟩
  | 50, _ => ⟨_, ga_r (n := 45) (k := 5) wSunF_len zE_50, fun _ h => h⟩
  | 51, _ => ⟨_, ga_r (n := 45) (k := 6) wSunF_len zE_51, fun _ h => h⟩
  | 52, _ => ⟨_, ga_r (n := 45) (k := 7) wSunF_len zE_52, fun _ h => h⟩
  | 53, _ => ⟨_, ga_r (n := 45) (k := 8) wSunF_len zE_53, fun _ h => h⟩
  | 54, _ => ⟨_, ga_r (n := 45) (k := 9) wSunF_len zE_54, fun _ h => h⟩
  | 55, _ => ⟨_, ga_r (n := 45) (k := 10) wSunF_len zE_55, fun _ h => h⟩
  | 56, _ => ⟨_, ga_r (n := 45) (k := 11) wSunF_len zE_56, fun _ h => h⟩
  | 57, _ => ⟨_, ga_r (n := 45) (k := 12) wSunF_len zE_57, fun _ h => h⟩
  | k + 58, h => absurd h (by omega)
theorem zP {H : Heap} (hP : va_P (gD G) vwCl (wSunF G b a1 a2 a3 a4 a5 a6 a7 a8 a9 ++ wModel G y) H) : va_P (gD G) vwCl (wsOf (GZ G b a1 a2 a3 a4 a5 a6 a7 a8 a9 y) hZ) H := by
  intro k q hq
  obtain ⟨hk, rfl⟩ := ws_of hq
  obtain ⟨e, h1, h2⟩ := zK (G := G) (b := b) (a1 := a1) (a2 := a2) (a3 := a3) (a4 := a4) (a5 := a5) (a6 := a6) (a7 := a7) (a8 := a8) (a9 := a9) (y := y) k hk
  exact h2 H (hP _ _ h1)
theorem zI {A : Nat → Prop} (hD : va_D A (wSunF G b a1 a2 a3 a4 a5 a6 a7 a8 a9 ++ wModel G y)) : injG (GZ G b a1 a2 a3 a4 a5 a6 a7 a8 a9 y) := by
  intro i j hi hj e
  obtain ⟨e1, h1, -⟩ := zK (G := G) (b := b) (a1 := a1) (a2 := a2) (a3 := a3) (a4 := a4) (a5 := a5) (a6 := a6) (a7 := a7) (a8 := a8) (a9 := a9) (y := y) i hi
  obtain ⟨e2, h2, -⟩ := zK (G := G) (b := b) (a1 := a1) (a2 := a2) (a3 := a3) (a4 := a4) (a5 := a5) (a6 := a6) (a7 := a7) (a8 := a8) (a9 := a9) (y := y) j hj
  exact piZ_inj i hi j hj (hD.1 _ _ _ _ h1 h2 e)
theorem zA {A : Nat → Prop} (hD : va_D A (wSunF G b a1 a2 a3 a4 a5 a6 a7 a8 a9 ++ wModel G y)) : ∀ q, inA (GZ G b a1 a2 a3 a4 a5 a6 a7 a8 a9 y) q → A q := by
  rintro q ⟨k, hk, rfl⟩
  obtain ⟨e1, h1, -⟩ := zK (G := G) (b := b) (a1 := a1) (a2 := a2) (a3 := a3) (a4 := a4) (a5 := a5) (a6 := a6) (a7 := a7) (a8 := a8) (a9 := a9) (y := y) k hk
  exact hD.2 _ _ h1
theorem zLX : LX (GZ G b a1 a2 a3 a4 a5 a6 a7 a8 a9 y) := by
  simp [LX, LT, LTp, LSh, gN, gs, gl, gr, GZ, gsZ, glZ, grZ]
theorem zLM : LM (GZ G b a1 a2 a3 a4 a5 a6 a7 a8 a9 y) := by
  simp [LM, gN, gs, gl, gr, GZ, gsZ, glZ, grZ]
end ZW
