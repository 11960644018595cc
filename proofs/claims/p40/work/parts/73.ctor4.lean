/-! the constructor of SunPointer (laid by wip/gen/mk73.py) -/
/-- sixteen lists of addresses as one -/
def pk (l : List (Nat → Nat)) : Nat → Nat := fun n => (l.getD (n % 16) (fun _ => 0)) (n / 16)
def dk (ad : Nat → Nat) (k : Nat) : Nat → Nat := fun i => ad (16 * i + k)
theorem dk_pk {l : List (Nat → Nat)} {k : Nat} (hk : k < 16) : dk (pk l) k = l.getD k (fun _ => 0) := by
  funext i
  unfold dk pk
  rw [show (16 * i + k) % 16 = k by omega, show (16 * i + k) / 16 = i by omega]
theorem li_7 : LKI mX3_init.1.cls 7 2 := ⟨by decide, (ww_1 21 rfl rfl), (ww_1 22 rfl rfl), (ww_1 2 rfl rfl)⟩
theorem li_27 : LKI mX3_init.1.cls 27 1 := ⟨by decide, (ww_1 90 rfl rfl), (ww_1 91 rfl rfl), (ww_1 3 rfl rfl)⟩
theorem li_34 : LKI mX3_init.1.cls 34 0 := ⟨by decide, (ww_1 132 rfl rfl), (ww_1 134 rfl rfl), (ww_1 4 rfl rfl)⟩
theorem lq_7 : Cond.classLink mX3_init.1.cls 7 RX2 ∈ ww := (ww_1 21 rfl rfl)
theorem lq_34 : Cond.classLink mX3_init.1.cls 34 RX0 ∈ ww := (ww_1 132 rfl rfl)
theorem cm_X2_init : cOKm mX2_init := (ww_1 25 rfl rfl)
theorem cm_X1_init : cOKm mX1_init := (ww_1 94 rfl rfl)
theorem cm_X0_init : cOKm mX0_init := (ww_1 137 rfl rfl)
theorem cn_X2_init : cOK mX2_init 0 = true := by decide +kernel
theorem cn_X1_init : cOK mX1_init 0 = true := by decide +kernel
theorem cn_X0_init : cOK mX0_init 0 = true := by decide +kernel
theorem cl_X2_init : Cond.methodLink mX3_init.1.cls 9 mX2_init.1 ∈ ww := (ww_1 23 rfl rfl)
theorem cj_X2_init : Cond.initialized mX2_init.1.cls ∈ ww := (ww_1 2 rfl rfl)
theorem cj_X1_init : Cond.initialized mX1_init.1.cls ∈ ww := (ww_1 3 rfl rfl)
theorem cj_X0_init : Cond.initialized mX0_init.1.cls ∈ ww := (ww_1 4 rfl rfl)
theorem ce_X2_init : Cond.instanceMethod mX2_init.1 ∈ ww := (ww_1 24 rfl rfl)
theorem ce_X1_init : Cond.instanceMethod mX1_init.1 ∈ ww := (ww_1 93 rfl rfl)
theorem ce_X0_init : Cond.instanceMethod mX0_init.1 ∈ ww := (ww_1 136 rfl rfl)
theorem wTown_len {G : zG} {a : Nat → Nat} : (wTown G a).length = 7 := by simp [wTown, wsOf, GT, gN]
theorem wTape_len {G : zG} {a : Nat → Nat} : (wTape G a).length = 2 := rfl
theorem wSheet_len {G : zG} {a : Nat → Nat} : (wSheet G a).length = 2 := rfl
theorem wTown_0 {G : zG} {a : Nat → Nat} : (wTown G a)[0]? = some (a 0, .inr (2, fsOf (GT G a) hT0 0 2)) := rfl
theorem wSheet_0 {G : zG} {a : Nat → Nat} : (wSheet G a)[0]? = some (a 0, .inr (0, [.ref (a 1), .int (Int32.ofInt (-1)), .int 0])) := rfl
theorem ga_l {l1 l2 : va_W} {k : Nat} {x : Nat × va_E} (h : l1[k]? = some x) : (l1 ++ l2)[k]? = some x := by
  rw [List.getElem?_append_left (List.getElem?_eq_some_iff.mp h).1]; exact h
theorem ga_r {l1 l2 : va_W} {n k : Nat} {x : Nat × va_E} (hn : l1.length = n) (h : l2[k]? = some x) : (l1 ++ l2)[n + k]? = some x := by
  rw [List.getElem?_append_right (by omega), show n + k - l1.length = k by omega]; exact h
theorem ga_c {l : va_W} {e x : Nat × va_E} {k : Nat} (h : l[k]? = some x) : (e :: l)[k + 1]? = some x := h
theorem w_ac {e : Nat × va_E} {l1 l2 w : va_W} (h : l1 ++ l2 = w) : (e :: l1) ++ l2 = e :: w := by subst h; rfl
theorem w_s0 {e x x' : Nat × va_E} {l : va_W} (h : x = x') : (e :: l).set 0 x = x' :: l := by subst h; rfl
theorem w_sc {e x : Nat × va_E} {l l' : va_W} {k : Nat} (h : l.set k x = l') : (e :: l).set (k + 1) x = e :: l' := by subst h; rfl
theorem w_sl {l1 l1' l2 w w' : va_W} {n k : Nat} {x : Nat × va_E} (e : l1 ++ l2 = w) (e' : l1' ++ l2 = w') (hn : l1.length = n) (hk : k < n) (h : l1.set k x = l1') : w.set k x = w' := by
  subst e e' hn h; exact List.set_append_left _ _ hk
theorem w_sr {l1 l2 l2' w w' : va_W} {n : Nat} {x : Nat × va_E} (e : l1 ++ l2 = w) (e' : l1 ++ l2' = w') (hn : l1.length = n) (h : l2.set 0 x = l2') : w.set n x = w' := by
  subst e e' hn h; rw [List.set_append_right _ _ (Nat.le_refl _), Nat.sub_self]
theorem w_gl {l1 l2 w : va_W} {k : Nat} {x : Nat × va_E} (e : l1 ++ l2 = w) (h : l1[k]? = some x) : w[k]? = some x := by subst e; exact ga_l h
theorem w_gr {l1 l2 w : va_W} {n : Nat} {x : Nat × va_E} (e : l1 ++ l2 = w) (hn : l1.length = n) (h : l2[0]? = some x) : w[n]? = some x := by
  subst e hn; exact ga_r (n := l1.length) (k := 0) rfl h
def wSunF (G : zG) (b a1 a2 a3 a4 a5 a6 a7 a8 a9 : Nat → Nat) : va_W := ((b 0), .inr (3, [.ref (a1 0), .ref (a2 0), .ref (b 1), .ref (b 2), .ref (a3 0), .ref (b 3), .ref (b 4), .ref (b 5), .ref (b 6), .int 0, .int 0])) :: (((((((((((((((([] : va_W) ++ wTown G a1) ++ wTown G a2) ++ [((b 1), .inl (gC G 3, (2, .inr (.inr (.inr (.inr (va_up (va_up (fun _ => none) 0 (some (a4 0))) 1 (some (a5 0)))))))))]) ++ [((b 2), .inl (gC G 2, (2, .inl (fun _ => 0))))]) ++ wTape G a3) ++ [((b 3), .inl (gC G 4, (4, .inr (.inr (.inr (.inr (va_up (va_up (va_up (va_up (fun _ => none) 0 (some (a6 0))) 1 (some (a7 0))) 2 (some (a8 0))) 3 (some (a9 0)))))))))]) ++ [((b 4), .inl (gC G 0, (6, .inl (fun _ => 0))))]) ++ [((b 5), .inl (gC G 0, (6, .inl (fun _ => 0))))]) ++ [((b 6), .inl (gC G 0, (7, .inl (fun _ => 0))))]) ++ wTown G a4) ++ wTown G a5) ++ wSheet G a6) ++ wSheet G a7) ++ wSheet G a8) ++ wSheet G a9)
def wSun (G : zG) (ad : Nat → Nat) : va_W := wSunF G (dk ad 0) (dk ad 1) (dk ad 2) (dk ad 3) (dk ad 4) (dk ad 5) (dk ad 6) (dk ad 7) (dk ad 8) (dk ad 9)
def tl1 (G : zG) (x1 : Nat → Nat) : va_W := ([] : va_W) ++ wTown G x1
theorem tl1_e {G : zG} {x1 : Nat → Nat} : ([] : va_W) ++ wTown G x1 = tl1 G x1 := by unfold tl1; rfl
theorem tl1_n {G : zG} {x1 : Nat → Nat} : (tl1 G x1).length = 7 := by simp [tl1, wTown_len]
def tl2 (G : zG) (x1 : Nat → Nat) (x2 : Nat → Nat) : va_W := tl1 G x1 ++ wTown G x2
theorem tl2_e {G : zG} {x1 : Nat → Nat} {x2 : Nat → Nat} : tl1 G x1 ++ wTown G x2 = tl2 G x1 x2 := by unfold tl2; rfl
theorem tl2_n {G : zG} {x1 : Nat → Nat} {x2 : Nat → Nat} : (tl2 G x1 x2).length = 14 := by simp [tl2, tl1_n, wTown_len]
def tl3 (G : zG) (x1 : Nat → Nat) (x2 : Nat → Nat) (x3 : Nat) (f3 : Nat → Option Nat) : va_W := tl2 G x1 x2 ++ ([(x3, .inl (gC G 3, (2, .inr (.inr (.inr (.inr f3))))))] : va_W)
theorem tl3_e {G : zG} {x1 : Nat → Nat} {x2 : Nat → Nat} {x3 : Nat} {f3 : Nat → Option Nat} : tl2 G x1 x2 ++ ([(x3, .inl (gC G 3, (2, .inr (.inr (.inr (.inr f3))))))] : va_W) = tl3 G x1 x2 x3 f3 := by unfold tl3; rfl
theorem tl3_n {G : zG} {x1 : Nat → Nat} {x2 : Nat → Nat} {x3 : Nat} {f3 : Nat → Option Nat} : (tl3 G x1 x2 x3 f3).length = 15 := by simp [tl3, tl2_n]
def tl4 (G : zG) (x1 : Nat → Nat) (x2 : Nat → Nat) (x3 : Nat) (f3 : Nat → Option Nat) (x4 : Nat) : va_W := tl3 G x1 x2 x3 f3 ++ ([(x4, .inl (gC G 2, (2, .inl (fun _ => 0))))] : va_W)
theorem tl4_e {G : zG} {x1 : Nat → Nat} {x2 : Nat → Nat} {x3 : Nat} {f3 : Nat → Option Nat} {x4 : Nat} : tl3 G x1 x2 x3 f3 ++ ([(x4, .inl (gC G 2, (2, .inl (fun _ => 0))))] : va_W) = tl4 G x1 x2 x3 f3 x4 := by unfold tl4; rfl
theorem tl4_n {G : zG} {x1 : Nat → Nat} {x2 : Nat → Nat} {x3 : Nat} {f3 : Nat → Option Nat} {x4 : Nat} : (tl4 G x1 x2 x3 f3 x4).length = 16 := by simp [tl4, tl3_n]
def tl5 (G : zG) (x1 : Nat → Nat) (x2 : Nat → Nat) (x3 : Nat) (f3 : Nat → Option Nat) (x4 : Nat) (x5 : Nat → Nat) : va_W := tl4 G x1 x2 x3 f3 x4 ++ wTape G x5
theorem tl5_e {G : zG} {x1 : Nat → Nat} {x2 : Nat → Nat} {x3 : Nat} {f3 : Nat → Option Nat} {x4 : Nat} {x5 : Nat → Nat} : tl4 G x1 x2 x3 f3 x4 ++ wTape G x5 = tl5 G x1 x2 x3 f3 x4 x5 := by unfold tl5; rfl
theorem tl5_n {G : zG} {x1 : Nat → Nat} {x2 : Nat → Nat} {x3 : Nat} {f3 : Nat → Option Nat} {x4 : Nat} {x5 : Nat → Nat} : (tl5 G x1 x2 x3 f3 x4 x5).length = 18 := by simp [tl5, tl4_n, wTape_len]
def tl6 (G : zG) (x1 : Nat → Nat) (x2 : Nat → Nat) (x3 : Nat) (f3 : Nat → Option Nat) (x4 : Nat) (x5 : Nat → Nat) (x6 : Nat) (f6 : Nat → Option Nat) : va_W := tl5 G x1 x2 x3 f3 x4 x5 ++ ([(x6, .inl (gC G 4, (4, .inr (.inr (.inr (.inr f6))))))] : va_W)
theorem tl6_e {G : zG} {x1 : Nat → Nat} {x2 : Nat → Nat} {x3 : Nat} {f3 : Nat → Option Nat} {x4 : Nat} {x5 : Nat → Nat} {x6 : Nat} {f6 : Nat → Option Nat} : tl5 G x1 x2 x3 f3 x4 x5 ++ ([(x6, .inl (gC G 4, (4, .inr (.inr (.inr (.inr f6))))))] : va_W) = tl6 G x1 x2 x3 f3 x4 x5 x6 f6 := by unfold tl6; rfl
theorem tl6_n {G : zG} {x1 : Nat → Nat} {x2 : Nat → Nat} {x3 : Nat} {f3 : Nat → Option Nat} {x4 : Nat} {x5 : Nat → Nat} {x6 : Nat} {f6 : Nat → Option Nat} : (tl6 G x1 x2 x3 f3 x4 x5 x6 f6).length = 19 := by simp [tl6, tl5_n]
def tl7 (G : zG) (x1 : Nat → Nat) (x2 : Nat → Nat) (x3 : Nat) (f3 : Nat → Option Nat) (x4 : Nat) (x5 : Nat → Nat) (x6 : Nat) (f6 : Nat → Option Nat) (x7 : Nat) : va_W := tl6 G x1 x2 x3 f3 x4 x5 x6 f6 ++ ([(x7, .inl (gC G 0, (6, .inl (fun _ => 0))))] : va_W)
theorem tl7_e {G : zG} {x1 : Nat → Nat} {x2 : Nat → Nat} {x3 : Nat} {f3 : Nat → Option Nat} {x4 : Nat} {x5 : Nat → Nat} {x6 : Nat} {f6 : Nat → Option Nat} {x7 : Nat} : tl6 G x1 x2 x3 f3 x4 x5 x6 f6 ++ ([(x7, .inl (gC G 0, (6, .inl (fun _ => 0))))] : va_W) = tl7 G x1 x2 x3 f3 x4 x5 x6 f6 x7 := by unfold tl7; rfl
theorem tl7_n {G : zG} {x1 : Nat → Nat} {x2 : Nat → Nat} {x3 : Nat} {f3 : Nat → Option Nat} {x4 : Nat} {x5 : Nat → Nat} {x6 : Nat} {f6 : Nat → Option Nat} {x7 : Nat} : (tl7 G x1 x2 x3 f3 x4 x5 x6 f6 x7).length = 20 := by simp [tl7, tl6_n]
def tl8 (G : zG) (x1 : Nat → Nat) (x2 : Nat → Nat) (x3 : Nat) (f3 : Nat → Option Nat) (x4 : Nat) (x5 : Nat → Nat) (x6 : Nat) (f6 : Nat → Option Nat) (x7 : Nat) (x8 : Nat) : va_W := tl7 G x1 x2 x3 f3 x4 x5 x6 f6 x7 ++ ([(x8, .inl (gC G 0, (6, .inl (fun _ => 0))))] : va_W)
theorem tl8_e {G : zG} {x1 : Nat → Nat} {x2 : Nat → Nat} {x3 : Nat} {f3 : Nat → Option Nat} {x4 : Nat} {x5 : Nat → Nat} {x6 : Nat} {f6 : Nat → Option Nat} {x7 : Nat} {x8 : Nat} : tl7 G x1 x2 x3 f3 x4 x5 x6 f6 x7 ++ ([(x8, .inl (gC G 0, (6, .inl (fun _ => 0))))] : va_W) = tl8 G x1 x2 x3 f3 x4 x5 x6 f6 x7 x8 := by unfold tl8; rfl
theorem tl8_n {G : zG} {x1 : Nat → Nat} {x2 : Nat → Nat} {x3 : Nat} {f3 : Nat → Option Nat} {x4 : Nat} {x5 : Nat → Nat} {x6 : Nat} {f6 : Nat → Option Nat} {x7 : Nat} {x8 : Nat} : (tl8 G x1 x2 x3 f3 x4 x5 x6 f6 x7 x8).length = 21 := by simp [tl8, tl7_n]
def tl9 (G : zG) (x1 : Nat → Nat) (x2 : Nat → Nat) (x3 : Nat) (f3 : Nat → Option Nat) (x4 : Nat) (x5 : Nat → Nat) (x6 : Nat) (f6 : Nat → Option Nat) (x7 : Nat) (x8 : Nat) (x9 : Nat) : va_W := tl8 G x1 x2 x3 f3 x4 x5 x6 f6 x7 x8 ++ ([(x9, .inl (gC G 0, (7, .inl (fun _ => 0))))] : va_W)
theorem tl9_e {G : zG} {x1 : Nat → Nat} {x2 : Nat → Nat} {x3 : Nat} {f3 : Nat → Option Nat} {x4 : Nat} {x5 : Nat → Nat} {x6 : Nat} {f6 : Nat → Option Nat} {x7 : Nat} {x8 : Nat} {x9 : Nat} : tl8 G x1 x2 x3 f3 x4 x5 x6 f6 x7 x8 ++ ([(x9, .inl (gC G 0, (7, .inl (fun _ => 0))))] : va_W) = tl9 G x1 x2 x3 f3 x4 x5 x6 f6 x7 x8 x9 := by unfold tl9; rfl
theorem tl9_n {G : zG} {x1 : Nat → Nat} {x2 : Nat → Nat} {x3 : Nat} {f3 : Nat → Option Nat} {x4 : Nat} {x5 : Nat → Nat} {x6 : Nat} {f6 : Nat → Option Nat} {x7 : Nat} {x8 : Nat} {x9 : Nat} : (tl9 G x1 x2 x3 f3 x4 x5 x6 f6 x7 x8 x9).length = 22 := by simp [tl9, tl8_n]
def tl10 (G : zG) (x1 : Nat → Nat) (x2 : Nat → Nat) (x3 : Nat) (f3 : Nat → Option Nat) (x4 : Nat) (x5 : Nat → Nat) (x6 : Nat) (f6 : Nat → Option Nat) (x7 : Nat) (x8 : Nat) (x9 : Nat) (x10 : Nat → Nat) : va_W := tl9 G x1 x2 x3 f3 x4 x5 x6 f6 x7 x8 x9 ++ wTown G x10
theorem tl10_e {G : zG} {x1 : Nat → Nat} {x2 : Nat → Nat} {x3 : Nat} {f3 : Nat → Option Nat} {x4 : Nat} {x5 : Nat → Nat} {x6 : Nat} {f6 : Nat → Option Nat} {x7 : Nat} {x8 : Nat} {x9 : Nat} {x10 : Nat → Nat} : tl9 G x1 x2 x3 f3 x4 x5 x6 f6 x7 x8 x9 ++ wTown G x10 = tl10 G x1 x2 x3 f3 x4 x5 x6 f6 x7 x8 x9 x10 := by unfold tl10; rfl
theorem tl10_n {G : zG} {x1 : Nat → Nat} {x2 : Nat → Nat} {x3 : Nat} {f3 : Nat → Option Nat} {x4 : Nat} {x5 : Nat → Nat} {x6 : Nat} {f6 : Nat → Option Nat} {x7 : Nat} {x8 : Nat} {x9 : Nat} {x10 : Nat → Nat} : (tl10 G x1 x2 x3 f3 x4 x5 x6 f6 x7 x8 x9 x10).length = 29 := by simp [tl10, tl9_n, wTown_len]
def tl11 (G : zG) (x1 : Nat → Nat) (x2 : Nat → Nat) (x3 : Nat) (f3 : Nat → Option Nat) (x4 : Nat) (x5 : Nat → Nat) (x6 : Nat) (f6 : Nat → Option Nat) (x7 : Nat) (x8 : Nat) (x9 : Nat) (x10 : Nat → Nat) (x11 : Nat → Nat) : va_W := tl10 G x1 x2 x3 f3 x4 x5 x6 f6 x7 x8 x9 x10 ++ wTown G x11
theorem tl11_e {G : zG} {x1 : Nat → Nat} {x2 : Nat → Nat} {x3 : Nat} {f3 : Nat → Option Nat} {x4 : Nat} {x5 : Nat → Nat} {x6 : Nat} {f6 : Nat → Option Nat} {x7 : Nat} {x8 : Nat} {x9 : Nat} {x10 : Nat → Nat} {x11 : Nat → Nat} : tl10 G x1 x2 x3 f3 x4 x5 x6 f6 x7 x8 x9 x10 ++ wTown G x11 = tl11 G x1 x2 x3 f3 x4 x5 x6 f6 x7 x8 x9 x10 x11 := by unfold tl11; rfl
theorem tl11_n {G : zG} {x1 : Nat → Nat} {x2 : Nat → Nat} {x3 : Nat} {f3 : Nat → Option Nat} {x4 : Nat} {x5 : Nat → Nat} {x6 : Nat} {f6 : Nat → Option Nat} {x7 : Nat} {x8 : Nat} {x9 : Nat} {x10 : Nat → Nat} {x11 : Nat → Nat} : (tl11 G x1 x2 x3 f3 x4 x5 x6 f6 x7 x8 x9 x10 x11).length = 36 := by simp [tl11, tl10_n, wTown_len]
def tl12 (G : zG) (x1 : Nat → Nat) (x2 : Nat → Nat) (x3 : Nat) (f3 : Nat → Option Nat) (x4 : Nat) (x5 : Nat → Nat) (x6 : Nat) (f6 : Nat → Option Nat) (x7 : Nat) (x8 : Nat) (x9 : Nat) (x10 : Nat → Nat) (x11 : Nat → Nat) (x12 : Nat → Nat) : va_W := tl11 G x1 x2 x3 f3 x4 x5 x6 f6 x7 x8 x9 x10 x11 ++ wSheet G x12
theorem tl12_e {G : zG} {x1 : Nat → Nat} {x2 : Nat → Nat} {x3 : Nat} {f3 : Nat → Option Nat} {x4 : Nat} {x5 : Nat → Nat} {x6 : Nat} {f6 : Nat → Option Nat} {x7 : Nat} {x8 : Nat} {x9 : Nat} {x10 : Nat → Nat} {x11 : Nat → Nat} {x12 : Nat → Nat} : tl11 G x1 x2 x3 f3 x4 x5 x6 f6 x7 x8 x9 x10 x11 ++ wSheet G x12 = tl12 G x1 x2 x3 f3 x4 x5 x6 f6 x7 x8 x9 x10 x11 x12 := by unfold tl12; rfl
theorem tl12_n {G : zG} {x1 : Nat → Nat} {x2 : Nat → Nat} {x3 : Nat} {f3 : Nat → Option Nat} {x4 : Nat} {x5 : Nat → Nat} {x6 : Nat} {f6 : Nat → Option Nat} {x7 : Nat} {x8 : Nat} {x9 : Nat} {x10 : Nat → Nat} {x11 : Nat → Nat} {x12 : Nat → Nat} : (tl12 G x1 x2 x3 f3 x4 x5 x6 f6 x7 x8 x9 x10 x11 x12).length = 38 := by simp [tl12, tl11_n, wSheet_len]
def tl13 (G : zG) (x1 : Nat → Nat) (x2 : Nat → Nat) (x3 : Nat) (f3 : Nat → Option Nat) (x4 : Nat) (x5 : Nat → Nat) (x6 : Nat) (f6 : Nat → Option Nat) (x7 : Nat) (x8 : Nat) (x9 : Nat) (x10 : Nat → Nat) (x11 : Nat → Nat) (x12 : Nat → Nat) (x13 : Nat → Nat) : va_W := tl12 G x1 x2 x3 f3 x4 x5 x6 f6 x7 x8 x9 x10 x11 x12 ++ wSheet G x13
theorem tl13_e {G : zG} {x1 : Nat → Nat} {x2 : Nat → Nat} {x3 : Nat} {f3 : Nat → Option Nat} {x4 : Nat} {x5 : Nat → Nat} {x6 : Nat} {f6 : Nat → Option Nat} {x7 : Nat} {x8 : Nat} {x9 : Nat} {x10 : Nat → Nat} {x11 : Nat → Nat} {x12 : Nat → Nat} {x13 : Nat → Nat} : tl12 G x1 x2 x3 f3 x4 x5 x6 f6 x7 x8 x9 x10 x11 x12 ++ wSheet G x13 = tl13 G x1 x2 x3 f3 x4 x5 x6 f6 x7 x8 x9 x10 x11 x12 x13 := by unfold tl13; rfl
theorem tl13_n {G : zG} {x1 : Nat → Nat} {x2 : Nat → Nat} {x3 : Nat} {f3 : Nat → Option Nat} {x4 : Nat} {x5 : Nat → Nat} {x6 : Nat} {f6 : Nat → Option Nat} {x7 : Nat} {x8 : Nat} {x9 : Nat} {x10 : Nat → Nat} {x11 : Nat → Nat} {x12 : Nat → Nat} {x13 : Nat → Nat} : (tl13 G x1 x2 x3 f3 x4 x5 x6 f6 x7 x8 x9 x10 x11 x12 x13).length = 40 := by simp [tl13, tl12_n, wSheet_len]
def tl14 (G : zG) (x1 : Nat → Nat) (x2 : Nat → Nat) (x3 : Nat) (f3 : Nat → Option Nat) (x4 : Nat) (x5 : Nat → Nat) (x6 : Nat) (f6 : Nat → Option Nat) (x7 : Nat) (x8 : Nat) (x9 : Nat) (x10 : Nat → Nat) (x11 : Nat → Nat) (x12 : Nat → Nat) (x13 : Nat → Nat) (x14 : Nat → Nat) : va_W := tl13 G x1 x2 x3 f3 x4 x5 x6 f6 x7 x8 x9 x10 x11 x12 x13 ++ wSheet G x14
theorem tl14_e {G : zG} {x1 : Nat → Nat} {x2 : Nat → Nat} {x3 : Nat} {f3 : Nat → Option Nat} {x4 : Nat} {x5 : Nat → Nat} {x6 : Nat} {f6 : Nat → Option Nat} {x7 : Nat} {x8 : Nat} {x9 : Nat} {x10 : Nat → Nat} {x11 : Nat → Nat} {x12 : Nat → Nat} {x13 : Nat → Nat} {x14 : Nat → Nat} : tl13 G x1 x2 x3 f3 x4 x5 x6 f6 x7 x8 x9 x10 x11 x12 x13 ++ wSheet G x14 = tl14 G x1 x2 x3 f3 x4 x5 x6 f6 x7 x8 x9 x10 x11 x12 x13 x14 := by unfold tl14; rfl
theorem tl14_n {G : zG} {x1 : Nat → Nat} {x2 : Nat → Nat} {x3 : Nat} {f3 : Nat → Option Nat} {x4 : Nat} {x5 : Nat → Nat} {x6 : Nat} {f6 : Nat → Option Nat} {x7 : Nat} {x8 : Nat} {x9 : Nat} {x10 : Nat → Nat} {x11 : Nat → Nat} {x12 : Nat → Nat} {x13 : Nat → Nat} {x14 : Nat → Nat} : (tl14 G x1 x2 x3 f3 x4 x5 x6 f6 x7 x8 x9 x10 x11 x12 x13 x14).length = 42 := by simp [tl14, tl13_n, wSheet_len]
def tl15 (G : zG) (x1 : Nat → Nat) (x2 : Nat → Nat) (x3 : Nat) (f3 : Nat → Option Nat) (x4 : Nat) (x5 : Nat → Nat) (x6 : Nat) (f6 : Nat → Option Nat) (x7 : Nat) (x8 : Nat) (x9 : Nat) (x10 : Nat → Nat) (x11 : Nat → Nat) (x12 : Nat → Nat) (x13 : Nat → Nat) (x14 : Nat → Nat) (x15 : Nat → Nat) : va_W := tl14 G x1 x2 x3 f3 x4 x5 x6 f6 x7 x8 x9 x10 x11 x12 x13 x14 ++ wSheet G x15
theorem tl15_e {G : zG} {x1 : Nat → Nat} {x2 : Nat → Nat} {x3 : Nat} {f3 : Nat → Option Nat} {x4 : Nat} {x5 : Nat → Nat} {x6 : Nat} {f6 : Nat → Option Nat} {x7 : Nat} {x8 : Nat} {x9 : Nat} {x10 : Nat → Nat} {x11 : Nat → Nat} {x12 : Nat → Nat} {x13 : Nat → Nat} {x14 : Nat → Nat} {x15 : Nat → Nat} : tl14 G x1 x2 x3 f3 x4 x5 x6 f6 x7 x8 x9 x10 x11 x12 x13 x14 ++ wSheet G x15 = tl15 G x1 x2 x3 f3 x4 x5 x6 f6 x7 x8 x9 x10 x11 x12 x13 x14 x15 := by unfold tl15; rfl
theorem tl15_n {G : zG} {x1 : Nat → Nat} {x2 : Nat → Nat} {x3 : Nat} {f3 : Nat → Option Nat} {x4 : Nat} {x5 : Nat → Nat} {x6 : Nat} {f6 : Nat → Option Nat} {x7 : Nat} {x8 : Nat} {x9 : Nat} {x10 : Nat → Nat} {x11 : Nat → Nat} {x12 : Nat → Nat} {x13 : Nat → Nat} {x14 : Nat → Nat} {x15 : Nat → Nat} : (tl15 G x1 x2 x3 f3 x4 x5 x6 f6 x7 x8 x9 x10 x11 x12 x13 x14 x15).length = 44 := by simp [tl15, tl14_n, wSheet_len]
section RN
variable {l : Launch} {G : zG}
set_option maxHeartbeats 4000000 in
theorem i_Sun : Cn l G 5 44 577 mX3_init 3 (dF 3) (wSun G) := by
  refine Cn.of (by decide) rfl (by decide) (fun h0 A => ?_)
  refine Rn.eqw (ws' := (h0, .inr (3, [.null, .null, .null, .null, .null, .null, .null, .null, .null, .int 0, .int 0])) :: ([] : va_W)) (rfl) ?_
  refine n_aload (i := 0) 1 dX3_init_0 rfl rfl ?_
  refine n_obj 4 dX3_init_1 rfl ol_3 rfl ?_
  refine n_aload (i := 0) 5 dX3_init_4 rfl rfl ?_
  refine n_new (ci := 2) 8 dX3_init_5 rfl li_7 rfl rfl (fun o1 => ?_)
  refine n_dup 9 dX3_init_8 rfl ?_
  refine n_ctor 12 dX3_init_9 rfl (i_Town (l := l) (G := G)) cm_X2_init cn_X2_init cl_X2_init cj_X2_init ce_X2_init rfl rfl rfl rfl rfl (Nat.le_of_ble_eq_true rfl) (fun a1 z => ?_)
  subst z
  refine Rn.eqw (ws' := (h0, .inr (3, [.null, .null, .null, .null, .null, .null, .null, .null, .null, .int 0, .int 0])) :: tl1 G a1) (w_ac tl1_e) ?_
  refine n_putF 15 0 dX3_init_12 rfl kf_3_10 rfl rfl rfl rfl rfl rfl ?_
  refine Rn.eqw (ws' := (h0, .inr (3, [.ref (a1 0), .null, .null, .null, .null, .null, .null, .null, .null, .int 0, .int 0])) :: tl1 G a1) (w_s0 rfl) ?_
  refine n_aload (i := 0) 16 dX3_init_15 rfl rfl ?_
  refine n_new (ci := 2) 19 dX3_init_16 rfl li_7 rfl rfl (fun o2 => ?_)
  refine n_dup 20 dX3_init_19 rfl ?_
  refine n_ctor 23 dX3_init_20 rfl (i_Town (l := l) (G := G)) cm_X2_init cn_X2_init cl_X2_init cj_X2_init ce_X2_init rfl rfl rfl rfl rfl (Nat.le_of_ble_eq_true rfl) (fun a2 z => ?_)
  subst z
  refine Rn.eqw (ws' := (h0, .inr (3, [.ref (a1 0), .null, .null, .null, .null, .null, .null, .null, .null, .int 0, .int 0])) :: tl2 G a1 a2) (w_ac tl2_e) ?_
  refine n_putF 26 0 dX3_init_23 rfl kf_3_16 rfl rfl rfl rfl rfl rfl ?_
  refine Rn.eqw (ws' := (h0, .inr (3, [.ref (a1 0), .ref (a2 0), .null, .null, .null, .null, .null, .null, .null, .int 0, .int 0])) :: tl2 G a1 a2) (w_s0 rfl) ?_
  refine n_aload (i := 0) 27 dX3_init_26 rfl rfl ?_
  refine n_iconst 28 dX3_init_27 rfl ?_
  refine n_newq (C0 := RX2) (t0 := 3) 31 2 dX3_init_28 rfl lq_7 (fun _ z => z.2.2.1) rfl (by decide) rfl (by decide) rfl rfl (fun q28 => ?_)
  refine Rn.eqw (ws' := (h0, .inr (3, [.ref (a1 0), .ref (a2 0), .null, .null, .null, .null, .null, .null, .null, .int 0, .int 0])) :: tl3 G a1 a2 q28 (fun _ => none)) (w_ac tl3_e) ?_
  refine n_putF 34 0 dX3_init_31 rfl kf_3_19 rfl rfl rfl rfl rfl rfl ?_
  refine Rn.eqw (ws' := (h0, .inr (3, [.ref (a1 0), .ref (a2 0), .ref q28, .null, .null, .null, .null, .null, .null, .int 0, .int 0])) :: tl3 G a1 a2 q28 (fun _ => none)) (w_s0 rfl) ?_
  refine n_aload (i := 0) 35 dX3_init_34 rfl rfl ?_
  refine n_iconst 36 dX3_init_35 rfl ?_
  refine n_newa (ty := .boolean) (t0 := 2) 38 2 dX3_init_36 rfl rfl nw_2 rfl rfl (fun _ z => by cases z) (by decide) rfl (by decide) rfl rfl (fun q36 => ?_)
  refine Rn.eqw (ws' := (h0, .inr (3, [.ref (a1 0), .ref (a2 0), .ref q28, .null, .null, .null, .null, .null, .null, .int 0, .int 0])) :: tl4 G a1 a2 q28 (fun _ => none) q36) (w_ac tl4_e) ?_
  refine n_putF 41 0 dX3_init_38 rfl kf_3_23 rfl rfl rfl rfl rfl rfl ?_
  refine Rn.eqw (ws' := (h0, .inr (3, [.ref (a1 0), .ref (a2 0), .ref q28, .ref q36, .null, .null, .null, .null, .null, .int 0, .int 0])) :: tl4 G a1 a2 q28 (fun _ => none) q36) (w_s0 rfl) ?_
  refine n_aload (i := 0) 42 dX3_init_41 rfl rfl ?_
  refine n_new (ci := 1) 45 dX3_init_42 rfl li_27 rfl rfl (fun o3 => ?_)
  refine n_dup 46 dX3_init_45 rfl ?_
  refine n_ctorN (host := RX3) 49 dX3_init_46 rfl (i_Tape (l := l) (G := G)) cm_X1_init cn_X1_init (fun _ z => z.1) cj_X1_init ce_X1_init rfl rfl rfl rfl rfl (Nat.le_of_ble_eq_true rfl) (fun a3 z => ?_)
  subst z
  refine Rn.eqw (ws' := (h0, .inr (3, [.ref (a1 0), .ref (a2 0), .ref q28, .ref q36, .null, .null, .null, .null, .null, .int 0, .int 0])) :: tl5 G a1 a2 q28 (fun _ => none) q36 a3) (w_ac tl5_e) ?_
  refine n_putF 52 0 dX3_init_49 rfl kf_3_30 rfl rfl rfl rfl rfl rfl ?_
  refine Rn.eqw (ws' := (h0, .inr (3, [.ref (a1 0), .ref (a2 0), .ref q28, .ref q36, .ref (a3 0), .null, .null, .null, .null, .int 0, .int 0])) :: tl5 G a1 a2 q28 (fun _ => none) q36 a3) (w_s0 rfl) ?_
  refine n_aload (i := 0) 53 dX3_init_52 rfl rfl ?_
  refine n_iconst 54 dX3_init_53 rfl ?_
  refine n_newq (C0 := RX0) (t0 := 4) 57 4 dX3_init_54 rfl lq_34 (fun _ z => z.2.2.2) rfl (by decide) rfl (by decide) rfl rfl (fun q54 => ?_)
  refine Rn.eqw (ws' := (h0, .inr (3, [.ref (a1 0), .ref (a2 0), .ref q28, .ref q36, .ref (a3 0), .null, .null, .null, .null, .int 0, .int 0])) :: tl6 G a1 a2 q28 (fun _ => none) q36 a3 q54 (fun _ => none)) (w_ac tl6_e) ?_
  refine n_putF 60 0 dX3_init_57 rfl kf_3_36 rfl rfl rfl rfl rfl rfl ?_
  refine Rn.eqw (ws' := (h0, .inr (3, [.ref (a1 0), .ref (a2 0), .ref q28, .ref q36, .ref (a3 0), .ref q54, .null, .null, .null, .int 0, .int 0])) :: tl6 G a1 a2 q28 (fun _ => none) q36 a3 q54 (fun _ => none)) (w_s0 rfl) ?_
  refine n_aload (i := 0) 61 dX3_init_60 rfl rfl ?_
  refine n_bipush 63 dX3_init_61 rfl rfl ?_
  refine n_newa (ty := .int) (t0 := 0) 65 6 dX3_init_63 rfl rfl nw_0 rfl rfl (fun _ z => by cases z) (by decide) rfl (by decide) rfl rfl (fun q63 => ?_)
  refine Rn.eqw (ws' := (h0, .inr (3, [.ref (a1 0), .ref (a2 0), .ref q28, .ref q36, .ref (a3 0), .ref q54, .null, .null, .null, .int 0, .int 0])) :: tl7 G a1 a2 q28 (fun _ => none) q36 a3 q54 (fun _ => none) q63) (w_ac tl7_e) ?_
  refine n_putF 68 0 dX3_init_65 rfl kf_3_40 rfl rfl rfl rfl rfl rfl ?_
  refine Rn.eqw (ws' := (h0, .inr (3, [.ref (a1 0), .ref (a2 0), .ref q28, .ref q36, .ref (a3 0), .ref q54, .ref q63, .null, .null, .int 0, .int 0])) :: tl7 G a1 a2 q28 (fun _ => none) q36 a3 q54 (fun _ => none) q63) (w_s0 rfl) ?_
  refine n_aload (i := 0) 69 dX3_init_68 rfl rfl ?_
  refine n_bipush 71 dX3_init_69 rfl rfl ?_
  refine n_newa (ty := .int) (t0 := 0) 73 6 dX3_init_71 rfl rfl nw_0 rfl rfl (fun _ z => by cases z) (by decide) rfl (by decide) rfl rfl (fun q71 => ?_)
  refine Rn.eqw (ws' := (h0, .inr (3, [.ref (a1 0), .ref (a2 0), .ref q28, .ref q36, .ref (a3 0), .ref q54, .ref q63, .null, .null, .int 0, .int 0])) :: tl8 G a1 a2 q28 (fun _ => none) q36 a3 q54 (fun _ => none) q63 q71) (w_ac tl8_e) ?_
  refine n_putF 76 0 dX3_init_73 rfl kf_3_44 rfl rfl rfl rfl rfl rfl ?_
  refine Rn.eqw (ws' := (h0, .inr (3, [.ref (a1 0), .ref (a2 0), .ref q28, .ref q36, .ref (a3 0), .ref q54, .ref q63, .ref q71, .null, .int 0, .int 0])) :: tl8 G a1 a2 q28 (fun _ => none) q36 a3 q54 (fun _ => none) q63 q71) (w_s0 rfl) ?_
  refine n_aload (i := 0) 77 dX3_init_76 rfl rfl ?_
  refine n_bipush 79 dX3_init_77 rfl rfl ?_
  refine n_newa (ty := .int) (t0 := 0) 81 7 dX3_init_79 rfl rfl nw_0 rfl rfl (fun _ z => by cases z) (by decide) rfl (by decide) rfl rfl (fun q79 => ?_)
  refine Rn.eqw (ws' := (h0, .inr (3, [.ref (a1 0), .ref (a2 0), .ref q28, .ref q36, .ref (a3 0), .ref q54, .ref q63, .ref q71, .null, .int 0, .int 0])) :: tl9 G a1 a2 q28 (fun _ => none) q36 a3 q54 (fun _ => none) q63 q71 q79) (w_ac tl9_e) ?_
  refine n_putF 84 0 dX3_init_81 rfl kf_3_47 rfl rfl rfl rfl rfl rfl ?_
  refine Rn.eqw (ws' := (h0, .inr (3, [.ref (a1 0), .ref (a2 0), .ref q28, .ref q36, .ref (a3 0), .ref q54, .ref q63, .ref q71, .ref q79, .int 0, .int 0])) :: tl9 G a1 a2 q28 (fun _ => none) q36 a3 q54 (fun _ => none) q63 q71 q79) (w_s0 rfl) ?_
  refine n_iconst 85 dX3_init_84 rfl ?_
  refine n_istore 86 dX3_init_85 rfl rfl rfl ?_
  refine n_iload (i := 0) 87 dX3_init_86 rfl rfl ?_
  refine n_iconst 88 dX3_init_87 rfl ?_
  refine n_ge_n (tgt := 110) 91 dX3_init_88 rfl rfl (by decide) ?_
  refine n_aload (i := 1) 92 dX3_init_91 rfl rfl ?_
  refine n_get 95 0 dX3_init_92 rfl kf_3_19 rfl rfl ?_
  refine n_iload (i := 0) 96 dX3_init_95 rfl rfl ?_
  refine n_new (ci := 2) 99 dX3_init_96 rfl li_7 rfl rfl (fun o4 => ?_)
  refine n_dup 100 dX3_init_99 rfl ?_
  refine n_ctor 103 dX3_init_100 rfl (i_Town (l := l) (G := G)) cm_X2_init cn_X2_init cl_X2_init cj_X2_init ce_X2_init rfl rfl rfl rfl rfl (Nat.le_of_ble_eq_true rfl) (fun a4 z => ?_)
  subst z
  refine Rn.eqw (ws' := (h0, .inr (3, [.ref (a1 0), .ref (a2 0), .ref q28, .ref q36, .ref (a3 0), .ref q54, .ref q63, .ref q71, .ref q79, .int 0, .int 0])) :: tl10 G a1 a2 q28 (fun _ => none) q36 a3 q54 (fun _ => none) q63 q71 q79 a4) (w_ac tl10_e) ?_
  refine n_aast (n := 2) (f := (fun _ => none)) (a := q28) (v := a4 0) (vs := fsOf (GT G a4) hT0 0 2) (ci := 2) (t0 := 3) 104 15 23 dX3_init_103 rfl (by decide) rfl (ga_c (w_gl tl10_e (w_gl tl9_e (w_gl tl8_e (w_gl tl7_e (w_gl tl6_e (w_gl tl5_e (w_gl tl4_e (w_gr tl3_e tl2_n rfl))))))))) (ga_c (w_gr tl10_e tl9_n wTown_0)) 0 rfl (i32_in ⟨by decide, by decide⟩ (by decide) (by decide)) ?_
  refine Rn.eqw (ws' := (h0, .inr (3, [.ref (a1 0), .ref (a2 0), .ref q28, .ref q36, .ref (a3 0), .ref q54, .ref q63, .ref q71, .ref q79, .int 0, .int 0])) :: tl10 G a1 a2 q28 (va_up (fun _ => none) 0 (some (a4 0))) q36 a3 q54 (fun _ => none) q63 q71 q79 a4) (w_sc (w_sl tl10_e tl10_e tl9_n (by decide) (w_sl tl9_e tl9_e tl8_n (by decide) (w_sl tl8_e tl8_e tl7_n (by decide) (w_sl tl7_e tl7_e tl6_n (by decide) (w_sl tl6_e tl6_e tl5_n (by decide) (w_sl tl5_e tl5_e tl4_n (by decide) (w_sl tl4_e tl4_e tl3_n (by decide) (w_sr tl3_e tl3_e tl2_n rfl))))))))) ?_
  refine n_iinc (j := 0) (x := 0) (y := 1) 107 dX3_init_104 rfl rfl (by decide) rfl rfl ?_
  refine n_goto 86 dX3_init_107 rfl ?_
  refine n_iload (i := 0) 87 dX3_init_86 rfl rfl ?_
  refine n_iconst 88 dX3_init_87 rfl ?_
  refine n_ge_n (tgt := 110) 91 dX3_init_88 rfl rfl (by decide) ?_
  refine n_aload (i := 1) 92 dX3_init_91 rfl rfl ?_
  refine n_get 95 0 dX3_init_92 rfl kf_3_19 rfl rfl ?_
  refine n_iload (i := 0) 96 dX3_init_95 rfl rfl ?_
  refine n_new (ci := 2) 99 dX3_init_96 rfl li_7 rfl rfl (fun o5 => ?_)
  refine n_dup 100 dX3_init_99 rfl ?_
  refine n_ctor 103 dX3_init_100 rfl (i_Town (l := l) (G := G)) cm_X2_init cn_X2_init cl_X2_init cj_X2_init ce_X2_init rfl rfl rfl rfl rfl (Nat.le_of_ble_eq_true rfl) (fun a5 z => ?_)
  subst z
  refine Rn.eqw (ws' := (h0, .inr (3, [.ref (a1 0), .ref (a2 0), .ref q28, .ref q36, .ref (a3 0), .ref q54, .ref q63, .ref q71, .ref q79, .int 0, .int 0])) :: tl11 G a1 a2 q28 (va_up (fun _ => none) 0 (some (a4 0))) q36 a3 q54 (fun _ => none) q63 q71 q79 a4 a5) (w_ac tl11_e) ?_
  refine n_aast (n := 2) (f := (va_up (fun _ => none) 0 (some (a4 0)))) (a := q28) (v := a5 0) (vs := fsOf (GT G a5) hT0 0 2) (ci := 2) (t0 := 3) 104 15 30 dX3_init_103 rfl (by decide) rfl (ga_c (w_gl tl11_e (w_gl tl10_e (w_gl tl9_e (w_gl tl8_e (w_gl tl7_e (w_gl tl6_e (w_gl tl5_e (w_gl tl4_e (w_gr tl3_e tl2_n rfl)))))))))) (ga_c (w_gr tl11_e tl10_n wTown_0)) 1 rfl (i32_in ⟨by decide, by decide⟩ (by decide) (by decide)) ?_
  refine Rn.eqw (ws' := (h0, .inr (3, [.ref (a1 0), .ref (a2 0), .ref q28, .ref q36, .ref (a3 0), .ref q54, .ref q63, .ref q71, .ref q79, .int 0, .int 0])) :: tl11 G a1 a2 q28 (va_up (va_up (fun _ => none) 0 (some (a4 0))) 1 (some (a5 0))) q36 a3 q54 (fun _ => none) q63 q71 q79 a4 a5) (w_sc (w_sl tl11_e tl11_e tl10_n (by decide) (w_sl tl10_e tl10_e tl9_n (by decide) (w_sl tl9_e tl9_e tl8_n (by decide) (w_sl tl8_e tl8_e tl7_n (by decide) (w_sl tl7_e tl7_e tl6_n (by decide) (w_sl tl6_e tl6_e tl5_n (by decide) (w_sl tl5_e tl5_e tl4_n (by decide) (w_sl tl4_e tl4_e tl3_n (by decide) (w_sr tl3_e tl3_e tl2_n rfl)))))))))) ?_
  refine n_iinc (j := 0) (x := 1) (y := 2) 107 dX3_init_104 rfl rfl (by decide) rfl rfl ?_
  refine n_goto 86 dX3_init_107 rfl ?_
  refine n_iload (i := 0) 87 dX3_init_86 rfl rfl ?_
  refine n_iconst 88 dX3_init_87 rfl ?_
  refine n_ge_y 110 dX3_init_88 rfl (by decide) ?_
  refine n_iconst 111 dX3_init_110 rfl ?_
  refine n_istore 112 dX3_init_111 rfl rfl rfl ?_
  refine n_iload (i := 0) 113 dX3_init_112 rfl rfl ?_
  refine n_iconst 114 dX3_init_113 rfl ?_
  refine n_ge_n (tgt := 136) 117 dX3_init_114 rfl rfl (by decide) ?_
  refine n_aload (i := 1) 118 dX3_init_117 rfl rfl ?_
  refine n_get 121 0 dX3_init_118 rfl kf_3_36 rfl rfl ?_
  refine n_iload (i := 0) 122 dX3_init_121 rfl rfl ?_
  refine n_new (ci := 0) 125 dX3_init_122 rfl li_34 rfl rfl (fun o6 => ?_)
  refine n_dup 126 dX3_init_125 rfl ?_
  refine n_ctorN (host := RX3) 129 dX3_init_126 rfl (i_Sheet (l := l) (G := G)) cm_X0_init cn_X0_init (fun _ z => z.2.1) cj_X0_init ce_X0_init rfl rfl rfl rfl rfl (Nat.le_of_ble_eq_true rfl) (fun a6 z => ?_)
  subst z
  refine Rn.eqw (ws' := (h0, .inr (3, [.ref (a1 0), .ref (a2 0), .ref q28, .ref q36, .ref (a3 0), .ref q54, .ref q63, .ref q71, .ref q79, .int 0, .int 0])) :: tl12 G a1 a2 q28 (va_up (va_up (fun _ => none) 0 (some (a4 0))) 1 (some (a5 0))) q36 a3 q54 (fun _ => none) q63 q71 q79 a4 a5 a6) (w_ac tl12_e) ?_
  refine n_aast (n := 4) (f := (fun _ => none)) (a := q54) (v := a6 0) (vs := [.ref (a6 1), .int (Int32.ofInt (-1)), .int 0]) (ci := 0) (t0 := 4) 130 19 37 dX3_init_129 rfl (by decide) rfl (ga_c (w_gl tl12_e (w_gl tl11_e (w_gl tl10_e (w_gl tl9_e (w_gl tl8_e (w_gl tl7_e (w_gr tl6_e tl5_n rfl)))))))) (ga_c (w_gr tl12_e tl11_n wSheet_0)) 0 rfl (i32_in ⟨by decide, by decide⟩ (by decide) (by decide)) ?_
  refine Rn.eqw (ws' := (h0, .inr (3, [.ref (a1 0), .ref (a2 0), .ref q28, .ref q36, .ref (a3 0), .ref q54, .ref q63, .ref q71, .ref q79, .int 0, .int 0])) :: tl12 G a1 a2 q28 (va_up (va_up (fun _ => none) 0 (some (a4 0))) 1 (some (a5 0))) q36 a3 q54 (va_up (fun _ => none) 0 (some (a6 0))) q63 q71 q79 a4 a5 a6) (w_sc (w_sl tl12_e tl12_e tl11_n (by decide) (w_sl tl11_e tl11_e tl10_n (by decide) (w_sl tl10_e tl10_e tl9_n (by decide) (w_sl tl9_e tl9_e tl8_n (by decide) (w_sl tl8_e tl8_e tl7_n (by decide) (w_sl tl7_e tl7_e tl6_n (by decide) (w_sr tl6_e tl6_e tl5_n rfl)))))))) ?_
  refine n_iinc (j := 0) (x := 0) (y := 1) 133 dX3_init_130 rfl rfl (by decide) rfl rfl ?_
  refine n_goto 112 dX3_init_133 rfl ?_
  refine n_iload (i := 0) 113 dX3_init_112 rfl rfl ?_
  refine n_iconst 114 dX3_init_113 rfl ?_
  refine n_ge_n (tgt := 136) 117 dX3_init_114 rfl rfl (by decide) ?_
  refine n_aload (i := 1) 118 dX3_init_117 rfl rfl ?_
  refine n_get 121 0 dX3_init_118 rfl kf_3_36 rfl rfl ?_
  refine n_iload (i := 0) 122 dX3_init_121 rfl rfl ?_
  refine n_new (ci := 0) 125 dX3_init_122 rfl li_34 rfl rfl (fun o7 => ?_)
  refine n_dup 126 dX3_init_125 rfl ?_
  refine n_ctorN (host := RX3) 129 dX3_init_126 rfl (i_Sheet (l := l) (G := G)) cm_X0_init cn_X0_init (fun _ z => z.2.1) cj_X0_init ce_X0_init rfl rfl rfl rfl rfl (Nat.le_of_ble_eq_true rfl) (fun a7 z => ?_)
  subst z
  refine Rn.eqw (ws' := (h0, .inr (3, [.ref (a1 0), .ref (a2 0), .ref q28, .ref q36, .ref (a3 0), .ref q54, .ref q63, .ref q71, .ref q79, .int 0, .int 0])) :: tl13 G a1 a2 q28 (va_up (va_up (fun _ => none) 0 (some (a4 0))) 1 (some (a5 0))) q36 a3 q54 (va_up (fun _ => none) 0 (some (a6 0))) q63 q71 q79 a4 a5 a6 a7) (w_ac tl13_e) ?_
  refine n_aast (n := 4) (f := (va_up (fun _ => none) 0 (some (a6 0)))) (a := q54) (v := a7 0) (vs := [.ref (a7 1), .int (Int32.ofInt (-1)), .int 0]) (ci := 0) (t0 := 4) 130 19 39 dX3_init_129 rfl (by decide) rfl (ga_c (w_gl tl13_e (w_gl tl12_e (w_gl tl11_e (w_gl tl10_e (w_gl tl9_e (w_gl tl8_e (w_gl tl7_e (w_gr tl6_e tl5_n rfl))))))))) (ga_c (w_gr tl13_e tl12_n wSheet_0)) 1 rfl (i32_in ⟨by decide, by decide⟩ (by decide) (by decide)) ?_
  refine Rn.eqw (ws' := (h0, .inr (3, [.ref (a1 0), .ref (a2 0), .ref q28, .ref q36, .ref (a3 0), .ref q54, .ref q63, .ref q71, .ref q79, .int 0, .int 0])) :: tl13 G a1 a2 q28 (va_up (va_up (fun _ => none) 0 (some (a4 0))) 1 (some (a5 0))) q36 a3 q54 (va_up (va_up (fun _ => none) 0 (some (a6 0))) 1 (some (a7 0))) q63 q71 q79 a4 a5 a6 a7) (w_sc (w_sl tl13_e tl13_e tl12_n (by decide) (w_sl tl12_e tl12_e tl11_n (by decide) (w_sl tl11_e tl11_e tl10_n (by decide) (w_sl tl10_e tl10_e tl9_n (by decide) (w_sl tl9_e tl9_e tl8_n (by decide) (w_sl tl8_e tl8_e tl7_n (by decide) (w_sl tl7_e tl7_e tl6_n (by decide) (w_sr tl6_e tl6_e tl5_n rfl))))))))) ?_
  refine n_iinc (j := 0) (x := 1) (y := 2) 133 dX3_init_130 rfl rfl (by decide) rfl rfl ?_
  refine n_goto 112 dX3_init_133 rfl ?_
  refine n_iload (i := 0) 113 dX3_init_112 rfl rfl ?_
  refine n_iconst 114 dX3_init_113 rfl ?_
  refine n_ge_n (tgt := 136) 117 dX3_init_114 rfl rfl (by decide) ?_
  refine n_aload (i := 1) 118 dX3_init_117 rfl rfl ?_
  refine n_get 121 0 dX3_init_118 rfl kf_3_36 rfl rfl ?_
  refine n_iload (i := 0) 122 dX3_init_121 rfl rfl ?_
  refine n_new (ci := 0) 125 dX3_init_122 rfl li_34 rfl rfl (fun o8 => ?_)
  refine n_dup 126 dX3_init_125 rfl ?_
  refine n_ctorN (host := RX3) 129 dX3_init_126 rfl (i_Sheet (l := l) (G := G)) cm_X0_init cn_X0_init (fun _ z => z.2.1) cj_X0_init ce_X0_init rfl rfl rfl rfl rfl (Nat.le_of_ble_eq_true rfl) (fun a8 z => ?_)
  subst z
  refine Rn.eqw (ws' := (h0, .inr (3, [.ref (a1 0), .ref (a2 0), .ref q28, .ref q36, .ref (a3 0), .ref q54, .ref q63, .ref q71, .ref q79, .int 0, .int 0])) :: tl14 G a1 a2 q28 (va_up (va_up (fun _ => none) 0 (some (a4 0))) 1 (some (a5 0))) q36 a3 q54 (va_up (va_up (fun _ => none) 0 (some (a6 0))) 1 (some (a7 0))) q63 q71 q79 a4 a5 a6 a7 a8) (w_ac tl14_e) ?_
  refine n_aast (n := 4) (f := (va_up (va_up (fun _ => none) 0 (some (a6 0))) 1 (some (a7 0)))) (a := q54) (v := a8 0) (vs := [.ref (a8 1), .int (Int32.ofInt (-1)), .int 0]) (ci := 0) (t0 := 4) 130 19 41 dX3_init_129 rfl (by decide) rfl (ga_c (w_gl tl14_e (w_gl tl13_e (w_gl tl12_e (w_gl tl11_e (w_gl tl10_e (w_gl tl9_e (w_gl tl8_e (w_gl tl7_e (w_gr tl6_e tl5_n rfl)))))))))) (ga_c (w_gr tl14_e tl13_n wSheet_0)) 2 rfl (i32_in ⟨by decide, by decide⟩ (by decide) (by decide)) ?_
  refine Rn.eqw (ws' := (h0, .inr (3, [.ref (a1 0), .ref (a2 0), .ref q28, .ref q36, .ref (a3 0), .ref q54, .ref q63, .ref q71, .ref q79, .int 0, .int 0])) :: tl14 G a1 a2 q28 (va_up (va_up (fun _ => none) 0 (some (a4 0))) 1 (some (a5 0))) q36 a3 q54 (va_up (va_up (va_up (fun _ => none) 0 (some (a6 0))) 1 (some (a7 0))) 2 (some (a8 0))) q63 q71 q79 a4 a5 a6 a7 a8) (w_sc (w_sl tl14_e tl14_e tl13_n (by decide) (w_sl tl13_e tl13_e tl12_n (by decide) (w_sl tl12_e tl12_e tl11_n (by decide) (w_sl tl11_e tl11_e tl10_n (by decide) (w_sl tl10_e tl10_e tl9_n (by decide) (w_sl tl9_e tl9_e tl8_n (by decide) (w_sl tl8_e tl8_e tl7_n (by decide) (w_sl tl7_e tl7_e tl6_n (by decide) (w_sr tl6_e tl6_e tl5_n rfl)))))))))) ?_
  refine n_iinc (j := 0) (x := 2) (y := 3) 133 dX3_init_130 rfl rfl (by decide) rfl rfl ?_
  refine n_goto 112 dX3_init_133 rfl ?_
  refine n_iload (i := 0) 113 dX3_init_112 rfl rfl ?_
  refine n_iconst 114 dX3_init_113 rfl ?_
  refine n_ge_n (tgt := 136) 117 dX3_init_114 rfl rfl (by decide) ?_
  refine n_aload (i := 1) 118 dX3_init_117 rfl rfl ?_
  refine n_get 121 0 dX3_init_118 rfl kf_3_36 rfl rfl ?_
  refine n_iload (i := 0) 122 dX3_init_121 rfl rfl ?_
  refine n_new (ci := 0) 125 dX3_init_122 rfl li_34 rfl rfl (fun o9 => ?_)
  refine n_dup 126 dX3_init_125 rfl ?_
  refine n_ctorN (host := RX3) 129 dX3_init_126 rfl (i_Sheet (l := l) (G := G)) cm_X0_init cn_X0_init (fun _ z => z.2.1) cj_X0_init ce_X0_init rfl rfl rfl rfl rfl (Nat.le_of_ble_eq_true rfl) (fun a9 z => ?_)
  subst z
  refine Rn.eqw (ws' := (h0, .inr (3, [.ref (a1 0), .ref (a2 0), .ref q28, .ref q36, .ref (a3 0), .ref q54, .ref q63, .ref q71, .ref q79, .int 0, .int 0])) :: tl15 G a1 a2 q28 (va_up (va_up (fun _ => none) 0 (some (a4 0))) 1 (some (a5 0))) q36 a3 q54 (va_up (va_up (va_up (fun _ => none) 0 (some (a6 0))) 1 (some (a7 0))) 2 (some (a8 0))) q63 q71 q79 a4 a5 a6 a7 a8 a9) (w_ac tl15_e) ?_
  refine n_aast (n := 4) (f := (va_up (va_up (va_up (fun _ => none) 0 (some (a6 0))) 1 (some (a7 0))) 2 (some (a8 0)))) (a := q54) (v := a9 0) (vs := [.ref (a9 1), .int (Int32.ofInt (-1)), .int 0]) (ci := 0) (t0 := 4) 130 19 43 dX3_init_129 rfl (by decide) rfl (ga_c (w_gl tl15_e (w_gl tl14_e (w_gl tl13_e (w_gl tl12_e (w_gl tl11_e (w_gl tl10_e (w_gl tl9_e (w_gl tl8_e (w_gl tl7_e (w_gr tl6_e tl5_n rfl))))))))))) (ga_c (w_gr tl15_e tl14_n wSheet_0)) 3 rfl (i32_in ⟨by decide, by decide⟩ (by decide) (by decide)) ?_
  refine Rn.eqw (ws' := (h0, .inr (3, [.ref (a1 0), .ref (a2 0), .ref q28, .ref q36, .ref (a3 0), .ref q54, .ref q63, .ref q71, .ref q79, .int 0, .int 0])) :: tl15 G a1 a2 q28 (va_up (va_up (fun _ => none) 0 (some (a4 0))) 1 (some (a5 0))) q36 a3 q54 (va_up (va_up (va_up (va_up (fun _ => none) 0 (some (a6 0))) 1 (some (a7 0))) 2 (some (a8 0))) 3 (some (a9 0))) q63 q71 q79 a4 a5 a6 a7 a8 a9) (w_sc (w_sl tl15_e tl15_e tl14_n (by decide) (w_sl tl14_e tl14_e tl13_n (by decide) (w_sl tl13_e tl13_e tl12_n (by decide) (w_sl tl12_e tl12_e tl11_n (by decide) (w_sl tl11_e tl11_e tl10_n (by decide) (w_sl tl10_e tl10_e tl9_n (by decide) (w_sl tl9_e tl9_e tl8_n (by decide) (w_sl tl8_e tl8_e tl7_n (by decide) (w_sl tl7_e tl7_e tl6_n (by decide) (w_sr tl6_e tl6_e tl5_n rfl))))))))))) ?_
  refine n_iinc (j := 0) (x := 3) (y := 4) 133 dX3_init_130 rfl rfl (by decide) rfl rfl ?_
  refine n_goto 112 dX3_init_133 rfl ?_
  refine n_iload (i := 0) 113 dX3_init_112 rfl rfl ?_
  refine n_iconst 114 dX3_init_113 rfl ?_
  refine n_ge_y 136 dX3_init_114 rfl (by decide) ?_
  refine Rn.eqw (ws' := (h0, .inr (3, [.ref (a1 0), .ref (a2 0), .ref q28, .ref q36, .ref (a3 0), .ref q54, .ref q63, .ref q71, .ref q79, .int 0, .int 0])) :: (((((((((((((((([] : va_W) ++ wTown G a1) ++ wTown G a2) ++ [(q28, .inl (gC G 3, (2, .inr (.inr (.inr (.inr (va_up (va_up (fun _ => none) 0 (some (a4 0))) 1 (some (a5 0)))))))))]) ++ [(q36, .inl (gC G 2, (2, .inl (fun _ => 0))))]) ++ wTape G a3) ++ [(q54, .inl (gC G 4, (4, .inr (.inr (.inr (.inr (va_up (va_up (va_up (va_up (fun _ => none) 0 (some (a6 0))) 1 (some (a7 0))) 2 (some (a8 0))) 3 (some (a9 0)))))))))]) ++ [(q63, .inl (gC G 0, (6, .inl (fun _ => 0))))]) ++ [(q71, .inl (gC G 0, (6, .inl (fun _ => 0))))]) ++ [(q79, .inl (gC G 0, (7, .inl (fun _ => 0))))]) ++ wTown G a4) ++ wTown G a5) ++ wSheet G a6) ++ wSheet G a7) ++ wSheet G a8) ++ wSheet G a9)) (by unfold tl15 tl14 tl13 tl12 tl11 tl10 tl9 tl8 tl7 tl6 tl5 tl4 tl3 tl2 tl1; rfl) ?_
  refine n_ret dX3_init_136 rfl rfl rfl (fun args s t hP hD hF => ?_)
  have e : wSun G (pk [(fun i => [h0, q28, q36, q54, q63, q71, q79].getD i 0), a1, a2, a3, a4, a5, a6, a7, a8, a9]) = wSunF G (fun i => [h0, q28, q36, q54, q63, q71, q79].getD i 0) a1 a2 a3 a4 a5 a6 a7 a8 a9 := by
    unfold wSun
    rw [dk_pk (k := 0) (by decide), dk_pk (k := 1) (by decide), dk_pk (k := 2) (by decide), dk_pk (k := 3) (by decide), dk_pk (k := 4) (by decide), dk_pk (k := 5) (by decide), dk_pk (k := 6) (by decide), dk_pk (k := 7) (by decide), dk_pk (k := 8) (by decide), dk_pk (k := 9) (by decide)]
    rfl
  refine ⟨⟨pk [(fun i => [h0, q28, q36, q54, q63, q71, q79].getD i 0), a1, a2, a3, a4, a5, a6, a7, a8, a9], rfl, rfl, ?_, ?_⟩, hF⟩
  · rw [e]; exact hP
  · rw [e]; exact hD
end RN
