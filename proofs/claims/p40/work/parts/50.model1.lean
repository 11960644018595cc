/-! SunPointerModel: the object 45; rows state 46, readPage 47, tape 48, cuts 49, letters 50, reads 51, seen 52, whenBy 53, isKept 54, lanes 55, lengths 56, cells 57. Fields: 1 manMany, 3 readMen, 4 rotaMany, 5 toldOnce, 6 high, 8 taped, 9 fault, 10 broken, 11 brokenAt, 12 spot, 13 here, 14 token, 15 value, 19 least, 21 seenMany, 23 drawn, 28 torn -/
theorem tq_4 (j : Nat) : ((4 : Int) + (j : Int)).toNat = 4 + j := by omega
theorem tq_8 (j : Nat) : ((8 : Int) + (j : Int)).toNat = 8 + j := by omega
theorem tq_22 (j : Nat) : ((22 : Int) + (j : Int)).toNat = 22 + j := by omega
theorem tq_27 (j : Nat) : ((27 : Int) + (j : Int)).toNat = 27 + j := by omega
theorem tq_99 (j : Nat) : ((99 : Int) + (j : Int)).toNat = 99 + j := by omega
theorem tq_a (i j : Nat) : ((i : Int) + (j : Int)).toNat = i + j := by omega
theorem tl_0 : (0 : Int).toNat = 0 := rfl
theorem tl_1 : (1 : Int).toNat = 1 := rfl
theorem tl_20 : (20 : Int).toNat = 20 := rfl
theorem tl_21 : (21 : Int).toNat = 21 := rfl
theorem tl_22 : (22 : Int).toNat = 22 := rfl
theorem tl_32 : (32 : Int).toNat = 32 := rfl
def LM (G : zG) : Prop := gN G = 58 ∧ (gs G 45 = 9 ∧ gs G 46 = 0 ∧ gs G 47 = 0 ∧ gs G 48 = 0 ∧ gs G 49 = 0 ∧ gs G 50 = 0 ∧ gs G 51 = 0 ∧ gs G 52 = 0 ∧ gs G 53 = 0 ∧ gs G 54 = 2 ∧ gs G 55 = 0 ∧ gs G 56 = 0 ∧ gs G 57 = 0) ∧ (gl G 46 = 132 ∧ gl G 47 = 33 ∧ gl G 48 = 160 ∧ gl G 49 = 9 ∧ gl G 50 = 42 ∧ gl G 51 = 48 ∧ gl G 52 = 12 ∧ gl G 53 = 35 ∧ gl G 54 = 2 ∧ gl G 55 = 4 ∧ gl G 56 = 4 ∧ gl G 57 = 160) ∧ (gr G 45 0 = 46 ∧ gr G 45 2 = 47 ∧ gr G 45 7 = 48 ∧ gr G 45 16 = 49 ∧ gr G 45 17 = 50 ∧ gr G 45 18 = 51 ∧ gr G 45 20 = 52 ∧ gr G 45 22 = 53 ∧ gr G 45 24 = 54 ∧ gr G 45 25 = 55 ∧ gr G 45 26 = 56 ∧ gr G 45 27 = 57)
def wPg (pg : Nat → Int) : Prop := (∀ j, j < 4 → 0 ≤ pg j ∧ pg j ≤ 3) ∧ (∀ j, j < 4 → 0 ≤ pg (4 + j) ∧ pg (4 + j) ≤ 6) ∧ (∀ j, j < 12 → 0 ≤ pg (8 + j) ∧ pg (8 + j) ≤ 4) ∧ (0 ≤ pg 20 ∧ pg 20 < 4096) ∧ (-3 ≤ pg 21 ∧ pg 21 ≤ 3) ∧ (∀ j, j < 5 → 0 ≤ pg (22 + j) ∧ pg (22 + j) ≤ 47) ∧ (∀ j, j < 5 → 0 ≤ pg (27 + j) ∧ pg (27 + j) ≤ 9) ∧ (0 ≤ pg 32 ∧ pg 32 ≤ 5)
def wM (h : zH) : Prop := wPg (h 46) ∧ (0 ≤ h 45 1 ∧ h 45 1 ≤ 4) ∧ (0 ≤ h 45 8 ∧ h 45 8 ≤ 160) ∧ (0 ≤ h 45 21 ∧ h 45 21 ≤ 6)
def stM (pg : Nat → Int) (j : Nat) : Int := pg (8 + j) - 1
def bgF (pg : Nat → Int) : Nat → Nat
  | 0 => 0
  | n + 1 => if stM pg n = stM pg (n + 1) then bgF pg n else n + 1
theorem bgF_le (pg : Nat → Int) : ∀ n, bgF pg n ≤ n
  | 0 => Nat.le_refl _
  | n + 1 => by
    have := bgF_le pg n
    unfold bgF
    split <;> omega
def sdM (pg : Nat → Int) (q : Nat) : Int := (q : Int) - 4 * (bgF pg (q / 4) : Int)
theorem sdM_in (pg : Nat → Int) (q : Nat) : 0 ≤ sdM pg q ∧ sdM pg q ≤ q := by
  have := bgF_le pg (q / 4)
  unfold sdM
  omega
def slM (pg : Nat → Int) (m q : Nat) : Int := if pg m = 0 then 0 else if pg m = 1 then -1 else if pg m = 2 then -1 - sdM pg q / 8 else if (q : Int) / 4 % 2 = 0 then 1 else -1
def clM (v : Int) : Int := if v < 0 then 0 else if 47 < v then 47 else v
def rdM (pg : Nat → Int) (q : Nat) : Int := if stM pg (q / 4) < 0 ∨ bitI (pg 20) (q / 4) = 1 then -4 else clM ((q : Int) + slM pg (stM pg (q / 4)).toNat q + pg (4 + (stM pg (q / 4)).toNat) + pg 21 + 3 - 6)
def dsM (rd : Nat → Int) (due : Int) : Nat → Nat → Int
  | 0, _ => -4
  | n + 1, q => if ¬ rd q = -4 ∧ due ≤ rd q then (q : Int) else dsM rd due n (q + 1)
def dnM (pg : Nat → Int) (i : Nat) : Int := dsM (rdM pg) (pg (22 + i)) 48 0
def hfM (wo du q : Int) : Int := wo * (if q = -4 then 48 else if du < q then q - du else du - q)
def haM (pg : Nat → Int) (i : Nat) : Int := hfM (pg (27 + i)) (pg (22 + i)) (dnM pg i)
def hmM (pg : Nat → Int) : Int := sumF (haM pg) (pg 32).toNat
theorem slM_in (pg : Nat → Int) (m q : Nat) (hq : q < 48) : -7 ≤ slM pg m q ∧ slM pg m q ≤ 1 := by
  have := sdM_in pg q
  unfold slM
  split
  · omega
  · split
    · omega
    · split
      · omega
      · split <;> omega
theorem clM_in (v : Int) : 0 ≤ clM v ∧ clM v ≤ 47 := by
  unfold clM
  split
  · omega
  · split <;> omega
theorem rdM_in (pg : Nat → Int) (q : Nat) : rdM pg q = -4 ∨ (0 ≤ rdM pg q ∧ rdM pg q ≤ 47) := by
  unfold rdM
  split
  · exact Or.inl rfl
  · exact Or.inr (clM_in _)
theorem dsM_in (rd : Nat → Int) (due : Int) : ∀ n q : Nat, q + n ≤ 48 → dsM rd due n q = -4 ∨ (0 ≤ dsM rd due n q ∧ dsM rd due n q < 48)
  | 0, _, _ => Or.inl rfl
  | n + 1, q, h => by
    unfold dsM
    split
    · exact Or.inr (by omega)
    · exact dsM_in rd due n (q + 1) (by omega)
theorem hfM_in {wo du q : Int} (h1 : 0 ≤ wo ∧ wo ≤ 9) (h2 : 0 ≤ du ∧ du ≤ 47) (h3 : q = -4 ∨ (0 ≤ q ∧ q < 48)) : 0 ≤ hfM wo du q ∧ hfM wo du q ≤ 432 := by
  have : 0 ≤ (if q = -4 then 48 else if du < q then q - du else du - q) ∧ (if q = -4 then 48 else if du < q then q - du else du - q) ≤ 48 := by
    split
    · omega
    · split <;> omega
  exact mul_in h1.1 h1.2 this.1 this.2
section MO
variable {l : Launch} {G : zG} {h : zH}
theorem c_in (v a b : Int) : Ca l G 0 mX4_in [vL v, vL a, vL b] h (fun r h' => r = some (vI (z01 (a ≤ v ∧ v ≤ b))) ∧ h' = h) := by
  refine Ca.of (by decide) (Nat.le_of_ble_eq_true rfl) (fun hI hv hH => ?_)
  refine r_lload_n 1 dX4_in_0 rfl rfl ?_
  refine r_lload_n 2 dX4_in_1 rfl rfl ?_
  refine r_lcmp 3 dX4_in_2 rfl ?_
  refine r_if_lt 17 6 dX4_in_3 (by decide) rfl (fun c_3 => ?_) (fun c_3 => ?_)
  refine r_iconst 18 dX4_in_17 rfl rfl ?_
  refine r_zret dX4_in_18 rfl (by first | exact Or.inl rfl | exact Or.inr rfl | assumption | omega) ?_
  rotate_left -- leaf: return at pc 18
  refine r_lload_n 7 dX4_in_6 rfl rfl ?_
  refine r_lload 9 dX4_in_7 rfl rfl ?_
  refine r_lcmp 10 dX4_in_9 rfl ?_
  refine r_if_gt 17 13 dX4_in_10 (by decide) rfl (fun c_10 => ?_) (fun c_10 => ?_)
  refine r_iconst 18 dX4_in_17 rfl rfl ?_
  refine r_zret dX4_in_18 rfl (by first | exact Or.inl rfl | exact Or.inr rfl | assumption | omega) ?_
  rotate_left -- leaf: return at pc 18
  refine r_iconst 14 dX4_in_13 rfl rfl ?_
  refine r_goto 18 dX4_in_14 (by decide) ?_
  refine r_zret dX4_in_18 rfl (by first | exact Or.inl rfl | exact Or.inr rfl | assumption | omega) ?_
  rotate_left -- leaf: return at pc 18
  all_goals refine ⟨?_, rfl⟩
  all_goals unfold z_lcmp at *
  · rw [z01_f (fun z => by
      split at c_3
      · omega
      · split at c_3 <;> omega)]
  · rw [z01_f (fun z => by
      split at c_10
      · omega
      · split at c_10 <;> omega)]
  · rw [z01_t]
    refine ⟨?_, ?_⟩
    · by_cases z : v < a
      · rw [if_neg (by omega), if_neg (by omega)] at c_3; omega
      · omega
    · by_cases z : b < v
      · rw [if_pos z] at c_10; omega
      · omega
theorem m_feed (lm : LM G) (wm : wM h) (c : Int) : Ca l G 1 mX4_feed [vR 45, vI c] h (fun r h' => (¬ (0 ≤ c ∧ c ≤ 127) ∧ r = some (vI (-1)) ∧ h' = h) ∨ ((0 ≤ c ∧ c ≤ 127) ∧ h 45 8 = 160 ∧ r = some (vI (-3)) ∧ h' = h) ∨ ((0 ≤ c ∧ c ≤ 127) ∧ h 45 8 < 160 ∧ r = some (vI (h 45 8 + 1)) ∧ h' = up (up h 48 (h 45 8).toNat c) 45 8 (h 45 8 + 1))) := by
  obtain ⟨hN, ⟨ms45, ms46, ms47, ms48, ms49, ms50, ms51, ms52, ms53, ms54, ms55, ms56, ms57⟩, ⟨ml46, ml47, ml48, ml49, ml50, ml51, ml52, ml53, ml54, ml55, ml56, ml57⟩, ⟨mr0, mr2, mr7, mr16, mr17, mr18, mr20, mr22, mr24, mr25, mr26, mr27⟩⟩ := lm
  obtain ⟨⟨wg1, wg2, wg3, wg4, wg5, wg6, wg7, wg8⟩, wmen, wtp, wsm⟩ := wm
  refine Ca.of (by decide) (Nat.le_of_ble_eq_true rfl) (fun hI hv hH => ?_)
  refine r_iload_n 1 dX4_feed_0 rfl rfl ?_
  refine r_i2l 2 dX4_feed_1 rfl ?_
  refine r_lconst 3 dX4_feed_2 rfl 0 rfl (by decide) ?_
  refine r_ldc2 6 (127) dX4_feed_3 rfl kq_4_47 rfl ?_
  rotate_left -- leaf: call at pc 6
  refine r_cs3 9 dX4_feed_6 rfl ks_4_49 rfl rfl (c_in c 0 127) ?_
  rintro r h' ⟨rfl, rfl⟩
  refine r_if_ne 14 12 dX4_feed_9 (by decide) rfl (fun c_9 => ?_) (fun c_9 => ?_)
  refine r_aload_n 15 dX4_feed_14 rfl rfl ?_
  refine r_getI 18 dX4_feed_15 rfl kf_4_53 rfl (by first | assumption | omega) (by assumption) ?_
  refine r_sipush 21 dX4_feed_18 rfl rfl (by decide) ?_
  refine r_icmp_ne 27 24 dX4_feed_21 (by decide) rfl (fun c_21 => ?_) (fun c_21 => ?_)
  rotate_left -- leaf: pc 27
  refine r_bipush 26 dX4_feed_24 rfl rfl (by decide) ?_
  refine r_iret dX4_feed_26 rfl ?_
  rotate_left -- leaf: return at pc 26
  refine r_iconst 13 dX4_feed_12 rfl rfl ?_
  refine r_iret dX4_feed_13 rfl ?_
  rotate_left -- leaf: return at pc 13
  · have e1 : up h' 48 (h' 45 8).toNat c 45 8 = h' 45 8 := up_k (by omega)
    refine r_aload_n 28 dX4_feed_27 rfl rfl ?_
    refine r_getR 31 dX4_feed_28 rfl kf_4_16 rfl (by first | assumption | omega) (by assumption) (by assumption) ?_
    refine r_aload_n 32 dX4_feed_31 rfl rfl ?_
    refine r_getI 35 dX4_feed_32 rfl kf_4_53 rfl (by first | assumption | omega) (by assumption) ?_
    refine r_iload_n 36 dX4_feed_35 rfl rfl ?_
    refine r_iast 37 dX4_feed_36 rfl (by first | assumption | omega) (by assumption) (by first | omega | (simp only [Int.toNat_natCast]; omega)) (by first | omega | (simp only [Int.toNat_natCast]; omega)) ?_
    try simp only [Int.toNat_natCast, tq_4, tq_8, tq_22, tq_27, tq_99, tq_a, tl_0, tl_1, tl_20, tl_21, tl_22, tl_32]
    refine r_aload_n 38 dX4_feed_37 rfl rfl ?_
    refine r_dup 39 dX4_feed_38 rfl rfl ?_
    refine r_getI 42 dX4_feed_39 rfl kf_4_53 rfl (by first | assumption | omega) (by assumption) ?_
    rotate_left -- leaf: pc 42
    rw [e1]
    refine r_iconst 43 dX4_feed_42 rfl rfl ?_
    refine r_iadd 44 dX4_feed_43 rfl (by first | exact w32_id (by omega) (by omega) | rfl) ?_
    refine r_putI 47 dX4_feed_44 rfl kf_4_53 rfl rfl (Or.inl rfl) (by first | assumption | omega) (by assumption) ?_
    refine r_aload_n 48 dX4_feed_47 rfl rfl ?_
    refine r_getI 51 dX4_feed_48 rfl kf_4_53 rfl (by first | assumption | omega) (by assumption) ?_
    refine r_iret dX4_feed_51 rfl ?_
    rotate_left -- leaf: return at pc 51
    refine Or.inr (Or.inr ⟨z01_y.mp c_9, by omega, ?_, rfl⟩)
    rw [up_s]
  · exact Or.inr (Or.inl ⟨z01_y.mp c_9, c_21, rfl, rfl⟩)
  · exact Or.inl ⟨z01_n.mp c_9, rfl, rfl⟩
theorem m_end (lm : LM G) (n : Int) : Ca l G 1 mX4_end [vR 45, vI n] h (fun r h' => (¬ (0 ≤ n ∧ n ≤ h 45 8) ∧ r = some (vI (-1)) ∧ h' = h) ∨ ((0 ≤ n ∧ n ≤ h 45 8) ∧ r = some (vI (h 45 8)) ∧ h' = up h 45 8 n)) := by
  obtain ⟨hN, ⟨ms45, ms46, ms47, ms48, ms49, ms50, ms51, ms52, ms53, ms54, ms55, ms56, ms57⟩, ⟨ml46, ml47, ml48, ml49, ml50, ml51, ml52, ml53, ml54, ml55, ml56, ml57⟩, ⟨mr0, mr2, mr7, mr16, mr17, mr18, mr20, mr22, mr24, mr25, mr26, mr27⟩⟩ := lm
  refine Ca.of (by decide) (Nat.le_of_ble_eq_true rfl) (fun hI hv hH => ?_)
  refine r_iload_n 1 dX4_end_0 rfl rfl ?_
  refine r_i2l 2 dX4_end_1 rfl ?_
  refine r_lconst 3 dX4_end_2 rfl 0 rfl (by decide) ?_
  refine r_aload_n 4 dX4_end_3 rfl rfl ?_
  refine r_getI 7 dX4_end_4 rfl kf_4_53 rfl (by first | assumption | omega) (by assumption) ?_
  refine r_i2l 8 dX4_end_7 rfl ?_
  rotate_left -- leaf: call at pc 8
  refine r_cs3 11 dX4_end_8 rfl ks_4_49 rfl rfl (c_in n 0 (h 45 8)) ?_
  rintro r h' ⟨rfl, rfl⟩
  refine r_if_ne 16 14 dX4_end_11 (by decide) rfl (fun c_11 => ?_) (fun c_11 => ?_)
  refine r_aload_n 17 dX4_end_16 rfl rfl ?_
  refine r_getI 20 dX4_end_17 rfl kf_4_53 rfl (by first | assumption | omega) (by assumption) ?_
  refine r_istore_n 21 dX4_end_20 rfl rfl rfl ?_
  refine r_aload_n 22 dX4_end_21 rfl rfl ?_
  refine r_iload_n 23 dX4_end_22 rfl rfl ?_
  refine r_putI 26 dX4_end_23 rfl kf_4_53 rfl rfl (Or.inl rfl) (by first | assumption | omega) (by assumption) ?_
  refine r_iload_n 27 dX4_end_26 rfl rfl ?_
  refine r_iret dX4_end_27 rfl ?_
  rotate_left -- leaf: return at pc 27
  refine r_iconst 15 dX4_end_14 rfl rfl ?_
  refine r_iret dX4_end_15 rfl ?_
  rotate_left -- leaf: return at pc 15
  · exact Or.inr ⟨z01_y.mp c_11, rfl, rfl⟩
  · exact Or.inl ⟨z01_n.mp c_11, rfl, rfl⟩
theorem m_fault (lm : LM G) : Ca l G 0 mX4_fault [vR 45] h (fun r h' => r = some (vI (h 45 9)) ∧ h' = h) := by
  obtain ⟨hN, ⟨ms45, ms46, ms47, ms48, ms49, ms50, ms51, ms52, ms53, ms54, ms55, ms56, ms57⟩, ⟨ml46, ml47, ml48, ml49, ml50, ml51, ml52, ml53, ml54, ml55, ml56, ml57⟩, ⟨mr0, mr2, mr7, mr16, mr17, mr18, mr20, mr22, mr24, mr25, mr26, mr27⟩⟩ := lm
  refine Ca.of (by decide) (Nat.le_of_ble_eq_true rfl) (fun hI hv hH => ?_)
  refine r_aload_n 1 dX4_fault_0 rfl rfl ?_
  refine r_getI 4 dX4_fault_1 rfl kf_4_125 rfl (by first | assumption | omega) (by assumption) ?_
  refine r_iret dX4_fault_4 rfl ?_
  rotate_left -- leaf: return at pc 4
  exact ⟨rfl, rfl⟩
theorem m_torn (lm : LM G) : Ca l G 0 mX4_torn [vR 45] h (fun r h' => r = some (vI (h 45 28)) ∧ h' = h) := by
  obtain ⟨hN, ⟨ms45, ms46, ms47, ms48, ms49, ms50, ms51, ms52, ms53, ms54, ms55, ms56, ms57⟩, ⟨ml46, ml47, ml48, ml49, ml50, ml51, ml52, ml53, ml54, ml55, ml56, ml57⟩, ⟨mr0, mr2, mr7, mr16, mr17, mr18, mr20, mr22, mr24, mr25, mr26, mr27⟩⟩ := lm
  refine Ca.of (by decide) (Nat.le_of_ble_eq_true rfl) (fun hI hv hH => ?_)
  refine r_aload_n 1 dX4_torn_0 rfl rfl ?_
  refine r_getI 4 dX4_torn_1 rfl kf_4_235 rfl (by first | assumption | omega) (by assumption) ?_
  refine r_iret dX4_torn_4 rfl ?_
  rotate_left -- leaf: return at pc 4
  exact ⟨rfl, rfl⟩
theorem m_isMan (lm : LM G) (wm : wM h) (m : Int) : Ca l G 1 mX4_isMan [vR 45, vI m] h (fun r h' => r = some (vI (z01 (0 ≤ m ∧ m < h 45 1))) ∧ h' = h) := by
  obtain ⟨hN, ⟨ms45, ms46, ms47, ms48, ms49, ms50, ms51, ms52, ms53, ms54, ms55, ms56, ms57⟩, ⟨ml46, ml47, ml48, ml49, ml50, ml51, ml52, ml53, ml54, ml55, ml56, ml57⟩, ⟨mr0, mr2, mr7, mr16, mr17, mr18, mr20, mr22, mr24, mr25, mr26, mr27⟩⟩ := lm
  obtain ⟨⟨wg1, wg2, wg3, wg4, wg5, wg6, wg7, wg8⟩, wmen, wtp, wsm⟩ := wm
  refine Ca.of (by decide) (Nat.le_of_ble_eq_true rfl) (fun hI hv hH => ?_)
  refine r_iload_n 1 dX4_isMan_0 rfl rfl ?_
  refine r_i2l 2 dX4_isMan_1 rfl ?_
  refine r_lconst 3 dX4_isMan_2 rfl 0 rfl (by decide) ?_
  refine r_aload_n 4 dX4_isMan_3 rfl rfl ?_
  refine r_getI 7 dX4_isMan_4 rfl kf_4_128 rfl (by first | assumption | omega) (by assumption) ?_
  refine r_iconst 8 dX4_isMan_7 rfl rfl ?_
  refine r_isub 9 dX4_isMan_8 rfl (by first | exact w32_id (by omega) (by omega) | rfl) ?_
  refine r_i2l 10 dX4_isMan_9 rfl ?_
  rotate_left -- leaf: call at pc 10
  refine r_cs3 13 dX4_isMan_10 rfl ks_4_49 rfl rfl (c_in m 0 (h 45 1 - 1)) ?_
  rintro r h' ⟨rfl, rfl⟩
  have hb := z01_c (c := 0 ≤ m ∧ m ≤ h' 45 1 - 1)
  refine r_zret dX4_isMan_13 rfl (by first | exact Or.inl rfl | exact Or.inr rfl | assumption | omega) ?_
  rotate_left -- leaf: return at pc 13
  exact ⟨by rw [z01_iff (e := 0 ≤ m ∧ m < h' 45 1) (by omega)], rfl⟩
theorem m_isHour (x : Int) : Ca l G 1 mX4_isHour [vI x] h (fun r h' => r = some (vI (z01 (0 ≤ x ∧ x < 12))) ∧ h' = h) := by
  refine Ca.of (by decide) (Nat.le_of_ble_eq_true rfl) (fun hI hv hH => ?_)
  refine r_iload_n 1 dX4_isHour_0 rfl rfl ?_
  refine r_i2l 2 dX4_isHour_1 rfl ?_
  refine r_lconst 3 dX4_isHour_2 rfl 0 rfl (by decide) ?_
  refine r_ldc2 6 (11) dX4_isHour_3 rfl kq_4_134 rfl ?_
  rotate_left -- leaf: call at pc 6
  refine r_cs3 9 dX4_isHour_6 rfl ks_4_49 rfl rfl (c_in x 0 11) ?_
  rintro r h' ⟨rfl, rfl⟩
  have hb := z01_c (c := 0 ≤ x ∧ x ≤ 11)
  refine r_zret dX4_isHour_9 rfl (by first | exact Or.inl rfl | exact Or.inr rfl | assumption | omega) ?_
  rotate_left -- leaf: return at pc 9
  exact ⟨by rw [z01_iff (e := 0 ≤ x ∧ x < 12) (by omega)], rfl⟩
theorem m_isDeed (lm : LM G) (wm : wM h) (m : Int) : Ca l G 1 mX4_isDeed [vR 45, vI m] h (fun r h' => r = some (vI (z01 (0 ≤ m ∧ m < h 46 32))) ∧ h' = h) := by
  obtain ⟨hN, ⟨ms45, ms46, ms47, ms48, ms49, ms50, ms51, ms52, ms53, ms54, ms55, ms56, ms57⟩, ⟨ml46, ml47, ml48, ml49, ml50, ml51, ml52, ml53, ml54, ml55, ml56, ml57⟩, ⟨mr0, mr2, mr7, mr16, mr17, mr18, mr20, mr22, mr24, mr25, mr26, mr27⟩⟩ := lm
  obtain ⟨⟨wg1, wg2, wg3, wg4, wg5, wg6, wg7, wg8⟩, wmen, wtp, wsm⟩ := wm
  refine Ca.of (by decide) (Nat.le_of_ble_eq_true rfl) (fun hI hv hH => ?_)
  refine r_iload_n 1 dX4_isDeed_0 rfl rfl ?_
  refine r_i2l 2 dX4_isDeed_1 rfl ?_
  refine r_lconst 3 dX4_isDeed_2 rfl 0 rfl (by decide) ?_
  refine r_aload_n 4 dX4_isDeed_3 rfl rfl ?_
  refine r_getR 7 dX4_isDeed_4 rfl kf_4_7 rfl (by first | assumption | omega) (by assumption) (by assumption) ?_
  refine r_bipush 9 dX4_isDeed_7 rfl rfl (by decide) ?_
  refine r_iald 10 dX4_isDeed_9 rfl (by first | assumption | omega) (by assumption) (by first | omega | (simp only [Int.toNat_natCast]; omega)) (by first | omega | (simp only [Int.toNat_natCast]; omega)) ?_
  try simp only [Int.toNat_natCast, tq_4, tq_8, tq_22, tq_27, tq_99, tq_a, tl_0, tl_1, tl_20, tl_21, tl_22, tl_32]
  refine r_iconst 11 dX4_isDeed_10 rfl rfl ?_
  refine r_isub 12 dX4_isDeed_11 rfl (by first | exact w32_id (by omega) (by omega) | rfl) ?_
  refine r_i2l 13 dX4_isDeed_12 rfl ?_
  rotate_left -- leaf: call at pc 13
  refine r_cs3 16 dX4_isDeed_13 rfl ks_4_49 rfl rfl (c_in m 0 (h 46 32 - 1)) ?_
  rintro r h' ⟨rfl, rfl⟩
  have hb := z01_c (c := 0 ≤ m ∧ m ≤ h' 46 32 - 1)
  refine r_zret dX4_isDeed_16 rfl (by first | exact Or.inl rfl | exact Or.inr rfl | assumption | omega) ?_
  rotate_left -- leaf: return at pc 16
  exact ⟨by rw [z01_iff (e := 0 ≤ m ∧ m < h' 46 32) (by omega)], rfl⟩
theorem m_standsIn (lm : LM G) (hr : 0 ≤ h 46 (8 + 0)) (j : Nat) (hj : j < 12) (hw : 0 ≤ h 46 (8 + j) ∧ h 46 (8 + j) ≤ 4) : Ca l G 0 mX4_standsIn [vR 45, vI j] h (fun r h' => r = some (vI (stM (h 46) j)) ∧ h' = h) := by
  obtain ⟨hN, ⟨ms45, ms46, ms47, ms48, ms49, ms50, ms51, ms52, ms53, ms54, ms55, ms56, ms57⟩, ⟨ml46, ml47, ml48, ml49, ml50, ml51, ml52, ml53, ml54, ml55, ml56, ml57⟩, ⟨mr0, mr2, mr7, mr16, mr17, mr18, mr20, mr22, mr24, mr25, mr26, mr27⟩⟩ := lm
  refine Ca.of (by decide) (Nat.le_of_ble_eq_true rfl) (fun hI hv hH => ?_)
  refine r_aload_n 1 dX4_standsIn_0 rfl rfl ?_
  refine r_getR 4 dX4_standsIn_1 rfl kf_4_7 rfl (by first | assumption | omega) (by assumption) (by assumption) ?_
  refine r_bipush 6 dX4_standsIn_4 rfl rfl (by decide) ?_
  refine r_iload_n 7 dX4_standsIn_6 rfl rfl ?_
  refine r_iadd 8 dX4_standsIn_7 rfl (by first | exact w32_id (by omega) (by omega) | rfl) ?_
  refine r_iald 9 dX4_standsIn_8 rfl (by first | assumption | omega) (by assumption) (by first | omega | (simp only [Int.toNat_natCast]; omega)) (by first | omega | (simp only [Int.toNat_natCast]; omega)) ?_
  try simp only [Int.toNat_natCast, tq_4, tq_8, tq_22, tq_27, tq_99, tq_a, tl_0, tl_1, tl_20, tl_21, tl_22, tl_32]
  refine r_iconst 10 dX4_standsIn_9 rfl rfl ?_
  refine r_isub 11 dX4_standsIn_10 rfl (by first | exact w32_id (by omega) (by omega) | rfl) ?_
  refine r_iret dX4_standsIn_11 rfl ?_
  rotate_left -- leaf: return at pc 11
  exact ⟨rfl, rfl⟩
theorem m_orNone (x : Int) : Ca l G 0 mX4_orNone [vI x] h (fun r h' => r = some (vI (if x < 0 then -4 else x)) ∧ h' = h) := by
  refine Ca.of (by decide) (Nat.le_of_ble_eq_true rfl) (fun hI hv hH => ?_)
  refine r_iload_n 1 dX4_orNone_0 rfl rfl ?_
  refine r_if_ge 9 4 dX4_orNone_1 (by decide) rfl (fun c_1 => ?_) (fun c_1 => ?_)
  refine r_iload_n 10 dX4_orNone_9 rfl rfl ?_
  refine r_iret dX4_orNone_10 rfl ?_
  rotate_left -- leaf: return at pc 10
  refine r_bipush 6 dX4_orNone_4 rfl rfl (by decide) ?_
  refine r_goto 10 dX4_orNone_6 (by decide) ?_
  refine r_iret dX4_orNone_10 rfl ?_
  rotate_left -- leaf: return at pc 10
  · exact ⟨by rw [if_neg (by omega)], rfl⟩
  · exact ⟨by rw [if_pos c_1], rfl⟩
theorem l_stood (lm : LM G) (wg : ∀ j, j < 12 → 0 ≤ h 46 (8 + j) ∧ h 46 (8 + j) ≤ 4) (q : Nat) (hq : q < 48) {Φ : Option zV → zH → Prop} (hΦ : Φ (some (vI (sdM (h 46) q))) h) : ∀ (j : Nat), j < 12 → bgF (h 46) j = bgF (h 46) (q / 4) → Rr l G 1 mX4_stoodIn Φ 8 [some (vR 45), some (vI q), some (vI j), some (vI j)] [] h := by
  have lm0 := lm
  obtain ⟨hN, ⟨ms45, ms46, ms47, ms48, ms49, ms50, ms51, ms52, ms53, ms54, ms55, ms56, ms57⟩, ⟨ml46, ml47, ml48, ml49, ml50, ml51, ml52, ml53, ml54, ml55, ml56, ml57⟩, ⟨mr0, mr2, mr7, mr16, mr17, mr18, mr20, mr22, mr24, mr25, mr26, mr27⟩⟩ := lm
  intro j
  induction j with
  | zero =>
    intro hj he
    simp only [bgF] at he
    refine r_iload_n 9 dX4_stoodIn_8 rfl rfl ?_
    refine r_if_le 37 12 dX4_stoodIn_9 (by decide) rfl (fun c_9 => ?_) (fun c_9 => ?_)
    refine r_iload_n 38 dX4_stoodIn_37 rfl rfl ?_
    refine r_iconst 39 dX4_stoodIn_38 rfl rfl ?_
    refine r_iload_n 40 dX4_stoodIn_39 rfl rfl ?_
    refine r_imul 41 dX4_stoodIn_40 rfl (by first | exact w32_id (by omega) (by omega) | rfl) ?_
    refine r_isub 42 dX4_stoodIn_41 rfl (by first | exact w32_id (by omega) (by omega) | rfl) ?_
    refine r_iret dX4_stoodIn_42 rfl ?_
    rotate_left -- leaf: return at pc 42
    rotate_left -- leaf: pc 12
    · unfold sdM at hΦ
      rw [← he] at hΦ
      exact hΦ
    · omega
  | succ j ih =>
    intro hj he
    have hb := bgF_le (h 46) (q / 4)
    simp only [bgF] at he
    refine r_iload_n 9 dX4_stoodIn_8 rfl rfl ?_
    refine r_if_le 37 12 dX4_stoodIn_9 (by decide) rfl (fun c_9 => ?_) (fun c_9 => ?_)
    rotate_left -- leaf: pc 37
    refine r_aload_n 13 dX4_stoodIn_12 rfl rfl ?_
    refine r_iload_n 14 dX4_stoodIn_13 rfl rfl ?_
    refine r_iconst 15 dX4_stoodIn_14 rfl rfl ?_
    refine r_isub 16 dX4_stoodIn_15 rfl (by first | exact w32_id (by omega) (by omega) | rfl) ?_
    rotate_left -- leaf: call at pc 16
    · omega
    rw [show ((j + 1 : Nat) : Int) - 1 = (j : Int) by omega]
    refine r_cv1 19 dX4_stoodIn_16 rfl kv_4_136 (by first | assumption | omega) (by assumption) rfl rfl (m_standsIn lm0 (wg 0 (by omega)).1 j (by omega) (wg j (by omega))) ?_
    rintro r h' ⟨rfl, rfl⟩
    refine r_aload_n 20 dX4_stoodIn_19 rfl rfl ?_
    refine r_iload_n 21 dX4_stoodIn_20 rfl rfl ?_
    rotate_left -- leaf: call at pc 21
    refine r_cv1 24 dX4_stoodIn_21 rfl kv_4_136 (by first | assumption | omega) (by assumption) rfl rfl (m_standsIn lm0 (wg 0 (by omega)).1 (j + 1) hj (wg (j + 1) hj)) ?_
    rintro r h'' ⟨rfl, rfl⟩
    refine r_icmp_ne 37 27 dX4_stoodIn_24 (by decide) rfl (fun c_24 => ?_) (fun c_24 => ?_)
    refine r_iload_n 38 dX4_stoodIn_37 rfl rfl ?_
    refine r_iconst 39 dX4_stoodIn_38 rfl rfl ?_
    refine r_iload_n 40 dX4_stoodIn_39 rfl rfl ?_
    refine r_imul 41 dX4_stoodIn_40 rfl (by first | exact w32_id (by omega) (by omega) | rfl) ?_
    refine r_isub 42 dX4_stoodIn_41 rfl (by first | exact w32_id (by omega) (by omega) | rfl) ?_
    refine r_iret dX4_stoodIn_42 rfl ?_
    rotate_left -- leaf: return at pc 42
    refine r_iload_n 28 dX4_stoodIn_27 rfl rfl ?_
    refine r_iconst 29 dX4_stoodIn_28 rfl rfl ?_
    refine r_isub 30 dX4_stoodIn_29 rfl (by first | exact w32_id (by omega) (by omega) | rfl) ?_
    refine r_istore_n 31 dX4_stoodIn_30 rfl rfl rfl ?_
    refine r_iinc 34 _ dX4_stoodIn_31 rfl rfl rfl rfl (by first | exact w32_id (by omega) (by omega) | rfl) ?_
    refine r_goto 8 dX4_stoodIn_34 (by decide) ?_
    rotate_left -- leaf: pc 8
    · rw [if_neg c_24] at he
      unfold sdM at hΦ
      rw [← he] at hΦ
      exact hΦ
    · rw [if_pos c_24] at he
      have := ih (by omega) he
      rw [show ((j + 1 : Nat) : Int) - 1 = (j : Int) by omega, show ((j + 1 : Nat) : Int) + -1 = (j : Int) by omega]
      exact this
theorem m_stoodIn (lm : LM G) (wg : ∀ j, j < 12 → 0 ≤ h 46 (8 + j) ∧ h 46 (8 + j) ≤ 4) (q : Nat) (hq : q < 48) : Ca l G 1 mX4_stoodIn [vR 45, vI q] h (fun r h' => r = some (vI (sdM (h 46) q)) ∧ h' = h) := by
  refine Ca.of (by decide) (Nat.le_of_ble_eq_true rfl) (fun hI hv hH => ?_)
  refine r_iload_n 1 dX4_stoodIn_0 rfl rfl ?_
  refine r_iconst 2 dX4_stoodIn_1 rfl rfl ?_
  refine r_idiv 3 dX4_stoodIn_2 rfl (by first | omega | (simp only [Int.toNat_natCast]; omega)) (by first | omega | (simp only [Int.toNat_natCast]; omega)) ?_
  refine r_istore_n 4 dX4_stoodIn_3 rfl rfl rfl ?_
  refine r_iload_n 5 dX4_stoodIn_4 rfl rfl ?_
  refine r_iconst 6 dX4_stoodIn_5 rfl rfl ?_
  refine r_idiv 7 dX4_stoodIn_6 rfl (by first | omega | (simp only [Int.toNat_natCast]; omega)) (by first | omega | (simp only [Int.toNat_natCast]; omega)) ?_
  refine r_istore_n 8 dX4_stoodIn_7 rfl rfl rfl ?_
  rotate_left -- leaf: pc 8
  have := l_stood (l := l) lm wg q hq (Φ := fun r h' => r = some (vI (sdM (h 46) q)) ∧ h' = h) ⟨rfl, rfl⟩ (q / 4) (by omega) rfl
  exact this
theorem m_slipIn (lm : LM G) (wg : ∀ j, j < 12 → 0 ≤ h 46 (8 + j) ∧ h 46 (8 + j) ≤ 4) (m q : Nat) (hm : m < 4) (hq : q < 48) (wk : 0 ≤ h 46 m ∧ h 46 m ≤ 3) : Ca l G 2 mX4_slipIn [vR 45, vI m, vI q] h (fun r h' => r = some (vI (slM (h 46) m q)) ∧ h' = h) := by
  have lm0 := lm
  obtain ⟨hN, ⟨ms45, ms46, ms47, ms48, ms49, ms50, ms51, ms52, ms53, ms54, ms55, ms56, ms57⟩, ⟨ml46, ml47, ml48, ml49, ml50, ml51, ml52, ml53, ml54, ml55, ml56, ml57⟩, ⟨mr0, mr2, mr7, mr16, mr17, mr18, mr20, mr22, mr24, mr25, mr26, mr27⟩⟩ := lm
  have hsd := sdM_in (h 46) q
  refine Ca.of (by decide) (Nat.le_of_ble_eq_true rfl) (fun hI hv hH => ?_)
  refine r_aload_n 1 dX4_slipIn_0 rfl rfl ?_
  refine r_getR 4 dX4_slipIn_1 rfl kf_4_7 rfl (by first | assumption | omega) (by assumption) (by assumption) ?_
  refine r_iload_n 5 dX4_slipIn_4 rfl rfl ?_
  refine r_iald 6 dX4_slipIn_5 rfl (by first | assumption | omega) (by assumption) (by first | omega | (simp only [Int.toNat_natCast]; omega)) (by first | omega | (simp only [Int.toNat_natCast]; omega)) ?_
  try simp only [Int.toNat_natCast, tq_4, tq_8, tq_22, tq_27, tq_99, tq_a, tl_0, tl_1, tl_20, tl_21, tl_22, tl_32]
  rotate_left -- leaf: call at pc 6
  obtain ⟨k, hk⟩ : ∃ k, k = h 46 m := ⟨_, rfl⟩
  rw [← hk] at wk ⊢
  have hk4 : k = 0 ∨ k = 1 ∨ k = 2 ∨ k = 3 := by omega
  rcases hk4 with rfl | rfl | rfl | rfl
  · refine r_tabIn 32 dX4_slipIn_6 (by decide) (by decide) rfl (by decide) ?_
    refine r_iconst 33 dX4_slipIn_32 rfl rfl ?_
    refine r_iret dX4_slipIn_33 rfl ?_
    rotate_left -- leaf: return at pc 33
    exact ⟨by simp [slM, ← hk], rfl⟩
  · refine r_tabIn 34 dX4_slipIn_6 (by decide) (by decide) rfl (by decide) ?_
    refine r_iconst 35 dX4_slipIn_34 rfl rfl ?_
    refine r_iret dX4_slipIn_35 rfl ?_
    rotate_left -- leaf: return at pc 35
    exact ⟨by simp [slM, ← hk], rfl⟩
  · refine r_tabIn 36 dX4_slipIn_6 (by decide) (by decide) rfl (by decide) ?_
    refine r_iconst 37 dX4_slipIn_36 rfl rfl ?_
    refine r_aload_n 38 dX4_slipIn_37 rfl rfl ?_
    refine r_iload_n 39 dX4_slipIn_38 rfl rfl ?_
    rotate_left -- leaf: call at pc 39
    refine r_cv1 42 dX4_slipIn_39 rfl kv_4_139 (by first | assumption | omega) (by assumption) rfl rfl (m_stoodIn lm0 wg q hq) ?_
    rintro r h' ⟨rfl, rfl⟩
    refine r_bipush 44 dX4_slipIn_42 rfl rfl (by decide) ?_
    refine r_idiv 45 dX4_slipIn_44 rfl (by first | omega | (simp only [Int.toNat_natCast]; omega)) (by first | omega | (simp only [Int.toNat_natCast]; omega)) ?_
    refine r_isub 46 dX4_slipIn_45 rfl (by first | exact w32_id (by omega) (by omega) | rfl) ?_
    refine r_iret dX4_slipIn_46 rfl ?_
    rotate_left -- leaf: return at pc 46
    exact ⟨by simp [slM, ← hk], rfl⟩
  · refine r_tabOut 47 dX4_slipIn_6 (by omega) (by decide) ?_
    refine r_iload_n 48 dX4_slipIn_47 rfl rfl ?_
    refine r_iconst 49 dX4_slipIn_48 rfl rfl ?_
    refine r_idiv 50 dX4_slipIn_49 rfl (by first | omega | (simp only [Int.toNat_natCast]; omega)) (by first | omega | (simp only [Int.toNat_natCast]; omega)) ?_
    refine r_iconst 51 dX4_slipIn_50 rfl rfl ?_
    refine r_irem 52 dX4_slipIn_51 rfl (by first | omega | (simp only [Int.toNat_natCast]; omega)) (by first | omega | (simp only [Int.toNat_natCast]; omega)) ?_
    refine r_if_ne 59 55 dX4_slipIn_52 (by decide) rfl (fun c_52 => ?_) (fun c_52 => ?_)
    refine r_iconst 60 dX4_slipIn_59 rfl rfl ?_
    refine r_iret dX4_slipIn_60 rfl ?_
    rotate_left -- leaf: return at pc 60
    refine r_iconst 56 dX4_slipIn_55 rfl rfl ?_
    refine r_goto 60 dX4_slipIn_56 (by decide) ?_
    refine r_iret dX4_slipIn_60 rfl ?_
    rotate_left -- leaf: return at pc 60
    · exact ⟨by simp [slM, ← hk, c_52], rfl⟩
    · exact ⟨by simp [slM, ← hk, c_52], rfl⟩
end MO
