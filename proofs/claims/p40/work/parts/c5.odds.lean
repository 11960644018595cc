/-! answers alike: mean, luck (clouds by odds) -/
theorem sumF_add (f : Nat → Int) (a : Nat) : ∀ b, sumF f (a + b) = sumF f a + sumF (fun k => f (a + k)) b
  | 0 => by simp [sumF]
  | b + 1 => by
    show sumF f (a + b) + f (a + b) = sumF f a + (sumF (fun k => f (a + k)) b + f (a + b))
    rw [sumF_add f a b]
    omega
theorem sumF_plus (f g : Nat → Int) : ∀ n, sumF (fun k => f k + g k) n = sumF f n + sumF g n
  | 0 => rfl
  | n + 1 => by unfold sumF; rw [sumF_plus f g n]; omega
theorem sumF_mul (c : Int) (f : Nat → Int) : ∀ n, sumF (fun k => c * f k) n = c * sumF f n
  | 0 => by simp [sumF]
  | n + 1 => by unfold sumF; rw [sumF_mul c f n, Int.mul_add]
theorem sumF_zero : ∀ n, sumF (fun _ => (0 : Int)) n = 0
  | 0 => rfl
  | n + 1 => by unfold sumF; rw [sumF_zero n]; rfl
theorem sumF_swap (f : Nat → Nat → Int) (D : Nat) : ∀ n, sumF (fun k => sumF (fun i => f k i) D) n = sumF (fun i => sumF (fun k => f k i) n) D
  | 0 => by simp only [sumF]; exact (sumF_zero D).symm
  | n + 1 => by
    have h : (fun i => sumF (fun k => f k i) (n + 1)) = fun i => sumF (fun k => f k i) n + f n i := rfl
    rw [h, sumF_plus (fun i => sumF (fun k => f k i) n) (fun i => f n i) D, ← sumF_swap f D n]
    rfl
def subB (M S : Nat) (n : Nat) : Bool := allN (fun j => !S.testBit j || M.testBit j) n
theorem fc_bit {M S j : Nat} {v : Int} : fcF M S j v = if M.testBit j = true then (if S.testBit j = true then v else 10 - v) else 1 := by
  unfold fcF
  rw [bitI_nat, bitI_nat]
  cases M.testBit j <;> cases S.testBit j <;> simp
theorem od_cong {M S S' : Nat} {v : Int} : ∀ n, (∀ j, j < n → S.testBit j = S'.testBit j) → odF M S v n = odF M S' v n
  | 0, _ => rfl
  | n + 1, h => by unfold odF; rw [od_cong n (fun j hj => h j (by omega)), fc_bit, fc_bit, h n (by omega)]
def TT (M : Nat) (v : Int) (n : Nat) (A : Nat → Int) : Int := sumF (fun S => if subB M S n = true then odF M S v n * A S else 0) (2 ^ n)
theorem TT_cong {M : Nat} {v : Int} {n : Nat} {A B : Nat → Int} (h : ∀ S, S < 2 ^ n → A S = B S) : TT M v n A = TT M v n B := sumF_cong _ (fun S hS => by rw [h S hS])
theorem TT_s (M : Nat) (v : Int) (n : Nat) (A : Nat → Int) : TT M v (n + 1) A = TT M v n (fun S => if M.testBit n = true then (10 - v) * A S + v * A (2 ^ n + S) else A S) := by
  unfold TT
  rw [Nat.pow_succ, show 2 ^ n * 2 = 2 ^ n + 2 ^ n by omega, sumF_add, ← sumF_plus]
  refine sumF_cong _ (fun S hS => ?_)
  have b0 : S.testBit n = false := Nat.testBit_lt_two_pow hS
  have b1 : (2 ^ n + S).testBit n = true := by rw [Nat.testBit_two_pow_add_eq, b0]; rfl
  have bl : ∀ j, j < n → (2 ^ n + S).testBit j = S.testBit j := fun j hj => Nat.testBit_two_pow_add_gt hj S
  have s0 : subB M S (n + 1) = subB M S n := by
    show (allN _ n && (!S.testBit n || M.testBit n)) = _
    rw [b0]
    simp [subB]
  have s1 : subB M (2 ^ n + S) (n + 1) = (subB M S n && M.testBit n) := by
    show (allN _ n && (!(2 ^ n + S).testBit n || M.testBit n)) = _
    rw [b1, allN_cong n (fun j hj => by rw [bl j hj])]
    simp [subB]
  have o0 : odF M S v (n + 1) = odF M S v n * fcF M S n v := rfl
  have o1 : odF M (2 ^ n + S) v (n + 1) = odF M S v n * fcF M (2 ^ n + S) n v := by
    show odF M (2 ^ n + S) v n * _ = _
    rw [od_cong n bl]
  rw [s0, s1, o0, o1, fc_bit, fc_bit, b0, b1]
  cases hm : M.testBit n
  · simp
  · cases hsb : subB M S n
    · simp
    · simp only [Bool.and_true, if_true, Bool.false_eq_true, if_false]
      rw [Int.mul_add, Int.mul_assoc, Int.mul_assoc]
theorem TT_sum (M : Nat) (v : Int) (n : Nat) (A : Nat → Nat → Int) (D : Nat) : TT M v n (fun S => sumF (fun i => A i S) D) = sumF (fun i => TT M v n (A i)) D := by
  unfold TT
  rw [← sumF_swap (fun S i => if subB M S n = true then odF M S v n * A i S else 0) D]
  refine sumF_cong _ (fun S hS => ?_)
  by_cases c : subB M S n = true
  · simp only [c, if_true]
    exact (sumF_mul _ _ D).symm
  · simp only [c, if_false]
    exact (sumF_zero D).symm
def Dk (M : Nat) : Nat → Int
  | 0 => 1
  | k + 1 => (if M.testBit (11 - k) = true then 10 else 1) * Dk M k
def Rk (F : Nat → Int) (v : Int) (M : Nat) (g : Int → Int) : Nat → Int
  | 0 => g (-4)
  | k + 1 => if M.testBit (11 - k) = true then (if F (11 - k) = -4 then 10 * Rk F v M g k else (10 - v) * (Dk M k * g (F (11 - k))) + v * Rk F v M g k) else Rk F v M g k
def sh (F : Nat → Int) (S : Nat) : Nat → Int := fun j => if S.testBit j = true then -4 else F j
def Bk (F : Nat → Int) (v : Int) (M : Nat) (g : Int → Int) (k S : Nat) : Int := if srch (sh F S) (12 - k) 0 = -4 then Rk F v M g k else Dk M k * g (srch (sh F S) (12 - k) 0)
theorem srch_snoc {F : Nat → Int} : ∀ n j : Nat, srch F (n + 1) j = if srch F n j = -4 then F (j + n) else srch F n j
  | 0, j => by
    show (if F j = -4 then -4 else F j) = (if (-4 : Int) = -4 then F j else -4)
    rw [if_pos rfl]
    split
    · rename_i h; exact h.symm
    · rfl
  | n + 1, j => by
    have ih := srch_snoc (F := F) n (j + 1)
    show (if F j = -4 then srch F (n + 1) (j + 1) else F j) = (if (if F j = -4 then srch F n (j + 1) else F j) = -4 then F (j + (n + 1)) else (if F j = -4 then srch F n (j + 1) else F j))
    by_cases c : F j = -4
    · simp only [c, if_true]
      rw [ih, show j + 1 + n = j + (n + 1) by omega]
    · simp only [c, if_false]
theorem TT_B {F : Nat → Int} {v : Int} {M : Nat} {g : Int → Int} (hF : ∀ j, j < 12 → ¬ F j = -4 → M.testBit j = true) {k : Nat} (hk : k < 12) : TT M v (12 - k) (Bk F v M g k) = TT M v (12 - (k + 1)) (Bk F v M g (k + 1)) := by
  obtain ⟨n, hn⟩ : ∃ n, n = 11 - k := ⟨_, rfl⟩
  rw [show 12 - k = n + 1 by omega, show 12 - (k + 1) = n by omega, TT_s]
  refine TT_cong (fun S hS => ?_)
  have b0 : S.testBit n = false := Nat.testBit_lt_two_pow hS
  have b1 : (2 ^ n + S).testBit n = true := by rw [Nat.testBit_two_pow_add_eq, b0]; rfl
  have bl : ∀ j, j < n → (2 ^ n + S).testBit j = S.testBit j := fun j hj => Nat.testBit_two_pow_add_gt hj S
  have q1 : srch (sh F (2 ^ n + S)) n 0 = srch (sh F S) n 0 := srch_cong n 0 (fun j hj => by unfold sh; rw [bl j (by omega)])
  have f0 : sh F S n = F n := by unfold sh; rw [b0]; rfl
  have f1 : sh F (2 ^ n + S) n = -4 := by unfold sh; rw [b1]; rfl
  have t0 : srch (sh F S) (n + 1) 0 = if srch (sh F S) n 0 = -4 then F n else srch (sh F S) n 0 := by rw [srch_snoc, Nat.zero_add, f0]
  have t1 : srch (sh F (2 ^ n + S)) (n + 1) 0 = if srch (sh F S) n 0 = -4 then -4 else srch (sh F S) n 0 := by rw [srch_snoc, Nat.zero_add, f1, q1]
  have d1 : Dk M (k + 1) = (if M.testBit n = true then 10 else 1) * Dk M k := by show (if M.testBit (11 - k) = true then 10 else 1) * Dk M k = _; rw [← hn]
  have r1 : Rk F v M g (k + 1) = if M.testBit n = true then (if F n = -4 then 10 * Rk F v M g k else (10 - v) * (Dk M k * g (F n)) + v * Rk F v M g k) else Rk F v M g k := by
    show (if M.testBit (11 - k) = true then _ else _) = _
    rw [← hn]
  unfold Bk
  rw [show 12 - k = n + 1 by omega, show 12 - (k + 1) = n by omega, t0, t1, d1, r1]
  by_cases c : srch (sh F S) n 0 = -4
  · simp only [c, if_true]
    by_cases cm : M.testBit n = true
    · simp only [cm, if_true]
      by_cases cf : F n = -4
      · simp only [cf, if_true]
        rw [← Int.add_mul]
        congr 1
        omega
      · simp only [cf, if_false]
    · have cf : F n = -4 := by
        by_cases y : F n = -4
        · exact y
        · exact absurd (hF n (by omega) y) cm
      simp only [cm, cf, if_true]
      rfl
  · simp only [c, if_false]
    by_cases cm : M.testBit n = true
    · simp only [cm, if_true]
      rw [← Int.add_mul, show 10 - v + v = 10 by omega, Int.mul_assoc]
    · simp only [cm]
      simp
theorem TT_R {F : Nat → Int} {v : Int} {M : Nat} {g : Int → Int} (hF : ∀ j, j < 12 → ¬ F j = -4 → M.testBit j = true) : TT M v 12 (fun S => g (srch (sh F S) 12 0)) = Rk F v M g 12 := by
  have h0 : TT M v 12 (fun S => g (srch (sh F S) 12 0)) = TT M v (12 - 0) (Bk F v M g 0) := TT_cong (fun S _ => by
    show _ = (if srch (sh F S) 12 0 = -4 then g (-4) else 1 * g (srch (sh F S) 12 0))
    split
    · rename_i e; rw [e]
    · rw [Int.one_mul])
  have hs : ∀ k, k ≤ 12 → TT M v (12 - 0) (Bk F v M g 0) = TT M v (12 - k) (Bk F v M g k) := by
    intro k
    induction k with
    | zero => intro _; rfl
    | succ k ih => intro hk; rw [ih (by omega), TT_B hF (by omega)]
  rw [h0, hs 12 (by omega)]
  show sumF _ 1 = _
  show (0 : Int) + (if true = true then 1 * (if (-4 : Int) = -4 then Rk F v M g 12 else _) else 0) = _
  rw [if_pos rfl, if_pos rfl]
  omega
/-! the class goes from hour to hour -/
def whG (F : Nat → Int) (v : Int) (g : Int → Int) : Nat → Int × Int
  | 0 => (0, 1000000000000)
  | n + 1 => if F n = -4 then whG F v g n else ((whG F v g n).1 + (whG F v g n).2 / 10 * (10 - v) * g (F n), (whG F v g n).2 / 10 * v)
theorem dw_bit {M : Nat} (n : Nat) : dwF M (n + 1) = dwF M n * (if M.testBit n = true then 10 else 1) := by
  show dwF M n * (if bitI (M : Int) n = 1 then 10 else 1) = _
  rw [bitI_nat]
  cases M.testBit n <;> simp
theorem dw_D (M : Nat) : ∀ k, k ≤ 12 → dwF M 12 = dwF M (12 - k) * Dk M k
  | 0, _ => by show dwF M 12 = dwF M 12 * 1; rw [Int.mul_one]
  | k + 1, hk => by
    have ih := dw_D M k (by omega)
    rw [ih, show 12 - k = (11 - k) + 1 by omega, dw_bit, show 12 - (k + 1) = 11 - k by omega]
    show _ = dwF M (11 - k) * ((if M.testBit (11 - k) = true then 10 else 1) * Dk M k)
    rw [Int.mul_assoc]
theorem wh_R {F : Nat → Int} {v : Int} {M : Nat} {g : Int → Int} (hF : ∀ j, j < 12 → ¬ F j = -4 → M.testBit j = true) : ∀ n, n ≤ 12 → (dwF M 12 * (whG F v g n).1 + (whG F v g n).2 * (dwF M n * Rk F v M g (12 - n)) = 1000000000000 * Rk F v M g 12) ∧ ∃ z : Int, (whG F v g n).2 = ((10 ^ (12 - n) : Nat) : Int) * z
  | 0, _ => by
    refine ⟨?_, 1, by show (1000000000000 : Int) = ((10 ^ 12 : Nat) : Int) * 1; decide⟩
    show dwF M 12 * 0 + 1000000000000 * (1 * Rk F v M g 12) = _
    rw [Int.mul_zero, Int.zero_add, Int.one_mul]
  | n + 1, hn => by
    obtain ⟨i1, z, iz⟩ := wh_R hF n (by omega)
    have hD := dw_D M (11 - n) (by omega)
    rw [show 12 - (11 - n) = n + 1 by omega] at hD
    have hR : Rk F v M g (12 - n) = if M.testBit n = true then (if F n = -4 then 10 * Rk F v M g (11 - n) else (10 - v) * (Dk M (11 - n) * g (F n)) + v * Rk F v M g (11 - n)) else Rk F v M g (11 - n) := by
      rw [show 12 - n = (11 - n) + 1 by omega]
      show (if M.testBit (11 - (11 - n)) = true then (if F (11 - (11 - n)) = -4 then _ else (10 - v) * (Dk M (11 - n) * g (F (11 - (11 - n)))) + _) else _) = _
      rw [show 11 - (11 - n) = n by omega]
    rw [hR] at i1
    rw [show 12 - (n + 1) = 11 - n by omega, dw_bit n]
    rw [dw_bit n] at hD
    have hp : ((10 ^ (12 - n) : Nat) : Int) = 10 * ((10 ^ (11 - n) : Nat) : Int) := by
      rw [show 12 - n = (11 - n) + 1 by omega, Nat.pow_succ]
      push_cast
      rw [Int.mul_comm]
    by_cases cf : F n = -4
    · have e : whG F v g (n + 1) = whG F v g n := by show (if F n = -4 then _ else _) = _; rw [if_pos cf]
      rw [e]
      refine ⟨?_, 10 * z, by rw [iz, hp, Int.mul_assoc, Int.mul_left_comm]⟩
      by_cases cm : M.testBit n = true
      · rw [if_pos cm, if_pos cf] at i1
        rw [if_pos cm, ← i1]
        congr 1
        congr 1
        rw [Int.mul_assoc]
      · rw [if_neg cm] at i1
        rw [if_neg cm, Int.mul_one]
        exact i1
    · have cm := hF n (by omega) cf
      rw [if_pos cm, if_neg cf] at i1
      rw [if_pos cm] at hD ⊢
      have e : whG F v g (n + 1) = ((whG F v g n).1 + (whG F v g n).2 / 10 * (10 - v) * g (F n), (whG F v g n).2 / 10 * v) := by show (if F n = -4 then _ else _) = _; rw [if_neg cf]
      have hL : (whG F v g n).2 / 10 = ((10 ^ (11 - n) : Nat) : Int) * z := by
        rw [iz, hp, Int.mul_assoc]
        exact Int.mul_ediv_cancel_left _ (by decide)
      rw [e, hL]
      rw [iz, hp] at i1
      generalize ((10 ^ (11 - n) : Nat) : Int) = T at *
      refine ⟨?_, z * v, by show T * z * v = T * (z * v); rw [Int.mul_assoc]⟩
      show dwF M 12 * ((whG F v g n).1 + T * z * (10 - v) * g (F n)) + T * z * v * (dwF M n * 10 * Rk F v M g (11 - n)) = _
      rw [← i1, Int.mul_add, Int.add_assoc]
      congr 1
      rw [hD]
      generalize dwF M n = a
      generalize Dk M (11 - n) = b
      generalize Rk F v M g (11 - n) = c
      generalize g (F n) = y
      generalize 10 - v = w
      rw [Int.mul_add, Int.mul_add]
      congr 1
      · simp only [Int.mul_assoc, Int.mul_comm, Int.mul_left_comm]
      · simp only [Int.mul_assoc, Int.mul_comm, Int.mul_left_comm]
theorem wh_T {F : Nat → Int} {v : Int} {M : Nat} {g : Int → Int} (hF : ∀ j, j < 12 → ¬ F j = -4 → M.testBit j = true) : dwF M 12 * ((whG F v g 12).1 + (whG F v g 12).2 * g (-4)) = 1000000000000 * TT M v 12 (fun S => g (srch (sh F S) 12 0)) := by
  have h := (wh_R (v := v) (g := g) hF 12 (by omega)).1
  rw [TT_R hF, ← h, Int.mul_add]
  congr 1
  show dwF M 12 * ((whG F v g 12).2 * g (-4)) = (whG F v g 12).2 * (dwF M 12 * g (-4))
  rw [Int.mul_left_comm]
