/-! SunPointer.read -/
def atF (f : Int) (t : Nat) : Int := w32 (f + 2 * (t : Int))
def prF (h : zH) (s : Nat) (a f : Int) (t : Nat) : Int := if ¬ rfuF (h s 1) (h s 2) a (atF f t) = 0 then rfuF (h s 1) (h s 2) a (atF f t) else rfuF (h s 1) (h s 2) a (w32 (atF f t + 1))
def okB (h : zH) (s : Nat) (f : Int) (t : Nat) : Bool := mayB h (h (s + 1) (atF f t).toNat) (h (s + 1) (atF f t + 1).toNat)
/-- how a reading ends: 1 where a pair is BAD; the FAULT; how many were whole -/
def rdR (pr : Nat → Int) (ok : Nat → Bool) : Nat → Nat → Int × Int × Nat
  | 0, t => (0, 0, t)
  | n + 1, t => if ¬ pr t = 0 then (0, pr t, t) else if ok t = true then rdR pr ok n (t + 1) else (1, 0, t)
theorem rdR_ok (pr : Nat → Int) (ok : Nat → Bool) : ∀ (n t : Nat), t ≤ (rdR pr ok n t).2.2 ∧ (rdR pr ok n t).2.2 ≤ t + n ∧ ∀ i, t ≤ i → i < (rdR pr ok n t).2.2 → pr i = 0 ∧ ok i = true
  | 0, t => ⟨Nat.le_refl _, Nat.le_refl _, fun i h1 h2 => absurd h2 (by simp [rdR]; omega)⟩
  | n + 1, t => by
    unfold rdR
    by_cases h1 : pr t = 0
    · rw [if_neg (fun q => q h1)]
      by_cases h2 : ok t = true
      · rw [if_pos h2]
        obtain ⟨q1, q2, q3⟩ := rdR_ok pr ok n (t + 1)
        refine ⟨by omega, by omega, fun i h3 h4 => ?_⟩
        by_cases e : i = t
        · subst e; exact ⟨h1, h2⟩
        · exact q3 i (by omega) h4
      · rw [if_neg h2]
        exact ⟨Nat.le_refl _, by simp, fun i h3 h4 => absurd h4 (by simp; omega)⟩
    · rw [if_pos h1]
      exact ⟨Nat.le_refl _, by simp, fun i h3 h4 => absurd h4 (by simp; omega)⟩
def stH (h : zH) (s : Nat) (f : Int) : Nat → zH
  | 0 => h
  | t + 1 => reb 1 (up (stH h s f t) (1 + 3) (h (s + 1) (atF f t).toNat).toNat (h (s + 1) (atF f t + 1).toNat))
theorem stH_o (h : zH) (s : Nat) (f : Int) : ∀ (t a b : Nat), a ≠ 1 + 3 → a ≠ 1 + 6 → stH h s f t a b = h a b
  | 0, a, b, _, _ => rfl
  | t + 1, a, b, h1, h2 => by
    unfold stH
    rw [reb_n h2, up_k h1]
    exact stH_o h s f t a b h1 h2
theorem prF_0 {h : zH} {s t : Nat} {a f : Int} (hf : prF h s a f t = 0) (hs : h s 2 ≤ 40) : 0 ≤ atF f t ∧ atF f t + 1 < 40 := by
  unfold prF at hf
  by_cases h1 : rfuF (h s 1) (h s 2) a (atF f t) = 0
  · rw [if_neg (fun q => q h1)] at hf
    have q1 := rfuF_0 h1
    have q2 := rfuF_0 hf
    rw [w32_id (by omega) (by omega)] at q2
    omega
  · rw [if_pos h1] at hf
    exact absurd hf h1
section SX
variable {l : Launch} {G : zG} {h : zH} {s : Nat}
theorem wT_stH (w : wT h 1) {f : Int} : ∀ (t : Nat), (∀ i, i < t → okB h s f i = true) → wT (stH h s f t) 1
  | 0, _ => w
  | t + 1, hk => by
    unfold stH
    have := mayB_t.mp (hk t (by omega))
    refine wT_reb (wT_up3 (wT_stH w t (fun i hi => hk i (by omega))) ?_)
    have h1 := this.2
    have h2 := w.1
    omega
theorem l_readB (ly : LX G) (w : wX h) (lys : LSh G s) (hsp : 33 < s ∧ s < 42) (wsh : wSh h s) (k a f n rf : Int) (W : Nat) (hp : ∀ i, i < W → prF h s a f i = 0 ∧ okB h s f i = true) (hW : W ≤ 20) {Φ : Option zV → zH → Prop} (hΦ : Φ (some (vI W)) (up (stH h s f W) 0 10 rf)) :
    ∀ (m t : Nat) (x9 : Option zV), t + m = W → Rr l G 3 mX3_read Φ 123 [some (vR 0), some (vI k), some (vI a), some (vI f), some (vI n), some (vR s), some (vI rf), some (vI W), some (vI t), x9] [] (stH h s f t) := by
  obtain ⟨hN, ⟨ly1, ly8, ly16, ly23⟩, ltp, ⟨ls34, ls36, ls38, ls40⟩, ⟨xs0, xs15, xs30, xs33, xs42, xs43, xs44⟩, ⟨xl15, xl30, xl33, xl42, xl43, xl44⟩, ⟨xr0, xr1, xr2, xr3, xr4, xr5, xr6, xr7, xr8⟩, ⟨yr0, yr1⟩, ⟨zr0, zr1, zr2, zr3⟩⟩ := ly
  have xs1 : gs G 1 = 7 := ly1.2.1.1
  have xs8 : gs G 8 = 7 := ly8.2.1.1
  have xs16 : gs G 16 = 7 := ly16.2.1.1
  have xs23 : gs G 23 = 7 := ly23.2.1.1
  have xs31 : gs G 31 = 6 := ltp.2.1.1
  have xs34 : gs G 34 = 5 := ls34.2.1.1
  have xs36 : gs G 36 = 5 := ls36.2.1.1
  have xs38 : gs G 38 = 5 := ls38.2.1.1
  have xs40 : gs G 40 = 5 := ls40.2.1.1
  obtain ⟨⟨w1, w8, w16, w23⟩, wp, wsn, ws42, ws43, wk, ⟨wh34, wh36, wh38, wh40⟩, wt⟩ := w
  obtain ⟨⟨sn0, sn1⟩, ⟨ss0, ss1⟩, sr0, sl1⟩ := lys
  intro m
  induction m with
  | zero =>
    intro t x9 ht
    obtain rfl : t = W := by omega
    refine r_iload 125 dX3_read_123 rfl rfl ?_
    refine r_iload 127 dX3_read_125 rfl rfl ?_
    refine r_icmp_ge 169 130 dX3_read_127 (by decide) rfl (fun c_127 => ?_) (fun c_127 => ?_)
    refine r_aload_n 170 dX3_read_169 rfl rfl ?_
    refine r_iload 172 dX3_read_170 rfl rfl ?_
    refine r_putI 175 dX3_read_172 rfl kf_3_264 rfl rfl (Or.inl rfl) (by first | assumption | omega) (by assumption) ?_
    refine r_iload 177 dX3_read_175 rfl rfl ?_
    refine r_iret dX3_read_177 rfl ?_
    rotate_left -- leaf: return at pc 177
    rotate_left -- leaf: pc 130
    · exact hΦ
    · omega
  | succ m ih =>
    intro t x9 ht
    have hq := hp t (by omega)
    have hb := prF_0 hq.1 wsh.2.2
    have hb1 : 0 ≤ w32 (f + 2 * (t : Int)) ∧ w32 (f + 2 * (t : Int)) + 1 < 40 := hb
    have hm := mayB_t.mp hq.2
    obtain ⟨⟨m1, m2⟩, m3⟩ := hm
    have wn : wT (up (stH h s f t) (1 + 3) (h (s + 1) (atF f t).toNat).toNat (h (s + 1) (atF f t + 1).toNat)) 1 := wT_up3 (wT_stH w1 t (fun i hi => (hp i (by omega)).2)) (by have := w1.1; omega)
    have e1 : stH h s f t (s + 1) (w32 (f + 2 * (t : Int))).toNat = h (s + 1) (atF f t).toNat := stH_o h s f t _ _ (by omega) (by omega)
    have e2 : stH h s f t (s + 1) (w32 (f + 2 * (t : Int)) + 1).toNat = h (s + 1) (atF f t + 1).toNat := stH_o h s f t _ _ (by omega) (by omega)
    refine r_iload 125 dX3_read_123 rfl rfl ?_
    refine r_iload 127 dX3_read_125 rfl rfl ?_
    refine r_icmp_ge 169 130 dX3_read_127 (by decide) rfl (fun c_127 => ?_) (fun c_127 => ?_)
    rotate_left -- leaf: pc 169
    refine r_aload_n 131 dX3_read_130 rfl rfl ?_
    refine r_getR 134 dX3_read_131 rfl kf_3_10 rfl (by first | assumption | omega) (by assumption) (by assumption) ?_
    refine r_aload 136 dX3_read_134 rfl rfl ?_
    refine r_getR 139 dX3_read_136 rfl kf_3_261 rfl (by first | assumption | omega) (by assumption) (by assumption) ?_
    refine r_iload_n 140 dX3_read_139 rfl rfl ?_
    refine r_iconst 141 dX3_read_140 rfl rfl ?_
    refine r_iload 143 dX3_read_141 rfl rfl ?_
    refine r_imul 144 dX3_read_143 rfl (by first | exact w32_id (by omega) (by omega) | rfl) ?_
    refine r_iadd 145 dX3_read_144 rfl (by first | exact w32_id (by omega) (by omega) | rfl) ?_
    refine r_iald 146 dX3_read_145 rfl (by first | assumption | omega) (by assumption) (by first | omega | (simp only [Int.toNat_natCast]; omega)) (by first | omega | (simp only [Int.toNat_natCast]; omega)) ?_
    rotate_left -- leaf: pc 146
    · omega
    rw [e1]
    refine r_aload 148 dX3_read_146 rfl rfl ?_
    refine r_getR 151 dX3_read_148 rfl kf_3_261 rfl (by first | assumption | omega) (by assumption) (by assumption) ?_
    refine r_iload_n 152 dX3_read_151 rfl rfl ?_
    refine r_iconst 153 dX3_read_152 rfl rfl ?_
    refine r_iload 155 dX3_read_153 rfl rfl ?_
    refine r_imul 156 dX3_read_155 rfl (by first | exact w32_id (by omega) (by omega) | rfl) ?_
    refine r_iadd 157 dX3_read_156 rfl (by first | exact w32_id (by omega) (by omega) | rfl) ?_
    refine r_iconst 158 dX3_read_157 rfl rfl ?_
    refine r_iadd 159 dX3_read_158 rfl (by first | exact w32_id (by omega) (by omega) | rfl) ?_
    refine r_iald 160 dX3_read_159 rfl (by first | assumption | omega) (by assumption) (by first | omega | (simp only [Int.toNat_natCast]; omega)) (by first | omega | (simp only [Int.toNat_natCast]; omega)) ?_
    rotate_left -- leaf: call at pc 160
    rw [e2]
    obtain ⟨jj, hjj⟩ := nat_of m1
    rw [hjj] at m2 wn ⊢
    refine r_cv2 163 dX3_read_160 rfl kv_3_153 (by first | assumption | omega) (by assumption) rfl rfl (c_setStands ly1 jj (by omega) _ (by rw [Int.toNat_natCast] at wn; exact wn)) ?_
    rintro r h' ⟨rfl, rfl⟩
    have e3 : reb 1 (up (stH h s f t) (1 + 3) jj (h (s + 1) (atF f t + 1).toNat)) = stH h s f (t + 1) := by
      rw [stH, hjj, Int.toNat_natCast]
    rw [e3]
    refine r_iinc 166 _ dX3_read_163 rfl rfl rfl rfl (by first | exact w32_id (by omega) (by omega) | rfl) ?_
    refine r_goto 123 dX3_read_166 (by decide) ?_
    rotate_left -- leaf: pc 123
    exact ih (t + 1) x9 (by omega)
theorem l_readA (ly : LX G) (w : wX h) (lys : LSh G s) (hsp : 33 < s ∧ s < 42) (wsh : wSh h s) (k a f : Int) (n : Nat) (hn : n ≤ 20) {Φ : Option zV → zH → Prop}
    (hB : ∀ W : Nat, rdR (prF h s a f) (okB h s f) n 0 = (1, 0, W) → Φ (some (vI (-20 - W))) h)
    (hG : ∀ (rf : Int) (W : Nat), rdR (prF h s a f) (okB h s f) n 0 = (0, rf, W) → Φ (some (vI W)) (up (stH h s f W) 0 10 rf)) :
    ∀ (m t : Nat) (x9 : Option zV), t + m = n → rdR (prF h s a f) (okB h s f) m t = rdR (prF h s a f) (okB h s f) n 0 → (∀ i, i < t → prF h s a f i = 0 ∧ okB h s f i = true) → Rr l G 3 mX3_read Φ 45 [some (vR 0), some (vI k), some (vI a), some (vI f), some (vI n), some (vR s), some (vI 0), some (vI t), some (vI t), x9] [] h := by
  have lX0 := ly
  have wX0 := w
  have lS0 := lys
  obtain ⟨hN, ⟨ly1, ly8, ly16, ly23⟩, ltp, ⟨ls34, ls36, ls38, ls40⟩, ⟨xs0, xs15, xs30, xs33, xs42, xs43, xs44⟩, ⟨xl15, xl30, xl33, xl42, xl43, xl44⟩, ⟨xr0, xr1, xr2, xr3, xr4, xr5, xr6, xr7, xr8⟩, ⟨yr0, yr1⟩, ⟨zr0, zr1, zr2, zr3⟩⟩ := ly
  have xs1 : gs G 1 = 7 := ly1.2.1.1
  have xs8 : gs G 8 = 7 := ly8.2.1.1
  have xs16 : gs G 16 = 7 := ly16.2.1.1
  have xs23 : gs G 23 = 7 := ly23.2.1.1
  have xs31 : gs G 31 = 6 := ltp.2.1.1
  have xs34 : gs G 34 = 5 := ls34.2.1.1
  have xs36 : gs G 36 = 5 := ls36.2.1.1
  have xs38 : gs G 38 = 5 := ls38.2.1.1
  have xs40 : gs G 40 = 5 := ls40.2.1.1
  obtain ⟨⟨w1, w8, w16, w23⟩, wp, wsn, ws42, ws43, wk, ⟨wh34, wh36, wh38, wh40⟩, wt⟩ := w
  obtain ⟨⟨sn0, sn1⟩, ⟨ss0, ss1⟩, sr0, sl1⟩ := lys
  have J120 : ∀ (rf : Int) (W : Nat) (x8 : Int) (x9 : Option zV), W ≤ n → rdR (prF h s a f) (okB h s f) n 0 = (0, rf, W) → (∀ i, i < W → prF h s a f i = 0 ∧ okB h s f i = true) → Rr l G 3 mX3_read Φ 120 [some (vR 0), some (vI k), some (vI a), some (vI f), some (vI n), some (vR s), some (vI rf), some (vI W), some (vI x8), x9] [] h := by
    intro rf W x8 x9 hWn he hp
    refine r_iconst 121 dX3_read_120 rfl rfl ?_
    refine r_istore 123 dX3_read_121 rfl rfl rfl ?_
    rotate_left -- leaf: pc 123
    exact l_readB (l := l) lX0 wX0 lS0 hsp wsh k a f n rf W hp (by omega) (hG rf W he) W 0 x9 (by omega)
  intro m
  induction m with
  | zero =>
    intro t x9 ht he hp
    refine r_iload 47 dX3_read_45 rfl rfl ?_
    refine r_iload 49 dX3_read_47 rfl rfl ?_
    refine r_icmp_ge 120 52 dX3_read_49 (by decide) rfl (fun c_49 => ?_) (fun c_49 => ?_)
    rotate_left -- leaf: pc 120
    rotate_left -- leaf: pc 52
    · refine J120 0 t t x9 (by omega) ?_ hp
      rw [← he]; rfl
    · omega
  | succ m ih =>
    intro t x9 ht he hp
    refine r_iload 47 dX3_read_45 rfl rfl ?_
    refine r_iload 49 dX3_read_47 rfl rfl ?_
    refine r_icmp_ge 120 52 dX3_read_49 (by decide) rfl (fun c_49 => ?_) (fun c_49 => ?_)
    rotate_left -- leaf: pc 120
    refine r_iload 54 dX3_read_52 rfl rfl ?_
    refine r_if_ne 120 57 dX3_read_54 (by decide) rfl (fun c_54 => ?_) (fun c_54 => ?_)
    rotate_left -- leaf: pc 120
    refine r_iload_n 58 dX3_read_57 rfl rfl ?_
    refine r_iconst 59 dX3_read_58 rfl rfl ?_
    refine r_iload 61 dX3_read_59 rfl rfl ?_
    refine r_imul 62 dX3_read_61 rfl (by first | exact w32_id (by omega) (by omega) | rfl) ?_
    rotate_left -- leaf: pc 62
    · omega
    · omega
    refine r_iadd 63 dX3_read_62 rfl rfl ?_
    have ea : w32 (f + 2 * (t : Int)) = atF f t := rfl
    rw [ea]
    refine r_istore 65 dX3_read_63 rfl rfl rfl ?_
    refine r_aload 67 dX3_read_65 rfl rfl ?_
    refine r_iload_n 68 dX3_read_67 rfl rfl ?_
    refine r_iload 70 dX3_read_68 rfl rfl ?_
    rotate_left -- leaf: call at pc 70
    refine r_cv2 73 dX3_read_70 rfl kv_3_258 (by first | assumption | omega) (by assumption) rfl rfl (c_refusalOfPair lS0 a (atF f t)) ?_
    rintro r h' ⟨rfl, rfl⟩
    have ep : (if ¬ rfuF (h' s 1) (h' s 2) a (atF f t) = 0 then rfuF (h' s 1) (h' s 2) a (atF f t) else rfuF (h' s 1) (h' s 2) a (w32 (atF f t + 1))) = prF h' s a f t := rfl
    rw [ep]
    rw [rdR] at he
    refine r_istore 75 dX3_read_73 rfl rfl rfl ?_
    refine r_iload 77 dX3_read_75 rfl rfl ?_
    refine r_if_ne 114 80 dX3_read_77 (by decide) rfl (fun c_77 => ?_) (fun c_77 => ?_)
    refine r_iinc 117 _ dX3_read_114 rfl rfl rfl rfl (by first | exact w32_id (by omega) (by omega) | rfl) ?_
    refine r_goto 45 dX3_read_117 (by decide) ?_
    rotate_left -- leaf: pc 45
    rotate_left -- leaf: pc 80
    · -- a FAULT
      rw [if_pos c_77] at he
      refine r_iload 47 dX3_read_45 rfl rfl ?_
      refine r_iload 49 dX3_read_47 rfl rfl ?_
      refine r_icmp_ge 120 52 dX3_read_49 (by decide) rfl (fun c_49 => ?_) (fun c_49 => ?_)
      rotate_left -- leaf: pc 120
      refine r_iload 54 dX3_read_52 rfl rfl ?_
      refine r_if_ne 120 57 dX3_read_54 (by decide) rfl (fun c_54 => ?_) (fun c_54 => ?_)
      rotate_left -- leaf: pc 120
      refine r_iload_n 58 dX3_read_57 rfl rfl ?_
      refine r_iconst 59 dX3_read_58 rfl rfl ?_
      refine r_iload 61 dX3_read_59 rfl rfl ?_
      refine r_imul 62 dX3_read_61 rfl (by first | exact w32_id (by omega) (by omega) | rfl) ?_
      refine r_iadd 63 dX3_read_62 rfl (by first | exact w32_id (by omega) (by omega) | rfl) ?_
      refine r_istore 65 dX3_read_63 rfl rfl rfl ?_
      refine r_aload 67 dX3_read_65 rfl rfl ?_
      refine r_iload_n 68 dX3_read_67 rfl rfl ?_
      refine r_iload 70 dX3_read_68 rfl rfl ?_
      rotate_left -- leaf: call at pc 70
      · exact J120 _ t _ _ (by omega) he.symm hp
      · exact J120 _ t _ _ (by omega) he.symm hp
      all_goals omega
    · rw [if_neg (fun q => q c_77)] at he
      have hb := prF_0 c_77 wsh.2.2
      refine r_aload_n 81 dX3_read_80 rfl rfl ?_
      refine r_aload 83 dX3_read_81 rfl rfl ?_
      refine r_getR 86 dX3_read_83 rfl kf_3_261 rfl (by first | assumption | omega) (by assumption) (by assumption) ?_
      refine r_iload 88 dX3_read_86 rfl rfl ?_
      refine r_iald 89 dX3_read_88 rfl (by first | assumption | omega) (by assumption) (by first | omega | (simp only [Int.toNat_natCast]; omega)) (by first | omega | (simp only [Int.toNat_natCast]; omega)) ?_
      refine r_aload 91 dX3_read_89 rfl rfl ?_
      refine r_getR 94 dX3_read_91 rfl kf_3_261 rfl (by first | assumption | omega) (by assumption) (by assumption) ?_
      refine r_iload 96 dX3_read_94 rfl rfl ?_
      refine r_iconst 97 dX3_read_96 rfl rfl ?_
      refine r_iadd 98 dX3_read_97 rfl (by first | exact w32_id (by omega) (by omega) | rfl) ?_
      refine r_iald 99 dX3_read_98 rfl (by first | assumption | omega) (by assumption) (by first | omega | (simp only [Int.toNat_natCast]; omega)) (by first | omega | (simp only [Int.toNat_natCast]; omega)) ?_
      rotate_left -- leaf: call at pc 99
      refine r_cv2 102 dX3_read_99 rfl kv_3_149 (by first | assumption | omega) (by assumption) rfl rfl (c_mayStand lX0 (h' (s + 1) (atF f t).toNat) (h' (s + 1) (atF f t + 1).toNat)) ?_
      rintro r h'' ⟨⟨q1, rfl⟩ | ⟨q1, rfl⟩, rfl⟩
      · have hok : okB h'' s f t = true := mayB_t.mpr q1
        rw [if_pos hok] at he
        refine r_if_ne 111 105 dX3_read_102 (by decide) rfl (fun c_102 => ?_) (fun c_102 => ?_)
        refine r_iinc 114 _ dX3_read_111 rfl rfl rfl rfl (by first | exact w32_id (by omega) (by omega) | rfl) ?_
        refine r_iinc 117 _ dX3_read_114 rfl rfl rfl rfl (by first | exact w32_id (by omega) (by omega) | rfl) ?_
        refine r_goto 45 dX3_read_117 (by decide) ?_
        rotate_left -- leaf: pc 45
        refine r_bipush 107 dX3_read_105 rfl rfl (by decide) ?_
        refine r_iload 109 dX3_read_107 rfl rfl ?_
        refine r_isub 110 dX3_read_109 rfl (by first | exact w32_id (by omega) (by omega) | rfl) ?_
        refine r_iret dX3_read_110 rfl ?_
        rotate_left -- leaf: return at pc 110
        · have ih := ih (t + 1) (some (vI (atF f t))) (by omega) he (fun i hi => by
            by_cases e : i = t
            · subst e; exact ⟨c_77, hok⟩
            · exact hp i (by omega))
          rw [← c_77] at ih
          rw [c_77] at ih ⊢
          exact ih
        · omega
      · have hok : ¬ okB h'' s f t = true := fun z => q1 (mayB_t.mp z)
        rw [if_neg hok] at he
        refine r_if_ne 111 105 dX3_read_102 (by decide) rfl (fun c_102 => ?_) (fun c_102 => ?_)
        rotate_left -- leaf: pc 111
        refine r_bipush 107 dX3_read_105 rfl rfl (by decide) ?_
        refine r_iload 109 dX3_read_107 rfl rfl ?_
        refine r_isub 110 dX3_read_109 rfl (by first | exact w32_id (by omega) (by omega) | rfl) ?_
        refine r_iret dX3_read_110 rfl ?_
        rotate_left -- leaf: return at pc 110
        · omega
        · exact hB t he.symm
def sRead (k a f n : Int) (h : zH) : Int × zH := if ¬ ((0 ≤ k ∧ k < 4) ∧ (0 ≤ a ∧ a < 3) ∧ (0 ≤ n ∧ n ≤ 20)) then (-1, h) else if (rdR (prF h (shP k) a f) (okB h (shP k) f) n.toNat 0).1 = 1 then (-20 - ((rdR (prF h (shP k) a f) (okB h (shP k) f) n.toNat 0).2.2 : Int), h) else (((rdR (prF h (shP k) a f) (okB h (shP k) f) n.toNat 0).2.2 : Int), up (stH h (shP k) f (rdR (prF h (shP k) a f) (okB h (shP k) f) n.toNat 0).2.2) 0 10 (rdR (prF h (shP k) a f) (okB h (shP k) f) n.toNat 0).2.1)
theorem c_read (ly : LX G) (w : wX h) (k a f n : Int) : Ca l G 3 mX3_read [vR 0, vI k, vI a, vI f, vI n] h (fun r h' => r = some (vI (sRead k a f n h).1) ∧ h' = (sRead k a f n h).2) := by
  have lX0 := ly
  have wX0 := w
  obtain ⟨hN, ⟨ly1, ly8, ly16, ly23⟩, ltp, ⟨ls34, ls36, ls38, ls40⟩, ⟨xs0, xs15, xs30, xs33, xs42, xs43, xs44⟩, ⟨xl15, xl30, xl33, xl42, xl43, xl44⟩, ⟨xr0, xr1, xr2, xr3, xr4, xr5, xr6, xr7, xr8⟩, ⟨yr0, yr1⟩, ⟨zr0, zr1, zr2, zr3⟩⟩ := ly
  have xs1 : gs G 1 = 7 := ly1.2.1.1
  have xs8 : gs G 8 = 7 := ly8.2.1.1
  have xs16 : gs G 16 = 7 := ly16.2.1.1
  have xs23 : gs G 23 = 7 := ly23.2.1.1
  have xs31 : gs G 31 = 6 := ltp.2.1.1
  have xs34 : gs G 34 = 5 := ls34.2.1.1
  have xs36 : gs G 36 = 5 := ls36.2.1.1
  have xs38 : gs G 38 = 5 := ls38.2.1.1
  have xs40 : gs G 40 = 5 := ls40.2.1.1
  obtain ⟨⟨w1, w8, w16, w23⟩, wp, wsn, ws42, ws43, wk, ⟨wh34, wh36, wh38, wh40⟩, wt⟩ := w
  refine Ca.of (by decide) (Nat.le_of_ble_eq_true rfl) (fun hI hv hH => ?_)
  unfold sRead
  refine r_iload_n 1 dX3_read_0 rfl rfl ?_
  rotate_left -- leaf: call at pc 1
  refine r_cs1 4 dX3_read_1 rfl ks_3_240 rfl rfl (c_isSheet k) ?_
  rintro r h' ⟨rfl, rfl⟩
  refine r_if_eq 26 7 dX3_read_4 (by decide) rfl (fun c_4 => ?_) (fun c_4 => ?_)
  refine r_iconst 27 dX3_read_26 rfl rfl ?_
  refine r_iret dX3_read_27 rfl ?_
  rotate_left -- leaf: return at pc 27
  refine r_iload_n 8 dX3_read_7 rfl rfl ?_
  rotate_left -- leaf: call at pc 8
  · have hk := z01_n.mp c_4
    rw [if_pos (fun z => hk z.1)]
    exact ⟨rfl, rfl⟩
  · have hk := z01_y.mp c_4
    refine r_cs1 11 dX3_read_8 rfl ks_3_243 rfl rfl (c_isLane a) ?_
    rintro r h'' ⟨rfl, rfl⟩
    refine r_if_eq 26 14 dX3_read_11 (by decide) rfl (fun c_11 => ?_) (fun c_11 => ?_)
    refine r_iconst 27 dX3_read_26 rfl rfl ?_
    refine r_iret dX3_read_27 rfl ?_
    rotate_left -- leaf: return at pc 27
    refine r_iload 16 dX3_read_14 rfl rfl ?_
    refine r_if_lt 26 19 dX3_read_16 (by decide) rfl (fun c_16 => ?_) (fun c_16 => ?_)
    refine r_iconst 27 dX3_read_26 rfl rfl ?_
    refine r_iret dX3_read_27 rfl ?_
    rotate_left -- leaf: return at pc 27
    refine r_iload 21 dX3_read_19 rfl rfl ?_
    refine r_bipush 23 dX3_read_21 rfl rfl (by decide) ?_
    refine r_icmp_le 28 26 dX3_read_23 (by decide) rfl (fun c_23 => ?_) (fun c_23 => ?_)
    rotate_left -- leaf: pc 28
    refine r_iconst 27 dX3_read_26 rfl rfl ?_
    refine r_iret dX3_read_27 rfl ?_
    rotate_left -- leaf: return at pc 27
    · have hk := z01_n.mp c_11
      rw [if_pos (fun z => hk z.2.1)]
      exact ⟨rfl, rfl⟩
    · rw [if_pos (by omega)]
      exact ⟨rfl, rfl⟩
    · have ha := z01_y.mp c_11
      rw [if_neg (fun z => z ⟨hk, ha, c_16, c_23⟩)]
      obtain ⟨n, rfl⟩ := nat_of c_16
      rw [Int.toNat_natCast]
      have hk4 : k = 0 ∨ k = 1 ∨ k = 2 ∨ k = 3 := by omega
      rcases hk4 with rfl | rfl | rfl | rfl
      · rw [show shP 0 = 34 from rfl]
        refine r_aload_n 29 dX3_read_28 rfl rfl ?_
        refine r_getR 32 dX3_read_29 rfl kf_3_36 rfl (by first | assumption | omega) (by assumption) (by assumption) ?_
        refine r_iload_n 33 dX3_read_32 rfl rfl ?_
        refine r_aald 34 dX3_read_33 rfl (by first | assumption | omega) (by first | exact Or.inl (by assumption) | exact Or.inr (by assumption)) (by first | omega | (simp only [Int.toNat_natCast]; omega)) (by first | omega | (simp only [Int.toNat_natCast]; omega)) (by first | assumption | rfl) ?_
        refine r_astore 36 dX3_read_34 rfl rfl rfl ?_
        refine r_iconst 37 dX3_read_36 rfl rfl ?_
        refine r_istore 39 dX3_read_37 rfl rfl rfl ?_
        refine r_iconst 40 dX3_read_39 rfl rfl ?_
        refine r_istore 42 dX3_read_40 rfl rfl rfl ?_
        refine r_iconst 43 dX3_read_42 rfl rfl ?_
        refine r_istore 45 dX3_read_43 rfl rfl rfl ?_
        rotate_left -- leaf: pc 45
        exact l_readA (l := l) (s := 34) lX0 wX0 ls34 (by omega) wh34 0 a f n (by omega) (Φ := fun r h' => r = some (vI (if (rdR (prF h'' 34 a f) (okB h'' 34 f) n 0).1 = 1 then (-20 - ((rdR (prF h'' 34 a f) (okB h'' 34 f) n 0).2.2 : Int), h'') else (((rdR (prF h'' 34 a f) (okB h'' 34 f) n 0).2.2 : Int), up (stH h'' 34 f (rdR (prF h'' 34 a f) (okB h'' 34 f) n 0).2.2) 0 10 (rdR (prF h'' 34 a f) (okB h'' 34 f) n 0).2.1)).1) ∧ h' = (if (rdR (prF h'' 34 a f) (okB h'' 34 f) n 0).1 = 1 then (-20 - ((rdR (prF h'' 34 a f) (okB h'' 34 f) n 0).2.2 : Int), h'') else (((rdR (prF h'' 34 a f) (okB h'' 34 f) n 0).2.2 : Int), up (stH h'' 34 f (rdR (prF h'' 34 a f) (okB h'' 34 f) n 0).2.2) 0 10 (rdR (prF h'' 34 a f) (okB h'' 34 f) n 0).2.1)).2) (fun W he => by rw [he]; exact ⟨rfl, rfl⟩) (fun rf W he => by rw [he]; exact ⟨rfl, rfl⟩) n 0 none (by omega) rfl (fun i hi => absurd hi (by omega))
      · rw [show shP 1 = 36 from rfl]
        refine r_aload_n 29 dX3_read_28 rfl rfl ?_
        refine r_getR 32 dX3_read_29 rfl kf_3_36 rfl (by first | assumption | omega) (by assumption) (by assumption) ?_
        refine r_iload_n 33 dX3_read_32 rfl rfl ?_
        refine r_aald 34 dX3_read_33 rfl (by first | assumption | omega) (by first | exact Or.inl (by assumption) | exact Or.inr (by assumption)) (by first | omega | (simp only [Int.toNat_natCast]; omega)) (by first | omega | (simp only [Int.toNat_natCast]; omega)) (by first | assumption | rfl) ?_
        refine r_astore 36 dX3_read_34 rfl rfl rfl ?_
        refine r_iconst 37 dX3_read_36 rfl rfl ?_
        refine r_istore 39 dX3_read_37 rfl rfl rfl ?_
        refine r_iconst 40 dX3_read_39 rfl rfl ?_
        refine r_istore 42 dX3_read_40 rfl rfl rfl ?_
        refine r_iconst 43 dX3_read_42 rfl rfl ?_
        refine r_istore 45 dX3_read_43 rfl rfl rfl ?_
        rotate_left -- leaf: pc 45
        exact l_readA (l := l) (s := 36) lX0 wX0 ls36 (by omega) wh36 1 a f n (by omega) (Φ := fun r h' => r = some (vI (if (rdR (prF h'' 36 a f) (okB h'' 36 f) n 0).1 = 1 then (-20 - ((rdR (prF h'' 36 a f) (okB h'' 36 f) n 0).2.2 : Int), h'') else (((rdR (prF h'' 36 a f) (okB h'' 36 f) n 0).2.2 : Int), up (stH h'' 36 f (rdR (prF h'' 36 a f) (okB h'' 36 f) n 0).2.2) 0 10 (rdR (prF h'' 36 a f) (okB h'' 36 f) n 0).2.1)).1) ∧ h' = (if (rdR (prF h'' 36 a f) (okB h'' 36 f) n 0).1 = 1 then (-20 - ((rdR (prF h'' 36 a f) (okB h'' 36 f) n 0).2.2 : Int), h'') else (((rdR (prF h'' 36 a f) (okB h'' 36 f) n 0).2.2 : Int), up (stH h'' 36 f (rdR (prF h'' 36 a f) (okB h'' 36 f) n 0).2.2) 0 10 (rdR (prF h'' 36 a f) (okB h'' 36 f) n 0).2.1)).2) (fun W he => by rw [he]; exact ⟨rfl, rfl⟩) (fun rf W he => by rw [he]; exact ⟨rfl, rfl⟩) n 0 none (by omega) rfl (fun i hi => absurd hi (by omega))
      · rw [show shP 2 = 38 from rfl]
        refine r_aload_n 29 dX3_read_28 rfl rfl ?_
        refine r_getR 32 dX3_read_29 rfl kf_3_36 rfl (by first | assumption | omega) (by assumption) (by assumption) ?_
        refine r_iload_n 33 dX3_read_32 rfl rfl ?_
        refine r_aald 34 dX3_read_33 rfl (by first | assumption | omega) (by first | exact Or.inl (by assumption) | exact Or.inr (by assumption)) (by first | omega | (simp only [Int.toNat_natCast]; omega)) (by first | omega | (simp only [Int.toNat_natCast]; omega)) (by first | assumption | rfl) ?_
        refine r_astore 36 dX3_read_34 rfl rfl rfl ?_
        refine r_iconst 37 dX3_read_36 rfl rfl ?_
        refine r_istore 39 dX3_read_37 rfl rfl rfl ?_
        refine r_iconst 40 dX3_read_39 rfl rfl ?_
        refine r_istore 42 dX3_read_40 rfl rfl rfl ?_
        refine r_iconst 43 dX3_read_42 rfl rfl ?_
        refine r_istore 45 dX3_read_43 rfl rfl rfl ?_
        rotate_left -- leaf: pc 45
        exact l_readA (l := l) (s := 38) lX0 wX0 ls38 (by omega) wh38 2 a f n (by omega) (Φ := fun r h' => r = some (vI (if (rdR (prF h'' 38 a f) (okB h'' 38 f) n 0).1 = 1 then (-20 - ((rdR (prF h'' 38 a f) (okB h'' 38 f) n 0).2.2 : Int), h'') else (((rdR (prF h'' 38 a f) (okB h'' 38 f) n 0).2.2 : Int), up (stH h'' 38 f (rdR (prF h'' 38 a f) (okB h'' 38 f) n 0).2.2) 0 10 (rdR (prF h'' 38 a f) (okB h'' 38 f) n 0).2.1)).1) ∧ h' = (if (rdR (prF h'' 38 a f) (okB h'' 38 f) n 0).1 = 1 then (-20 - ((rdR (prF h'' 38 a f) (okB h'' 38 f) n 0).2.2 : Int), h'') else (((rdR (prF h'' 38 a f) (okB h'' 38 f) n 0).2.2 : Int), up (stH h'' 38 f (rdR (prF h'' 38 a f) (okB h'' 38 f) n 0).2.2) 0 10 (rdR (prF h'' 38 a f) (okB h'' 38 f) n 0).2.1)).2) (fun W he => by rw [he]; exact ⟨rfl, rfl⟩) (fun rf W he => by rw [he]; exact ⟨rfl, rfl⟩) n 0 none (by omega) rfl (fun i hi => absurd hi (by omega))
      · rw [show shP 3 = 40 from rfl]
        refine r_aload_n 29 dX3_read_28 rfl rfl ?_
        refine r_getR 32 dX3_read_29 rfl kf_3_36 rfl (by first | assumption | omega) (by assumption) (by assumption) ?_
        refine r_iload_n 33 dX3_read_32 rfl rfl ?_
        refine r_aald 34 dX3_read_33 rfl (by first | assumption | omega) (by first | exact Or.inl (by assumption) | exact Or.inr (by assumption)) (by first | omega | (simp only [Int.toNat_natCast]; omega)) (by first | omega | (simp only [Int.toNat_natCast]; omega)) (by first | assumption | rfl) ?_
        refine r_astore 36 dX3_read_34 rfl rfl rfl ?_
        refine r_iconst 37 dX3_read_36 rfl rfl ?_
        refine r_istore 39 dX3_read_37 rfl rfl rfl ?_
        refine r_iconst 40 dX3_read_39 rfl rfl ?_
        refine r_istore 42 dX3_read_40 rfl rfl rfl ?_
        refine r_iconst 43 dX3_read_42 rfl rfl ?_
        refine r_istore 45 dX3_read_43 rfl rfl rfl ?_
        rotate_left -- leaf: pc 45
        exact l_readA (l := l) (s := 40) lX0 wX0 ls40 (by omega) wh40 3 a f n (by omega) (Φ := fun r h' => r = some (vI (if (rdR (prF h'' 40 a f) (okB h'' 40 f) n 0).1 = 1 then (-20 - ((rdR (prF h'' 40 a f) (okB h'' 40 f) n 0).2.2 : Int), h'') else (((rdR (prF h'' 40 a f) (okB h'' 40 f) n 0).2.2 : Int), up (stH h'' 40 f (rdR (prF h'' 40 a f) (okB h'' 40 f) n 0).2.2) 0 10 (rdR (prF h'' 40 a f) (okB h'' 40 f) n 0).2.1)).1) ∧ h' = (if (rdR (prF h'' 40 a f) (okB h'' 40 f) n 0).1 = 1 then (-20 - ((rdR (prF h'' 40 a f) (okB h'' 40 f) n 0).2.2 : Int), h'') else (((rdR (prF h'' 40 a f) (okB h'' 40 f) n 0).2.2 : Int), up (stH h'' 40 f (rdR (prF h'' 40 a f) (okB h'' 40 f) n 0).2.2) 0 10 (rdR (prF h'' 40 a f) (okB h'' 40 f) n 0).2.1)).2) (fun W he => by rw [he]; exact ⟨rfl, rfl⟩) (fun rf W he => by rw [he]; exact ⟨rfl, rfl⟩) n 0 none (by omega) rfl (fun i hi => absurd hi (by omega))
    · rw [if_pos (by omega)]
      exact ⟨rfl, rfl⟩
end SX
