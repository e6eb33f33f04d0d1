/-! ===== pure: numbers, written ===== -/
def wr (f : Nat → Int32) (l k a : Nat) : Nat → Int32 := fun j => if l ≤ j ∧ j < l + k then nI (48 + a / 10 ^ (l + k - 1 - j) % 10) else f j
theorem dig_eq {d : Nat} (hd : d < 10) : f_X4_digit (nI d) = some (nI (48 + d), ()) := by
  have e : (((48 : Int32) + nI d).toUInt32 % 65536).toInt32 = nI (48 + d) := by
    have q : ∀ d, d < 10 → (((48 : Int32) + nI d).toUInt32 % 65536).toInt32 = nI (48 + d) := by decide +kernel
    exact q d hd
  rw [f_X4_digit, e, cT (okc (by omega))]
theorem x4_add {l q : Nat} {f : Nat → Int32} (hl : l < 32) (hq : q < 65536) : f_X4_add (nI l) f (nI q) = some (nI (l + 1), upd f l (nI q)) := by
  rw [f_X4_add, if_neg (nI_pos (by omega)), if_neg (show ¬ (32 : Int32) ≤ nI l from nI_ge (b := 32) (by omega) (by decide)), cT (inB_n (by omega) (by decide)), nI_clamp (by omega), vnc hq, nI_1]
theorem x8_sign {l q : Nat} {f : Nat → Int32} (hl : l < 60) (hq : q < 65536) : f_X8_signs (nI l) f (nI q) = some (nI (l + 1), upd f l (nI q)) := by
  rw [f_X8_signs, cT (inB_n (by omega) (by decide)), nI_clamp (by omega), vnc hq, nI_1]
theorem mod_n {a : Nat} (ha : a < 2 ^ 31) : nI a - nI a / (10 : Int32) * (10 : Int32) = nI (a % 10) := by
  rw [show (10 : Int32) = nI 10 from rfl, pk_div ha (by decide) (by decide), pk_mul, nI_sub (by omega)]
  congr 1
  omega
theorem pow_le9 {k : Nat} (h : k ≤ 9) : 10 ^ k ≤ 1000000000 := Nat.pow_le_pow_right (n := 10) (by decide) h
theorem x4_L29 {a : Nat} (ha : a < 2 ^ 31) : ∀ k l n f, l + k ≤ 32 → k ≤ 10 → k < n → f_X4_addNumber_L29 (nI a) n (nI (10 ^ k / 10)) (nI l) f = some (nI (l + k), wr f l k a)
  | k, l, 0, _, _, _, hn => absurd hn (Nat.not_lt_zero k)
  | 0, l, n + 1, f, _, _, _ => by
    rw [f_X4_addNumber_L29, if_pos (show nI (10 ^ 0 / 10) ≤ 0 by decide)]
    refine congrArg some (Prod.ext rfl ?_)
    funext j
    show f j = wr f l 0 a j
    unfold wr
    rw [if_neg (by omega)]
  | k + 1, l, n + 1, f, hl, hk, hn => by
    have hp : 10 ^ (k + 1) / 10 = 10 ^ k := by rw [Nat.pow_succ, Nat.mul_div_cancel _ (by decide)]
    have h0 : 0 < 10 ^ k := Nat.pow_pos (by decide)
    have h9 := pow_le9 (k := k) (by omega)
    have hd : a / 10 ^ k < 2 ^ 31 := Nat.lt_of_le_of_lt (Nat.div_le_self _ _) ha
    have hm : a / 10 ^ k % 10 < 10 := Nat.mod_lt _ (by decide)
    rw [f_X4_addNumber_L29, hp, if_neg (nI_nle h0 (by omega)), cT (nz_n (by omega) (by omega)), pk_div ha h0 (by omega), mod_n hd, dig_eq hm, bS, x4_add (by omega) (by omega), bS, show nI (10 ^ k) / (10 : Int32) = nI (10 ^ k / 10) from pk_div (d := 10) (by omega) (by decide) (by decide), x4_L29 ha k (l + 1) n _ (by omega) (by omega) (by omega)]
    refine congrArg some (Prod.ext (nI_inj' (by omega)) ?_)
    funext j
    show wr (upd f l (nI (48 + a / 10 ^ k % 10))) (l + 1) k a j = wr f l (k + 1) a j
    unfold wr
    by_cases e1 : l + 1 ≤ j ∧ j < l + 1 + k
    · rw [if_pos e1, if_pos (by omega), show l + 1 + k - 1 - j = l + (k + 1) - 1 - j by omega]
    · rw [if_neg e1]
      by_cases e2 : j = l
      · rw [e2, upd_s, if_pos (by omega), show l + (k + 1) - 1 - l = k by omega]
      · rw [upd_n e2, if_neg (by omega)]
theorem x4_L4 {a k : Nat} (ha : a < 2 ^ 31) (hk : k ≤ 10) {l : Nat} {f : Nat → Int32} (hl : l + k ≤ 32) (hlo : k = 1 ∨ 10 ^ (k - 1) ≤ a) (hhi : a < 10 ^ k) : ∀ r i n, i + 1 + r = k → r < n → f_X4_addNumber_L4 (nI a) (nI l) f n (nI (10 ^ i)) (nI (i + 1)) = some (nI (l + k), wr f l k a)
  | r, i, 0, _, hn => absurd hn (Nat.not_lt_zero r)
  | 0, i, n + 1, hr, _ => by
    have h0 : 0 < 10 ^ i := Nat.pow_pos (by decide)
    have h9 := pow_le9 (k := i) (by omega)
    have hd : a / 10 ^ i < 10 := by
      rw [Nat.div_lt_iff_lt_mul h0, Nat.mul_comm, ← Nat.pow_succ, show i.succ = k by omega]
      exact hhi
    have hf := x4_L29 ha k l FU f hl hk (by rw [FU]; omega)
    rw [show k = i + 1 by omega, show 10 ^ (i + 1) / 10 = 10 ^ i by rw [Nat.pow_succ, Nat.mul_div_cancel _ (by decide)], show i + 1 = k by omega] at hf
    rw [f_X4_addNumber_L4]
    split
    · exact hf
    · rw [show nI a / (10 : Int32) = nI (a / 10) from pk_div (d := 10) ha (by decide) (by decide), if_pos (show nI (a / 10) < nI (10 ^ i) from nI_lt (by rw [Nat.div_lt_iff_lt_mul (by decide), ← Nat.pow_succ, show i.succ = k by omega]; exact hhi) (by omega)), hf]
  | r + 1, i, n + 1, hr, hn => by
    have h0 : 0 < 10 ^ i := Nat.pow_pos (by decide)
    have h9 := pow_le9 (k := i) (by omega)
    have h9' := pow_le9 (k := i + 1) (by omega)
    have hd2 : a / 10 ^ i < 2 ^ 31 := Nat.lt_of_le_of_lt (Nat.div_le_self _ _) ha
    have hd : 10 ^ i ≤ a / 10 := by
      rw [Nat.le_div_iff_mul_le (by decide), ← Nat.pow_succ]
      rcases hlo with h | h
      · omega
      · exact Nat.le_trans (Nat.pow_le_pow_right (by decide) (by omega)) h
    rw [f_X4_addNumber_L4, if_neg (show ¬ (10 : Int32) ≤ nI (i + 1) from nI_ge (b := 10) (by omega) (by decide)), show nI a / (10 : Int32) = nI (a / 10) from pk_div (d := 10) ha (by decide) (by decide), if_neg (show ¬ nI (a / 10) < nI (10 ^ i) from nI_nlt hd (by omega)), show nI (10 ^ i) * (10 : Int32) = nI (10 ^ (i + 1)) by rw [show (10 : Int32) = nI 10 from rfl, pk_mul, Nat.pow_succ], nI_1]
    exact x4_L4 ha hk hl hlo hhi r (i + 1) n (by omega) (by omega)
theorem sgn_ch {d : Nat} (hd : d < 10) : (((48 : Int32) + nI d).toUInt32 % 65536).toInt32 = nI (48 + d) := by
  have q : ∀ d, d < 10 → (((48 : Int32) + nI d).toUInt32 % 65536).toInt32 = nI (48 + d) := by decide +kernel
  exact q d hd
theorem x8_wr : ∀ k n l f a, l + (k + 1) ≤ 60 → k < n → a < 2 ^ 31 → (k = 0 ∨ 10 ^ k ≤ a) → a < 10 ^ (k + 1) → f_X8_writes_R n (nI l) f (nI a) = some (nI (l + (k + 1)), wr f l (k + 1) a)
  | k, 0, _, _, _, _, hn, _, _, _ => absurd hn (Nat.not_lt_zero k)
  | 0, n + 1, l, f, a, hl, _, ha, _, hhi => by
    have h9 : a ≤ 9 := by rw [Nat.zero_add, Nat.pow_one] at hhi; omega
    rw [f_X8_writes_R, if_pos (show nI a ≤ 9 from nI_le (b := 9) h9 (by decide)), mod_n ha, sgn_ch (Nat.mod_lt _ (by decide)), x8_sign (by omega) (by omega), bS]
    refine congrArg some (Prod.ext rfl ?_)
    funext j
    show upd f l (nI (48 + a % 10)) j = wr f l (0 + 1) a j
    unfold wr
    by_cases e : j = l
    · rw [e, upd_s, if_pos (by omega), show l + (0 + 1) - 1 - l = 0 by omega, Nat.pow_zero, Nat.div_one]
    · rw [upd_n e, if_neg (by omega)]
  | k + 1, n + 1, l, f, a, hl, hn, ha, hlo, hhi => by
    have h10 : 10 ≤ a := by
      rcases hlo with h | h
      · omega
      · exact Nat.le_trans (Nat.le_trans (by decide) (Nat.pow_le_pow_right (n := 10) (by decide) (show 1 ≤ k + 1 by omega))) h
    have hlo' : k = 0 ∨ 10 ^ k ≤ a / 10 := by
      rcases hlo with h | h
      · omega
      · right
        rw [Nat.le_div_iff_mul_le (by decide), ← Nat.pow_succ]
        exact h
    have hhi' : a / 10 < 10 ^ (k + 1) := by
      rw [Nat.div_lt_iff_lt_mul (by decide), ← Nat.pow_succ]
      exact hhi
    have ih := x8_wr k n l f (a / 10) (by omega) (by omega) (by omega) hlo' hhi'
    rw [f_X8_writes_R, if_neg (show ¬ nI a ≤ 9 from nI_ge (a := 9) (by omega) (by omega)), show nI a / (10 : Int32) = nI (a / 10) from pk_div (d := 10) ha (by decide) (by decide), ih, bS, show nI a - nI (a / 10) * (10 : Int32) = nI (a % 10) by rw [← mod_n ha, show nI a / (10 : Int32) = nI (a / 10) from pk_div (d := 10) ha (by decide) (by decide)], sgn_ch (Nat.mod_lt _ (by decide)), x8_sign (by omega) (by omega), bS]
    refine congrArg some (Prod.ext (nI_inj' (by omega)) ?_)
    funext j
    show upd (wr f l (k + 1) (a / 10)) (l + (k + 1)) (nI (48 + a % 10)) j = wr f l (k + 1 + 1) a j
    by_cases e : j = l + (k + 1)
    · unfold wr
      rw [e, upd_s, if_pos (by omega), show l + (k + 1 + 1) - 1 - (l + (k + 1)) = 0 by omega, Nat.pow_zero, Nat.div_one]
    · rw [upd_n e]
      unfold wr
      by_cases e1 : l ≤ j ∧ j < l + (k + 1)
      · rw [if_pos e1, if_pos (by omega), Nat.div_div_eq_div_mul, show l + (k + 1 + 1) - 1 - j = (l + (k + 1) - 1 - j) + 1 by omega, Nat.pow_succ, Nat.mul_comm 10]
      · rw [if_neg e1, if_neg (by omega)]
theorem digs {a : Nat} (h : a < 2 ^ 31) : ∃ k, k ≤ 9 ∧ (k = 0 ∨ 10 ^ k ≤ a) ∧ a < 10 ^ (k + 1) := by
  by_cases h1 : a < 10; exact ⟨0, by decide, Or.inl rfl, h1⟩
  by_cases h2 : a < 100; exact ⟨1, by decide, Or.inr (by omega), h2⟩
  by_cases h3 : a < 1000; exact ⟨2, by decide, Or.inr (by omega), h3⟩
  by_cases h4 : a < 10000; exact ⟨3, by decide, Or.inr (by omega), h4⟩
  by_cases h5 : a < 100000; exact ⟨4, by decide, Or.inr (by omega), h5⟩
  by_cases h6 : a < 1000000; exact ⟨5, by decide, Or.inr (by omega), h6⟩
  by_cases h7 : a < 10000000; exact ⟨6, by decide, Or.inr (by omega), h7⟩
  by_cases h8 : a < 100000000; exact ⟨7, by decide, Or.inr (by omega), h8⟩
  by_cases h9 : a < 1000000000; exact ⟨8, by decide, Or.inr (by omega), h9⟩
  exact ⟨9, by decide, Or.inr (by omega), by omega⟩
/-- both write the same number -/
theorem num_both {a l B : Nat} {f g : Nat → Int32} (ha : a < 2 ^ 31) (hB : a < 10 ^ B) (hB1 : 1 ≤ B) (hl : l + B ≤ 32) (h : ∀ j, j < l → f j = g j ∧ ∃ q, q < 65536 ∧ f j = nI q) :
    ∃ k f' g', 1 ≤ k ∧ k ≤ B ∧ f_X4_addNumber (nI l) f (nI a) = some (nI (l + k), f') ∧ f_X8_writes (nI l) g (nI a) = some (nI (l + k), g') ∧ ∀ j, j < l + k → f' j = g' j ∧ ∃ q, q < 65536 ∧ f' j = nI q := by
  obtain ⟨k, k9, klo, khi⟩ := digs ha
  have hk : k + 1 ≤ B := by
    rcases klo with e | e
    · omega
    · have : k < B := (Nat.pow_lt_pow_iff_right (a := 10) (by decide)).mp (Nat.lt_of_le_of_lt e hB)
      omega
  refine ⟨k + 1, wr f l (k + 1) a, wr g l (k + 1) a, by omega, hk, ?_, ?_, fun j hj => ?_⟩
  · exact x4_L4 ha (by omega) (by omega) (by rcases klo with e | e; exact Or.inl (by omega); exact Or.inr e) khi k 0 FU (by omega) (by rw [FU]; omega)
  · exact x8_wr k 13 l g a (by omega) (by omega) ha klo khi
  · unfold wr
    by_cases e : l ≤ j ∧ j < l + (k + 1)
    · rw [if_pos e, if_pos e]
      have : a / 10 ^ (l + (k + 1) - 1 - j) % 10 < 10 := Nat.mod_lt _ (by decide)
      exact ⟨rfl, _, by omega, rfl⟩
    · rw [if_neg e, if_neg e]
      exact h j (by omega)

