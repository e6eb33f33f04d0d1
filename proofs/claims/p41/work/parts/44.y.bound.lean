/-! ===== pure: bounds of coins, of the pot, of wins ===== -/
def sumN (N : Nat → Int32) : Nat → Nat
  | 0 => 0
  | n + 1 => sumN N n + (N (13 + 7 * n + 0)).toNatClampNeg
def Bd (N : Nat → Int32) (K : Nat) : Prop :=
  ∀ c, c ≤ 6 → N 0 = nI c → ∃ t, N 7 = nI t ∧ t + sumN N c ≤ K ∧ ∀ m, m < c → (∃ a, a < 2 ^ 30 ∧ N (13 + 7 * m + 0) = nI a) ∧ ∃ w, w ≤ K ∧ N (13 + 7 * m + 6) = nI w
theorem Bd_mono {N : Nat → Int32} {K K' : Nat} (h : K ≤ K') (B : Bd N K) : Bd N K' := fun c hc h0 => by
  obtain ⟨t, b1, b2, b3⟩ := B c hc h0
  exact ⟨t, b1, by omega, fun m hm => ⟨(b3 m hm).1, by
    obtain ⟨w, w1, w2⟩ := (b3 m hm).2
    exact ⟨w, by omega, w2⟩⟩⟩
theorem sumN_congr {N N' : Nat → Int32} : ∀ {c : Nat}, (∀ m, m < c → N' (13 + 7 * m + 0) = N (13 + 7 * m + 0)) → sumN N' c = sumN N c
  | 0, _ => rfl
  | c + 1, h => by rw [sumN, sumN, sumN_congr (fun m hm => h m (Nat.lt_succ_of_lt hm)), h c (Nat.lt_succ_self c)]
theorem sumN_one {N N' : Nat → Int32} {k : Nat} : ∀ {c : Nat}, k < c → (∀ m, m < c → m ≠ k → N' (13 + 7 * m + 0) = N (13 + 7 * m + 0)) → sumN N' c + (N (13 + 7 * k + 0)).toNatClampNeg = sumN N c + (N' (13 + 7 * k + 0)).toNatClampNeg
  | 0, hk, _ => absurd hk (Nat.not_lt_zero k)
  | c + 1, hk, h => by
    rw [sumN, sumN]
    by_cases e : k = c
    · subst e
      rw [sumN_congr (fun m hm => h m (by omega) (by omega))]
      omega
    · have := sumN_one (N := N) (N' := N') (c := c) (by omega) (fun m hm => h m (by omega))
      rw [h c (by omega) (by omega)]
      omega
theorem sumN_ge {N : Nat → Int32} {k : Nat} : ∀ {c : Nat}, k < c → (N (13 + 7 * k + 0)).toNatClampNeg ≤ sumN N c
  | 0, hk => absurd hk (Nat.not_lt_zero k)
  | c + 1, hk => by
    rw [sumN]
    by_cases e : k = c
    · subst e; omega
    · have := sumN_ge (N := N) (c := c) (show k < c by omega)
      omega
theorem Bd_same {N N' : Nat → Int32} {K : Nat} (B : Bd N K) (h0 : N' 0 = N 0) (h7 : N' 7 = N 7) (h : ∀ m, m < 6 → N' (13 + 7 * m + 0) = N (13 + 7 * m + 0) ∧ N' (13 + 7 * m + 6) = N (13 + 7 * m + 6)) : Bd N' (K + 50) := fun c hc e0 => by
  obtain ⟨t, b1, b2, b3⟩ := B c hc (h0.symm.trans e0)
  refine ⟨t, h7.trans b1, ?_, fun m hm => ?_⟩
  · rw [sumN_congr (N := N) (fun m hm => (h m (by omega)).1)]; omega
  · obtain ⟨a, ⟨w, w1, w2⟩⟩ := b3 m hm
    rw [(h m (by omega)).1, (h m (by omega)).2]
    exact ⟨a, w, by omega, w2⟩
theorem nI_of_lt {a b : Nat} (h : nI a = nI b) (ha : a < 2 ^ 31) (hb : b < 2 ^ 31) : a = b := (nI_eq ha hb).mp h
/-- a member pays into the pot -/
theorem Bd_pay {N N' : Nat → Int32} {K c k s : Nat} (hc : c ≤ 6) (e0 : N 0 = nI c) (hk : k < c) (hs : s < 2 ^ 30) (hK : K < 2 ^ 29) (hle : nI s ≤ N (13 + 7 * k + 0)) (B : Bd N K) (h0 : N' 0 = N 0) (h7 : N' 7 = N 7 + nI s) (hc0 : N' (13 + 7 * k + 0) = N (13 + 7 * k + 0) - nI s) (hc6 : N' (13 + 7 * k + 6) = N (13 + 7 * k + 6))
    (h : ∀ m, m < c → m ≠ k → N' (13 + 7 * m + 0) = N (13 + 7 * m + 0) ∧ N' (13 + 7 * m + 6) = N (13 + 7 * m + 6)) : Bd N' (K + 50) := fun c' hc' e0' => by
  have ec : c' = c := nI_of_lt (e0'.symm.trans (h0.trans e0)) (by omega) (by omega)
  subst ec
  obtain ⟨t, b1, b2, b3⟩ := B c' hc e0
  obtain ⟨⟨a, a1, a2⟩, ⟨w, w1, w2⟩⟩ := b3 k hk
  rw [a2] at hle hc0
  have hsa : s ≤ a := (nI_leI (by omega) (by omega)).mp hle
  rw [nI_sub hsa] at hc0
  have hg := sumN_ge (N := N) hk
  have hone := sumN_one (N := N) (N' := N') hk (fun m hm e => (h m hm e).1)
  rw [hc0, a2, nI_clamp (by omega), nI_clamp (by omega)] at hone
  rw [a2, nI_clamp (by omega)] at hg
  refine ⟨t + s, by rw [h7, b1, nI_add], by omega, fun m hm => ?_⟩
  by_cases e : m = k
  · subst e
    exact ⟨⟨a - s, by omega, hc0⟩, w, by omega, hc6.trans w2⟩
  · obtain ⟨a', ⟨w', w1', w2'⟩⟩ := b3 m hm
    rw [(h m hm e).1, (h m hm e).2]
    exact ⟨a', w', by omega, w2'⟩
theorem cost_ok {h h' : Nat} (e : h < 10) (e' : h' < 10) : ∃ s, s < 2 ^ 30 ∧ (2 : Int32) * jabs (nI h - nI h') = nI s := by
  by_cases l : h' ≤ h
  · refine ⟨2 * (h - h'), by omega, ?_⟩
    rw [nI_sub l, jabs_p _ (by omega), show (2 : Int32) = nI 2 from rfl, pk_mul]
  · refine ⟨2 * (h' - h), by omega, ?_⟩
    rw [show nI h - nI h' = -(nI h' - nI h) by grind, nI_sub (by omega), jabs_n _ (by omega), show (2 : Int32) = nI 2 from rfl, pk_mul]

