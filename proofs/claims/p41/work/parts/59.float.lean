/-! ===== pure: the mean and the share ===== -/
theorem tl64 : FP.Core.b64.tails = 4503599627370496 := by decide +kernel
theorem ex64 : FP.Core.b64.exps = 2048 := by decide +kernel
theorem qn64 : FP.Core.b64.qmin = -1074 := by decide +kernel
theorem qx64 : FP.Core.b64.qmax = 971 := by decide +kernel
def okDt : FP.Core.Datum → Prop
  | .nan => False
  | .inf _ => True
  | .fin _ c q => c < 9007199254740992 ∧ q ≤ 971
theorem ok_round {s : Bool} {num den : Nat} {e : Int} : okDt (FP.Core.roundRatio FP.Core.b64 s num den e) := by
  unfold FP.Core.roundRatio
  split
  · rw [qn64]; exact ⟨by decide, by decide⟩
  · unfold FP.Core.roundAt FP.Core.settle
    split
    · unfold FP.Core.bound
      rename_i h
      split
      · rename_i h2
        rw [qx64] at h2
        exact ⟨h, h2⟩
      · trivial
    · unfold FP.Core.bound
      split
      · rename_i h2
        rw [qx64] at h2
        rw [tl64]
        exact ⟨by decide, h2⟩
      · trivial
theorem enc_ok {D : FP.Core.Datum} (h : okDt D) : ∃ s r, s ≤ 1 ∧ r ≤ 9218868437227405312 ∧ FP.Core.encode FP.Core.b64 D = s * 9223372036854775808 + r := by
  have hb : ∀ b : Bool, b.toNat ≤ 1 := by decide
  cases D with
  | nan => exact h.elim
  | inf s =>
    refine ⟨s.toNat, 9218868437227405312, hb s, Nat.le_refl _, ?_⟩
    unfold FP.Core.encode FP.Core.assemble
    rw [tl64, ex64]
    dsimp only
    omega
  | fin s c q =>
    obtain ⟨h1, h2⟩ := h
    unfold FP.Core.encode FP.Core.assemble
    rw [tl64, ex64, qn64]
    dsimp only
    split
    · exact ⟨s.toNat, c, hb s, by omega, by omega⟩
    · refine ⟨s.toNat, ((q - -1074).toNat + 1) * 4503599627370496 + (c - 4503599627370496), hb s, ?_, ?_⟩
      · have : (q - -1074).toNat ≤ 2045 := by omega
        omega
      · omega
theorem n64_enc {s r : Nat} (hs : s ≤ 1) (hr : r ≤ 9218868437227405312) : n64 (UInt64.ofNat (s * 9223372036854775808 + r)) = true := by
  refine decide_eq_true ?_
  rw [UInt64.le_iff_toNat_le, UInt64.toNat_and, show (0x7fffffffffffffff : UInt64).toNat = 2 ^ 63 - 1 from rfl, show (0x7ff0000000000000 : UInt64).toNat = 9218868437227405312 from rfl, Nat.and_two_pow_sub_one_eq_mod, UInt64.toNat_ofNat']
  omega
theorem dec_enc {s r : Nat} (hs : s ≤ 1) (hr : r ≤ 9218868437227405312) : ¬ FP.Core.decode FP.Core.b64 (UInt64.ofNat (s * 9223372036854775808 + r)).toNat = .nan := by
  rw [UInt64.toNat_ofNat', Nat.mod_eq_of_lt (by omega)]
  unfold FP.Core.decode FP.Core.fieldE FP.Core.fieldT
  rw [tl64, ex64]
  split
  · rename_i h
    split
    · simp
    · rename_i h2
      omega
  · split <;> simp
def fnz : FP.Core.Datum → Bool
  | .fin _ c _ => !decide (c = 0)
  | _ => false
theorem div_den : ∀ c, c < 7 → 0 < c → fnz (FP.Core.decode FP.Core.b64 (FP.i2d (nI c)).toNat) = true := by decide +kernel
theorem i2d_ok {x : Int32} : ¬ FP.Core.decode FP.Core.b64 (FP.i2d x).toNat = .nan := by
  have h : okDt (FP.Core.round FP.Core.b64 (FP.Core.ofInt x.toInt)) := ok_round
  obtain ⟨s, r, h1, h2, h3⟩ := enc_ok h
  have e : FP.i2d x = UInt64.ofNat (s * 9223372036854775808 + r) := by rw [← h3]; rfl
  rw [e]
  exact dec_enc h1 h2
theorem ddiv_ok {x : Int32} {c : Nat} (h0 : 0 < c) (hc : c < 7) : n64 (FP.ddiv (FP.i2d x) (FP.i2d (nI c))) = true := by
  have hd := div_den c hc h0
  have hx := i2d_ok (x := x)
  have h : okDt (FP.Core.quotient FP.Core.b64 (FP.Core.decode FP.Core.b64 (FP.i2d x).toNat) (FP.Core.decode FP.Core.b64 (FP.i2d (nI c)).toNat)) := by
    generalize FP.Core.decode FP.Core.b64 (FP.i2d x).toNat = A at hx
    generalize FP.Core.decode FP.Core.b64 (FP.i2d (nI c)).toNat = B at hd
    cases B with
    | nan => exact nomatch (show false = true from hd)
    | inf t => exact nomatch (show false = true from hd)
    | fin t d r =>
      have hd' : ¬ d = 0 := by
        intro e
        rw [e] at hd
        exact absurd hd (by simp [fnz])
      cases A with
      | nan => exact absurd rfl hx
      | inf s => trivial
      | fin s a q =>
        unfold FP.Core.quotient
        dsimp only
        rw [if_neg hd']
        exact ok_round
  obtain ⟨s, r, h1, h2, h3⟩ := enc_ok h
  have e : FP.ddiv (FP.i2d x) (FP.i2d (nI c)) = UInt64.ofNat (s * 9223372036854775808 + r) := by rw [← h3]; rfl
  rw [e]
  exact n64_enc h1 h2

