/-! ===== p41, pure: 'changes' ===== -/
def CH (K : Nat) (N : Nat → Int32) (l : List (Nat → Int32)) (v : T17) : Prop :=
  v.2.2.2.2.2.2.2.2.2.2.2.1 = 0 ∧ ((v.1 = 0 ∧ PB K v.2.2.2.2.2.1 N ∧ HL K v.2.2.2.2.2.2.2.2.1 v.2.2.2.2.2.2.2.2.2.1 v.2.2.2.2.2.2.2.2.2.2.1 l) ∨ (¬ v.1 = 0 ∧ ∃ N', PB (K + 3000) v.2.2.2.2.2.1 N' ∧ HL (K + 3000) v.2.2.2.2.2.2.2.2.1 v.2.2.2.2.2.2.2.2.2.1 v.2.2.2.2.2.2.2.2.2.2.1 ((N :: l).take 8)))
theorem ch_end {K : Nat} {xR xD xC xF tS tQ tF : Int32} {row N tC tP kF : Nat → Int32} {kN kK : Int32} {l : List (Nat → Int32)} {x : Option T4} {y : Option T6} {v : T10} (HP : PB K row N) (H : OutC K xR xD xC row N kN kK l x y v) :
    Rn (if v.1 = (-1001 : Int32) then (some ((0 : Int32), (xF, v.2.1, v.2.2.1, v.2.2.2.1, v.2.2.2.2.1, v.2.2.2.2.2.1, v.2.2.2.2.2.2.1, v.2.2.2.2.2.2.2.1, v.2.2.2.2.2.2.2.2.1, v.2.2.2.2.2.2.2.2.2, 0, tS, tQ, tF, tC, tP)) : Option T17) else some ((1 : Int32), (xF, v.2.1, v.2.2.1, v.2.2.2.1, v.2.2.2.2.1, v.2.2.2.2.2.1, v.2.2.2.2.2.2.1, v.2.2.2.2.2.2.2.1, v.2.2.2.2.2.2.2.2.1, v.2.2.2.2.2.2.2.2.2, 0, tS, tQ, tF, tC, tP))) (CH K N l) := by
  rcases H with ⟨a, R', N', kN', kK', kF', rfl, -, -, h4, h5, h6⟩ | ⟨b, why, more, kF', rfl, -, -, h4⟩
  · exact Rn.n h4 (Rn.s ⟨rfl, Or.inr ⟨n10, N', h5.mono (by omega), h6.mono (by omega)⟩⟩)
  · exact Rn.y rfl (Rn.s ⟨rfl, Or.inl ⟨rfl, HP, h4⟩⟩)
/-! the texts that a builder makes -/
def okA : Option (Int32 × (Nat → Int32)) → Bool
  | some v => inB v.1 16 && fitB v.1.toNatClampNeg v.2 && decide (v.1.toNatClampNeg ≤ 12) && (List.range v.1.toNatClampNeg).all (fun j => !decide (v.2 j < 0) && decide (v.2 j < 256))
  | none => false
theorem okA_s {v : Int32 × (Nat → Int32)} (h : okA (some v) = true) : inB v.1 16 = true ∧ fitB v.1.toNatClampNeg v.2 = true ∧ b256 ((List.range v.1.toNatClampNeg).map v.2) v.1.toNatClampNeg := by
  rw [okA] at h
  obtain ⟨h, h4⟩ := (Bool.and_eq_true _ _).mp h
  obtain ⟨h, h3⟩ := (Bool.and_eq_true _ _).mp h
  obtain ⟨h1, h2⟩ := (Bool.and_eq_true _ _).mp h
  refine ⟨h1, h2, of_decide_eq_true h3, fun j hj => ?_⟩
  have h5 := List.all_eq_true.mp h4 j (List.mem_range.mpr hj)
  obtain ⟨h6, h7⟩ := (Bool.and_eq_true _ _).mp h5
  have h6 : ¬ v.2 j < 0 := by
    intro q
    rw [decide_eq_true q] at h6
    exact absurd h6 (by decide)
  have h7 : v.2 j < 256 := of_decide_eq_true h7
  obtain ⟨q, hq, e⟩ := nI_of h6
  refine ⟨q, ?_, ?_⟩
  · rw [e] at h7
    exact (nI_ltI (b := 256) hq (by decide)).mp h7
  · rw [← e, List.getD_eq_getElem?_getD, List.getElem?_map, List.getElem?_range hj]
    rfl
theorem bA : ∀ a, a < 45 → okA ((f_J4_append_15ec4 2 [100, 45] 0 0 (fun _ => 0)).bind (fun v70 => (f_J4_append_bf812 0 v70.1 v70.2 (nI a)).bind (fun v72 => f_J4_append_15ec4 3 [59, 98, 48] 0 v72.1 v72.2))) = true := by decide +kernel
theorem bB : ∀ a, a < 10 → okA ((f_J4_append_15ec4 3 [109, 48, 62] 0 0 (fun _ => 0)).bind (fun v70 => (f_J4_append_bf812 0 v70.1 v70.2 (nI a)).bind (fun v72 => f_J4_append_15ec4 4 [59, 100, 43, 49] 0 v72.1 v72.2))) = true := by decide +kernel
theorem ok3 {α β γ : Type} {x : Option α} {f : α → Option β} {g : β → Option γ} {ok : Option γ → Bool} (hn : ok none = false) (h : ok (x.bind (fun a => (f a).bind g)) = true) : ∃ a b c, x = some a ∧ f a = some b ∧ g b = some c ∧ ok (some c) = true := by
  cases x with
  | none => exact absurd (hn.symm.trans h) (by decide)
  | some a =>
    have h : ok ((f a).bind g) = true := h
    cases h1 : f a with
    | none =>
      rw [h1] at h
      exact absurd (hn.symm.trans h) (by decide)
    | some b =>
      rw [h1] at h
      have h : ok (g b) = true := h
      cases h2 : g b with
      | none =>
        rw [h2] at h
        exact absurd (hn.symm.trans h) (by decide)
      | some c =>
        rw [h2] at h
        exact ⟨a, b, c, rfl, h1, h2, h⟩
theorem run_end {K : Nat} {N : Nat → Int32} {l : List (Nat → Int32)} {v : T17} (H : CQ K N l v.1 v.2.2.2.2.2.1 v.2.2.2.2.2.2.2.2.1 v.2.2.2.2.2.2.2.2.2.1 v.2.2.2.2.2.2.2.2.2.2.1 v.2.2.2.2.2.2.2.2.2.2.2.1) :
    Rn (if v.1 < (0 : Int32) then (some ((0 : Int32), (v.2.1, v.2.2.1, v.2.2.2.1, v.2.2.2.2.1, v.2.2.2.2.2.1, v.2.2.2.2.2.2.1, v.2.2.2.2.2.2.2.1, v.2.2.2.2.2.2.2.2.1, v.2.2.2.2.2.2.2.2.2.1, v.2.2.2.2.2.2.2.2.2.2.1, v.2.2.2.2.2.2.2.2.2.2.2.1, v.2.2.2.2.2.2.2.2.2.2.2.2.1, v.2.2.2.2.2.2.2.2.2.2.2.2.2.1, v.2.2.2.2.2.2.2.2.2.2.2.2.2.2.1, v.2.2.2.2.2.2.2.2.2.2.2.2.2.2.2.1, v.2.2.2.2.2.2.2.2.2.2.2.2.2.2.2.2)) : Option T17) else some ((1 : Int32), (v.2.1, v.2.2.1, v.2.2.2.1, v.2.2.2.2.1, v.2.2.2.2.2.1, v.2.2.2.2.2.2.1, v.2.2.2.2.2.2.2.1, v.2.2.2.2.2.2.2.2.1, v.2.2.2.2.2.2.2.2.2.1, v.2.2.2.2.2.2.2.2.2.2.1, v.2.2.2.2.2.2.2.2.2.2.2.1, v.2.2.2.2.2.2.2.2.2.2.2.2.1, v.2.2.2.2.2.2.2.2.2.2.2.2.2.1, v.2.2.2.2.2.2.2.2.2.2.2.2.2.2.1, v.2.2.2.2.2.2.2.2.2.2.2.2.2.2.2.1, v.2.2.2.2.2.2.2.2.2.2.2.2.2.2.2.2))) (CH K N l) := by
  obtain ⟨h0, ⟨h1, N', h2, h3⟩ | ⟨h1, h2, h3⟩⟩ := H
  · exact Rn.n h1 (Rn.s ⟨h0, Or.inr ⟨n10, N', h2, h3⟩⟩)
  · exact Rn.y h1 (Rn.s ⟨h0, Or.inl ⟨rfl, h2, h3⟩⟩)
theorem text_ok {n K : Nat} {t : List Int32} {tC tP row N kF : Nat → Int32} {xF xR xD xC rR rD kN kK tS tQ tF : Int32} {l : List (Nat → Int32)} (hK : K + 3000 < 2 ^ 29) (H : b256 t n) (HH : HL K kN kK kF l) (HP : PB K row N) :
    Rn (f_L_runs n t xF xR xD xC row rR rD kN kK kF 0 tS tQ tF tC tP) (fun v => CQ K N l v.1 v.2.2.2.2.2.1 v.2.2.2.2.2.2.2.2.1 v.2.2.2.2.2.2.2.2.2.1 v.2.2.2.2.2.2.2.2.2.2.1 v.2.2.2.2.2.2.2.2.2.2.2.1) :=
  runs_ok (P := fun v => CQ K N l v.1 v.2.2.2.2.2.1 v.2.2.2.2.2.2.2.2.1 v.2.2.2.2.2.2.2.2.2.1 v.2.2.2.2.2.2.2.2.2.2.1 v.2.2.2.2.2.2.2.2.2.2.2.1) H (fun v C hv => hv) (fun C' h => cmds_any hK (tx_of H h) HH HP)
theorem changes_ok {K : Nat} {row N kF tC tP : Nat → Int32} {xF xR xD xC rR rD kN kK tS tQ tF p2 : Int32} {l : List (Nat → Int32)} (hK : K + 3000 < 2 ^ 29) (HP : PB K row N) (HH : HL K kN kK kF l) :
    Rn (f_L_changes xF xR xD xC row rR rD kN kK kF 0 tS tQ tF tC tP p2) (CH K N l) := by
  obtain ⟨c, G, hR⟩ := HP.1
  have hc := G.1
  obtain ⟨m, hm, e2⟩ := some_ok (x := p2 >>> ((4 : Int32) &&& 31)) (nI_1 c) (by omega) (by omega)
  obtain ⟨j, hj, e3⟩ := some_ok (x := p2) (y := 22) (n := 22) rfl (by decide) (by decide)
  rw [f_L_changes]
  refine Rn.b (c0_account G hR) ?_
  refine Rn.b e2 ?_
  refine Rn.b e3 ?_
  by_cases h0 : nI j = 0
  · refine Rn.y h0 ?_
    obtain ⟨q, hq, eq⟩ := some_ok (x := p2 >>> ((4 : Int32) &&& 31)) (y := 11) (n := 11) rfl (by decide) (by decide)
    refine Rn.b eq ?_
    exact Rn.bb (w_join (show K < 2 ^ 29 by omega) HH HP) fun v hv => ch_end (kF := kF) HP hv
  refine Rn.n h0 ?_
  by_cases h1 : nI j = 1
  · refine Rn.y h1 ?_
    exact Rn.bb (w_leave (show K < 2 ^ 29 by omega) HH HP) fun v hv => ch_end (kF := kF) HP hv
  refine Rn.n h1 ?_
  by_cases h2 : nI j = 2
  · refine Rn.y h2 ?_
    obtain ⟨q, hq, eq⟩ := some_ok (x := p2 >>> ((8 : Int32) &&& 31)) (y := 11) (n := 11) rfl (by decide) (by decide)
    refine Rn.b eq ?_
    exact Rn.bb (w_move (show K < 2 ^ 29 by omega) HH HP) fun v hv => ch_end (kF := kF) HP hv
  refine Rn.n h2 ?_
  by_cases h3 : nI j = 3
  · refine Rn.y h3 ?_
    obtain ⟨q, hq, eq⟩ := some_ok (x := p2 >>> ((8 : Int32) &&& 31)) (y := 11) (n := 11) rfl (by decide) (by decide)
    refine Rn.b eq ?_
    exact Rn.bb (w_move (show K < 2 ^ 29 by omega) HH HP) fun v hv => ch_end (kF := kF) HP hv
  refine Rn.n h3 ?_
  by_cases h4 : nI j = 4
  · refine Rn.y h4 ?_
    refine Rn.b (c0_account G hR) ?_
    obtain ⟨q, hq, eq⟩ := some_ok (x := p2 >>> ((8 : Int32) &&& 31)) (nI_1 c) (by omega) (by omega)
    refine Rn.b eq ?_
    exact Rn.bb (w_exchange (show K < 2 ^ 29 by omega) HH HP) fun v hv => ch_end (kF := kF) HP hv
  refine Rn.n h4 ?_
  by_cases h5 : nI j = 5
  · refine Rn.y h5 ?_
    obtain ⟨q, hq, eq⟩ := some_ok (x := p2 >>> ((8 : Int32) &&& 31)) (y := 420) (n := 420) rfl (by decide) (by decide)
    refine Rn.b eq ?_
    obtain ⟨r, hr, er⟩ := some_ok (x := p2 >>> ((12 : Int32) &&& 31)) (y := 11) (n := 11) rfl (by decide) (by decide)
    refine Rn.b er ?_
    exact Rn.bb (w_wager (show K < 2 ^ 29 by omega) HH HP) fun v hv => ch_end (kF := kF) HP hv
  refine Rn.n h5 ?_
  by_cases h6 : nI j = 6
  · refine Rn.y h6 ?_
    obtain ⟨q, hq, eq⟩ := some_ok (x := p2 >>> ((8 : Int32) &&& 31)) (y := 420) (n := 420) rfl (by decide) (by decide)
    refine Rn.b eq ?_
    obtain ⟨r, hr, er⟩ := some_ok (x := p2 >>> ((12 : Int32) &&& 31)) (y := 11) (n := 11) rfl (by decide) (by decide)
    refine Rn.b er ?_
    exact Rn.bb (w_wager (show K < 2 ^ 29 by omega) HH HP) fun v hv => ch_end (kF := kF) HP hv
  refine Rn.n h6 ?_
  by_cases h7 : nI j = 7
  · refine Rn.y h7 ?_
    obtain ⟨q, hq, eq⟩ := some_ok (x := p2 >>> ((8 : Int32) &&& 31)) (y := 420) (n := 420) rfl (by decide) (by decide)
    refine Rn.b eq ?_
    obtain ⟨r, hr, er⟩ := some_ok (x := p2 >>> ((12 : Int32) &&& 31)) (y := 11) (n := 11) rfl (by decide) (by decide)
    refine Rn.b er ?_
    exact Rn.bb (w_wager (show K < 2 ^ 29 by omega) HH HP) fun v hv => ch_end (kF := kF) HP hv
  refine Rn.n h7 ?_
  by_cases h8 : nI j = 8
  · refine Rn.y h8 ?_
    exact Rn.bb (w_tap (show K < 2 ^ 29 by omega) HH HP) fun v hv => ch_end (kF := kF) HP hv
  refine Rn.n h8 ?_
  by_cases h9 : nI j = 9
  · refine Rn.y h9 ?_
    exact Rn.bb (w_tap (show K < 2 ^ 29 by omega) HH HP) fun v hv => ch_end (kF := kF) HP hv
  refine Rn.n h9 ?_
  by_cases h10 : nI j = 10
  · refine Rn.y h10 ?_
    exact Rn.bb (w_bottle (show K < 2 ^ 29 by omega) HH HP) fun v hv => ch_end (kF := kF) HP hv
  refine Rn.n h10 ?_
  by_cases h11 : nI j = 11
  · refine Rn.y h11 ?_
    exact Rn.bb (w_bottle (show K < 2 ^ 29 by omega) HH HP) fun v hv => ch_end (kF := kF) HP hv
  refine Rn.n h11 ?_
  by_cases h12 : nI j = 12
  · refine Rn.y h12 ?_
    exact Rn.bb (w_letOut (show K < 2 ^ 29 by omega) HH HP) fun v hv => ch_end (kF := kF) HP hv
  refine Rn.n h12 ?_
  by_cases h13 : nI j = 13
  · refine Rn.y h13 ?_
    exact Rn.bb (w_read (show K < 2 ^ 29 by omega) HH HP) fun v hv => ch_end (kF := kF) HP hv
  refine Rn.n h13 ?_
  by_cases h14 : nI j = 14
  · refine Rn.y h14 ?_
    exact Rn.bb (w_read (show K < 2 ^ 29 by omega) HH HP) fun v hv => ch_end (kF := kF) HP hv
  refine Rn.n h14 ?_
  by_cases h15 : nI j = 15
  · refine Rn.y h15 ?_
    by_cases hx : ((p2 >>> ((6 : Int32) &&& 31)) &&& (1 : Int32)) = (0 : Int32)
    · refine Rn.y hx ?_
      obtain ⟨a, ha, e9⟩ := some_ok (x := p2 >>> ((4 : Int32) &&& 31)) (y := 45) (n := 45) rfl (by decide) (by decide)
      obtain ⟨w1, w2, w3, f1, f2, f3, f4⟩ := ok3 (ok := okA) rfl (bA a ha)
      obtain ⟨o1, o2, o3⟩ := okA_s f4
      refine Rn.b f1 ?_
      refine Rn.b e9 ?_
      refine Rn.b f2 ?_
      refine Rn.b f3 ?_
      refine Rn.t o1 ?_
      refine Rn.t o2 ?_
      exact Rn.bb (text_ok (by omega) o3 HH HP) fun v hv => run_end hv
    · refine Rn.n hx ?_
      obtain ⟨a, ha, e9⟩ := some_ok (x := p2 >>> ((4 : Int32) &&& 31)) (y := 10) (n := 10) rfl (by decide) (by decide)
      obtain ⟨w1, w2, w3, f1, f2, f3, f4⟩ := ok3 (ok := okA) rfl (bB a ha)
      obtain ⟨o1, o2, o3⟩ := okA_s f4
      refine Rn.b f1 ?_
      refine Rn.b e9 ?_
      refine Rn.b f2 ?_
      refine Rn.b f3 ?_
      refine Rn.t o1 ?_
      refine Rn.t o2 ?_
      exact Rn.bb (text_ok (by omega) o3 HH HP) fun v hv => run_end hv
  refine Rn.n h15 ?_
  by_cases h16 : nI j = 16
  · refine Rn.y h16 ?_
    by_cases hx : ((p2 >>> ((6 : Int32) &&& 31)) &&& (1 : Int32)) = (0 : Int32)
    · refine Rn.y hx ?_
      obtain ⟨a, ha, e9⟩ := some_ok (x := p2 >>> ((4 : Int32) &&& 31)) (y := 45) (n := 45) rfl (by decide) (by decide)
      obtain ⟨w1, w2, w3, f1, f2, f3, f4⟩ := ok3 (ok := okA) rfl (bA a ha)
      obtain ⟨o1, o2, o3⟩ := okA_s f4
      refine Rn.b f1 ?_
      refine Rn.b e9 ?_
      refine Rn.b f2 ?_
      refine Rn.b f3 ?_
      refine Rn.t o1 ?_
      refine Rn.t o2 ?_
      exact Rn.bb (text_ok (by omega) o3 HH HP) fun v hv => run_end hv
    · refine Rn.n hx ?_
      obtain ⟨a, ha, e9⟩ := some_ok (x := p2 >>> ((4 : Int32) &&& 31)) (y := 10) (n := 10) rfl (by decide) (by decide)
      obtain ⟨w1, w2, w3, f1, f2, f3, f4⟩ := ok3 (ok := okA) rfl (bB a ha)
      obtain ⟨o1, o2, o3⟩ := okA_s f4
      refine Rn.b f1 ?_
      refine Rn.b e9 ?_
      refine Rn.b f2 ?_
      refine Rn.b f3 ?_
      refine Rn.t o1 ?_
      refine Rn.t o2 ?_
      exact Rn.bb (text_ok (by omega) o3 HH HP) fun v hv => run_end hv
  refine Rn.n h16 ?_
  obtain ⟨q, hq, eq⟩ := some_ok (x := p2 >>> ((4 : Int32) &&& 31)) (y := 84) (n := 84) rfl (by decide) (by decide)
  refine Rn.b eq ?_
  exact Rn.bb (w_day (show K < 2 ^ 29 by omega) HH HP) fun v hv => ch_end (kF := kF) HP hv
