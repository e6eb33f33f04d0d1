/-! ===== p41, pure: a run that ends, and what holds of its answer; what undo keeps ===== -/
def Rn {α : Type} (x : Option α) (Q : α → Prop) : Prop := ∃ v, x = some v ∧ Q v
theorem Rn.s {α : Type} {Q : α → Prop} {v : α} (q : Q v) : Rn (some v) Q := ⟨v, rfl, q⟩
theorem Rn.e {α : Type} {x : Option α} {Q : α → Prop} {v : α} (h : x = some v) (q : Q v) : Rn x Q := ⟨v, h, q⟩
theorem Rn.b {α β : Type} {x : Option α} {f : α → Option β} {a : α} {Q : β → Prop} (h : x = some a) (g : Rn (f a) Q) : Rn (x.bind f) Q := by
  rw [h]
  exact g
theorem Rn.bb {α β : Type} {x : Option α} {f : α → Option β} {P : α → Prop} {Q : β → Prop} (h : Rn x P) (g : ∀ a, P a → Rn (f a) Q) : Rn (x.bind f) Q := by
  obtain ⟨a, e, p⟩ := h
  rw [e]
  exact g a p
theorem Rn.y {α : Type} {c : Prop} [Decidable c] {a b : Option α} {Q : α → Prop} (h : c) (g : Rn a Q) : Rn (if c then a else b) Q := by
  rw [if_pos h]
  exact g
theorem Rn.n {α : Type} {c : Prop} [Decidable c] {a b : Option α} {Q : α → Prop} (h : ¬ c) (g : Rn b Q) : Rn (if c then a else b) Q := by
  rw [if_neg h]
  exact g
theorem Rn.t {α : Type} {b : Bool} {x y : Option α} {Q : α → Prop} (h : b = true) (g : Rn x Q) : Rn (bif b then x else y) Q := by
  rw [h]
  exact g
theorem Rn.mono {α : Type} {x : Option α} {P Q : α → Prop} (h : Rn x P) (g : ∀ v, P v → Q v) : Rn x Q := by
  obtain ⟨v, e, p⟩ := h
  exact ⟨v, e, g v p⟩
/-- what undo keeps: the rows that the club had, the latest first -/
def HL (K : Nat) (kN kK : Int32) (kF : Nat → Int32) (l : List (Nat → Int32)) : Prop :=
  ∃ x, x < 9 ∧ l.length ≤ 8 ∧ kN = nI x ∧ kK = nI l.length ∧ ∀ j N, l[j]? = some N → PB K (fun k => kF (55 * ((x + 8 - j) % 9) + k)) N
theorem HL.mono {K K' : Nat} {kN kK : Int32} {kF : Nat → Int32} {l : List (Nat → Int32)} (h : K ≤ K') (H : HL K kN kK kF l) : HL K' kN kK kF l := by
  obtain ⟨x, h1, h2, h3, h4, h5⟩ := H
  exact ⟨x, h1, h2, h3, h4, fun j N hj => (h5 j N hj).mono h⟩
theorem hl_in {K : Nat} {kF F' row : Nat → Int32} {l : List (Nat → Int32)} {x : Nat} (hx : x < 9) (hl : l.length ≤ 8)
    (h : ∀ j N, l[j]? = some N → PB K (fun k => kF (55 * ((x + 8 - j) % 9) + k)) N) (hF : ∀ i, F' i = if 55 * x ≤ i ∧ i < 55 * x + 55 then row (i - 55 * x) else kF i) : HL K (nI x) (nI l.length) F' l :=
  ⟨x, hx, hl, rfl, rfl, fun j N hj => by
    have hj8 : j < l.length := (List.getElem?_eq_some_iff.mp hj).1
    exact PB_congr (h j N hj) (fun i hi => by
      show F' (55 * ((x + 8 - j) % 9) + i) = kF (55 * ((x + 8 - j) % 9) + i)
      rw [hF, if_neg (by omega)]) (fun i _ => rfl)⟩
theorem hl_up {K : Nat} {kF F' row N : Nat → Int32} {l : List (Nat → Int32)} {x : Nat} (hx : x < 9) (hl : l.length ≤ 8) (HP : PB K row N)
    (h : ∀ j N, l[j]? = some N → PB K (fun k => kF (55 * ((x + 8 - j) % 9) + k)) N) (hF : ∀ i, F' i = if 55 * x ≤ i ∧ i < 55 * x + 55 then row (i - 55 * x) else kF i) :
    HL K (nI ((x + 1) % 9)) (nI (min (l.length + 1) 8)) F' ((N :: l).take 8) := by
  refine ⟨(x + 1) % 9, by omega, by rw [List.length_take]; omega, rfl, by rw [List.length_take, List.length_cons, Nat.min_comm], fun j M hj => ?_⟩
  by_cases hj8 : j < 8
  · rw [List.getElem?_take, if_pos hj8] at hj
    rcases j with _ | j
    · rw [List.getElem?_cons_zero] at hj
      cases hj
      exact PB_congr HP (fun i hi => by
        show F' (55 * (((x + 1) % 9 + 8 - 0) % 9) + i) = row i
        rw [hF, if_pos (by omega), show 55 * (((x + 1) % 9 + 8 - 0) % 9) + i - 55 * x = i by omega]) (fun i _ => rfl)
    · rw [List.getElem?_cons_succ] at hj
      have hjl : j < l.length := (List.getElem?_eq_some_iff.mp hj).1
      exact PB_congr (h j M hj) (fun i hi => by
        show F' (55 * (((x + 1) % 9 + 8 - (j + 1)) % 9) + i) = kF (55 * ((x + 8 - j) % 9) + i)
        rw [show ((x + 1) % 9 + 8 - (j + 1)) % 9 = (x + 8 - j) % 9 by omega, hF, if_neg (by omega)]) (fun i _ => rfl)
  · rw [List.getElem?_take, if_neg hj8] at hj
    exact nomatch hj
abbrev T4 := Int32 × (Nat → Int32) × Int32 × Int32
abbrev T6 := Int32 × Int32 × Int32 × Int32 × Int32 × (Nat → Int32)
abbrev T10 := Int32 × Int32 × Int32 × Int32 × (Nat → Int32) × Int32 × Int32 × Int32 × Int32 × (Nat → Int32)
/-- one change, by a call: done, or refused with its reason kept and the row as it was -/
theorem ch_w {K : Nat} {xR xD xC rR rD kN kK k p q t : Int32} {row kF N : Nat → Int32} {l : List (Nat → Int32)} {x : Option T4} {y : Option T6} (hKb : K < 2 ^ 29) (HH : HL K kN kK kF l) (HP : PB K row N)
    (hco : f_X6_carryOut row rR rD k p q t = x.bind (fun v2 => (some (v2.1, (v2.2.1, v2.2.2.1, v2.2.2.2))))) (S : Step row N 0 0 0 0 x y) :
    (∃ a R' N' kN' kK' kF', f_X7_change xR xD xC row rR rD kN kK kF k p q t = some (0, a, xR, xD, xC, R', 0, 0, kN', kK', kF') ∧ x = some (a, R', 0, 0) ∧ y = some (1, 0, 0, 0, a, N') ∧ ¬ a = -1001 ∧ PB (K + 50) R' N' ∧ HL (K + 50) kN' kK' kF' ((N :: l).take 8)) ∨
      ∃ b why more kF', f_X7_change xR xD xC row rR rD kN kK kF k p q t = some (6, 0, why, more, 0, row, why, more, kN, kK, kF') ∧ ¬ why = 0 ∧ x = some (b, row, why, more) ∧ HL K kN kK kF' l := by
  obtain ⟨z, hz, hl, rfl, rfl, h⟩ := HH
  obtain ⟨F', f1, f2⟩ := prep_eq (row := row) (kF := kF) hz
  rcases S with ⟨a, R', N', s1, s2, s3, s4⟩ | ⟨b, why, more, hw, s1, s2⟩
  · refine Or.inl ⟨a, R', N', _, _, F', ?_, s1, s2, (s4 K hKb HP.2).2, ⟨s3, (s4 K hKb HP.2).1⟩, (hl_up hz hl HP h f2).mono (Nat.le_add_right K 50)⟩
    rw [f_X7_change, f1, bS, hco, s1, bS, bS, f_X6_isRefused, if_pos rfl, bS, if_pos rfl, acc_eq hz hl, bS]
  · refine Or.inr ⟨b, why, more, F', ?_, hw, s1, hl_in hz hl h f2⟩
    rw [f_X7_change, f1, bS, hco, s1, bS, bS, f_X6_isRefused, if_neg hw, bS, if_neg n10, f_X7_keepReason, f_X6_latestReason, bS, f_X6_latestDetail, bS, bS]
def OutC (K : Nat) (xR xD xC : Int32) (row N : Nat → Int32) (kN kK : Int32) (l : List (Nat → Int32)) (x : Option T4) (y : Option T6) (v : T10) : Prop :=
  (∃ a R' N' kN' kK' kF', v = (a, xR, xD, xC, R', 0, 0, kN', kK', kF') ∧ x = some (a, R', 0, 0) ∧ y = some (1, 0, 0, 0, a, N') ∧ ¬ a = -1001 ∧ PB (K + 50) R' N' ∧ HL (K + 50) kN' kK' kF' ((N :: l).take 8)) ∨
    ∃ b why more kF', v = (-1001, why, more, 0, row, why, more, kN, kK, kF') ∧ ¬ why = 0 ∧ x = some (b, row, why, more) ∧ HL K kN kK kF' l
/-- a call that was refused -/
def RefC (K : Nat) (why more : Int32) (row : Nat → Int32) (kN kK : Int32) (l : List (Nat → Int32)) (v : T10) : Prop := ∃ kF', v = (-1001, why, more, 0, row, why, more, kN, kK, kF') ∧ HL K kN kK kF' l
theorem OutC.no {K : Nat} {xR xD xC : Int32} {row N : Nat → Int32} {kN kK : Int32} {l : List (Nat → Int32)} {x : Option T4} {y : Option T6} {v : T10} {b why more : Int32} (H : OutC K xR xD xC row N kN kK l x y v) (hx : x = some (b, row, why, more)) (hw : ¬ why = 0) : RefC K why more row kN kK l v := by
  rcases H with ⟨a, R', N', kN', kK', kF', -, h2, -⟩ | ⟨b', why', more', kF', h1, -, h3, h4⟩
  · rw [hx] at h2
    injection h2 with h2
    injection h2 with _ h2
    injection h2 with _ h2
    injection h2 with h2 _
    exact absurd h2 hw
  · rw [hx] at h3
    injection h3 with h3
    injection h3 with _ h3
    injection h3 with _ h3
    injection h3 with e1 e2
    subst e1
    subst e2
    exact ⟨kF', h1, h4⟩
theorem n60 : ¬ (6 : Nat) = 0 := by decide
theorem hco_106 {R : Nat → Int32} {rR rD p q t : Int32} : f_X6_carryOut R rR rD 106 p q t = (f_X6_enter R 0 0 p).bind (fun v2 => (some (v2.1, (v2.2.1, v2.2.2.1, v2.2.2.2)))) := by
  rw [f_X6_carryOut, if_neg (show ¬ (106 : Int32) = 98 by decide), if_neg (show ¬ (106 : Int32) = 100 by decide), if_pos rfl]
theorem w_join {K : Nat} {xR xD xC rR rD kN kK : Int32} {p : Int32} {row kF N : Nat → Int32} {l : List (Nat → Int32)} (hK : K < 2 ^ 29) (HH : HL K kN kK kF l) (HP : PB K row N) : Rn (f_L_join xR xD xC row rR rD kN kK kF p) (OutC K xR xD xC row N kN kK l (f_X6_enter row 0 0 p) (f_X8_joins 0 0 0 0 N p)) := by
  rcases ch_w (xR := xR) (xD := xD) (xC := xC) (rR := rR) (rD := rD) (k := 106) (p := p) (q := 0) (t := 0) hK HH HP hco_106 (st_enter HP.1) with ⟨a, R', N', kN', kK', kF', e, rest⟩ | ⟨b, why, more, kF', e, rest⟩
  · exact ⟨(a, xR, xD, xC, R', 0, 0, kN', kK', kF'), by rw [f_L_join, f_X7_join, e, bS, if_pos rfl, bS, if_pos rfl], Or.inl ⟨a, R', N', kN', kK', kF', rfl, rest⟩⟩
  · exact ⟨(-1001, why, more, 0, row, why, more, kN, kK, kF'), by rw [f_L_join, f_X7_join, e, bS, if_neg n60, bS, if_neg n60, if_pos rfl], Or.inr ⟨b, why, more, kF', rfl, rest⟩⟩
theorem r_join {K : Nat} {xR xD xC rR rD kN kK : Int32} {p : Int32} {row kF N : Nat → Int32} {l : List (Nat → Int32)} (hK : K < 2 ^ 29) (HH : HL K kN kK kF l) (HP : PB K row N) {b why more : Int32} (hx : f_X6_enter row 0 0 p = some (b, row, why, more)) (hw : ¬ why = 0) : Rn (f_L_join xR xD xC row rR rD kN kK kF p) (RefC K why more row kN kK l) :=
  (w_join hK HH HP).mono (fun _ h => h.no hx hw)
theorem hco_120 {R : Nat → Int32} {rR rD p q t : Int32} : f_X6_carryOut R rR rD 120 p q t = (f_X6_goAway R 0 0 p).bind (fun v2 => (some (v2.1, (v2.2.1, v2.2.2.1, v2.2.2.2)))) := by
  rw [f_X6_carryOut, if_neg (show ¬ (120 : Int32) = 98 by decide), if_neg (show ¬ (120 : Int32) = 100 by decide), if_neg (show ¬ (120 : Int32) = 106 by decide), if_neg (show ¬ (120 : Int32) = 109 by decide), if_neg (show ¬ (120 : Int32) = 111 by decide), if_neg (show ¬ (120 : Int32) = 115 by decide), if_neg (show ¬ (120 : Int32) = 116 by decide), if_neg (show ¬ (120 : Int32) = 119 by decide), if_pos rfl]
theorem w_leave {K : Nat} {xR xD xC rR rD kN kK : Int32} {p : Int32} {row kF N : Nat → Int32} {l : List (Nat → Int32)} (hK : K < 2 ^ 29) (HH : HL K kN kK kF l) (HP : PB K row N) : Rn (f_L_leave xR xD xC row rR rD kN kK kF p) (OutC K xR xD xC row N kN kK l (f_X6_goAway row 0 0 p) (f_X8_leaves 0 0 0 0 N p)) := by
  rcases ch_w (xR := xR) (xD := xD) (xC := xC) (rR := rR) (rD := rD) (k := 120) (p := p) (q := 0) (t := 0) hK HH HP hco_120 (st_leave HP.1) with ⟨a, R', N', kN', kK', kF', e, rest⟩ | ⟨b, why, more, kF', e, rest⟩
  · exact ⟨(a, xR, xD, xC, R', 0, 0, kN', kK', kF'), by rw [f_L_leave, f_X7_leave, e, bS, if_pos rfl, bS, if_pos rfl], Or.inl ⟨a, R', N', kN', kK', kF', rfl, rest⟩⟩
  · exact ⟨(-1001, why, more, 0, row, why, more, kN, kK, kF'), by rw [f_L_leave, f_X7_leave, e, bS, if_neg n60, bS, if_neg n60, if_pos rfl], Or.inr ⟨b, why, more, kF', rfl, rest⟩⟩
theorem r_leave {K : Nat} {xR xD xC rR rD kN kK : Int32} {p : Int32} {row kF N : Nat → Int32} {l : List (Nat → Int32)} (hK : K < 2 ^ 29) (HH : HL K kN kK kF l) (HP : PB K row N) {b why more : Int32} (hx : f_X6_goAway row 0 0 p = some (b, row, why, more)) (hw : ¬ why = 0) : Rn (f_L_leave xR xD xC row rR rD kN kK kF p) (RefC K why more row kN kK l) :=
  (w_leave hK HH HP).mono (fun _ h => h.no hx hw)
theorem hco_109 {R : Nat → Int32} {rR rD p q t : Int32} : f_X6_carryOut R rR rD 109 p q t = (f_X6_climb R 0 0 p q).bind (fun v2 => (some (v2.1, (v2.2.1, v2.2.2.1, v2.2.2.2)))) := by
  rw [f_X6_carryOut, if_neg (show ¬ (109 : Int32) = 98 by decide), if_neg (show ¬ (109 : Int32) = 100 by decide), if_neg (show ¬ (109 : Int32) = 106 by decide), if_pos rfl]
theorem w_move {K : Nat} {xR xD xC rR rD kN kK : Int32} {p q : Int32} {row kF N : Nat → Int32} {l : List (Nat → Int32)} (hK : K < 2 ^ 29) (HH : HL K kN kK kF l) (HP : PB K row N) : Rn (f_L_move xR xD xC row rR rD kN kK kF p q) (OutC K xR xD xC row N kN kK l (f_X6_climb row 0 0 p q) (f_X8_moves 0 0 0 0 N p q)) := by
  rcases ch_w (xR := xR) (xD := xD) (xC := xC) (rR := rR) (rD := rD) (k := 109) (p := p) (q := q) (t := 0) hK HH HP hco_109 (st_climb HP.1) with ⟨a, R', N', kN', kK', kF', e, rest⟩ | ⟨b, why, more, kF', e, rest⟩
  · exact ⟨(a, xR, xD, xC, R', 0, 0, kN', kK', kF'), by rw [f_L_move, f_X7_move, e, bS, if_pos rfl, bS, if_pos rfl], Or.inl ⟨a, R', N', kN', kK', kF', rfl, rest⟩⟩
  · exact ⟨(-1001, why, more, 0, row, why, more, kN, kK, kF'), by rw [f_L_move, f_X7_move, e, bS, if_neg n60, bS, if_neg n60, if_pos rfl], Or.inr ⟨b, why, more, kF', rfl, rest⟩⟩
theorem r_move {K : Nat} {xR xD xC rR rD kN kK : Int32} {p q : Int32} {row kF N : Nat → Int32} {l : List (Nat → Int32)} (hK : K < 2 ^ 29) (HH : HL K kN kK kF l) (HP : PB K row N) {b why more : Int32} (hx : f_X6_climb row 0 0 p q = some (b, row, why, more)) (hw : ¬ why = 0) : Rn (f_L_move xR xD xC row rR rD kN kK kF p q) (RefC K why more row kN kK l) :=
  (w_move hK HH HP).mono (fun _ h => h.no hx hw)
theorem hco_115 {R : Nat → Int32} {rR rD p q t : Int32} : f_X6_carryOut R rR rD 115 p q t = (f_X6_swap R 0 0 p q).bind (fun v2 => (some (v2.1, (v2.2.1, v2.2.2.1, v2.2.2.2)))) := by
  rw [f_X6_carryOut, if_neg (show ¬ (115 : Int32) = 98 by decide), if_neg (show ¬ (115 : Int32) = 100 by decide), if_neg (show ¬ (115 : Int32) = 106 by decide), if_neg (show ¬ (115 : Int32) = 109 by decide), if_neg (show ¬ (115 : Int32) = 111 by decide), if_pos rfl]
theorem w_exchange {K : Nat} {xR xD xC rR rD kN kK : Int32} {p q : Int32} {row kF N : Nat → Int32} {l : List (Nat → Int32)} (hK : K < 2 ^ 29) (HH : HL K kN kK kF l) (HP : PB K row N) : Rn (f_L_exchange xR xD xC row rR rD kN kK kF p q) (OutC K xR xD xC row N kN kK l (f_X6_swap row 0 0 p q) (f_X8_exchanges 0 0 0 0 N p q)) := by
  rcases ch_w (xR := xR) (xD := xD) (xC := xC) (rR := rR) (rD := rD) (k := 115) (p := p) (q := q) (t := 0) hK HH HP hco_115 (st_swap HP.1) with ⟨a, R', N', kN', kK', kF', e, rest⟩ | ⟨b, why, more, kF', e, rest⟩
  · exact ⟨(a, xR, xD, xC, R', 0, 0, kN', kK', kF'), by rw [f_L_exchange, f_X7_exchange, e, bS, if_pos rfl, bS, if_pos rfl], Or.inl ⟨a, R', N', kN', kK', kF', rfl, rest⟩⟩
  · exact ⟨(-1001, why, more, 0, row, why, more, kN, kK, kF'), by rw [f_L_exchange, f_X7_exchange, e, bS, if_neg n60, bS, if_neg n60, if_pos rfl], Or.inr ⟨b, why, more, kF', rfl, rest⟩⟩
theorem r_exchange {K : Nat} {xR xD xC rR rD kN kK : Int32} {p q : Int32} {row kF N : Nat → Int32} {l : List (Nat → Int32)} (hK : K < 2 ^ 29) (HH : HL K kN kK kF l) (HP : PB K row N) {b why more : Int32} (hx : f_X6_swap row 0 0 p q = some (b, row, why, more)) (hw : ¬ why = 0) : Rn (f_L_exchange xR xD xC row rR rD kN kK kF p q) (RefC K why more row kN kK l) :=
  (w_exchange hK HH HP).mono (fun _ h => h.no hx hw)
theorem hco_119 {R : Nat → Int32} {rR rD p q t : Int32} : f_X6_carryOut R rR rD 119 p q t = (f_X6_bet R 0 0 p q t).bind (fun v2 => (some (v2.1, (v2.2.1, v2.2.2.1, v2.2.2.2)))) := by
  rw [f_X6_carryOut, if_neg (show ¬ (119 : Int32) = 98 by decide), if_neg (show ¬ (119 : Int32) = 100 by decide), if_neg (show ¬ (119 : Int32) = 106 by decide), if_neg (show ¬ (119 : Int32) = 109 by decide), if_neg (show ¬ (119 : Int32) = 111 by decide), if_neg (show ¬ (119 : Int32) = 115 by decide), if_neg (show ¬ (119 : Int32) = 116 by decide), if_pos rfl]
theorem w_wager {K : Nat} {xR xD xC rR rD kN kK : Int32} {p q t : Int32} {row kF N : Nat → Int32} {l : List (Nat → Int32)} (hK : K < 2 ^ 29) (HH : HL K kN kK kF l) (HP : PB K row N) : Rn (f_L_wager xR xD xC row rR rD kN kK kF p q t) (OutC K xR xD xC row N kN kK l (f_X6_bet row 0 0 p q t) (f_X8_wagers 0 0 0 0 N p q t)) := by
  rcases ch_w (xR := xR) (xD := xD) (xC := xC) (rR := rR) (rD := rD) (k := 119) (p := p) (q := q) (t := t) hK HH HP hco_119 (st_bet HP.1) with ⟨a, R', N', kN', kK', kF', e, rest⟩ | ⟨b, why, more, kF', e, rest⟩
  · exact ⟨(a, xR, xD, xC, R', 0, 0, kN', kK', kF'), by rw [f_L_wager, f_X7_wager, e, bS, if_pos rfl, bS, if_pos rfl], Or.inl ⟨a, R', N', kN', kK', kF', rfl, rest⟩⟩
  · exact ⟨(-1001, why, more, 0, row, why, more, kN, kK, kF'), by rw [f_L_wager, f_X7_wager, e, bS, if_neg n60, bS, if_neg n60, if_pos rfl], Or.inr ⟨b, why, more, kF', rfl, rest⟩⟩
theorem r_wager {K : Nat} {xR xD xC rR rD kN kK : Int32} {p q t : Int32} {row kF N : Nat → Int32} {l : List (Nat → Int32)} (hK : K < 2 ^ 29) (HH : HL K kN kK kF l) (HP : PB K row N) {b why more : Int32} (hx : f_X6_bet row 0 0 p q t = some (b, row, why, more)) (hw : ¬ why = 0) : Rn (f_L_wager xR xD xC row rR rD kN kK kF p q t) (RefC K why more row kN kK l) :=
  (w_wager hK HH HP).mono (fun _ h => h.no hx hw)
theorem hco_116 {R : Nat → Int32} {rR rD p q t : Int32} : f_X6_carryOut R rR rD 116 p q t = (f_X6_knock R 0 0 p).bind (fun v2 => (some (v2.1, (v2.2.1, v2.2.2.1, v2.2.2.2)))) := by
  rw [f_X6_carryOut, if_neg (show ¬ (116 : Int32) = 98 by decide), if_neg (show ¬ (116 : Int32) = 100 by decide), if_neg (show ¬ (116 : Int32) = 106 by decide), if_neg (show ¬ (116 : Int32) = 109 by decide), if_neg (show ¬ (116 : Int32) = 111 by decide), if_neg (show ¬ (116 : Int32) = 115 by decide), if_pos rfl]
theorem w_tap {K : Nat} {xR xD xC rR rD kN kK : Int32} {p : Int32} {row kF N : Nat → Int32} {l : List (Nat → Int32)} (hK : K < 2 ^ 29) (HH : HL K kN kK kF l) (HP : PB K row N) : Rn (f_L_tap xR xD xC row rR rD kN kK kF p) (OutC K xR xD xC row N kN kK l (f_X6_knock row 0 0 p) (f_X8_taps 0 0 0 0 N p)) := by
  rcases ch_w (xR := xR) (xD := xD) (xC := xC) (rR := rR) (rD := rD) (k := 116) (p := p) (q := 0) (t := 0) hK HH HP hco_116 (st_knock HP.1) with ⟨a, R', N', kN', kK', kF', e, rest⟩ | ⟨b, why, more, kF', e, rest⟩
  · exact ⟨(a, xR, xD, xC, R', 0, 0, kN', kK', kF'), by rw [f_L_tap, f_X7_tap, e, bS, if_pos rfl, bS, if_pos rfl], Or.inl ⟨a, R', N', kN', kK', kF', rfl, rest⟩⟩
  · exact ⟨(-1001, why, more, 0, row, why, more, kN, kK, kF'), by rw [f_L_tap, f_X7_tap, e, bS, if_neg n60, bS, if_neg n60, if_pos rfl], Or.inr ⟨b, why, more, kF', rfl, rest⟩⟩
theorem r_tap {K : Nat} {xR xD xC rR rD kN kK : Int32} {p : Int32} {row kF N : Nat → Int32} {l : List (Nat → Int32)} (hK : K < 2 ^ 29) (HH : HL K kN kK kF l) (HP : PB K row N) {b why more : Int32} (hx : f_X6_knock row 0 0 p = some (b, row, why, more)) (hw : ¬ why = 0) : Rn (f_L_tap xR xD xC row rR rD kN kK kF p) (RefC K why more row kN kK l) :=
  (w_tap hK HH HP).mono (fun _ h => h.no hx hw)
theorem hco_100 {R : Nat → Int32} {rR rD p q t : Int32} : f_X6_carryOut R rR rD 100 p q t = (f_X6_passDay R 0 0 p).bind (fun v2 => (some (v2.1, (v2.2.1, v2.2.2.1, v2.2.2.2)))) := by
  rw [f_X6_carryOut, if_neg (show ¬ (100 : Int32) = 98 by decide), if_pos rfl]
theorem w_day {K : Nat} {xR xD xC rR rD kN kK : Int32} {p : Int32} {row kF N : Nat → Int32} {l : List (Nat → Int32)} (hK : K < 2 ^ 29) (HH : HL K kN kK kF l) (HP : PB K row N) : Rn (f_L_day xR xD xC row rR rD kN kK kF p) (OutC K xR xD xC row N kN kK l (f_X6_passDay row 0 0 p) (f_X8_goesBy 0 0 0 0 N p)) := by
  rcases ch_w (xR := xR) (xD := xD) (xC := xC) (rR := rR) (rD := rD) (k := 100) (p := p) (q := 0) (t := 0) hK HH HP hco_100 (st_day HP.1) with ⟨a, R', N', kN', kK', kF', e, rest⟩ | ⟨b, why, more, kF', e, rest⟩
  · exact ⟨(a, xR, xD, xC, R', 0, 0, kN', kK', kF'), by rw [f_L_day, f_X7_day, e, bS, if_pos rfl, bS, if_pos rfl], Or.inl ⟨a, R', N', kN', kK', kF', rfl, rest⟩⟩
  · exact ⟨(-1001, why, more, 0, row, why, more, kN, kK, kF'), by rw [f_L_day, f_X7_day, e, bS, if_neg n60, bS, if_neg n60, if_pos rfl], Or.inr ⟨b, why, more, kF', rfl, rest⟩⟩
theorem r_day {K : Nat} {xR xD xC rR rD kN kK : Int32} {p : Int32} {row kF N : Nat → Int32} {l : List (Nat → Int32)} (hK : K < 2 ^ 29) (HH : HL K kN kK kF l) (HP : PB K row N) {b why more : Int32} (hx : f_X6_passDay row 0 0 p = some (b, row, why, more)) (hw : ¬ why = 0) : Rn (f_L_day xR xD xC row rR rD kN kK kF p) (RefC K why more row kN kK l) :=
  (w_day hK HH HP).mono (fun _ h => h.no hx hw)
theorem hco_98 {R : Nat → Int32} {rR rD p q t : Int32} : f_X6_carryOut R rR rD 98 p q t = (f_X6_fill R 0 0 p).bind (fun v2 => (some (v2.1, (v2.2.1, v2.2.2.1, v2.2.2.2)))) := by
  rw [f_X6_carryOut, if_pos rfl]
theorem w_bottle {K : Nat} {xR xD xC rR rD kN kK : Int32} {p : Int32} {row kF N : Nat → Int32} {l : List (Nat → Int32)} (hK : K < 2 ^ 29) (HH : HL K kN kK kF l) (HP : PB K row N) : Rn (f_L_bottle xR xD xC row rR rD kN kK kF p) (OutC K xR xD xC row N kN kK l (f_X6_fill row 0 0 p) (f_X8_bottles 0 0 0 0 N p)) := by
  rcases ch_w (xR := xR) (xD := xD) (xC := xC) (rR := rR) (rD := rD) (k := 98) (p := p) (q := 0) (t := 0) hK HH HP hco_98 (st_fill HP.1) with ⟨a, R', N', kN', kK', kF', e, rest⟩ | ⟨b, why, more, kF', e, rest⟩
  · exact ⟨(a, xR, xD, xC, R', 0, 0, kN', kK', kF'), by rw [f_L_bottle, f_X7_bottle, e, bS, if_pos rfl, bS, if_pos rfl], Or.inl ⟨a, R', N', kN', kK', kF', rfl, rest⟩⟩
  · exact ⟨(-1001, why, more, 0, row, why, more, kN, kK, kF'), by rw [f_L_bottle, f_X7_bottle, e, bS, if_neg n60, bS, if_neg n60, if_pos rfl], Or.inr ⟨b, why, more, kF', rfl, rest⟩⟩
theorem r_bottle {K : Nat} {xR xD xC rR rD kN kK : Int32} {p : Int32} {row kF N : Nat → Int32} {l : List (Nat → Int32)} (hK : K < 2 ^ 29) (HH : HL K kN kK kF l) (HP : PB K row N) {b why more : Int32} (hx : f_X6_fill row 0 0 p = some (b, row, why, more)) (hw : ¬ why = 0) : Rn (f_L_bottle xR xD xC row rR rD kN kK kF p) (RefC K why more row kN kK l) :=
  (w_bottle hK HH HP).mono (fun _ h => h.no hx hw)
theorem hco_111 {R : Nat → Int32} {rR rD p q t : Int32} : f_X6_carryOut R rR rD 111 p q t = (f_X6_uncork R 0 0 p).bind (fun v2 => (some (v2.1, (v2.2.1, v2.2.2.1, v2.2.2.2)))) := by
  rw [f_X6_carryOut, if_neg (show ¬ (111 : Int32) = 98 by decide), if_neg (show ¬ (111 : Int32) = 100 by decide), if_neg (show ¬ (111 : Int32) = 106 by decide), if_neg (show ¬ (111 : Int32) = 109 by decide), if_pos rfl]
theorem w_letOut {K : Nat} {xR xD xC rR rD kN kK : Int32} {p : Int32} {row kF N : Nat → Int32} {l : List (Nat → Int32)} (hK : K < 2 ^ 29) (HH : HL K kN kK kF l) (HP : PB K row N) : Rn (f_L_letOut xR xD xC row rR rD kN kK kF p) (OutC K xR xD xC row N kN kK l (f_X6_uncork row 0 0 p) (f_X8_letsOut 0 0 0 0 N p)) := by
  rcases ch_w (xR := xR) (xD := xD) (xC := xC) (rR := rR) (rD := rD) (k := 111) (p := p) (q := 0) (t := 0) hK HH HP hco_111 (st_uncork HP.1) with ⟨a, R', N', kN', kK', kF', e, rest⟩ | ⟨b, why, more, kF', e, rest⟩
  · exact ⟨(a, xR, xD, xC, R', 0, 0, kN', kK', kF'), by rw [f_L_letOut, f_X7_letOut, e, bS, if_pos rfl, bS, if_pos rfl], Or.inl ⟨a, R', N', kN', kK', kF', rfl, rest⟩⟩
  · exact ⟨(-1001, why, more, 0, row, why, more, kN, kK, kF'), by rw [f_L_letOut, f_X7_letOut, e, bS, if_neg n60, bS, if_neg n60, if_pos rfl], Or.inr ⟨b, why, more, kF', rfl, rest⟩⟩
theorem r_letOut {K : Nat} {xR xD xC rR rD kN kK : Int32} {p : Int32} {row kF N : Nat → Int32} {l : List (Nat → Int32)} (hK : K < 2 ^ 29) (HH : HL K kN kK kF l) (HP : PB K row N) {b why more : Int32} (hx : f_X6_uncork row 0 0 p = some (b, row, why, more)) (hw : ¬ why = 0) : Rn (f_L_letOut xR xD xC row rR rD kN kK kF p) (RefC K why more row kN kK l) :=
  (w_letOut hK HH HP).mono (fun _ h => h.no hx hw)
theorem hco_114 {R : Nat → Int32} {rR rD p q t : Int32} : f_X6_carryOut R rR rD 114 p q t = (f_X6_readNeedles R 0 0).bind (fun v2 => (some (v2.1, (v2.2.1, v2.2.2.1, v2.2.2.2)))) := by
  rw [f_X6_carryOut, if_neg (show ¬ (114 : Int32) = 98 by decide), if_neg (show ¬ (114 : Int32) = 100 by decide), if_neg (show ¬ (114 : Int32) = 106 by decide), if_neg (show ¬ (114 : Int32) = 109 by decide), if_neg (show ¬ (114 : Int32) = 111 by decide), if_neg (show ¬ (114 : Int32) = 115 by decide), if_neg (show ¬ (114 : Int32) = 116 by decide), if_neg (show ¬ (114 : Int32) = 119 by decide), if_neg (show ¬ (114 : Int32) = 120 by decide)]
theorem w_read {K : Nat} {xR xD xC rR rD kN kK : Int32} {row kF N : Nat → Int32} {l : List (Nat → Int32)} (hK : K < 2 ^ 29) (HH : HL K kN kK kF l) (HP : PB K row N) : Rn (f_L_read xR xD xC row rR rD kN kK kF) (OutC K xR xD xC row N kN kK l (f_X6_readNeedles row 0 0) (f_X8_reads 0 0 0 0 N)) := by
  rcases ch_w (xR := xR) (xD := xD) (xC := xC) (rR := rR) (rD := rD) (k := 114) (p := 0) (q := 0) (t := 0) hK HH HP hco_114 (st_read HP.1) with ⟨a, R', N', kN', kK', kF', e, rest⟩ | ⟨b, why, more, kF', e, rest⟩
  · exact ⟨(a, xR, xD, xC, R', 0, 0, kN', kK', kF'), by rw [f_L_read, f_X7_read, e, bS, if_pos rfl, bS, if_pos rfl], Or.inl ⟨a, R', N', kN', kK', kF', rfl, rest⟩⟩
  · exact ⟨(-1001, why, more, 0, row, why, more, kN, kK, kF'), by rw [f_L_read, f_X7_read, e, bS, if_neg n60, bS, if_neg n60, if_pos rfl], Or.inr ⟨b, why, more, kF', rfl, rest⟩⟩
theorem r_read {K : Nat} {xR xD xC rR rD kN kK : Int32} {row kF N : Nat → Int32} {l : List (Nat → Int32)} (hK : K < 2 ^ 29) (HH : HL K kN kK kF l) (HP : PB K row N) {b why more : Int32} (hx : f_X6_readNeedles row 0 0 = some (b, row, why, more)) (hw : ¬ why = 0) : Rn (f_L_read xR xD xC row rR rD kN kK kF) (RefC K why more row kN kK l) :=
  (w_read hK HH HP).mono (fun _ h => h.no hx hw)
/-! undo, save and restore -/
theorem HL.forget {K : Nat} {kN kK : Int32} {kF : Nat → Int32} {l : List (Nat → Int32)} (H : HL K kN kK kF l) : HL K kN 0 kF [] := by
  obtain ⟨x, h1, -, h3, -, -⟩ := H
  exact ⟨x, h1, Nat.zero_le 8, h3, nI_0.symm, fun j N hj => by simp at hj⟩
theorem u_none {K : Nat} {kN kK : Int32} {row kF : Nat → Int32} (HH : HL K kN kK kF []) : f_L_undo row kN kK kF = some (-1001, row, kN, kK) := by
  obtain ⟨x, hx, hl, rfl, rfl, h⟩ := HH
  rw [f_L_undo, f_X7_undo, f_X2_size, bS, if_pos (show nI ([] : List (Nat → Int32)).length = 0 from nI_0), bS, if_neg (show ¬ (4 : Nat) = 0 by decide), if_pos rfl]
theorem u_undo {K : Nat} {kN kK : Int32} {row kF M : Nat → Int32} {l : List (Nat → Int32)} (HH : HL K kN kK kF (M :: l)) :
    ∃ R' kN' kK', f_L_undo row kN kK kF = some (nI l.length, R', kN', kK') ∧ PB K R' M ∧ HL K kN' kK' kF l := by
  obtain ⟨x, hx, hl, rfl, rfl, h⟩ := HH
  rw [List.length_cons] at hl ⊢
  have ne : ¬ nI (l.length + 1) = 0 := nI_ne0 (by omega) (by omega)
  have eu : nI (l.length + 1) - 1 = nI l.length := nI_pred l.length
  obtain ⟨R', b1, b2⟩ := back_eq (row := row) (kF := kF) (x := (x + 8) % 9) (by omega)
  have hj : jmax (nI (l.length + 1) - (1 : Int32)) (0 : Int32) = nI l.length := by rw [eu, show (0 : Int32) = nI 0 from nI_0.symm, jmax_n (by omega) (by omega), Nat.max_eq_left (by omega)]
  have hb : f_X2_stepBack row (nI x) (nI (l.length + 1)) kF = some (R', nI ((x + 8) % 9), nI l.length) := by
    rw [f_X2_stepBack]
    by_cases e0 : x = 0
    · subst e0
      rw [if_pos (show nI 0 ≤ 0 by decide), show (8 : Int32) = nI ((0 + 8) % 9) from rfl, b1, bS, hj]
    · rw [if_neg (nI_nle (by omega) (by omega)), show nI x - (1 : Int32) = nI ((x + 8) % 9) by rw [show (x + 8) % 9 = x - 1 by omega]; exact nI_sub (b := 1) (by omega), b1, bS, hj]
  refine ⟨R', nI ((x + 8) % 9), nI l.length, ?_, PB_congr (h 0 M rfl) (fun i hi => ?_) (fun i _ => rfl), ⟨(x + 8) % 9, by omega, by omega, rfl, rfl, fun j N hj => ?_⟩⟩
  · rw [f_L_undo, f_X7_undo, f_X2_size, bS, if_neg ne, hb, bS, f_X2_size, bS, bS, if_pos rfl]
  · show R' i = kF (55 * ((x + 8 - 0) % 9) + i)
    rw [b2 i hi, Nat.sub_zero]
  · have hjl : j < l.length := (List.getElem?_eq_some_iff.mp hj).1
    refine PB_congr (h (j + 1) N hj) (fun i hi => ?_) (fun i _ => rfl)
    show kF (55 * (((x + 8) % 9 + 8 - j) % 9) + i) = kF (55 * ((x + 8 - (j + 1)) % 9) + i)
    rw [show ((x + 8) % 9 + 8 - j) % 9 = (x + 8 - (j + 1)) % 9 by omega]
theorem PB.r0 {K : Nat} {R N : Nat → Int32} (H : PB K R N) : R 0 = N 0 := by
  obtain ⟨⟨c, G, hR⟩, -⟩ := H
  exact hR.1 0 (by decide)
theorem u_save {K : Nat} {xS : Int32} {row sN N : Nat → Int32} (HP : PB K row N) : ∃ sN', f_X7_save xS row sN = some (N 0, 1, sN') ∧ PB K sN' N := by
  refine ⟨va_cpy row sN 0 0 55, ?_, PB_congr HP (fun i hi => ?_) (fun i _ => rfl)⟩
  · have hb : cpB (0 : Int32) 55 (0 : Int32) 55 (55 : Int32) = true := by decide
    rw [f_X7_save, f_X0_copyTo, if_neg (by decide), if_neg (by decide), cT hb, bS, x0_get0, bS, HP.r0]
    rfl
  · show (if 0 ≤ i ∧ i < 0 + 55 then row (0 + (i - 0)) else sN i) = row i
    rw [if_pos (by omega), Nat.sub_zero, Nat.zero_add]
theorem u_rest {K : Nat} {kK : Int32} {row sN M : Nat → Int32} (HS : PB K sN M) : ∃ R', f_L_restore 1 row kK sN = some (M 0, R', 0) ∧ PB K R' M := by
  have hR : ∀ i, i < 55 → va_cpy sN row 0 0 55 i = sN i := fun i hi => by
    show (if 0 ≤ i ∧ i < 0 + 55 then sN (0 + (i - 0)) else row i) = sN i
    rw [if_pos (by omega), Nat.sub_zero, Nat.zero_add]
  have hP := PB_congr HS hR (fun i _ => rfl)
  refine ⟨va_cpy sN row 0 0 55, ?_, hP⟩
  have hb : cpB (0 : Int32) 55 (0 : Int32) 55 (55 : Int32) = true := by decide
  rw [f_L_restore, f_X7_restore, if_neg n10, f_X0_copyFrom, if_neg (by decide), if_neg (by decide), cT hb, bS, f_X2_forget, bS, x0_get0, bS, bS, if_pos rfl]
  rw [show va_cpy sN row (0 : Int32).toNatClampNeg (0 : Int32).toNatClampNeg (55 : Int32).toNatClampNeg = va_cpy sN row 0 0 55 from rfl, hP.r0]
