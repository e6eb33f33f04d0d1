set_option maxHeartbeats 8000000 in
set_option maxRecDepth 100000 in
theorem env_txt_243 {b : Addr} {s : State} (hts : ∀ w ∈ lw_tbl, w.before #[Value.ref b] s = true) (hs : ∀ w ∈ flatC (Jvm.Cond.and given_1 narrow_1), w.before #[Value.ref b] s = true) : ∃ aK aV, vk_S 1 [2] [[100, 45]] aK aV (fun q : Nat => s.heap.size ≤ q) s s.heap ∧ vk_R RL 243 "d-" (aK 0) s := by
  have hA : ∀ a : Nat, a < s.heap.size → ¬ (fun q : Nat => s.heap.size ≤ q) a := fun a ha h => Nat.not_le.mpr ha h
  have n7 : ∀ j ∈ List.range 2, Cond.eq (.elem (.field (.string "BarometerClubLaw" 243) "java/lang/String" "value" "[B") (.int (Int32.ofNat j))) (.int (([100, 45] : List Int32).getD j 0)) ∈ flatC (Jvm.Cond.and given_1 narrow_1) := by decide +kernel
  have z : ∀ i : Nat, i < 1 → i = 0 := fun i hi => by omega
  obtain ⟨aK, aV, h8, h9⟩ := vk_Sof (args := #[Value.ref b]) (s := s) (N := 1) (tm := fun _ => .string "BarometerClubLaw" 243) (len := [2]) (byt := [[100, 45]]) (A := fun q : Nat => s.heap.size ≤ q) (fun i hi => by rw [z i hi]; decide) (fun i hi => hs _ (by decide +kernel)) (fun i hi => hs _ (by decide +kernel)) (fun i hi => hs _ (by decide +kernel))
    (fun i hi => by rw [z i hi]; exact hs (Cond.eq (.length (.field (.string "BarometerClubLaw" 243) "java/lang/String" "value" "[B")) (.int 2)) (by decide +kernel)) (fun i hi j hj => by rw [z i hi] at hj ⊢; exact hs _ (n7 j (List.mem_range.mpr hj))) (fun i j hi hj hij => absurd ((z i hi).trans (z j hj).symm) hij) hA
  exact ⟨aK, aV, h8, vk_R.of (hts (.stringRef "BarometerClubLaw" 243 "d-") (by decide +kernel)) (h9 0 (by decide))⟩
set_option maxHeartbeats 8000000 in
set_option maxRecDepth 100000 in
theorem env_txt_251 {b : Addr} {s : State} (hts : ∀ w ∈ lw_tbl, w.before #[Value.ref b] s = true) (hs : ∀ w ∈ flatC (Jvm.Cond.and given_1 narrow_1), w.before #[Value.ref b] s = true) : ∃ aK aV, vk_S 1 [3] [[59, 98, 48]] aK aV (fun q : Nat => s.heap.size ≤ q) s s.heap ∧ vk_R RL 251 ";b0" (aK 0) s := by
  have hA : ∀ a : Nat, a < s.heap.size → ¬ (fun q : Nat => s.heap.size ≤ q) a := fun a ha h => Nat.not_le.mpr ha h
  have n7 : ∀ j ∈ List.range 3, Cond.eq (.elem (.field (.string "BarometerClubLaw" 251) "java/lang/String" "value" "[B") (.int (Int32.ofNat j))) (.int (([59, 98, 48] : List Int32).getD j 0)) ∈ flatC (Jvm.Cond.and given_1 narrow_1) := by decide +kernel
  have z : ∀ i : Nat, i < 1 → i = 0 := fun i hi => by omega
  obtain ⟨aK, aV, h8, h9⟩ := vk_Sof (args := #[Value.ref b]) (s := s) (N := 1) (tm := fun _ => .string "BarometerClubLaw" 251) (len := [3]) (byt := [[59, 98, 48]]) (A := fun q : Nat => s.heap.size ≤ q) (fun i hi => by rw [z i hi]; decide) (fun i hi => hs _ (by decide +kernel)) (fun i hi => hs _ (by decide +kernel)) (fun i hi => hs _ (by decide +kernel))
    (fun i hi => by rw [z i hi]; exact hs (Cond.eq (.length (.field (.string "BarometerClubLaw" 251) "java/lang/String" "value" "[B")) (.int 3)) (by decide +kernel)) (fun i hi j hj => by rw [z i hi] at hj ⊢; exact hs _ (n7 j (List.mem_range.mpr hj))) (fun i j hi hj hij => absurd ((z i hi).trans (z j hj).symm) hij) hA
  exact ⟨aK, aV, h8, vk_R.of (hts (.stringRef "BarometerClubLaw" 251 ";b0") (by decide +kernel)) (h9 0 (by decide))⟩
set_option maxHeartbeats 8000000 in
set_option maxRecDepth 100000 in
theorem env_txt_257 {b : Addr} {s : State} (hts : ∀ w ∈ lw_tbl, w.before #[Value.ref b] s = true) (hs : ∀ w ∈ flatC (Jvm.Cond.and given_1 narrow_1), w.before #[Value.ref b] s = true) : ∃ aK aV, vk_S 1 [3] [[109, 48, 62]] aK aV (fun q : Nat => s.heap.size ≤ q) s s.heap ∧ vk_R RL 257 "m0>" (aK 0) s := by
  have hA : ∀ a : Nat, a < s.heap.size → ¬ (fun q : Nat => s.heap.size ≤ q) a := fun a ha h => Nat.not_le.mpr ha h
  have n7 : ∀ j ∈ List.range 3, Cond.eq (.elem (.field (.string "BarometerClubLaw" 257) "java/lang/String" "value" "[B") (.int (Int32.ofNat j))) (.int (([109, 48, 62] : List Int32).getD j 0)) ∈ flatC (Jvm.Cond.and given_1 narrow_1) := by decide +kernel
  have z : ∀ i : Nat, i < 1 → i = 0 := fun i hi => by omega
  obtain ⟨aK, aV, h8, h9⟩ := vk_Sof (args := #[Value.ref b]) (s := s) (N := 1) (tm := fun _ => .string "BarometerClubLaw" 257) (len := [3]) (byt := [[109, 48, 62]]) (A := fun q : Nat => s.heap.size ≤ q) (fun i hi => by rw [z i hi]; decide) (fun i hi => hs _ (by decide +kernel)) (fun i hi => hs _ (by decide +kernel)) (fun i hi => hs _ (by decide +kernel))
    (fun i hi => by rw [z i hi]; exact hs (Cond.eq (.length (.field (.string "BarometerClubLaw" 257) "java/lang/String" "value" "[B")) (.int 3)) (by decide +kernel)) (fun i hi j hj => by rw [z i hi] at hj ⊢; exact hs _ (n7 j (List.mem_range.mpr hj))) (fun i j hi hj hij => absurd ((z i hi).trans (z j hj).symm) hij) hA
  exact ⟨aK, aV, h8, vk_R.of (hts (.stringRef "BarometerClubLaw" 257 "m0>") (by decide +kernel)) (h9 0 (by decide))⟩
set_option maxHeartbeats 8000000 in
set_option maxRecDepth 100000 in
theorem env_txt_259 {b : Addr} {s : State} (hts : ∀ w ∈ lw_tbl, w.before #[Value.ref b] s = true) (hs : ∀ w ∈ flatC (Jvm.Cond.and given_1 narrow_1), w.before #[Value.ref b] s = true) : ∃ aK aV, vk_S 1 [4] [[59, 100, 43, 49]] aK aV (fun q : Nat => s.heap.size ≤ q) s s.heap ∧ vk_R RL 259 ";d+1" (aK 0) s := by
  have hA : ∀ a : Nat, a < s.heap.size → ¬ (fun q : Nat => s.heap.size ≤ q) a := fun a ha h => Nat.not_le.mpr ha h
  have n7 : ∀ j ∈ List.range 4, Cond.eq (.elem (.field (.string "BarometerClubLaw" 259) "java/lang/String" "value" "[B") (.int (Int32.ofNat j))) (.int (([59, 100, 43, 49] : List Int32).getD j 0)) ∈ flatC (Jvm.Cond.and given_1 narrow_1) := by decide +kernel
  have z : ∀ i : Nat, i < 1 → i = 0 := fun i hi => by omega
  obtain ⟨aK, aV, h8, h9⟩ := vk_Sof (args := #[Value.ref b]) (s := s) (N := 1) (tm := fun _ => .string "BarometerClubLaw" 259) (len := [4]) (byt := [[59, 100, 43, 49]]) (A := fun q : Nat => s.heap.size ≤ q) (fun i hi => by rw [z i hi]; decide) (fun i hi => hs _ (by decide +kernel)) (fun i hi => hs _ (by decide +kernel)) (fun i hi => hs _ (by decide +kernel))
    (fun i hi => by rw [z i hi]; exact hs (Cond.eq (.length (.field (.string "BarometerClubLaw" 259) "java/lang/String" "value" "[B")) (.int 4)) (by decide +kernel)) (fun i hi j hj => by rw [z i hi] at hj ⊢; exact hs _ (n7 j (List.mem_range.mpr hj))) (fun i j hi hj hij => absurd ((z i hi).trans (z j hj).symm) hij) hA
  exact ⟨aK, aV, h8, vk_R.of (hts (.stringRef "BarometerClubLaw" 259 ";d+1") (by decide +kernel)) (h9 0 (by decide))⟩
set_option maxHeartbeats 8000000 in
set_option maxRecDepth 100000 in
theorem env_txt_271 {b : Addr} {s : State} (hts : ∀ w ∈ lw_tbl, w.before #[Value.ref b] s = true) (hs : ∀ w ∈ flatC (Jvm.Cond.and given_1 narrow_1), w.before #[Value.ref b] s = true) : ∃ aK aV, vk_S 1 [1] [[113]] aK aV (fun q : Nat => s.heap.size ≤ q) s s.heap ∧ vk_R RL 271 "q" (aK 0) s := by
  have hA : ∀ a : Nat, a < s.heap.size → ¬ (fun q : Nat => s.heap.size ≤ q) a := fun a ha h => Nat.not_le.mpr ha h
  have n7 : ∀ j ∈ List.range 1, Cond.eq (.elem (.field (.string "BarometerClubLaw" 271) "java/lang/String" "value" "[B") (.int (Int32.ofNat j))) (.int (([113] : List Int32).getD j 0)) ∈ flatC (Jvm.Cond.and given_1 narrow_1) := by decide +kernel
  have z : ∀ i : Nat, i < 1 → i = 0 := fun i hi => by omega
  obtain ⟨aK, aV, h8, h9⟩ := vk_Sof (args := #[Value.ref b]) (s := s) (N := 1) (tm := fun _ => .string "BarometerClubLaw" 271) (len := [1]) (byt := [[113]]) (A := fun q : Nat => s.heap.size ≤ q) (fun i hi => by rw [z i hi]; decide) (fun i hi => hs _ (by decide +kernel)) (fun i hi => hs _ (by decide +kernel)) (fun i hi => hs _ (by decide +kernel))
    (fun i hi => by rw [z i hi]; exact hs (Cond.eq (.length (.field (.string "BarometerClubLaw" 271) "java/lang/String" "value" "[B")) (.int 1)) (by decide +kernel)) (fun i hi j hj => by rw [z i hi] at hj ⊢; exact hs _ (n7 j (List.mem_range.mpr hj))) (fun i j hi hj hij => absurd ((z i hi).trans (z j hj).symm) hij) hA
  exact ⟨aK, aV, h8, vk_R.of (hts (.stringRef "BarometerClubLaw" 271 "q") (by decide +kernel)) (h9 0 (by decide))⟩
set_option maxHeartbeats 8000000 in
set_option maxRecDepth 100000 in
theorem env_txt_276 {b : Addr} {s : State} (hts : ∀ w ∈ lw_tbl, w.before #[Value.ref b] s = true) (hs : ∀ w ∈ flatC (Jvm.Cond.and given_1 narrow_1), w.before #[Value.ref b] s = true) : ∃ aK aV, vk_S 1 [10] [[100, 43, 48, 59, 100, 43, 48, 59, 120, 57]] aK aV (fun q : Nat => s.heap.size ≤ q) s s.heap ∧ vk_R RL 276 "d+0;d+0;x9" (aK 0) s := by
  have hA : ∀ a : Nat, a < s.heap.size → ¬ (fun q : Nat => s.heap.size ≤ q) a := fun a ha h => Nat.not_le.mpr ha h
  have n7 : ∀ j ∈ List.range 10, Cond.eq (.elem (.field (.string "BarometerClubLaw" 276) "java/lang/String" "value" "[B") (.int (Int32.ofNat j))) (.int (([100, 43, 48, 59, 100, 43, 48, 59, 120, 57] : List Int32).getD j 0)) ∈ flatC (Jvm.Cond.and given_1 narrow_1) := by decide +kernel
  have z : ∀ i : Nat, i < 1 → i = 0 := fun i hi => by omega
  obtain ⟨aK, aV, h8, h9⟩ := vk_Sof (args := #[Value.ref b]) (s := s) (N := 1) (tm := fun _ => .string "BarometerClubLaw" 276) (len := [10]) (byt := [[100, 43, 48, 59, 100, 43, 48, 59, 120, 57]]) (A := fun q : Nat => s.heap.size ≤ q) (fun i hi => by rw [z i hi]; decide) (fun i hi => hs _ (by decide +kernel)) (fun i hi => hs _ (by decide +kernel)) (fun i hi => hs _ (by decide +kernel))
    (fun i hi => by rw [z i hi]; exact hs (Cond.eq (.length (.field (.string "BarometerClubLaw" 276) "java/lang/String" "value" "[B")) (.int 10)) (by decide +kernel)) (fun i hi j hj => by rw [z i hi] at hj ⊢; exact hs _ (n7 j (List.mem_range.mpr hj))) (fun i j hi hj hij => absurd ((z i hi).trans (z j hj).symm) hij) hA
  exact ⟨aK, aV, h8, vk_R.of (hts (.stringRef "BarometerClubLaw" 276 "d+0;d+0;x9") (by decide +kernel)) (h9 0 (by decide))⟩
set_option maxHeartbeats 8000000 in
set_option maxRecDepth 100000 in
theorem env_txt_278 {b : Addr} {s : State} (hts : ∀ w ∈ lw_tbl, w.before #[Value.ref b] s = true) (hs : ∀ w ∈ flatC (Jvm.Cond.and given_1 narrow_1), w.before #[Value.ref b] s = true) : ∃ aK aV, vk_S 1 [8] [[100, 43, 48, 59, 115, 49, 38, 49]] aK aV (fun q : Nat => s.heap.size ≤ q) s s.heap ∧ vk_R RL 278 "d+0;s1&1" (aK 0) s := by
  have hA : ∀ a : Nat, a < s.heap.size → ¬ (fun q : Nat => s.heap.size ≤ q) a := fun a ha h => Nat.not_le.mpr ha h
  have n7 : ∀ j ∈ List.range 8, Cond.eq (.elem (.field (.string "BarometerClubLaw" 278) "java/lang/String" "value" "[B") (.int (Int32.ofNat j))) (.int (([100, 43, 48, 59, 115, 49, 38, 49] : List Int32).getD j 0)) ∈ flatC (Jvm.Cond.and given_1 narrow_1) := by decide +kernel
  have z : ∀ i : Nat, i < 1 → i = 0 := fun i hi => by omega
  obtain ⟨aK, aV, h8, h9⟩ := vk_Sof (args := #[Value.ref b]) (s := s) (N := 1) (tm := fun _ => .string "BarometerClubLaw" 278) (len := [8]) (byt := [[100, 43, 48, 59, 115, 49, 38, 49]]) (A := fun q : Nat => s.heap.size ≤ q) (fun i hi => by rw [z i hi]; decide) (fun i hi => hs _ (by decide +kernel)) (fun i hi => hs _ (by decide +kernel)) (fun i hi => hs _ (by decide +kernel))
    (fun i hi => by rw [z i hi]; exact hs (Cond.eq (.length (.field (.string "BarometerClubLaw" 278) "java/lang/String" "value" "[B")) (.int 8)) (by decide +kernel)) (fun i hi j hj => by rw [z i hi] at hj ⊢; exact hs _ (n7 j (List.mem_range.mpr hj))) (fun i j hi hj hij => absurd ((z i hi).trans (z j hj).symm) hij) hA
  exact ⟨aK, aV, h8, vk_R.of (hts (.stringRef "BarometerClubLaw" 278 "d+0;s1&1") (by decide +kernel)) (h9 0 (by decide))⟩
