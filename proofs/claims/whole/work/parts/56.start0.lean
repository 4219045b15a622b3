/-! ===== the law: what the tables and the start give ===== -/
theorem law_KK {s : State} {b : Nat} (hts : ∀ w ∈ lw_tbl, w.before #[Value.ref b] s = true) : ∃ (D : va_G) (k : Nat → ClassId), KK D k s ∧ NC s := by
  obtain ⟨c0, i0, k0⟩ := u_known (C := RX0) (T := TX0) (N := 3) (n := 3) hts in_wsX00 (hts (.instantiable RX0 3) (by decide +kernel))
  obtain ⟨c1, i1, k1⟩ := u_known (C := RX1) (T := TX1) (N := 7) (n := 7) hts in_wsX10 (hts (.instantiable RX1 7) (by decide +kernel))
  obtain ⟨c2, i2, k2⟩ := u_known (C := RX2) (T := TX2) (N := 1) (n := 1) hts in_wsX20 (hts (.instantiable RX2 1) (by decide +kernel))
  obtain ⟨c3, i3, k3⟩ := u_known (C := RX3) (T := TX3) (N := 12) (n := 12) hts in_wsX30 (hts (.instantiable RX3 12) (by decide +kernel))
  obtain ⟨c4, i4, k4⟩ := u_known (C := RX4) (T := TX4) (N := 2) (n := 2) hts in_wsX40 (hts (.instantiable RX4 2) (by decide +kernel))
  obtain ⟨c5, i5, k5⟩ := u_known (C := RX5) (T := TX5) (N := 4) (n := 4) hts in_wsX50 (hts (.instantiable RX5 4) (by decide +kernel))
  obtain ⟨c6, i6, k6⟩ := u_known (C := RX6) (T := TX6) (N := 4) (n := 4) hts in_wsX60 (hts (.instantiable RX6 4) (by decide +kernel))
  obtain ⟨c7, i7, k7⟩ := u_known (C := RX7) (T := TX7) (N := 11) (n := 11) hts in_wsX70 (hts (.instantiable RX7 11) (by decide +kernel))
  obtain ⟨c8, i8, k8⟩ := u_known (C := RX8) (T := TX8) (N := 30) (n := 30) hts in_wsX80 (hts (.instantiable RX8 30) (by decide +kernel))
  obtain ⟨cI, kI, pI, fI1, fI2, fI3⟩ := Cond.arrayClass_spec (type := .int) (hts (.arrayClass .int) (by decide +kernel))
  obtain ⟨cZ, kZ, pZ, fZ1, fZ2, fZ3⟩ := Cond.arrayClass_spec (type := .boolean) (hts (.arrayClass .boolean) (by decide +kernel))
  obtain ⟨p0, a0, q0, f01, f02, f03, f04, f05⟩ := Cond.arrayOver_spec (n := RX0) (hts (.arrayOver (.object RX0)) (by decide +kernel))
  obtain ⟨p1, a1, q1, f11, f12, f13, f14, f15⟩ := Cond.arrayOver_spec (n := RX1) (hts (.arrayOver (.object RX1)) (by decide +kernel))
  obtain ⟨p6, a6, q6, f61, f62, f63, f64, f65⟩ := Cond.arrayOver_spec (n := RX6) (hts (.arrayOver (.object RX6)) (by decide +kernel))
  refine ⟨(fun j => if j = 0 then c0 else if j = 1 then c1 else if j = 2 then c2 else if j = 3 then c3 else if j = 4 then c4 else if j = 5 then c5 else if j = 6 then c6 else if j = 7 then c7 else c8, fun j => if j = 0 then i0 else if j = 1 then i1 else if j = 2 then i2 else if j = 3 then i3 else if j = 4 then i4 else if j = 5 then i5 else if j = 6 then i6 else if j = 7 then i7 else i8), fun j => if j = 0 then cI else if j = 1 then cZ else if j = 2 then a0 else if j = 3 then a1 else a6, ⟨⟨?_, ?_⟩, ?_, ?_⟩, ?_⟩
  · intro j q hq
    match j, hq with
    | 0, hq => cases hq; exact k0
    | 1, hq => cases hq; exact k1
    | 2, hq => cases hq; exact k2
    | 3, hq => cases hq; exact k3
    | 4, hq => cases hq; exact k4
    | 5, hq => cases hq; exact k5
    | 6, hq => cases hq; exact k6
    | 7, hq => cases hq; exact k7
    | 8, hq => cases hq; exact k8
    | j + 9, hq => simp [vwCl] at hq
  · intro j q hq
    match j, hq with
    | 0, hq => cases hq; exact ⟨fun n z => ⟨(fun k h => by cases h), kI, fI2, pI, fI3⟩, fI1⟩
    | 1, hq => cases hq; exact ⟨fun n z => ⟨(fun k h => by cases h), kZ, fZ2, pZ, fZ3⟩, fZ1⟩
    | 2, hq => cases hq; exact ⟨fun n z => ⟨(fun k h => by cases h), q0, f03, p0, f04⟩, q0, p0, f03, f04, f01, f05⟩
    | 3, hq => cases hq; exact ⟨fun n z => ⟨(fun k h => by cases h), q1, f13, p1, f14⟩, q1, p1, f13, f14, f11, f15⟩
    | 4, hq => cases hq; exact ⟨fun n z => ⟨(fun k h => by cases h), q6, f63, p6, f64⟩, q6, p6, f63, f64, f61, f65⟩
    | j + 5, hq => simp at hq
  · exact va_Nw.of rfl (hts (.methodLinkNest RX1 70 yX7_within RX7) (by decide +kernel))
  · exact va_Nw.of rfl (hts (.methodLinkNest RX3 135 yX7_within RX7) (by decide +kernel))
  · exact ⟨⟨va_AO.of (hts (.arrayOver (.object RX0)) (by decide +kernel)), va_AO.of (hts (.arrayOver (.object RX1)) (by decide +kernel)), va_AO.of (hts (.arrayOver (.object RX6)) (by decide +kernel))⟩, ⟨va_Nw.of rfl (hts (.methodLinkNest RX7 9 yX1_init RX7) (by decide +kernel)), va_Nw.of rfl (hts (.methodLinkNest RX2 17 yX1_init RX7) (by decide +kernel)), va_Nw.of rfl (hts (.methodLinkNest RX7 28 yX4_init RX7) (by decide +kernel)), va_Nw.of rfl (hts (.methodLinkNest RX7 35 yX5_init RX7) (by decide +kernel)), va_Nw.of rfl (hts (.methodLinkNest RX7 46 yX0_init RX7) (by decide +kernel))⟩, va_Nw.of rfl (hts (.methodLinkNest RX0 9 yX1_init RX7) (by decide +kernel)), va_Nw.of rfl (hts (.methodLinkNest RX0 18 yX5_init RX7) (by decide +kernel)), va_Nw.of rfl (hts (.methodLinkNest RX7 53 yX6_init RX7) (by decide +kernel)), va_Nw.of rfl (hts (.methodLinkNest RX7 56 yX3_init RX7) (by decide +kernel)), va_Nw.of rfl (hts (.methodLinkNest RX3 17 yX1_init RX7) (by decide +kernel))⟩
abbrev tmS (i : Nat) : Term := Term.string RX3 ([93, 95, 97, 99, 76, 85].getD i 0)
theorem law_SX {s : State} {b : Nat} (hts : ∀ w ∈ lw_tbl, w.before #[Value.ref b] s = true) (hgv : (Jvm.Cond.and given_1 narrow_1).before #[Value.ref b] s = true) : ∃ aK aV, SX aK aV (fun q => s.heap.size ≤ q) s := by
  have hs := flat_of_before _ hgv
  have hA : ∀ a : Nat, a < s.heap.size → ¬ (fun q : Nat => s.heap.size ≤ q) a := fun a h => Nat.not_le.mpr h
  obtain ⟨aK, aV, hS, hE⟩ := vk_Sof (args := #[Value.ref b]) (s := s) (N := 6) (tm := tmS) (len := LENS) (byt := BYTS) (A := fun q => s.heap.size ≤ q)
    (fun i hi => by
      match i, hi with
      | 0, _ => decide
      | 1, _ => decide
      | 2, _ => decide
      | 3, _ => decide
      | 4, _ => decide
      | 5, _ => decide)
    (fun i hi => by
      match i, hi with
      | 0, _ => exact hs (.exactly (.string RX3 93) "java/lang/String") (by decide +kernel)
      | 1, _ => exact hs (.exactly (.string RX3 95) "java/lang/String") (by decide +kernel)
      | 2, _ => exact hs (.exactly (.string RX3 97) "java/lang/String") (by decide +kernel)
      | 3, _ => exact hs (.exactly (.string RX3 99) "java/lang/String") (by decide +kernel)
      | 4, _ => exact hs (.exactly (.string RX3 76) "java/lang/String") (by decide +kernel)
      | 5, _ => exact hs (.exactly (.string RX3 85) "java/lang/String") (by decide +kernel))
    (fun i hi => by
      match i, hi with
      | 0, _ => exact hs (.eq (.field (.string RX3 93) "java/lang/String" "coder" "B") (.int 0)) (by decide +kernel)
      | 1, _ => exact hs (.eq (.field (.string RX3 95) "java/lang/String" "coder" "B") (.int 0)) (by decide +kernel)
      | 2, _ => exact hs (.eq (.field (.string RX3 97) "java/lang/String" "coder" "B") (.int 0)) (by decide +kernel)
      | 3, _ => exact hs (.eq (.field (.string RX3 99) "java/lang/String" "coder" "B") (.int 0)) (by decide +kernel)
      | 4, _ => exact hs (.eq (.field (.string RX3 76) "java/lang/String" "coder" "B") (.int 0)) (by decide +kernel)
      | 5, _ => exact hs (.eq (.field (.string RX3 85) "java/lang/String" "coder" "B") (.int 0)) (by decide +kernel))
    (fun i hi => by
      match i, hi with
      | 0, _ => exact hs (.arrayOf (.field (.string RX3 93) "java/lang/String" "value" "[B") .byte) (by decide +kernel)
      | 1, _ => exact hs (.arrayOf (.field (.string RX3 95) "java/lang/String" "value" "[B") .byte) (by decide +kernel)
      | 2, _ => exact hs (.arrayOf (.field (.string RX3 97) "java/lang/String" "value" "[B") .byte) (by decide +kernel)
      | 3, _ => exact hs (.arrayOf (.field (.string RX3 99) "java/lang/String" "value" "[B") .byte) (by decide +kernel)
      | 4, _ => exact hs (.arrayOf (.field (.string RX3 76) "java/lang/String" "value" "[B") .byte) (by decide +kernel)
      | 5, _ => exact hs (.arrayOf (.field (.string RX3 85) "java/lang/String" "value" "[B") .byte) (by decide +kernel))
    (fun i hi => by
      match i, hi with
      | 0, _ => exact hs (.eq (.length (.field (.string RX3 93) "java/lang/String" "value" "[B")) (.int 5)) (by decide +kernel)
      | 1, _ => exact hs (.eq (.length (.field (.string RX3 95) "java/lang/String" "value" "[B")) (.int 5)) (by decide +kernel)
      | 2, _ => exact hs (.eq (.length (.field (.string RX3 97) "java/lang/String" "value" "[B")) (.int 6)) (by decide +kernel)
      | 3, _ => exact hs (.eq (.length (.field (.string RX3 99) "java/lang/String" "value" "[B")) (.int 5)) (by decide +kernel)
      | 4, _ => exact hs (.eq (.length (.field (.string RX3 76) "java/lang/String" "value" "[B")) (.int 4)) (by decide +kernel)
      | 5, _ => exact hs (.eq (.length (.field (.string RX3 85) "java/lang/String" "value" "[B")) (.int 3)) (by decide +kernel))
    (fun i hi j hj => by
      match i, hi, j, hj with
      | 0, _, 0, _ => exact hs (.eq (.elem (.field (.string RX3 93) "java/lang/String" "value" "[B") (.int 0)) (.int 112)) (by decide +kernel)
      | 0, _, 1, _ => exact hs (.eq (.elem (.field (.string RX3 93) "java/lang/String" "value" "[B") (.int 1)) (.int 108)) (by decide +kernel)
      | 0, _, 2, _ => exact hs (.eq (.elem (.field (.string RX3 93) "java/lang/String" "value" "[B") (.int 2)) (.int 97)) (by decide +kernel)
      | 0, _, 3, _ => exact hs (.eq (.elem (.field (.string RX3 93) "java/lang/String" "value" "[B") (.int 3)) (.int 105)) (by decide +kernel)
      | 0, _, 4, _ => exact hs (.eq (.elem (.field (.string RX3 93) "java/lang/String" "value" "[B") (.int 4)) (.int 110)) (by decide +kernel)
      | 1, _, 0, _ => exact hs (.eq (.elem (.field (.string RX3 95) "java/lang/String" "value" "[B") (.int 0)) (.int 119)) (by decide +kernel)
      | 1, _, 1, _ => exact hs (.eq (.elem (.field (.string RX3 95) "java/lang/String" "value" "[B") (.int 1)) (.int 105)) (by decide +kernel)
      | 1, _, 2, _ => exact hs (.eq (.elem (.field (.string RX3 95) "java/lang/String" "value" "[B") (.int 2)) (.int 100)) (by decide +kernel)
      | 1, _, 3, _ => exact hs (.eq (.elem (.field (.string RX3 95) "java/lang/String" "value" "[B") (.int 3)) (.int 111)) (by decide +kernel)
      | 1, _, 4, _ => exact hs (.eq (.elem (.field (.string RX3 95) "java/lang/String" "value" "[B") (.int 4)) (.int 119)) (by decide +kernel)
      | 2, _, 0, _ => exact hs (.eq (.elem (.field (.string RX3 97) "java/lang/String" "value" "[B") (.int 0)) (.int 115)) (by decide +kernel)
      | 2, _, 1, _ => exact hs (.eq (.elem (.field (.string RX3 97) "java/lang/String" "value" "[B") (.int 1)) (.int 113)) (by decide +kernel)
      | 2, _, 2, _ => exact hs (.eq (.elem (.field (.string RX3 97) "java/lang/String" "value" "[B") (.int 2)) (.int 117)) (by decide +kernel)
      | 2, _, 3, _ => exact hs (.eq (.elem (.field (.string RX3 97) "java/lang/String" "value" "[B") (.int 3)) (.int 105)) (by decide +kernel)
      | 2, _, 4, _ => exact hs (.eq (.elem (.field (.string RX3 97) "java/lang/String" "value" "[B") (.int 4)) (.int 114)) (by decide +kernel)
      | 2, _, 5, _ => exact hs (.eq (.elem (.field (.string RX3 97) "java/lang/String" "value" "[B") (.int 5)) (.int 101)) (by decide +kernel)
      | 3, _, 0, _ => exact hs (.eq (.elem (.field (.string RX3 99) "java/lang/String" "value" "[B") (.int 0)) (.int 109)) (by decide +kernel)
      | 3, _, 1, _ => exact hs (.eq (.elem (.field (.string RX3 99) "java/lang/String" "value" "[B") (.int 1)) (.int 105)) (by decide +kernel)
      | 3, _, 2, _ => exact hs (.eq (.elem (.field (.string RX3 99) "java/lang/String" "value" "[B") (.int 2)) (.int 115)) (by decide +kernel)
      | 3, _, 3, _ => exact hs (.eq (.elem (.field (.string RX3 99) "java/lang/String" "value" "[B") (.int 3)) (.int 101)) (by decide +kernel)
      | 3, _, 4, _ => exact hs (.eq (.elem (.field (.string RX3 99) "java/lang/String" "value" "[B") (.int 4)) (.int 114)) (by decide +kernel)
      | 4, _, 0, _ => exact hs (.eq (.elem (.field (.string RX3 76) "java/lang/String" "value" "[B") (.int 0)) (.int 111)) (by decide +kernel)
      | 4, _, 1, _ => exact hs (.eq (.elem (.field (.string RX3 76) "java/lang/String" "value" "[B") (.int 1)) (.int 119)) (by decide +kernel)
      | 4, _, 2, _ => exact hs (.eq (.elem (.field (.string RX3 76) "java/lang/String" "value" "[B") (.int 2)) (.int 101)) (by decide +kernel)
      | 4, _, 3, _ => exact hs (.eq (.elem (.field (.string RX3 76) "java/lang/String" "value" "[B") (.int 3)) (.int 115)) (by decide +kernel)
      | 5, _, 0, _ => exact hs (.eq (.elem (.field (.string RX3 85) "java/lang/String" "value" "[B") (.int 0)) (.int 100)) (by decide +kernel)
      | 5, _, 1, _ => exact hs (.eq (.elem (.field (.string RX3 85) "java/lang/String" "value" "[B") (.int 1)) (.int 114)) (by decide +kernel)
      | 5, _, 2, _ => exact hs (.eq (.elem (.field (.string RX3 85) "java/lang/String" "value" "[B") (.int 2)) (.int 121)) (by decide +kernel)
      )
    (fun i j hi hj hne => by
      match i, hi, j, hj with
      | 0, _, 0, _ => exact absurd rfl hne
      | 0, _, 1, _ => exact Or.inl (hs (.not (.eq (.string RX3 93) (.string RX3 95))) (by decide +kernel))
      | 0, _, 2, _ => exact Or.inl (hs (.not (.eq (.string RX3 93) (.string RX3 97))) (by decide +kernel))
      | 0, _, 3, _ => exact Or.inl (hs (.not (.eq (.string RX3 93) (.string RX3 99))) (by decide +kernel))
      | 0, _, 4, _ => exact Or.inl (hs (.not (.eq (.string RX3 93) (.string RX3 76))) (by decide +kernel))
      | 0, _, 5, _ => exact Or.inl (hs (.not (.eq (.string RX3 93) (.string RX3 85))) (by decide +kernel))
      | 1, _, 0, _ => exact Or.inr (hs (.not (.eq (.string RX3 93) (.string RX3 95))) (by decide +kernel))
      | 1, _, 1, _ => exact absurd rfl hne
      | 1, _, 2, _ => exact Or.inl (hs (.not (.eq (.string RX3 95) (.string RX3 97))) (by decide +kernel))
      | 1, _, 3, _ => exact Or.inl (hs (.not (.eq (.string RX3 95) (.string RX3 99))) (by decide +kernel))
      | 1, _, 4, _ => exact Or.inl (hs (.not (.eq (.string RX3 95) (.string RX3 76))) (by decide +kernel))
      | 1, _, 5, _ => exact Or.inl (hs (.not (.eq (.string RX3 95) (.string RX3 85))) (by decide +kernel))
      | 2, _, 0, _ => exact Or.inr (hs (.not (.eq (.string RX3 93) (.string RX3 97))) (by decide +kernel))
      | 2, _, 1, _ => exact Or.inr (hs (.not (.eq (.string RX3 95) (.string RX3 97))) (by decide +kernel))
      | 2, _, 2, _ => exact absurd rfl hne
      | 2, _, 3, _ => exact Or.inl (hs (.not (.eq (.string RX3 97) (.string RX3 99))) (by decide +kernel))
      | 2, _, 4, _ => exact Or.inl (hs (.not (.eq (.string RX3 97) (.string RX3 76))) (by decide +kernel))
      | 2, _, 5, _ => exact Or.inl (hs (.not (.eq (.string RX3 97) (.string RX3 85))) (by decide +kernel))
      | 3, _, 0, _ => exact Or.inr (hs (.not (.eq (.string RX3 93) (.string RX3 99))) (by decide +kernel))
      | 3, _, 1, _ => exact Or.inr (hs (.not (.eq (.string RX3 95) (.string RX3 99))) (by decide +kernel))
      | 3, _, 2, _ => exact Or.inr (hs (.not (.eq (.string RX3 97) (.string RX3 99))) (by decide +kernel))
      | 3, _, 3, _ => exact absurd rfl hne
      | 3, _, 4, _ => exact Or.inl (hs (.not (.eq (.string RX3 99) (.string RX3 76))) (by decide +kernel))
      | 3, _, 5, _ => exact Or.inl (hs (.not (.eq (.string RX3 99) (.string RX3 85))) (by decide +kernel))
      | 4, _, 0, _ => exact Or.inr (hs (.not (.eq (.string RX3 93) (.string RX3 76))) (by decide +kernel))
      | 4, _, 1, _ => exact Or.inr (hs (.not (.eq (.string RX3 95) (.string RX3 76))) (by decide +kernel))
      | 4, _, 2, _ => exact Or.inr (hs (.not (.eq (.string RX3 97) (.string RX3 76))) (by decide +kernel))
      | 4, _, 3, _ => exact Or.inr (hs (.not (.eq (.string RX3 99) (.string RX3 76))) (by decide +kernel))
      | 4, _, 4, _ => exact absurd rfl hne
      | 4, _, 5, _ => exact Or.inl (hs (.not (.eq (.string RX3 76) (.string RX3 85))) (by decide +kernel))
      | 5, _, 0, _ => exact Or.inr (hs (.not (.eq (.string RX3 93) (.string RX3 85))) (by decide +kernel))
      | 5, _, 1, _ => exact Or.inr (hs (.not (.eq (.string RX3 95) (.string RX3 85))) (by decide +kernel))
      | 5, _, 2, _ => exact Or.inr (hs (.not (.eq (.string RX3 97) (.string RX3 85))) (by decide +kernel))
      | 5, _, 3, _ => exact Or.inr (hs (.not (.eq (.string RX3 99) (.string RX3 85))) (by decide +kernel))
      | 5, _, 4, _ => exact Or.inr (hs (.not (.eq (.string RX3 76) (.string RX3 85))) (by decide +kernel))
      | 5, _, 5, _ => exact absurd rfl hne
      ) hA
  have hZ : Term.eval #[Value.ref b] s none [] s (Term.static "java/lang/String" "COMPACT_STRINGS" "Z") = some (.int 1) := by
    have h1 := hs (.eq (.static "java/lang/String" "COMPACT_STRINGS" "Z") (.int 1)) (by decide +kernel)
    have h2 : Cond.value #[Value.ref b] s none s [] (Cond.eq (Term.static "java/lang/String" "COMPACT_STRINGS" "Z") (Term.int 1)) = some true := by simpa [Cond.before, Cond.holds] using h1
    obtain ⟨v, h3, h4⟩ := Cond.eq_worth h2
    have h5 : some (Value.int 1) = some v := h4
    rw [h3, ← h5]
  refine ⟨aK, aV, ⟨hS, va_Zof (hts (.laysStatic "java/lang/String" "COMPACT_STRINGS" "Z") (by decide +kernel)) (hts (.initialized "java/lang/String") (by decide +kernel)) hZ hA, va_Zqof (hts (.laysStatic "jdk/internal/util/Preconditions" "SIOOBE_FORMATTER" "Ljava/util/function/BiFunction;") (by decide +kernel)) (hts (.initialized "jdk/internal/util/Preconditions") (by decide +kernel)) (hs (.isRef (.static "jdk/internal/util/Preconditions" "SIOOBE_FORMATTER" "Ljava/util/function/BiFunction;")) (by decide +kernel)) hA⟩, vk_R.of (hts (.stringRef RX3 93 "plain") (by decide +kernel)) (hE 0 (by decide)), vk_R.of (hts (.stringRef RX3 95 "widow") (by decide +kernel)) (hE 1 (by decide)), vk_R.of (hts (.stringRef RX3 97 "squire") (by decide +kernel)) (hE 2 (by decide)), vk_R.of (hts (.stringRef RX3 99 "miser") (by decide +kernel)) (hE 3 (by decide)), vk_R.of (hts (.stringRef RX3 76 "owes") (by decide +kernel)) (hE 4 (by decide)), vk_R.of (hts (.stringRef RX3 85 "dry") (by decide +kernel)) (hE 5 (by decide))⟩
