/-! P79, PLAIN 12e: an act. -/
section T58e
variable {n m N : Nat} {v : vSt} {p y : Int32}
theorem lf_a {X : Prop} {f g : vSt} (h : X ∧ OUT n N v f) (e : g = f) : X ∧ (pot v ≤ pot v ∧ pot v ≤ pot f ∧ pot f ≤ pot g) := ⟨h.1, Nat.le_refl _, h.2.1, by rw [e]; exact Nat.le_refl _⟩
theorem acts_o (hI : Inv n m v) (h60 : 60 ≤ n) (hn : n ≤ 3140) (hX : XI N (v 462)) (hJ : XJ (v 462)) (hN : N + 60 < 2 ^ 30) : oL_acts 448 p y v ∧ OUT n N v (fL_acts 448 p y v) := by
  have oT := (t_tools hI).1
  have oB := (t_blocks hI).1
  have oY := (t_types hI).1
  have lo : oL_low p 80 := low_o (by decide)
  obtain ⟨Y, EY⟩ : ∃ z : Int32, z = (if (2 : Int32) ≤ (fX10_tools 448 v) then (if (3 : Int32) ≤ (fX10_blocks 448 v) then (if (2 : Int32) ≤ (fX10_types 448 v) then ((fL_low p 80) - (fL_low p 80) / (6 : Int32) * (6 : Int32)) else 2) else 1) else 0 : Int32) := ⟨_, rfl⟩
  have C := comes_o (p := Y) (y := y) hI hX hJ
  have CR := reads_o (x := y) hI h60 hn hX hJ hN
  have CU := uses_o (y := y) hI hX hJ hN
  have CJ := judges_o (y := y) hI (by omega) hX hJ hN
  have CM := fun q : Int32 => moves_o (p := q) (y := y) hI hX hJ
  unfold oL_acts
  by_cases h1 : fX10_tools 448 v < 2
  · have F : fL_acts 448 p y v = fL_comes 448 Y y v := by
      unfold fL_acts
      dsimp only
      rw [if_pos h1, ← EY]
    exact ⟨⟨lo, oT, fun _ => ⟨fun _ => ⟨oB, fun _ => oY⟩, fun y4 e4 => by rw [e4.trans EY.symm]; exact lf_a C F⟩, fun q => absurd h1 q⟩, by rw [F]; exact C.2⟩
  by_cases h2 : fX10_blocks 448 v < 3
  · have F : fL_acts 448 p y v = fL_comes 448 Y y v := by
      unfold fL_acts
      dsimp only
      rw [if_neg h1, if_pos h2, ← EY]
    exact ⟨⟨lo, oT, fun q => absurd q h1, fun _ => ⟨oB, fun _ => ⟨fun _ _ => oY, fun y13 e13 => by rw [e13.trans EY.symm]; exact lf_a C F⟩, fun q => absurd h2 q⟩⟩, by rw [F]; exact C.2⟩
  by_cases h3 : fX10_types 448 v < 2
  · have F : fL_acts 448 p y v = fL_comes 448 Y y v := by
      unfold fL_acts
      dsimp only
      rw [if_neg h1, if_neg h2, if_pos h3, ← EY]
    exact ⟨⟨lo, oT, fun q => absurd q h1, fun _ => ⟨oB, fun q => absurd q h2, fun _ => ⟨oY, fun _ => fun y22 e22 => by rw [e22.trans EY.symm]; exact lf_a C F, fun q => absurd h3 q⟩⟩⟩, by rw [F]; exact C.2⟩
  by_cases d10 : ¬ (10 : Int32) ≤ fL_low p 80
  · have F : fL_acts 448 p y v = fL_comes 448 Y y v := by
      unfold fL_acts
      dsimp only
      rw [if_neg h1, if_neg h2, if_neg h3, if_neg d10, ← EY]
    exact ⟨⟨lo, oT, fun q => absurd q h1, fun _ => ⟨oB, fun q => absurd q h2, fun _ => ⟨oY, fun q => absurd q h3, fun _ => ⟨fun q => absurd q d10, fun _ => fun y71 e71 => by rw [e71.trans EY.symm]; exact lf_a C F⟩⟩⟩⟩, by rw [F]; exact C.2⟩
  have d10 := Decidable.not_not.mp d10
  by_cases d22 : ¬ (22 : Int32) ≤ fL_low p 80
  · have F : fL_acts 448 p y v = fL_uses 448 y v := by
      unfold fL_acts
      dsimp only
      rw [if_neg h1, if_neg h2, if_neg h3, if_pos d10, if_neg d22]
    exact ⟨⟨lo, oT, fun q => absurd q h1, fun _ => ⟨oB, fun q => absurd q h2, fun _ => ⟨oY, fun q => absurd q h3, fun _ => ⟨fun _ => ⟨fun q => absurd q d22, fun _ => lf_a CU F⟩, fun q => absurd d10 q⟩⟩⟩⟩, by rw [F]; exact CU.2⟩
  have d22 := Decidable.not_not.mp d22
  by_cases d44 : ¬ (44 : Int32) ≤ fL_low p 80
  · have F : fL_acts 448 p y v = fL_moves 448 0 y v := by
      unfold fL_acts
      dsimp only
      rw [if_neg h1, if_neg h2, if_neg h3, if_pos d10, if_pos d22, if_neg d44]
    exact ⟨⟨lo, oT, fun q => absurd q h1, fun _ => ⟨oB, fun q => absurd q h2, fun _ => ⟨oY, fun q => absurd q h3, fun _ => ⟨fun _ => ⟨fun _ => ⟨fun q => absurd q d44, fun _ => lf_a (CM 0) F⟩, fun q => absurd d22 q⟩, fun q => absurd d10 q⟩⟩⟩⟩, by rw [F]; exact (CM 0).2⟩
  have d44 := Decidable.not_not.mp d44
  by_cases d62 : ¬ (62 : Int32) ≤ fL_low p 80
  · have F : fL_acts 448 p y v = fL_judges 448 y v := by
      unfold fL_acts
      dsimp only
      rw [if_neg h1, if_neg h2, if_neg h3, if_pos d10, if_pos d22, if_pos d44, if_neg d62]
    exact ⟨⟨lo, oT, fun q => absurd q h1, fun _ => ⟨oB, fun q => absurd q h2, fun _ => ⟨oY, fun q => absurd q h3, fun _ => ⟨fun _ => ⟨fun _ => ⟨fun _ => ⟨fun q => absurd q d62, fun _ => lf_a CJ F⟩, fun q => absurd d44 q⟩, fun q => absurd d22 q⟩, fun q => absurd d10 q⟩⟩⟩⟩, by rw [F]; exact CJ.2⟩
  have d62 := Decidable.not_not.mp d62
  by_cases d68 : ¬ (68 : Int32) ≤ fL_low p 80
  · have F : fL_acts 448 p y v = fL_moves 448 1 y v := by
      unfold fL_acts
      dsimp only
      rw [if_neg h1, if_neg h2, if_neg h3, if_pos d10, if_pos d22, if_pos d44, if_pos d62, if_neg d68]
    exact ⟨⟨lo, oT, fun q => absurd q h1, fun _ => ⟨oB, fun q => absurd q h2, fun _ => ⟨oY, fun q => absurd q h3, fun _ => ⟨fun _ => ⟨fun _ => ⟨fun _ => ⟨fun _ => ⟨fun q => absurd q d68, fun _ => lf_a (CM 1) F⟩, fun q => absurd d62 q⟩, fun q => absurd d44 q⟩, fun q => absurd d22 q⟩, fun q => absurd d10 q⟩⟩⟩⟩, by rw [F]; exact (CM 1).2⟩
  have d68 := Decidable.not_not.mp d68
  by_cases d71 : ¬ (71 : Int32) ≤ fL_low p 80
  · have F : fL_acts 448 p y v = fL_moves 448 2 y v := by
      unfold fL_acts
      dsimp only
      rw [if_neg h1, if_neg h2, if_neg h3, if_pos d10, if_pos d22, if_pos d44, if_pos d62, if_pos d68, if_neg d71]
    exact ⟨⟨lo, oT, fun q => absurd q h1, fun _ => ⟨oB, fun q => absurd q h2, fun _ => ⟨oY, fun q => absurd q h3, fun _ => ⟨fun _ => ⟨fun _ => ⟨fun _ => ⟨fun _ => ⟨fun _ => ⟨fun q => absurd q d71, fun _ => lf_a (CM 2) F⟩, fun q => absurd d68 q⟩, fun q => absurd d62 q⟩, fun q => absurd d44 q⟩, fun q => absurd d22 q⟩, fun q => absurd d10 q⟩⟩⟩⟩, by rw [F]; exact (CM 2).2⟩
  have d71 := Decidable.not_not.mp d71
  by_cases d73 : ¬ (73 : Int32) ≤ fL_low p 80
  · have F : fL_acts 448 p y v = fL_moves 448 3 y v := by
      unfold fL_acts
      dsimp only
      rw [if_neg h1, if_neg h2, if_neg h3, if_pos d10, if_pos d22, if_pos d44, if_pos d62, if_pos d68, if_pos d71, if_neg d73]
    exact ⟨⟨lo, oT, fun q => absurd q h1, fun _ => ⟨oB, fun q => absurd q h2, fun _ => ⟨oY, fun q => absurd q h3, fun _ => ⟨fun _ => ⟨fun _ => ⟨fun _ => ⟨fun _ => ⟨fun _ => ⟨fun _ => ⟨fun q => absurd q d73, fun _ => lf_a (CM 3) F⟩, fun q => absurd d71 q⟩, fun q => absurd d68 q⟩, fun q => absurd d62 q⟩, fun q => absurd d44 q⟩, fun q => absurd d22 q⟩, fun q => absurd d10 q⟩⟩⟩⟩, by rw [F]; exact (CM 3).2⟩
  have d73 := Decidable.not_not.mp d73
  have F : fL_acts 448 p y v = fL_reads 448 y v := by
    unfold fL_acts
    dsimp only
    rw [if_neg h1, if_neg h2, if_neg h3, if_pos d10, if_pos d22, if_pos d44, if_pos d62, if_pos d68, if_pos d71, if_pos d73]
  exact ⟨⟨lo, oT, fun q => absurd q h1, fun _ => ⟨oB, fun q => absurd q h2, fun _ => ⟨oY, fun q => absurd q h3, fun _ => ⟨fun _ => ⟨fun _ => ⟨fun _ => ⟨fun _ => ⟨fun _ => ⟨fun _ => ⟨fun _ => lf_a CR F, fun q => absurd d73 q⟩, fun q => absurd d71 q⟩, fun q => absurd d68 q⟩, fun q => absurd d62 q⟩, fun q => absurd d44 q⟩, fun q => absurd d22 q⟩, fun q => absurd d10 q⟩⟩⟩⟩, by rw [F]; exact CR.2⟩
end T58e
