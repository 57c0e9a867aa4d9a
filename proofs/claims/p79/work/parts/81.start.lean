/-! THE START: what the statement gives, as the walks use it. -/
theorem st_of {args : Array Value} {s : State} {nm : String} {n : Nat} {f : Nat → Int32} {A : Nat → Prop} (hn : n < 2 ^ 31) (hl : (Cond.laysStatic RX10 nm "[I").before args s = true) (hini : (Cond.initialized RX10).before args s = true) (harr : (Cond.arrayOf (.static RX10 nm "[I") .int).before args s = true)
    (hlen : (Cond.eq (.length (.static RX10 nm "[I")) (.int (Int32.ofNat n))).before args s = true) (hel : ∀ j : Nat, j < n → (Cond.eq (.elem (.static RX10 nm "[I") (.int (Int32.ofNat j))) (.int (f j))).before args s = true) (hA : ∀ a : Nat, a < s.heap.size → ¬ A a) :
    ∃ t : Nat, va_Z RX10 nm "[I" (.ref t) A s s.heap ∧ va_T .int t n (fun j => .int (f j)) A s s.heap := by
  obtain ⟨t, ht, hT⟩ := va_Tof (f := fun j => .int (f j)) (A := A) hn harr (va_eqt hlen) (fun j hj => va_eqt (hel j hj)) hA
  exact ⟨t, va_Zof hl hini ht hA, hT⟩
theorem ac_of {args : Array Value} {s : State} {ty : FieldType} (h : (Cond.arrayClass ty).before args s = true) : ∃ c : ClassId, ArrOfT s c ty ∧ s.vm.findClass ("[" ++ ty.toString) = some c := by
  obtain ⟨c, k, comp, h1, h2, h3⟩ := Cond.arrayClass_spec h
  exact ⟨c, fun N z => ⟨(fun k h => by cases h), k, h2, comp, h3⟩, h1⟩
theorem ao_of {s : State} {C : String} (h : va_AO C s) : ∃ c : ClassId, ArrOfT s c (.object C) ∧ va_RA s c (.object C) := by
  obtain ⟨comp, c, k, h1, h2, h3, h4, h5⟩ := Cond.arrayOver_spec h
  exact ⟨c, fun N z => ⟨(fun k h => by cases h), k, h3, comp, h4⟩, k, comp, h3, h4, h1, h5⟩
theorem aoA_of {args : Array Value} {s : State} {t : FieldType} (h : (Cond.arrayOver (.array t)).before args s = true) : ∃ c : ClassId, ArrOfT s c (.array t) ∧ s.vm.findClass ("[" ++ (FieldType.array t).toString) = some c := by
  obtain ⟨comp, c, k, h1, h2, h3, h4, h5⟩ := arrayOverA_spec h
  exact ⟨c, fun N z => ⟨(fun k h => by cases h), k, h3, comp, h4⟩, h5⟩
theorem sr_of {args : Array Value} {s : State} {own tx : String} {k : Nat} (h : (Cond.stringRef own k tx).before args s = true) : ∃ a : Nat, vk_R own k tx a s ∧ (Term.string own k).eval args s none [] s = some (.ref a) := by
  have hcur : ∃ cur, s.vm.findClass own = some cur := by
    have h1 := h
    simp only [Cond.before, Cond.holds, Cond.value] at h1
    cases hc : s.vm.findClass own with
    | none => simp [hc] at h1
    | some cur => exact ⟨cur, rfl⟩
  obtain ⟨cur, hcur⟩ := hcur
  obtain ⟨_, _, _, a, _, _, _, _, _, ev⟩ := Cond.stringRef_spec hcur h
  exact ⟨a, vk_R.of h ev, ev⟩
section T81
variable {args : Array Value} {s : State}
theorem s0_0 {A : Nat → Prop} (hts : ∀ w ∈ lw_tbl, w.before args s = true) (hs : ∀ w ∈ flatC (Jvm.Cond.and given_1 narrow_1), w.before args s = true) (hA : ∀ a : Nat, a < s.heap.size → ¬ A a) : ∃ t : Nat, va_Z RX10 "LINES" "[I" (.ref t) A s s.heap ∧ va_T .int t 5 (fun j => .int (tbL j)) A s s.heap :=
  st_of (by decide) (hts _ (by decide +kernel)) (hts _ (by decide +kernel)) (hs _ (by decide +kernel)) (hs _ (by decide +kernel)) (fun j hj => match j, hj with | 0, _ => hs _ (by decide +kernel) | 1, _ => hs _ (by decide +kernel) | 2, _ => hs _ (by decide +kernel) | 3, _ => hs _ (by decide +kernel) | 4, _ => hs _ (by decide +kernel) | j + 5, h => absurd h (by omega)) hA
theorem s0_1 {A : Nat → Prop} (hts : ∀ w ∈ lw_tbl, w.before args s = true) (hs : ∀ w ∈ flatC (Jvm.Cond.and given_1 narrow_1), w.before args s = true) (hA : ∀ a : Nat, a < s.heap.size → ¬ A a) : ∃ t : Nat, va_Z RX10 "MARK_DISTANCES" "[I" (.ref t) A s s.heap ∧ va_T .int t 5 (fun j => .int (tbM j)) A s s.heap :=
  st_of (by decide) (hts _ (by decide +kernel)) (hts _ (by decide +kernel)) (hs _ (by decide +kernel)) (hs _ (by decide +kernel)) (fun j hj => match j, hj with | 0, _ => hs _ (by decide +kernel) | 1, _ => hs _ (by decide +kernel) | 2, _ => hs _ (by decide +kernel) | 3, _ => hs _ (by decide +kernel) | 4, _ => hs _ (by decide +kernel) | j + 5, h => absurd h (by omega)) hA
theorem s0_2 {A : Nat → Prop} (hts : ∀ w ∈ lw_tbl, w.before args s = true) (hs : ∀ w ∈ flatC (Jvm.Cond.and given_1 narrow_1), w.before args s = true) (hA : ∀ a : Nat, a < s.heap.size → ¬ A a) : ∃ t : Nat, va_Z RX10 "GREATEST_MARKS" "[I" (.ref t) A s s.heap ∧ va_T .int t 5 (fun j => .int (tbG j)) A s s.heap :=
  st_of (by decide) (hts _ (by decide +kernel)) (hts _ (by decide +kernel)) (hs _ (by decide +kernel)) (hs _ (by decide +kernel)) (fun j hj => match j, hj with | 0, _ => hs _ (by decide +kernel) | 1, _ => hs _ (by decide +kernel) | 2, _ => hs _ (by decide +kernel) | 3, _ => hs _ (by decide +kernel) | 4, _ => hs _ (by decide +kernel) | j + 5, h => absurd h (by omega)) hA
theorem s0_3 {A : Nat → Prop} (hts : ∀ w ∈ lw_tbl, w.before args s = true) (hs : ∀ w ∈ flatC (Jvm.Cond.and given_1 narrow_1), w.before args s = true) (hA : ∀ a : Nat, a < s.heap.size → ¬ A a) : ∃ t : Nat, va_Z RX10 "STRETCH_NUMBERS" "[I" (.ref t) A s s.heap ∧ va_T .int t 3 (fun j => .int (tbS j)) A s s.heap :=
  st_of (by decide) (hts _ (by decide +kernel)) (hts _ (by decide +kernel)) (hs _ (by decide +kernel)) (hs _ (by decide +kernel)) (fun j hj => match j, hj with | 0, _ => hs _ (by decide +kernel) | 1, _ => hs _ (by decide +kernel) | 2, _ => hs _ (by decide +kernel) | j + 3, h => absurd h (by omega)) hA
theorem s0_4 {A : Nat → Prop} (hts : ∀ w ∈ lw_tbl, w.before args s = true) (hs : ∀ w ∈ flatC (Jvm.Cond.and given_1 narrow_1), w.before args s = true) (hA : ∀ a : Nat, a < s.heap.size → ¬ A a) : ∃ t : Nat, va_Z RX10 "RUBBINGS" "[I" (.ref t) A s s.heap ∧ va_T .int t 3 (fun j => .int (tbR j)) A s s.heap :=
  st_of (by decide) (hts _ (by decide +kernel)) (hts _ (by decide +kernel)) (hs _ (by decide +kernel)) (hs _ (by decide +kernel)) (fun j hj => match j, hj with | 0, _ => hs _ (by decide +kernel) | 1, _ => hs _ (by decide +kernel) | 2, _ => hs _ (by decide +kernel) | j + 3, h => absurd h (by omega)) hA
theorem s0_5 {A : Nat → Prop} (hts : ∀ w ∈ lw_tbl, w.before args s = true) (hs : ∀ w ∈ flatC (Jvm.Cond.and given_1 narrow_1), w.before args s = true) (hA : ∀ a : Nat, a < s.heap.size → ¬ A a) : ∃ t : Nat, va_Z RX10 "ORDER_NUMBERS" "[I" (.ref t) A s s.heap ∧ va_T .int t 7 (fun j => .int (tbO j)) A s s.heap :=
  st_of (by decide) (hts _ (by decide +kernel)) (hts _ (by decide +kernel)) (hs _ (by decide +kernel)) (hs _ (by decide +kernel)) (fun j hj => match j, hj with | 0, _ => hs _ (by decide +kernel) | 1, _ => hs _ (by decide +kernel) | 2, _ => hs _ (by decide +kernel) | 3, _ => hs _ (by decide +kernel) | 4, _ => hs _ (by decide +kernel) | 5, _ => hs _ (by decide +kernel) | 6, _ => hs _ (by decide +kernel) | j + 7, h => absurd h (by omega)) hA
theorem s0_s {A : Nat → Prop} (hts : ∀ w ∈ lw_tbl, w.before args s = true) (hs : ∀ w ∈ flatC (Jvm.Cond.and given_1 narrow_1), w.before args s = true) (hA : ∀ a : Nat, a < s.heap.size → ¬ A a) :
    ∃ a b : Nat, vk_R RX3 28 "mcpjfud" a s ∧ vk_S 1 [7] [[109, 99, 112, 106, 102, 117, 100]] (fun _ => a) (fun _ => b) A s s.heap := by
  obtain ⟨adK, adV, hS, hE⟩ := vk_Sof (args := args) (s := s) (N := 1) (tm := fun _ => .string RX3 28) (len := [7]) (byt := [[109, 99, 112, 106, 102, 117, 100]]) (A := A) (fun i hi => match i, hi with | 0, _ => by decide | i + 1, h => absurd h (by omega))
    (fun i hi => hs _ (by decide +kernel)) (fun i hi => hs _ (by decide +kernel)) (fun i hi => hs _ (by decide +kernel)) (fun i hi => match i, hi with | 0, _ => hs _ (by decide +kernel) | i + 1, h => absurd h (by omega))
    (fun i hi j hj => match i, hi, j, hj with | 0, _, 0, _ => hs _ (by decide +kernel) | 0, _, 1, _ => hs _ (by decide +kernel) | 0, _, 2, _ => hs _ (by decide +kernel) | 0, _, 3, _ => hs _ (by decide +kernel) | 0, _, 4, _ => hs _ (by decide +kernel) | 0, _, 5, _ => hs _ (by decide +kernel) | 0, _, 6, _ => hs _ (by decide +kernel) | 0, _, j + 7, h => absurd (show j + 7 < 7 from h) (by omega) | i + 1, h, _, _ => absurd h (by omega)) (fun i j hi hj hij => absurd (show i = j by omega) hij) hA
  obtain ⟨a, hR, hev⟩ := sr_of (hts (Cond.stringRef RX3 28 "mcpjfud") (by decide +kernel))
  have e : adK 0 = a := by
    have := (hE 0 (by decide)).symm.trans hev
    cases this
    rfl
  subst e
  exact ⟨adK 0, adV 0, hR, fun i hi => by have h0 : i = 0 := by omega
                                          subst h0
                                          exact hS.1 0 hi, fun i j hi hj _ => by omega⟩
theorem s0_K (htt : ∀ w ∈ TT, w.before args s = true) : ∃ (dC : Nat → ClassId) (dI : Nat → Nat → Nat), ∀ (k : Nat) (q : vw_C), vwCl[k]? = some q → u_Kn s q.1 q.2.1 q.2.2 (dC k) (dI k) := by
  obtain ⟨c0, i0, h0⟩ := u_known (C := RX0) (T := TX0) (N := 11) htt inX0 (htt _ t_inst_Bench)
  obtain ⟨c1, i1, h1⟩ := u_known (C := RX1) (T := TX1) (N := 3) htt inX1 (htt _ t_inst_Block)
  obtain ⟨c2, i2, h2⟩ := u_known (C := RX2) (T := TX2) (N := 6) htt inX2 (htt _ t_inst_Drawer)
  obtain ⟨c3, i3, h3⟩ := u_known (C := RX3) (T := TX3) (N := 6) htt inX3 (htt _ t_inst_Order)
  obtain ⟨c4, i4, h4⟩ := u_known (C := RX4) (T := TX4) (N := 10) htt inX4 (htt _ t_inst_PieceType)
  obtain ⟨c5, i5, h5⟩ := u_known (C := RX5) (T := TX5) (N := 4) htt inX5 (htt _ t_inst_Pieces)
  obtain ⟨c6, i6, h6⟩ := u_known (C := RX6) (T := TX6) (N := 1) htt inX6 (htt _ t_inst_StackTable)
  obtain ⟨c7, i7, h7⟩ := u_known (C := RX7) (T := TX7) (N := 2) htt inX7 (htt _ t_inst_State)
  obtain ⟨c8, i8, h8⟩ := u_known (C := RX8) (T := TX8) (N := 9) htt inX8 (htt _ t_inst_Tool)
  obtain ⟨c9, i9, h9⟩ := u_known (C := RX9) (T := TX9) (N := 6) htt inX9 (htt _ t_inst_Trial)
  obtain ⟨c10, i10, h10⟩ := u_known (C := RX10) (T := TX10) (N := 9) htt inX10 (htt _ t_inst_VernierDrawers)
  refine ⟨fun k => ([c0, c1, c2, c3, c4, c5, c6, c7, c8, c9, c10] : List ClassId).getD k c0, fun k => ([i0, i1, i2, i3, i4, i5, i6, i7, i8, i9, i10] : List (Nat → Nat)).getD k i0, fun k q hq => ?_⟩
  match k, hq with
  | 0, hq => cases hq; exact h0
  | 1, hq => cases hq; exact h1
  | 2, hq => cases hq; exact h2
  | 3, hq => cases hq; exact h3
  | 4, hq => cases hq; exact h4
  | 5, hq => cases hq; exact h5
  | 6, hq => cases hq; exact h6
  | 7, hq => cases hq; exact h7
  | 8, hq => cases hq; exact h8
  | 9, hq => cases hq; exact h9
  | 10, hq => cases hq; exact h10
  | k + 11, hq => simp at hq
theorem start_G (hts : ∀ w ∈ lw_tbl, w.before args s = true) (hg : (Jvm.Cond.and given_1 narrow_1).before args s = true) : ∃ G : gG, gb G = s.heap.size ∧ Tb G s ∧ AOs s ∧ NC s ∧ (Cond.arrayOver (.array .long)).before args s = true := by
  have hs := flat_of_before _ hg
  have htt : ∀ w ∈ TT, w.before args s = true := fun w h => hts w (TT_tbl w h)
  have hA : ∀ a : Nat, a < s.heap.size → ¬ s.heap.size ≤ a := fun a h => Nat.not_le.mpr h
  have hAO : AOs s := ⟨va_AO.of (hts _ (by decide +kernel)), va_AO.of (hts _ (by decide +kernel)), va_AO.of (hts _ (by decide +kernel)), va_AO.of (hts _ (by decide +kernel)), hts (Cond.arrayOver (.array .long)) (by decide +kernel)⟩
  have hAL : (Cond.arrayOver (.array .long)).before args s = true := hAO.2.2.2.2
  obtain ⟨dC, dI, hKc⟩ := s0_K htt
  obtain ⟨a0, ha0, hb0⟩ := ac_of (htt _ t_ac_int)
  obtain ⟨a1, ha1, hb1⟩ := ac_of (htt _ t_ac_long)
  obtain ⟨a2, ha2, hb2⟩ := ac_of (htt _ t_ac_char)
  obtain ⟨a3, ha3, hb3⟩ := ac_of (htt _ t_ac_byte)
  obtain ⟨a4, ha4, hb4⟩ := ac_of (htt _ t_ac_byte)
  obtain ⟨a5, ha5, hb5⟩ := ao_of hAO.1
  obtain ⟨a6, ha6, hb6⟩ := ao_of hAO.2.1
  obtain ⟨a7, ha7, hb7⟩ := ao_of hAO.2.2.1
  obtain ⟨a8, ha8, hb8⟩ := ao_of hAO.2.2.2.1
  obtain ⟨a9, ha9, hb9⟩ := aoA_of hAL
  obtain ⟨s0, hz0, ht0⟩ := s0_0 (A := fun q => s.heap.size ≤ q) hts hs hA
  obtain ⟨s1, hz1, ht1⟩ := s0_1 (A := fun q => s.heap.size ≤ q) hts hs hA
  obtain ⟨s2, hz2, ht2⟩ := s0_2 (A := fun q => s.heap.size ≤ q) hts hs hA
  obtain ⟨s3, hz3, ht3⟩ := s0_3 (A := fun q => s.heap.size ≤ q) hts hs hA
  obtain ⟨s4, hz4, ht4⟩ := s0_4 (A := fun q => s.heap.size ≤ q) hts hs hA
  obtain ⟨s5, hz5, ht5⟩ := s0_5 (A := fun q => s.heap.size ≤ q) hts hs hA
  obtain ⟨sa, sb, hR, hS⟩ := s0_s (A := fun q => s.heap.size ≤ q) hts hs hA
  refine ⟨((dC, dI), fun k => ([a0, a1, a2, a3, a4, a5, a6, a7, a8, a9] : List ClassId).getD k a0, fun _ => 0, s.heap.size, fun k => ([s0, s1, s2, s3, s4, s5, 0, 0, 0, 0, sa, sb] : List Nat).getD k 0), rfl, ⟨⟨hKc, fun k q hq => ?_⟩, ⟨⟨hz0, ht0⟩, ⟨hz1, ht1⟩, ⟨hz2, ht2⟩, ⟨hz3, ht3⟩, ⟨hz4, ht4⟩, ⟨hz5, ht5⟩⟩, fun w hw hk => va_Nw.of (nwk_tab hk) (hts w hw), fun own k tx hm => (sr_of (hts _ hm)).imp fun a h => h.1,
    ⟨hR, hS, va_Zof (hts _ (by decide +kernel)) (hts _ (by decide +kernel)) (va_eqt (hs _ (by decide +kernel))) hA⟩, vx_Zqof (hts _ (by decide +kernel)) (hts _ (by decide +kernel)) (hs _ (by decide +kernel)) hA, vx_Zqof (hts _ (by decide +kernel)) (hts _ (by decide +kernel)) (hs _ (by decide +kernel)) hA⟩,
    hAO, ⟨va_Nc.of (hs _ (by decide +kernel)), va_Nc.of (hs _ (by decide +kernel))⟩, hAL⟩
  match k, hq with
  | 0, hq => cases hq; exact ⟨ha0, hb0⟩
  | 1, hq => cases hq; exact ⟨ha1, hb1⟩
  | 2, hq => cases hq; exact ⟨ha2, hb2⟩
  | 3, hq => cases hq; exact ⟨ha3, hb3⟩
  | 4, hq => cases hq; exact ⟨ha4, hb4⟩
  | 5, hq => cases hq; exact ⟨ha5, hb5⟩
  | 6, hq => cases hq; exact ⟨ha6, hb6⟩
  | 7, hq => cases hq; exact ⟨ha7, hb7⟩
  | 8, hq => cases hq; exact ⟨ha8, hb8⟩
  | 9, hq => cases hq; exact ⟨ha9, hb9⟩
  | k + 10, hq => simp [tysL] at hq
end T81
