/-! THE PLAIN PART 12: questions. -/
def QS (v w : vSt) (k : Int32) : Prop := (∀ q, q ≠ 461 → w q = v q) ∧ (∀ f, f ≠ 8 → w 461 f = v 461 f) ∧ w 461 8 = k
/-- what a question's answer shows: the code and the value of the class, the answer of the model -/
def OQ (v : vSt) (code : Nat) (z : Int32) (mr : Int32 × vSt) (k : Int32) : Prop := QS v mr.2 k ∧ (code = 0 → z = mr.1)
section T41
variable {n m : Nat} {v w : vSt} {A : Ar} {z k p p2 c y : Int32}
theorem qs_u2 : QS v (u2 v 461 8 k) k := ⟨fun q h => u2_r h, fun f h => by rw [u2_q, if_neg (by omega)], u2_s⟩
theorem qs_uu : QS v (u2 (u2 v 461 8 y) 461 8 k) k := ⟨fun q h => by rw [u2_r h, u2_r h], fun f h => by rw [u2_q, if_neg (by omega), u2_q, if_neg (by omega)], u2_s⟩
theorem Inv.asked (hI : Inv n m v) (h : QS v w k) : Inv (n + 1) m w := hI.refused (k := k) ⟨fun q a _ => h.1 q a, h.2.1 _ (by decide), h.2.1 _ (by decide), h.2.1 _ (by decide), h.2.2⟩
theorem QS.pot (h : QS v w k) : pot w = pot v := pot_cg (fun q hq => by rw [h.1 q (fun e => by rw [e] at hq; exact absurd hq (by decide))])
theorem acc_q {j : Nat} (hp : p.toNatClampNeg = j) (hz : z = v 462 j) : OQ v 0 z (fX11_account 461 p v) 0 := by
  unfold fX11_account
  rw [hp]
  exact ⟨qs_u2, fun _ => by dsimp only; rw [u2_r (by decide)]; exact hz⟩
theorem acc_o (h : inn p 3417) : oX11_account 461 p v := fun _ _ => vL h
theorem asks_1 (h : y ≠ 0) : fX11_asks 461 y v = (y, u2 v 461 8 0) := by unfold fX11_asks; rw [if_neg h]
theorem asks_0 (h : y = 0) : fX11_asks 461 y v = (y, u2 v 461 8 1) := by unfold fX11_asks; rw [if_pos h]
theorem asks_o (h : y = 0 ∨ y = 1) : oX11_asks 461 y v := fun _ _ _ _ => h
theorem kdT {b t : Nat} (hb : kd b = 7) (ht : t < 6) : kd (((b + 1 + 2) + 13 + t)) = 8 := (by decide +kernel : ∀ r, r < 470 → kd r = 7 → ∀ t, t < 6 → kd (r + 1 + 2 + 13 + t) = 8) b (kd_lt (by rw [hb]; decide)) hb t ht
theorem kdB {b t : Nat} (hb : kd b = 7) (ht : t < 10) : kd (((b + 1 + 3) + 20 + t)) = 1 := (by decide +kernel : ∀ r, r < 470 → kd r = 7 → ∀ t, t < 10 → kd (r + 1 + 3 + 20 + t) = 1) b (kd_lt (by rw [hb]; decide)) hb t ht
theorem kdY {b t : Nat} (hb : kd b = 7) (ht : t < 5) : kd (((b + 2 + 3) + 31 + t)) = 4 := (by decide +kernel : ∀ r, r < 470 → kd r = 7 → ∀ t, t < 5 → kd (r + 2 + 3 + 31 + t) = 4) b (kd_lt (by rw [hb]; decide)) hb t ht
theorem needT (hI : Inv n m v) : fX10_needTool 448 p v = if sIsT (v 462) p = 0 then (1, 0) else (0, (((rN (v 448 0)) + 1 + 2) + 13 + p.toNatClampNeg)) := by
  unfold fX10_needTool
  rw [c_hasTool hI.2.2.2.2.2.1.1.1.1 hI.2.2.2.2.2.1.2.1.1.1]
theorem needT_o (hI : Inv n m v) : oX10_needTool 448 p v ∧ ((fX10_needTool 448 p v).1 = 0 → kd (fX10_needTool 448 p v).2 = 8) := by
  refine ⟨⟨hI.1.1.1, fun h => ?_⟩, fun h => ?_⟩
  · rw [c_hasTool hI.2.2.2.2.2.1.1.1.1 hI.2.2.2.2.2.1.2.1.1.1] at h
    have := isT_in hI.2.2.2.2.2.1.2.1.1.1 h
    exact i_in this.1.1 this.1.2
  · rw [needT hI] at h ⊢
    by_cases h1 : sIsT (v 462) p = 0
    · rw [if_pos h1] at h; exact absurd h (by decide)
    · rw [if_neg h1]
      exact kdT hI.1.1.1 (inn_lt (isT_in hI.2.2.2.2.2.1.2.1.1.1 h1).1)
theorem needY (hI : Inv n m v) : fX10_needType 448 p v = if sIsY (v 462) p = 0 then (1, 0) else (0, (((rN (v 448 0)) + 2 + 3) + 31 + p.toNatClampNeg)) := by
  unfold fX10_needType
  rw [c_hasType hI.2.2.2.2.2.1.1.2.1.1 hI.2.2.2.2.2.1.2.1.1.2.2.1]
theorem needY_o (hI : Inv n m v) : oX10_needType 448 p v ∧ ((fX10_needType 448 p v).1 = 0 → kd (fX10_needType 448 p v).2 = 4) := by
  refine ⟨⟨hI.1.1.1, fun h => ?_⟩, fun h => ?_⟩
  · rw [c_hasType hI.2.2.2.2.2.1.1.2.1.1 hI.2.2.2.2.2.1.2.1.1.2.2.1] at h
    have := isY_in hI.2.2.2.2.2.1.2.1.1.2.2.1 h
    exact i_in this.1.1 this.1.2
  · rw [needY hI] at h ⊢
    by_cases h1 : sIsY (v 462) p = 0
    · rw [if_pos h1] at h; exact absurd h (by decide)
    · rw [if_neg h1]
      exact kdY hI.1.1.1 (inn_lt (isY_in hI.2.2.2.2.2.1.2.1.1.2.2.1 h1).1)
theorem asksT : oX11_asks 461 (fX11_isTool 461 p v) v := asks_o in01
theorem asksY : oX11_asks 461 (fX11_isType 461 p v) v := asks_o in01
/-- a question that asks for a tool -/
theorem q_tool {F : Nat → Int32} {f : Int32} {mr : Int32 × vSt} (hI : Inv n m v) (hm : mr = if (fX11_asks 461 (fX11_isTool 461 p v) v).1 = 0 then (0, (fX11_asks 461 (fX11_isTool 461 p v) v).2) else (f, (fX11_asks 461 (fX11_isTool 461 p v) v).2))
    (h1 : sIsT (v 462) p ≠ 0 → F ((((rN (v 448 0)) + 1 + 2) + 13 + p.toNatClampNeg)) = f) :
    OQ v (if (fX10_needTool 448 p v).1 = 0 then (0, F (fX10_needTool 448 p v).2) else ((fX10_needTool 448 p v).1, 0) : Nat × Int32).1 (if (fX10_needTool 448 p v).1 = 0 then (0, F (fX10_needTool 448 p v).2) else ((fX10_needTool 448 p v).1, 0) : Nat × Int32).2 mr (Int32.ofNat (if (fX10_needTool 448 p v).1 = 0 then (0, F (fX10_needTool 448 p v).2) else ((fX10_needTool 448 p v).1, 0) : Nat × Int32).1) := by
  rw [needT hI, hm, show fX11_isTool 461 p v = sIsT (v 462) p from rfl]
  by_cases h : sIsT (v 462) p = 0
  · rw [asks_0 h, if_pos h, if_pos h]
    exact ⟨qs_u2, fun q => absurd (show (1 : Nat) = 0 from q) (by decide)⟩
  · rw [asks_1 h, if_neg h, if_neg h]
    exact ⟨qs_u2, fun _ => h1 h⟩
/-- a question that asks for a type -/
theorem q_type {F : Nat → Int32} {f : Int32} {mr : Int32 × vSt} (hI : Inv n m v) (hm : mr = if (fX11_asks 461 (fX11_isType 461 p v) v).1 = 0 then (0, (fX11_asks 461 (fX11_isType 461 p v) v).2) else (f, (fX11_asks 461 (fX11_isType 461 p v) v).2))
    (h1 : sIsY (v 462) p ≠ 0 → F ((((rN (v 448 0)) + 2 + 3) + 31 + p.toNatClampNeg)) = f) :
    OQ v (if (fX10_needType 448 p v).1 = 0 then (0, F (fX10_needType 448 p v).2) else ((fX10_needType 448 p v).1, 0) : Nat × Int32).1 (if (fX10_needType 448 p v).1 = 0 then (0, F (fX10_needType 448 p v).2) else ((fX10_needType 448 p v).1, 0) : Nat × Int32).2 mr (Int32.ofNat (if (fX10_needType 448 p v).1 = 0 then (0, F (fX10_needType 448 p v).2) else ((fX10_needType 448 p v).1, 0) : Nat × Int32).1) := by
  rw [needY hI, hm, show fX11_isType 461 p v = sIsY (v 462) p from rfl]
  by_cases h : sIsY (v 462) p = 0
  · rw [asks_0 h, if_pos h, if_pos h]
    exact ⟨qs_u2, fun q => absurd (show (1 : Nat) = 0 from q) (by decide)⟩
  · rw [asks_1 h, if_neg h, if_neg h]
    exact ⟨qs_u2, fun _ => h1 h⟩
theorem ak462 : (fX11_asks 461 y v).2 462 = v 462 := by
  unfold fX11_asks
  dsimp only
  exact u2_r (by decide)
theorem k462 : u2 v 461 8 k 462 = v 462 := u2_r (by decide)
theorem Inv.sr (hI : Inv n m v) : SR v (rN (v 448 0)) (v 462) := hI.2.2.2.2.2.1.1
theorem Inv.wf (hI : Inv n m v) : WF (v 462) := hI.2.2.2.2.2.1.2.1
theorem Inv.cp (hI : Inv n m v) : CP v (rN (v 448 0)) := hI.2.1 _ hI.1.1.1
theorem t_tools (hI : Inv n m v) : oX10_tools 448 v ∧ oX11_tools 461 v ∧ OQ v 0 (fX10_tools 448 v) (fX11_tools 461 v) 0 :=
  ⟨hI.1.1.1, acc_o (p := 203) (by decide), acc_q (p := 203) (j := 203) (by decide) hI.sr.1.1⟩
theorem t_warmth (hI : Inv n m v) : oX10_warmth 448 v ∧ oX11_warmth 461 v ∧ OQ v 0 (fX10_warmth 448 v) (fX11_warmth 461 v) 0 :=
  ⟨hI.1.1.1, acc_o (p := 208) (by decide), acc_q (p := 208) (j := 208) (by decide) hI.sr.1.2.2.1⟩
theorem t_types (hI : Inv n m v) : oX10_types 448 v ∧ oX11_types 461 v ∧ OQ v 0 (fX10_types 448 v) (fX11_types 461 v) 0 :=
  ⟨hI.1.1.1, acc_o (p := 205) (by decide), acc_q (p := 205) (j := 205) (by decide) hI.sr.2.1.1⟩
theorem t_onBench (hI : Inv n m v) : oX10_onBench 448 v ∧ oX11_onBench 461 v ∧ OQ v 0 (fX10_onBench 448 v) (fX11_onBench 461 v) 0 :=
  ⟨hI.1.1.1, acc_o (p := 206) (by decide), acc_q (p := 206) (j := 206) (by decide) hI.sr.2.2.2.2.2.1.1⟩
theorem t_toFile (hI : Inv n m v) : oX10_toFile 448 v ∧ oX11_toFile 461 v ∧ OQ v 0 (fX10_toFile 448 v) (fX11_toFile 461 v) 0 :=
  ⟨hI.1.1.1, acc_o (p := 207) (by decide), acc_q (p := 207) (j := 207) (by decide) hI.sr.2.2.2.2.2.2.1⟩
theorem t_days (hI : Inv n m v) : oX10_days 448 v ∧ oX11_days 461 v ∧ OQ v 0 (fX10_days 448 v) (fX11_days 461 v) 0 :=
  ⟨hI.1.1.1, acc_o (p := 210) (by decide), acc_q (p := 210) (j := 210) (by decide) hI.sr.1.2.2.2⟩
theorem t_brought (hI : Inv n m v) : oX10_brought 448 v ∧ oX11_brought 461 v ∧ OQ v 0 (fX10_brought 448 v) (fX11_brought 461 v) 0 :=
  ⟨hI.1.1.1, acc_o (p := 211) (by decide), acc_q (p := 211) (j := 211) (by decide) hI.sr.2.1.2.2.1⟩
theorem t_good (hI : Inv n m v) : oX10_good 448 v ∧ oX11_good 461 v ∧ OQ v 0 (fX10_good 448 v) (fX11_good 461 v) 0 :=
  ⟨hI.1.1.1, acc_o (p := 212) (by decide), acc_q (p := 212) (j := 212) (by decide) hI.sr.2.1.2.2.2.1⟩
theorem t_thrownAway (hI : Inv n m v) : oX10_thrownAway 448 v ∧ oX11_thrownAway 461 v ∧ OQ v 0 (fX10_thrownAway 448 v) (fX11_thrownAway 461 v) 0 :=
  ⟨hI.1.1.1, acc_o (p := 213) (by decide), acc_q (p := 213) (j := 213) (by decide) hI.sr.2.1.2.2.2.2.1⟩
theorem t_unseen (hI : Inv n m v) : oX10_unseen 448 v ∧ oX11_unseen 461 v ∧ OQ v 0 (fX10_unseen 448 v) (fX11_unseen 461 v) 0 :=
  ⟨hI.1.1.1, acc_o (p := 214) (by decide), acc_q (p := 214) (j := 214) (by decide) hI.sr.2.1.2.2.2.2.2.1⟩
theorem t_doubts (hI : Inv n m v) : oX10_doubts 448 v ∧ oX11_doubts 461 v ∧ OQ v 0 (fX10_doubts 448 v) (fX11_doubts 461 v) 0 :=
  ⟨hI.1.1.1, acc_o (p := 215) (by decide), acc_q (p := 215) (j := 215) (by decide) hI.sr.2.1.2.2.2.2.2.2.1⟩
theorem t_blocks (hI : Inv n m v) : oX10_blocks 448 v ∧ oX11_blocks 461 v ∧ OQ v 0 (fX10_blocks 448 v) (fX11_blocks 461 v) 0 :=
  ⟨hI.1.1.1, acc_o (p := 204) (by decide), acc_q (p := 204) (j := 204) (by decide) hI.sr.1.2.1⟩
theorem t_broughtByPlaces (hI : Inv n m v) : oX10_broughtByPlaces 448 v ∧ oX11_broughtByPlaces 461 v ∧ OQ v 0 (fX10_broughtByPlaces 448 v) (fX11_broughtByPlaces 461 v) 0 := by
  refine ⟨hI.1.1.1, acc_o (p := 211) (by decide), acc_q (p := 211) (j := 211) (by decide) ?_⟩
  have ha : v 462 211 = v 462 206 + v 462 207 + v 462 212 + v 462 213 + v 462 214 := hI.2.2.2.2.2.1.2.2.1
  have h := hI.sr
  unfold fX10_broughtByPlaces
  rw [ha, h.2.2.2.2.2.1.1, h.2.2.2.2.2.2.1, h.2.1.2.2.2.1, h.2.1.2.2.2.2.1, h.2.1.2.2.2.2.2.1]
theorem t_states (hI : Inv n m v) : OQ v 0 (fX10_states 448 v) (fX11_states 461 v) 0 :=
  ⟨qs_u2, fun _ => by
    have h : fX11_states 461 v = (u2 v 461 8 0 461 5, u2 v 461 8 0) := rfl
    rw [h, u2_q, if_neg (by decide)]
    exact hI.2.2.1.1⟩
theorem t_whyNotPass (hI : Inv n m v) : oX10_whyNotPass 448 v ∧ oX11_whyNotPass 461 v ∧ OQ v 0 (fX10_whyNotPass 448 v) (fX11_whyNotPass 461 v) 0 := by
  have hk : ∀ w : vSt, w 462 = v 462 → w 462 206 ≠ 0 → inn ((fX11_typeOf ((w 462) 183))) 5 := fun w e h0 => by
    rw [e] at h0 ⊢
    obtain ⟨d, x, q1, q2, _⟩ := hI.wf.fk h0
    exact q2
  refine ⟨hI.1.1.1, fun v1 e1 => mo_reasonP (hk _ (by rw [e1, k462])), ?_⟩
  unfold fX10_whyNotPass fX11_whyNotPass
  refine ⟨qs_u2, fun _ => ?_⟩
  dsimp only
  rw [m_reasonP (hk _ k462), k462]
  exact c_reasonP hI.sr hI.wf hI.cp
theorem t_kindOf (hI : Inv n m v) : oX10_kindOf 448 p v ∧ oX11_kindOf 461 p v ∧ OQ v (fX10_kindOf 448 p v).1 (fX10_kindOf 448 p v).2 (fX11_kindOf 461 p v) (Int32.ofNat (fX10_kindOf 448 p v).1) := by
  refine ⟨needT_o hI, ⟨mo_isTool, asksT, fun v3 e3 h => mo_tool (isT_in hI.wf.1.1 ?_).1 (by decide)⟩, q_tool (F := fun r => v r 0) hI rfl fun h => ?_⟩
  · exact fun q => h q
  · rw [m_tool (isT_in hI.wf.1.1 h).1 (by decide), ak462]
    exact (hI.sr.tool hI.wf h).1.1
theorem t_usesOf (hI : Inv n m v) : oX10_usesOf 448 p v ∧ oX11_usesOf 461 p v ∧ OQ v (fX10_usesOf 448 p v).1 (fX10_usesOf 448 p v).2 (fX11_usesOf 461 p v) (Int32.ofNat (fX10_usesOf 448 p v).1) := by
  refine ⟨needT_o hI, ⟨mo_isTool, asksT, fun v3 e3 h => mo_tool (isT_in hI.wf.1.1 ?_).1 (by decide)⟩, q_tool (F := fun r => v r 6) hI rfl fun h => ?_⟩
  · exact fun q => h q
  · rw [m_tool (isT_in hI.wf.1.1 h).1 (by decide), ak462]
    exact (hI.sr.tool hI.wf h).1.2.2.2.2.2.2.1
theorem t_wearOf (hI : Inv n m v) : oX10_wearOf 448 p v ∧ oX11_wearOf 461 p v ∧ OQ v (fX10_wearOf 448 p v).1 (fX10_wearOf 448 p v).2 (fX11_wearOf 461 p v) (Int32.ofNat (fX10_wearOf 448 p v).1) := by
  refine ⟨needT_o hI, ⟨mo_isTool, asksT, fun v3 e3 h => mo_tool (isT_in hI.wf.1.1 ?_).1 (by decide)⟩, q_tool (F := fun r => v r 4) hI rfl fun h => ?_⟩
  · exact fun q => h q
  · rw [m_tool (isT_in hI.wf.1.1 h).1 (by decide), ak462]
    exact (hI.sr.tool hI.wf h).1.2.2.2.2.1
theorem t_knownError (hI : Inv n m v) : oX10_knownError 448 p v ∧ oX11_knownError 461 p v ∧ OQ v (fX10_knownError 448 p v).1 (fX10_knownError 448 p v).2 (fX11_knownError 461 p v) (Int32.ofNat (fX10_knownError 448 p v).1) := by
  refine ⟨needT_o hI, ⟨mo_isTool, asksT, fun v3 e3 h => mo_tool (isT_in hI.wf.1.1 ?_).1 (by decide)⟩, q_tool (F := fun r => v r 3) hI rfl fun h => ?_⟩
  · exact fun q => h q
  · rw [m_tool (isT_in hI.wf.1.1 h).1 (by decide), ak462]
    exact (hI.sr.tool hI.wf h).1.2.2.2.1
theorem t_stepOf (hI : Inv n m v) : oX10_stepOf 448 p v ∧ oX11_stepOf 461 p v ∧ OQ v (fX10_stepOf 448 p v).1 (fX10_stepOf 448 p v).2 (fX11_stepOf 461 p v) (Int32.ofNat (fX10_stepOf 448 p v).1) := by
  refine ⟨needT_o hI, ⟨mo_isTool, asksT, fun v3 e3 h => mo_step (isT_in hI.wf.1.1 ?_).1⟩, q_tool (F := fun r => v r 1) hI rfl fun h => ?_⟩
  · exact fun q => h q
  · rw [m_step (isT_in hI.wf.1.1 h).1, ak462]
    exact (hI.sr.tool hI.wf h).1.2.1
theorem t_isDue (hI : Inv n m v) : oX10_isDue 448 p v ∧ oX11_isDue 461 p v ∧ OQ v (fX10_isDue 448 p v).1 (fX10_isDue 448 p v).2 (fX11_isDue 461 p v) (Int32.ofNat (fX10_isDue 448 p v).1) := by
  refine ⟨⟨(needT_o hI).1, fun q => ⟨(needT_o hI).2 q, hI.1.1.1⟩⟩, ⟨mo_isTool, asksT, fun v3 e3 h => mo_due (isT_in hI.wf.1.1 ?_).1⟩, q_tool (F := fun r => fX8_dueOn r (v (rN (v 448 0) + 1) 5) v) (f := fX11_due 461 p (fX11_asks 461 (fX11_isTool 461 p v) v).2) hI ?_ fun h => ?_⟩
  · exact fun q => h q
  · have h01 : fX11_due 461 p (fX11_asks 461 (fX11_isTool 461 p v) v).2 = 0 ∨ fX11_due 461 p (fX11_asks 461 (fX11_isTool 461 p v) v).2 = 1 := by
      unfold fX11_due
      split
      · exact Or.inr rfl
      · split
        · exact Or.inl rfl
        · exact Or.inr rfl
    unfold fX11_isDue
    dsimp only
    by_cases h : (fX11_asks 461 (fX11_isTool 461 p v) v).1 = 0
    · rw [if_pos h, if_pos h]
    · rw [if_neg h, if_neg h]
      rcases h01 with q | q
      · rw [if_pos q, q]
      · rw [if_neg (by rw [q]; decide), q]
  · rw [m_due (isT_in hI.wf.1.1 h).1, ak462]
    exact c_due hI.sr.1.2.2.2 (hI.sr.tool hI.wf h).1
theorem t_usesLeft (hI : Inv n m v) : oX10_usesLeft 448 p v ∧ oX11_usesLeft 461 p v ∧ OQ v (fX10_usesLeft 448 p v).1 (fX10_usesLeft 448 p v).2 (fX11_usesLeft 461 p v) (Int32.ofNat (fX10_usesLeft 448 p v).1) := by
  refine ⟨needT_o hI, ⟨mo_isTool, asksT, fun v3 e3 h => mo_tool (isT_in hI.wf.1.1 ?_).1 (by decide)⟩, q_tool (F := fun r => (if 0 < (30 - (v r 7)) then 30 - (v r 7) else 0 : Int32)) hI rfl fun h => ?_⟩
  · exact fun q => h q
  · rw [m_tool (isT_in hI.wf.1.1 h).1 (by decide), ak462]
    have e : v ((((rN (v 448 0)) + 1 + 2) + 13 + p.toNatClampNeg)) 7 = v 462 (8 * p.toNatClampNeg + 6) := (hI.sr.tool hI.wf h).1.2.2.2.2.2.2.2.1
    rw [e]
    unfold fX11_more
    show _ = if 30 - v 462 (8 * p.toNatClampNeg + 6) ≤ 0 then 0 else 30 - v 462 (8 * p.toNatClampNeg + 6)
    by_cases q : 0 < 30 - v 462 (8 * p.toNatClampNeg + 6)
    · rw [if_pos q, if_neg (by rw [Int32.le_iff_toInt_le]; rw [Int32.lt_iff_toInt_lt] at q; omega)]
    · rw [if_neg q, if_pos (by rw [Int32.le_iff_toInt_le]; rw [Int32.lt_iff_toInt_lt] at q; omega)]
theorem t_whyNotJudge (hI : Inv n m v) : oX10_whyNotJudge 448 p v ∧ oX11_whyNotJudge 461 p v ∧ OQ v (fX10_whyNotJudge 448 p v).1 (fX10_whyNotJudge 448 p v).2 (fX11_whyNotJudge 461 p v) (Int32.ofNat (fX10_whyNotJudge 448 p v).1) := by
  have hk : ∀ w : vSt, w 462 = v 462 → w 462 206 ≠ 0 → inn ((fX11_typeOf ((w 462) 183))) 5 := fun w e h0 => by
    rw [e] at h0 ⊢
    obtain ⟨d, x, q1, q2, _⟩ := hI.wf.fk h0
    exact q2
  refine ⟨⟨hI.1.1.1, needT_o hI⟩, ⟨mo_isTool, asksT, fun v3 e3 h => ?_⟩, q_tool (F := fun r => fX0_reasonNotToJudge (rN (v 448 0) + 2) (rN (v 448 0) + 1) r v) hI rfl fun h => ?_⟩
  · have h : sIsT (v 462) p ≠ 0 := fun q => h q
    exact mo_reasonNot (isT_in hI.wf.1.1 h).1 (hk _ (by rw [e3]; exact ak462))
  · rw [m_reasonNot (isT_in hI.wf.1.1 h).1 (hk _ ak462), ak462]
    exact c_reason hI.sr hI.wf hI.cp (isT_in hI.wf.1.1 h).2
theorem t_lengthOf (hI : Inv n m v) : oX10_lengthOf 448 p v ∧ oX11_lengthOf 461 p v ∧ OQ v (fX10_lengthOf 448 p v).1 (fX10_lengthOf 448 p v).2 (fX11_lengthOf 461 p v) (Int32.ofNat (fX10_lengthOf 448 p v).1) := by
  refine ⟨needY_o hI, ⟨mo_isType, asksY, fun v3 e3 h => mo_of (isY_in hI.wf.1.2.2.1 ?_).1 (by decide)⟩, q_type (F := fun r => v r 0) hI rfl fun h => ?_⟩
  · exact fun q => h q
  · rw [m_of (isY_in hI.wf.1.2.2.1 h).1 (by decide), ak462]
    exact (hI.sr.2.2.2.2.1 _ (isY_in hI.wf.1.2.2.1 h).2).1.1
theorem t_mannerOf (hI : Inv n m v) : oX10_mannerOf 448 p v ∧ oX11_mannerOf 461 p v ∧ OQ v (fX10_mannerOf 448 p v).1 (fX10_mannerOf 448 p v).2 (fX11_mannerOf 461 p v) (Int32.ofNat (fX10_mannerOf 448 p v).1) := by
  refine ⟨needY_o hI, ⟨mo_isType, asksY, fun v3 e3 h => mo_of (isY_in hI.wf.1.2.2.1 ?_).1 (by decide)⟩, q_type (F := fun r => v r 4) hI rfl fun h => ?_⟩
  · exact fun q => h q
  · rw [m_of (isY_in hI.wf.1.2.2.1 h).1 (by decide), ak462]
    exact (hI.sr.2.2.2.2.1 _ (isY_in hI.wf.1.2.2.1 h).2).1.2.2.2.2.1
theorem t_recordOf (hI : Inv n m v) : oX10_recordOf 448 p v ∧ oX11_recordOf 461 p v ∧ OQ v (fX10_recordOf 448 p v).1 (fX10_recordOf 448 p v).2 (fX11_recordOf 461 p v) (Int32.ofNat (fX10_recordOf 448 p v).1) := by
  refine ⟨needY_o hI, ⟨mo_isType, asksY, fun v3 e3 h => mo_of (isY_in hI.wf.1.2.2.1 ?_).1 (by decide)⟩, q_type (F := fun r => v r 7) hI rfl fun h => ?_⟩
  · exact fun q => h q
  · rw [m_of (isY_in hI.wf.1.2.2.1 h).1 (by decide), ak462]
    exact (hI.sr.2.2.2.2.1 _ (isY_in hI.wf.1.2.2.1 h).2).1.2.2.2.2.2.2.1
theorem t_charted (hI : Inv n m v) : oX10_charted 448 p v ∧ oX11_charted 461 p v ∧ OQ v (fX10_charted 448 p v).1 (fX10_charted 448 p v).2 (fX11_charted 461 p v) (Int32.ofNat (fX10_charted 448 p v).1) := by
  refine ⟨needY_o hI, ⟨mo_isType, asksY, fun v3 e3 h => mo_of (isY_in hI.wf.1.2.2.1 ?_).1 (by decide)⟩, q_type (F := fun r => v r 9) hI rfl fun h => ?_⟩
  · exact fun q => h q
  · rw [m_of (isY_in hI.wf.1.2.2.1 h).1 (by decide), ak462]
    exact (hI.sr.2.2.2.2.1 _ (isY_in hI.wf.1.2.2.1 h).2).1.2.2.2.2.2.2.2
theorem t_widthOf (hI : Inv n m v) : oX10_widthOf 448 p v ∧ oX11_widthOf 461 p v ∧ OQ v (fX10_widthOf 448 p v).1 (fX10_widthOf 448 p v).2 (fX11_widthOf 461 p v) (Int32.ofNat (fX10_widthOf 448 p v).1) := by
  refine ⟨needY_o hI, ⟨mo_isType, asksY, fun v3 e3 h => ?_⟩, q_type (F := fun r => fX4_width r v) hI rfl fun h => ?_⟩
  · have h : sIsY (v 462) p ≠ 0 := fun q => h q
    exact ⟨mo_of (isY_in hI.wf.1.2.2.1 h).1 (by decide), mo_of (isY_in hI.wf.1.2.2.1 h).1 (by decide)⟩
  · rw [m_of (isY_in hI.wf.1.2.2.1 h).1 (by decide), m_of (isY_in hI.wf.1.2.2.1 h).1 (by decide), ak462]
    have e := (hI.sr.2.2.2.2.1 _ (isY_in hI.wf.1.2.2.1 h).2).1
    show fX4_width ((((rN (v 448 0)) + 2 + 3) + 31 + p.toNatClampNeg)) v = v 462 ((78 + 21 * p.toNatClampNeg + 2)) - v 462 ((78 + 21 * p.toNatClampNeg + 1))
    unfold fX4_width
    rw [e.2.1, e.2.2.1]
end T41
