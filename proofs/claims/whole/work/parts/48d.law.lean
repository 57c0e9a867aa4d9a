/-! THE PLAIN PART 19d: the law's cases 52 to 75. -/
def flc_52 (i : Int32) (xs : Nat → Int32) (v : vSt) (x : gX) : vSt × gX := let v4 : vSt := (fL_chartedAt 448 (xs (i + 1 : Int32).toNatClampNeg) (xs (i + 2 : Int32).toNatClampNeg) 468 v x).2.1; let x5 : gX := (fL_chartedAt 448 (xs (i + 1 : Int32).toNatClampNeg) (xs (i + 2 : Int32).toNatClampNeg) 468 v x).2.2; let v7 : vSt := (fX11_chartedAt 461 (xs (i + 1 : Int32).toNatClampNeg) (xs (i + 2 : Int32).toNatClampNeg) v4).2; if ((fX11_thrown 461 v7) : Int32) = ((fL_chartedAt 448 (xs (i + 1 : Int32).toNatClampNeg) (xs (i + 2 : Int32).toNatClampNeg) 468 v x).1) then (if (((fL_chartedAt 448 (xs (i + 1 : Int32).toNatClampNeg) (xs (i + 2 : Int32).toNatClampNeg) 468 v x).1) : Int32) = 0 then (if ((lg_cmp (x5.1 468 (0 : Int32).toNatClampNeg) (((fX11_chartedAt 461 (xs (i + 1 : Int32).toNatClampNeg) (xs (i + 2 : Int32).toNatClampNeg) v4).1 : Int32).toInt64)) : Int32) = 0 then ((v7, x5)) else ((v7, x5))) else ((v7, x5))) else ((v7, x5))
def olc_52 (i : Int32) (xs : Nat → Int32) (v : vSt) (x : gX) (c0 c1 : Nat) : Prop := (oL_chartedAt 448 (xs (i + 1 : Int32).toNatClampNeg) (xs (i + 2 : Int32).toNatClampNeg) 468 v x) ∧ ((c0 ≤ 601024) ∧ ((c0 + 12 ≤ 601024) ∧ (∀ v4 : vSt, v4 = ((fL_chartedAt 448 (xs (i + 1 : Int32).toNatClampNeg) (xs (i + 2 : Int32).toNatClampNeg) 468 v x).2.1) → (∀ x5 : gX, x5 = ((fL_chartedAt 448 (xs (i + 1 : Int32).toNatClampNeg) (xs (i + 2 : Int32).toNatClampNeg) 468 v x).2.2) → ((oX11_chartedAt 461 (xs (i + 1 : Int32).toNatClampNeg) (xs (i + 2 : Int32).toNatClampNeg) v4) ∧ (∀ v7 : vSt, v7 = ((fX11_chartedAt 461 (xs (i + 1 : Int32).toNatClampNeg) (xs (i + 2 : Int32).toNatClampNeg) v4).2) → (((((fX11_thrown 461 v7) : Int32) = ((fL_chartedAt 448 (xs (i + 1 : Int32).toNatClampNeg) (xs (i + 2 : Int32).toNatClampNeg) 468 v x).1)) → ((((((fL_chartedAt 448 (xs (i + 1 : Int32).toNatClampNeg) (xs (i + 2 : Int32).toNatClampNeg) 468 v x).1) : Int32) = 0) → (((((lg_cmp (x5.1 468 (0 : Int32).toNatClampNeg) (((fX11_chartedAt 461 (xs (i + 1 : Int32).toNatClampNeg) (xs (i + 2 : Int32).toNatClampNeg) v4).1 : Int32).toInt64)) : Int32) = 0) → ((c0 + 12) ≤ c1)) ∧ (¬ (((lg_cmp (x5.1 468 (0 : Int32).toNatClampNeg) (((fX11_chartedAt 461 (xs (i + 1 : Int32).toNatClampNeg) (xs (i + 2 : Int32).toNatClampNeg) v4).1 : Int32).toInt64)) : Int32) = 0) → False))) ∧ (¬ ((((fL_chartedAt 448 (xs (i + 1 : Int32).toNatClampNeg) (xs (i + 2 : Int32).toNatClampNeg) 468 v x).1) : Int32) = 0) → ((c0 + 12) ≤ c1)))) ∧ (¬ (((fX11_thrown 461 v7) : Int32) = ((fL_chartedAt 448 (xs (i + 1 : Int32).toNatClampNeg) (xs (i + 2 : Int32).toNatClampNeg) 468 v x).1)) → False))))))))
def flc_53 (i : Int32) (xs : Nat → Int32) (v : vSt) (x : gX) : vSt × gX := let v4 : vSt := (fL_signalsOf 448 (xs (i + 1 : Int32).toNatClampNeg) 468 v x).2.1; let x5 : gX := (fL_signalsOf 448 (xs (i + 1 : Int32).toNatClampNeg) 468 v x).2.2; let v7 : vSt := (fX11_signalsOf 461 (xs (i + 1 : Int32).toNatClampNeg) v4).2; if ((fX11_thrown 461 v7) : Int32) = ((fL_signalsOf 448 (xs (i + 1 : Int32).toNatClampNeg) 468 v x).1) then (if (((fL_signalsOf 448 (xs (i + 1 : Int32).toNatClampNeg) 468 v x).1) : Int32) = 0 then (if ((lg_cmp (x5.1 468 (0 : Int32).toNatClampNeg) (((fX11_signalsOf 461 (xs (i + 1 : Int32).toNatClampNeg) v4).1 : Int32).toInt64)) : Int32) = 0 then ((v7, x5)) else ((v7, x5))) else ((v7, x5))) else ((v7, x5))
def olc_53 (i : Int32) (xs : Nat → Int32) (v : vSt) (x : gX) (c0 c1 : Nat) : Prop := (oL_signalsOf 448 (xs (i + 1 : Int32).toNatClampNeg) 468 v x) ∧ ((c0 ≤ 601024) ∧ ((c0 + 6 ≤ 601024) ∧ (∀ v4 : vSt, v4 = ((fL_signalsOf 448 (xs (i + 1 : Int32).toNatClampNeg) 468 v x).2.1) → (∀ x5 : gX, x5 = ((fL_signalsOf 448 (xs (i + 1 : Int32).toNatClampNeg) 468 v x).2.2) → ((oX11_signalsOf 461 (xs (i + 1 : Int32).toNatClampNeg) v4) ∧ (∀ v7 : vSt, v7 = ((fX11_signalsOf 461 (xs (i + 1 : Int32).toNatClampNeg) v4).2) → (((((fX11_thrown 461 v7) : Int32) = ((fL_signalsOf 448 (xs (i + 1 : Int32).toNatClampNeg) 468 v x).1)) → ((((((fL_signalsOf 448 (xs (i + 1 : Int32).toNatClampNeg) 468 v x).1) : Int32) = 0) → (((((lg_cmp (x5.1 468 (0 : Int32).toNatClampNeg) (((fX11_signalsOf 461 (xs (i + 1 : Int32).toNatClampNeg) v4).1 : Int32).toInt64)) : Int32) = 0) → ((c0 + 6) ≤ c1)) ∧ (¬ (((lg_cmp (x5.1 468 (0 : Int32).toNatClampNeg) (((fX11_signalsOf 461 (xs (i + 1 : Int32).toNatClampNeg) v4).1 : Int32).toInt64)) : Int32) = 0) → False))) ∧ (¬ ((((fL_signalsOf 448 (xs (i + 1 : Int32).toNatClampNeg) 468 v x).1) : Int32) = 0) → ((c0 + 6) ≤ c1)))) ∧ (¬ (((fX11_thrown 461 v7) : Int32) = ((fL_signalsOf 448 (xs (i + 1 : Int32).toNatClampNeg) 468 v x).1)) → False))))))))
def flc_54 (i : Int32) (xs : Nat → Int32) (v : vSt) (x : gX) : vSt × gX := let v4 : vSt := (fL_middleOf 448 (xs (i + 1 : Int32).toNatClampNeg) 468 v x).2.1; let x5 : gX := (fL_middleOf 448 (xs (i + 1 : Int32).toNatClampNeg) 468 v x).2.2; let v7 : vSt := (fX11_middleOf 461 (xs (i + 1 : Int32).toNatClampNeg) v4).2; if ((fX11_thrown 461 v7) : Int32) = ((fL_middleOf 448 (xs (i + 1 : Int32).toNatClampNeg) 468 v x).1) then (if (((fL_middleOf 448 (xs (i + 1 : Int32).toNatClampNeg) 468 v x).1) : Int32) = 0 then (if ((lg_cmp (x5.1 468 (0 : Int32).toNatClampNeg) (((fX11_middleOf 461 (xs (i + 1 : Int32).toNatClampNeg) v4).1 : Int32).toInt64)) : Int32) = 0 then ((v7, x5)) else ((v7, x5))) else ((v7, x5))) else ((v7, x5))
def olc_54 (i : Int32) (xs : Nat → Int32) (v : vSt) (x : gX) (c0 c1 : Nat) : Prop := (oL_middleOf 448 (xs (i + 1 : Int32).toNatClampNeg) 468 v x) ∧ ((c0 ≤ 601024) ∧ ((c0 + kkL_middleOf 448 (xs (i + 1 : Int32).toNatClampNeg) 468 v x ≤ 601024) ∧ (∀ v4 : vSt, v4 = ((fL_middleOf 448 (xs (i + 1 : Int32).toNatClampNeg) 468 v x).2.1) → (∀ x5 : gX, x5 = ((fL_middleOf 448 (xs (i + 1 : Int32).toNatClampNeg) 468 v x).2.2) → ((oX11_middleOf 461 (xs (i + 1 : Int32).toNatClampNeg) v4) ∧ (∀ v7 : vSt, v7 = ((fX11_middleOf 461 (xs (i + 1 : Int32).toNatClampNeg) v4).2) → (((((fX11_thrown 461 v7) : Int32) = ((fL_middleOf 448 (xs (i + 1 : Int32).toNatClampNeg) 468 v x).1)) → ((((((fL_middleOf 448 (xs (i + 1 : Int32).toNatClampNeg) 468 v x).1) : Int32) = 0) → (((((lg_cmp (x5.1 468 (0 : Int32).toNatClampNeg) (((fX11_middleOf 461 (xs (i + 1 : Int32).toNatClampNeg) v4).1 : Int32).toInt64)) : Int32) = 0) → ((c0 + kkL_middleOf 448 (xs (i + 1 : Int32).toNatClampNeg) 468 v x) ≤ c1)) ∧ (¬ (((lg_cmp (x5.1 468 (0 : Int32).toNatClampNeg) (((fX11_middleOf 461 (xs (i + 1 : Int32).toNatClampNeg) v4).1 : Int32).toInt64)) : Int32) = 0) → False))) ∧ (¬ ((((fL_middleOf 448 (xs (i + 1 : Int32).toNatClampNeg) 468 v x).1) : Int32) = 0) → ((c0 + kkL_middleOf 448 (xs (i + 1 : Int32).toNatClampNeg) 468 v x) ≤ c1)))) ∧ (¬ (((fX11_thrown 461 v7) : Int32) = ((fL_middleOf 448 (xs (i + 1 : Int32).toNatClampNeg) 468 v x).1)) → False))))))))
def flc_55 (i : Int32) (xs : Nat → Int32) (v : vSt) (x : gX) : vSt × gX := let v4 : vSt := (fL_middleByTaking 448 (xs (i + 1 : Int32).toNatClampNeg) 468 v x).2.1; let x5 : gX := (fL_middleByTaking 448 (xs (i + 1 : Int32).toNatClampNeg) 468 v x).2.2; let v7 : vSt := (fX11_middleByTaking 461 (xs (i + 1 : Int32).toNatClampNeg) v4).2; if ((fX11_thrown 461 v7) : Int32) = ((fL_middleByTaking 448 (xs (i + 1 : Int32).toNatClampNeg) 468 v x).1) then (if (((fL_middleByTaking 448 (xs (i + 1 : Int32).toNatClampNeg) 468 v x).1) : Int32) = 0 then (if ((lg_cmp (x5.1 468 (0 : Int32).toNatClampNeg) (((fX11_middleByTaking 461 (xs (i + 1 : Int32).toNatClampNeg) v4).1 : Int32).toInt64)) : Int32) = 0 then ((v7, x5)) else ((v7, x5))) else ((v7, x5))) else ((v7, x5))
def olc_55 (i : Int32) (xs : Nat → Int32) (v : vSt) (x : gX) (c0 c1 : Nat) : Prop := (oL_middleByTaking 448 (xs (i + 1 : Int32).toNatClampNeg) 468 v x) ∧ ((c0 ≤ 601024) ∧ ((c0 + kkL_middleByTaking 448 (xs (i + 1 : Int32).toNatClampNeg) 468 v x ≤ 601024) ∧ (∀ v4 : vSt, v4 = ((fL_middleByTaking 448 (xs (i + 1 : Int32).toNatClampNeg) 468 v x).2.1) → (∀ x5 : gX, x5 = ((fL_middleByTaking 448 (xs (i + 1 : Int32).toNatClampNeg) 468 v x).2.2) → ((oX11_middleByTaking 461 (xs (i + 1 : Int32).toNatClampNeg) v4) ∧ (∀ v7 : vSt, v7 = ((fX11_middleByTaking 461 (xs (i + 1 : Int32).toNatClampNeg) v4).2) → (((((fX11_thrown 461 v7) : Int32) = ((fL_middleByTaking 448 (xs (i + 1 : Int32).toNatClampNeg) 468 v x).1)) → ((((((fL_middleByTaking 448 (xs (i + 1 : Int32).toNatClampNeg) 468 v x).1) : Int32) = 0) → (((((lg_cmp (x5.1 468 (0 : Int32).toNatClampNeg) (((fX11_middleByTaking 461 (xs (i + 1 : Int32).toNatClampNeg) v4).1 : Int32).toInt64)) : Int32) = 0) → ((c0 + kkL_middleByTaking 448 (xs (i + 1 : Int32).toNatClampNeg) 468 v x) ≤ c1)) ∧ (¬ (((lg_cmp (x5.1 468 (0 : Int32).toNatClampNeg) (((fX11_middleByTaking 461 (xs (i + 1 : Int32).toNatClampNeg) v4).1 : Int32).toInt64)) : Int32) = 0) → False))) ∧ (¬ ((((fL_middleByTaking 448 (xs (i + 1 : Int32).toNatClampNeg) 468 v x).1) : Int32) = 0) → ((c0 + kkL_middleByTaking 448 (xs (i + 1 : Int32).toNatClampNeg) 468 v x) ≤ c1)))) ∧ (¬ (((fX11_thrown 461 v7) : Int32) = ((fL_middleByTaking 448 (xs (i + 1 : Int32).toNatClampNeg) 468 v x).1)) → False))))))))
def flc_56 (i : Int32) (xs : Nat → Int32) (v : vSt) (x : gX) : vSt × gX := let v4 : vSt := (fL_spreadOf 448 (xs (i + 1 : Int32).toNatClampNeg) 468 v x).2.1; let x5 : gX := (fL_spreadOf 448 (xs (i + 1 : Int32).toNatClampNeg) 468 v x).2.2; let v7 : vSt := (fX11_spreadOf 461 (xs (i + 1 : Int32).toNatClampNeg) v4).2; if ((fX11_thrown 461 v7) : Int32) = ((fL_spreadOf 448 (xs (i + 1 : Int32).toNatClampNeg) 468 v x).1) then (if (((fL_spreadOf 448 (xs (i + 1 : Int32).toNatClampNeg) 468 v x).1) : Int32) = 0 then (if ((lg_cmp (x5.1 468 (0 : Int32).toNatClampNeg) (((fX11_spreadOf 461 (xs (i + 1 : Int32).toNatClampNeg) v4).1 : Int32).toInt64)) : Int32) = 0 then ((v7, x5)) else ((v7, x5))) else ((v7, x5))) else ((v7, x5))
def olc_56 (i : Int32) (xs : Nat → Int32) (v : vSt) (x : gX) (c0 c1 : Nat) : Prop := (oL_spreadOf 448 (xs (i + 1 : Int32).toNatClampNeg) 468 v x) ∧ ((c0 ≤ 601024) ∧ ((c0 + 12 ≤ 601024) ∧ (∀ v4 : vSt, v4 = ((fL_spreadOf 448 (xs (i + 1 : Int32).toNatClampNeg) 468 v x).2.1) → (∀ x5 : gX, x5 = ((fL_spreadOf 448 (xs (i + 1 : Int32).toNatClampNeg) 468 v x).2.2) → ((oX11_spreadOf 461 (xs (i + 1 : Int32).toNatClampNeg) v4) ∧ (∀ v7 : vSt, v7 = ((fX11_spreadOf 461 (xs (i + 1 : Int32).toNatClampNeg) v4).2) → (((((fX11_thrown 461 v7) : Int32) = ((fL_spreadOf 448 (xs (i + 1 : Int32).toNatClampNeg) 468 v x).1)) → ((((((fL_spreadOf 448 (xs (i + 1 : Int32).toNatClampNeg) 468 v x).1) : Int32) = 0) → (((((lg_cmp (x5.1 468 (0 : Int32).toNatClampNeg) (((fX11_spreadOf 461 (xs (i + 1 : Int32).toNatClampNeg) v4).1 : Int32).toInt64)) : Int32) = 0) → ((c0 + 12) ≤ c1)) ∧ (¬ (((lg_cmp (x5.1 468 (0 : Int32).toNatClampNeg) (((fX11_spreadOf 461 (xs (i + 1 : Int32).toNatClampNeg) v4).1 : Int32).toInt64)) : Int32) = 0) → False))) ∧ (¬ ((((fL_spreadOf 448 (xs (i + 1 : Int32).toNatClampNeg) 468 v x).1) : Int32) = 0) → ((c0 + 12) ≤ c1)))) ∧ (¬ (((fX11_thrown 461 v7) : Int32) = ((fL_spreadOf 448 (xs (i + 1 : Int32).toNatClampNeg) 468 v x).1)) → False))))))))
def flc_57 (i : Int32) (xs : Nat → Int32) (v : vSt) (x : gX) : vSt × gX := let v4 : vSt := (fL_meanOf 448 (xs (i + 1 : Int32).toNatClampNeg) 469 v x).2.1; let x5 : gX := (fL_meanOf 448 (xs (i + 1 : Int32).toNatClampNeg) 469 v x).2.2; let v7 : vSt := (fX11_meanOf 461 (xs (i + 1 : Int32).toNatClampNeg) v4).2; if ((fX11_thrown 461 v7) : Int32) = ((fL_meanOf 448 (xs (i + 1 : Int32).toNatClampNeg) 469 v x).1) then (if (((fL_meanOf 448 (xs (i + 1 : Int32).toNatClampNeg) 469 v x).1) : Int32) = 0 then (if ((Op.cmpValue (FP.dcmp (x5.2 (0 : Int32).toNatClampNeg) (FP.f2d ((fX11_meanOf 461 (xs (i + 1 : Int32).toNatClampNeg) v4).1))) .l) : Int32) = 0 then ((v7, x5)) else ((v7, x5))) else ((v7, x5))) else ((v7, x5))
def olc_57 (i : Int32) (xs : Nat → Int32) (v : vSt) (x : gX) (c0 c1 : Nat) : Prop := (oL_meanOf 448 (xs (i + 1 : Int32).toNatClampNeg) 469 v x) ∧ ((c0 ≤ 601024) ∧ ((c0 + 12 ≤ 601024) ∧ (∀ v4 : vSt, v4 = ((fL_meanOf 448 (xs (i + 1 : Int32).toNatClampNeg) 469 v x).2.1) → (∀ x5 : gX, x5 = ((fL_meanOf 448 (xs (i + 1 : Int32).toNatClampNeg) 469 v x).2.2) → ((oX11_meanOf 461 (xs (i + 1 : Int32).toNatClampNeg) v4) ∧ (∀ v7 : vSt, v7 = ((fX11_meanOf 461 (xs (i + 1 : Int32).toNatClampNeg) v4).2) → (((((fX11_thrown 461 v7) : Int32) = ((fL_meanOf 448 (xs (i + 1 : Int32).toNatClampNeg) 469 v x).1)) → ((((((fL_meanOf 448 (xs (i + 1 : Int32).toNatClampNeg) 469 v x).1) : Int32) = 0) → ((vf_n64 (FP.f2d ((fX11_meanOf 461 (xs (i + 1 : Int32).toNatClampNeg) v4).1))) ∧ (((((Op.cmpValue (FP.dcmp (x5.2 (0 : Int32).toNatClampNeg) (FP.f2d ((fX11_meanOf 461 (xs (i + 1 : Int32).toNatClampNeg) v4).1))) .l) : Int32) = 0) → ((c0 + 12) ≤ c1)) ∧ (¬ (((Op.cmpValue (FP.dcmp (x5.2 (0 : Int32).toNatClampNeg) (FP.f2d ((fX11_meanOf 461 (xs (i + 1 : Int32).toNatClampNeg) v4).1))) .l) : Int32) = 0) → False)))) ∧ (¬ ((((fL_meanOf 448 (xs (i + 1 : Int32).toNatClampNeg) 469 v x).1) : Int32) = 0) → ((c0 + 12) ≤ c1)))) ∧ (¬ (((fX11_thrown 461 v7) : Int32) = ((fL_meanOf 448 (xs (i + 1 : Int32).toNatClampNeg) 469 v x).1)) → False))))))))
def flc_58 (i : Int32) (xs : Nat → Int32) (v : vSt) (x : gX) : vSt × gX := let v4 : vSt := (fX11_days 461 v).2; if ((fX10_days 448 v) : Int32) = ((fX11_days 461 v).1) then ((v4, x)) else ((v4, x))
def olc_58 (i : Int32) (xs : Nat → Int32) (v : vSt) (x : gX) (c0 c1 : Nat) : Prop := (oX10_days 448 v) ∧ ((c0 ≤ 601024) ∧ ((oX11_days 461 v) ∧ (∀ v4 : vSt, v4 = ((fX11_days 461 v).2) → (((((fX10_days 448 v) : Int32) = ((fX11_days 461 v).1)) → (c0 ≤ c1)) ∧ (¬ (((fX10_days 448 v) : Int32) = ((fX11_days 461 v).1)) → False)))))
def flc_59 (i : Int32) (xs : Nat → Int32) (v : vSt) (x : gX) : vSt × gX := let v4 : vSt := (fX11_brought 461 v).2; if ((fX10_brought 448 v) : Int32) = ((fX11_brought 461 v).1) then ((v4, x)) else ((v4, x))
def olc_59 (i : Int32) (xs : Nat → Int32) (v : vSt) (x : gX) (c0 c1 : Nat) : Prop := (oX10_brought 448 v) ∧ ((c0 ≤ 601024) ∧ ((oX11_brought 461 v) ∧ (∀ v4 : vSt, v4 = ((fX11_brought 461 v).2) → (((((fX10_brought 448 v) : Int32) = ((fX11_brought 461 v).1)) → (c0 ≤ c1)) ∧ (¬ (((fX10_brought 448 v) : Int32) = ((fX11_brought 461 v).1)) → False)))))
def flc_60 (i : Int32) (xs : Nat → Int32) (v : vSt) (x : gX) : vSt × gX := let v4 : vSt := (fX11_broughtByPlaces 461 v).2; if ((fX10_broughtByPlaces 448 v) : Int32) = ((fX11_broughtByPlaces 461 v).1) then ((v4, x)) else ((v4, x))
def olc_60 (i : Int32) (xs : Nat → Int32) (v : vSt) (x : gX) (c0 c1 : Nat) : Prop := (oX10_broughtByPlaces 448 v) ∧ ((c0 ≤ 601024) ∧ ((oX11_broughtByPlaces 461 v) ∧ (∀ v4 : vSt, v4 = ((fX11_broughtByPlaces 461 v).2) → (((((fX10_broughtByPlaces 448 v) : Int32) = ((fX11_broughtByPlaces 461 v).1)) → (c0 ≤ c1)) ∧ (¬ (((fX10_broughtByPlaces 448 v) : Int32) = ((fX11_broughtByPlaces 461 v).1)) → False)))))
def flc_61 (i : Int32) (xs : Nat → Int32) (v : vSt) (x : gX) : vSt × gX := let v4 : vSt := (fX11_good 461 v).2; if ((fX10_good 448 v) : Int32) = ((fX11_good 461 v).1) then ((v4, x)) else ((v4, x))
def olc_61 (i : Int32) (xs : Nat → Int32) (v : vSt) (x : gX) (c0 c1 : Nat) : Prop := (oX10_good 448 v) ∧ ((c0 ≤ 601024) ∧ ((oX11_good 461 v) ∧ (∀ v4 : vSt, v4 = ((fX11_good 461 v).2) → (((((fX10_good 448 v) : Int32) = ((fX11_good 461 v).1)) → (c0 ≤ c1)) ∧ (¬ (((fX10_good 448 v) : Int32) = ((fX11_good 461 v).1)) → False)))))
def flc_62 (i : Int32) (xs : Nat → Int32) (v : vSt) (x : gX) : vSt × gX := let v4 : vSt := (fX11_thrownAway 461 v).2; if ((fX10_thrownAway 448 v) : Int32) = ((fX11_thrownAway 461 v).1) then ((v4, x)) else ((v4, x))
def olc_62 (i : Int32) (xs : Nat → Int32) (v : vSt) (x : gX) (c0 c1 : Nat) : Prop := (oX10_thrownAway 448 v) ∧ ((c0 ≤ 601024) ∧ ((oX11_thrownAway 461 v) ∧ (∀ v4 : vSt, v4 = ((fX11_thrownAway 461 v).2) → (((((fX10_thrownAway 448 v) : Int32) = ((fX11_thrownAway 461 v).1)) → (c0 ≤ c1)) ∧ (¬ (((fX10_thrownAway 448 v) : Int32) = ((fX11_thrownAway 461 v).1)) → False)))))
def flc_63 (i : Int32) (xs : Nat → Int32) (v : vSt) (x : gX) : vSt × gX := let v4 : vSt := (fX11_unseen 461 v).2; if ((fX10_unseen 448 v) : Int32) = ((fX11_unseen 461 v).1) then ((v4, x)) else ((v4, x))
def olc_63 (i : Int32) (xs : Nat → Int32) (v : vSt) (x : gX) (c0 c1 : Nat) : Prop := (oX10_unseen 448 v) ∧ ((c0 ≤ 601024) ∧ ((oX11_unseen 461 v) ∧ (∀ v4 : vSt, v4 = ((fX11_unseen 461 v).2) → (((((fX10_unseen 448 v) : Int32) = ((fX11_unseen 461 v).1)) → (c0 ≤ c1)) ∧ (¬ (((fX10_unseen 448 v) : Int32) = ((fX11_unseen 461 v).1)) → False)))))
def flc_64 (i : Int32) (xs : Nat → Int32) (v : vSt) (x : gX) : vSt × gX := let v4 : vSt := (fX11_doubts 461 v).2; if ((fX10_doubts 448 v) : Int32) = ((fX11_doubts 461 v).1) then ((v4, x)) else ((v4, x))
def olc_64 (i : Int32) (xs : Nat → Int32) (v : vSt) (x : gX) (c0 c1 : Nat) : Prop := (oX10_doubts 448 v) ∧ ((c0 ≤ 601024) ∧ ((oX11_doubts 461 v) ∧ (∀ v4 : vSt, v4 = ((fX11_doubts 461 v).2) → (((((fX10_doubts 448 v) : Int32) = ((fX11_doubts 461 v).1)) → (c0 ≤ c1)) ∧ (¬ (((fX10_doubts 448 v) : Int32) = ((fX11_doubts 461 v).1)) → False)))))
def flc_65 (i : Int32) (xs : Nat → Int32) (v : vSt) (x : gX) : vSt × gX := let v4 : vSt := (fL_goodShare 448 469 v x).2.1; let x5 : gX := (fL_goodShare 448 469 v x).2.2; let v7 : vSt := (fX11_goodShare 461 v4).2; if ((fX11_thrown 461 v7) : Int32) = ((fL_goodShare 448 469 v x).1) then (if (((fL_goodShare 448 469 v x).1) : Int32) = 0 then (if ((Op.cmpValue (FP.dcmp (x5.2 (0 : Int32).toNatClampNeg) (FP.f2d ((fX11_goodShare 461 v4).1))) .l) : Int32) = 0 then ((v7, x5)) else ((v7, x5))) else ((v7, x5))) else ((v7, x5))
def olc_65 (i : Int32) (xs : Nat → Int32) (v : vSt) (x : gX) (c0 c1 : Nat) : Prop := (oL_goodShare 448 469 v x) ∧ ((c0 ≤ 601024) ∧ ((c0 + 6 ≤ 601024) ∧ (∀ v4 : vSt, v4 = ((fL_goodShare 448 469 v x).2.1) → (∀ x5 : gX, x5 = ((fL_goodShare 448 469 v x).2.2) → ((oX11_goodShare 461 v4) ∧ (∀ v7 : vSt, v7 = ((fX11_goodShare 461 v4).2) → (((((fX11_thrown 461 v7) : Int32) = ((fL_goodShare 448 469 v x).1)) → ((((((fL_goodShare 448 469 v x).1) : Int32) = 0) → ((vf_n64 (FP.f2d ((fX11_goodShare 461 v4).1))) ∧ (((((Op.cmpValue (FP.dcmp (x5.2 (0 : Int32).toNatClampNeg) (FP.f2d ((fX11_goodShare 461 v4).1))) .l) : Int32) = 0) → ((c0 + 6) ≤ c1)) ∧ (¬ (((Op.cmpValue (FP.dcmp (x5.2 (0 : Int32).toNatClampNeg) (FP.f2d ((fX11_goodShare 461 v4).1))) .l) : Int32) = 0) → False)))) ∧ (¬ ((((fL_goodShare 448 469 v x).1) : Int32) = 0) → ((c0 + 6) ≤ c1)))) ∧ (¬ (((fX11_thrown 461 v7) : Int32) = ((fL_goodShare 448 469 v x).1)) → False))))))))
def flc_66 (i : Int32) (xs : Nat → Int32) (v : vSt) (x : gX) : vSt × gX := let v4 : vSt := (fX10_keep 448 v).2; let v6 : vSt := (fX11_keep 461 v4).2; if (((fX10_keep 448 v).1) : Int32) = ((fX11_keep 461 v4).1) then ((v6, x)) else ((v6, x))
def olc_66 (i : Int32) (xs : Nat → Int32) (v : vSt) (x : gX) (c0 c1 : Nat) : Prop := (oX10_keep 448 v) ∧ ((c0 ≤ 601024) ∧ ((c0 + kkX10_keep 448 v ≤ 601024) ∧ (∀ v4 : vSt, v4 = ((fX10_keep 448 v).2) → ((oX11_keep 461 v4) ∧ (∀ v6 : vSt, v6 = ((fX11_keep 461 v4).2) → ((((((fX10_keep 448 v).1) : Int32) = ((fX11_keep 461 v4).1)) → ((c0 + kkX10_keep 448 v) ≤ c1)) ∧ (¬ ((((fX10_keep 448 v).1) : Int32) = ((fX11_keep 461 v4).1)) → False)))))))
def flc_67 (i : Int32) (xs : Nat → Int32) (v : vSt) (x : gX) : vSt × gX := let v4 : vSt := (fL_goBack 448 468 v x).2.1; let x5 : gX := (fL_goBack 448 468 v x).2.2; let v7 : vSt := (fX11_goBack 461 v4).2; if ((fX11_thrown 461 v7) : Int32) = ((fL_goBack 448 468 v x).1) then (if (((fL_goBack 448 468 v x).1) : Int32) = 0 then (if ((lg_cmp (x5.1 468 (0 : Int32).toNatClampNeg) (((fX11_goBack 461 v4).1 : Int32).toInt64)) : Int32) = 0 then ((v7, x5)) else ((v7, x5))) else ((v7, x5))) else ((v7, x5))
def olc_67 (i : Int32) (xs : Nat → Int32) (v : vSt) (x : gX) (c0 c1 : Nat) : Prop := (oL_goBack 448 468 v x) ∧ ((c0 ≤ 601024) ∧ ((c0 + kkL_goBack 448 468 v x ≤ 601024) ∧ (∀ v4 : vSt, v4 = ((fL_goBack 448 468 v x).2.1) → (∀ x5 : gX, x5 = ((fL_goBack 448 468 v x).2.2) → ((oX11_goBack 461 v4) ∧ (∀ v7 : vSt, v7 = ((fX11_goBack 461 v4).2) → (((((fX11_thrown 461 v7) : Int32) = ((fL_goBack 448 468 v x).1)) → ((((((fL_goBack 448 468 v x).1) : Int32) = 0) → (((((lg_cmp (x5.1 468 (0 : Int32).toNatClampNeg) (((fX11_goBack 461 v4).1 : Int32).toInt64)) : Int32) = 0) → ((c0 + kkL_goBack 448 468 v x) ≤ c1)) ∧ (¬ (((lg_cmp (x5.1 468 (0 : Int32).toNatClampNeg) (((fX11_goBack 461 v4).1 : Int32).toInt64)) : Int32) = 0) → False))) ∧ (¬ ((((fL_goBack 448 468 v x).1) : Int32) = 0) → ((c0 + kkL_goBack 448 468 v x) ≤ c1)))) ∧ (¬ (((fX11_thrown 461 v7) : Int32) = ((fL_goBack 448 468 v x).1)) → False))))))))
def flc_68 (i : Int32) (xs : Nat → Int32) (v : vSt) (x : gX) : vSt × gX := let v2 : vSt := (fX11_states 461 v).2; if ((fX10_states 448 v) : Int32) = ((fX11_states 461 v).1) then ((v2, x)) else ((v2, x))
def olc_68 (i : Int32) (xs : Nat → Int32) (v : vSt) (x : gX) (c0 c1 : Nat) : Prop := (c0 ≤ 601024) ∧ (∀ v2 : vSt, v2 = ((fX11_states 461 v).2) → (((((fX10_states 448 v) : Int32) = ((fX11_states 461 v).1)) → (c0 ≤ c1)) ∧ (¬ (((fX10_states 448 v) : Int32) = ((fX11_states 461 v).1)) → False)))
def flc_69 (i : Int32) (xs : Nat → Int32) (v : vSt) (x : gX) : vSt × gX := let v4 : vSt := (fL_undo 448 468 v x).2.1; let x5 : gX := (fL_undo 448 468 v x).2.2; let v7 : vSt := (fX11_undo 461 v4).2; if ((fX11_thrown 461 v7) : Int32) = ((fL_undo 448 468 v x).1) then (if (((fL_undo 448 468 v x).1) : Int32) = 0 then (if ((lg_cmp (x5.1 468 (0 : Int32).toNatClampNeg) (((fX11_undo 461 v4).1 : Int32).toInt64)) : Int32) = 0 then ((v7, x5)) else ((v7, x5))) else ((v7, x5))) else ((v7, x5))
def olc_69 (i : Int32) (xs : Nat → Int32) (v : vSt) (x : gX) (c0 c1 : Nat) : Prop := (oL_undo 448 468 v x) ∧ ((c0 ≤ 601024) ∧ ((c0 + kkL_undo 448 468 v x ≤ 601024) ∧ (∀ v4 : vSt, v4 = ((fL_undo 448 468 v x).2.1) → (∀ x5 : gX, x5 = ((fL_undo 448 468 v x).2.2) → ((oX11_undo 461 v4) ∧ (∀ v7 : vSt, v7 = ((fX11_undo 461 v4).2) → (((((fX11_thrown 461 v7) : Int32) = ((fL_undo 448 468 v x).1)) → ((((((fL_undo 448 468 v x).1) : Int32) = 0) → (((((lg_cmp (x5.1 468 (0 : Int32).toNatClampNeg) (((fX11_undo 461 v4).1 : Int32).toInt64)) : Int32) = 0) → ((c0 + kkL_undo 448 468 v x) ≤ c1)) ∧ (¬ (((lg_cmp (x5.1 468 (0 : Int32).toNatClampNeg) (((fX11_undo 461 v4).1 : Int32).toInt64)) : Int32) = 0) → False))) ∧ (¬ ((((fL_undo 448 468 v x).1) : Int32) = 0) → ((c0 + kkL_undo 448 468 v x) ≤ c1)))) ∧ (¬ (((fX11_thrown 461 v7) : Int32) = ((fL_undo 448 468 v x).1)) → False))))))))
def flc_70 (i : Int32) (xs : Nat → Int32) (v : vSt) (x : gX) : vSt × gX := let v4 : vSt := (fL_type 448 (xs (i + 1 : Int32).toNatClampNeg) 468 v x).2.1; let x5 : gX := (fL_type 448 (xs (i + 1 : Int32).toNatClampNeg) 468 v x).2.2; let v7 : vSt := (fX11_type 461 (xs (i + 1 : Int32).toNatClampNeg) v4).2; if ((fX11_thrown 461 v7) : Int32) = ((fL_type 448 (xs (i + 1 : Int32).toNatClampNeg) 468 v x).1) then (if (((fL_type 448 (xs (i + 1 : Int32).toNatClampNeg) 468 v x).1) : Int32) = 0 then (if ((lg_cmp (x5.1 468 (0 : Int32).toNatClampNeg) (((fX11_type 461 (xs (i + 1 : Int32).toNatClampNeg) v4).1 : Int32).toInt64)) : Int32) = 0 then ((v7, x5)) else ((v7, x5))) else ((v7, x5))) else ((v7, x5))
def olc_70 (i : Int32) (xs : Nat → Int32) (v : vSt) (x : gX) (c0 c1 : Nat) : Prop := (oL_type 448 (xs (i + 1 : Int32).toNatClampNeg) 468 v x) ∧ ((c0 ≤ 601024) ∧ ((c0 + kkL_type 448 (xs (i + 1 : Int32).toNatClampNeg) 468 v x ≤ 601024) ∧ (∀ v4 : vSt, v4 = ((fL_type 448 (xs (i + 1 : Int32).toNatClampNeg) 468 v x).2.1) → (∀ x5 : gX, x5 = ((fL_type 448 (xs (i + 1 : Int32).toNatClampNeg) 468 v x).2.2) → ((oX11_type 461 (xs (i + 1 : Int32).toNatClampNeg) v4) ∧ (∀ v7 : vSt, v7 = ((fX11_type 461 (xs (i + 1 : Int32).toNatClampNeg) v4).2) → (((((fX11_thrown 461 v7) : Int32) = ((fL_type 448 (xs (i + 1 : Int32).toNatClampNeg) 468 v x).1)) → ((((((fL_type 448 (xs (i + 1 : Int32).toNatClampNeg) 468 v x).1) : Int32) = 0) → (((((lg_cmp (x5.1 468 (0 : Int32).toNatClampNeg) (((fX11_type 461 (xs (i + 1 : Int32).toNatClampNeg) v4).1 : Int32).toInt64)) : Int32) = 0) → ((c0 + kkL_type 448 (xs (i + 1 : Int32).toNatClampNeg) 468 v x) ≤ c1)) ∧ (¬ (((lg_cmp (x5.1 468 (0 : Int32).toNatClampNeg) (((fX11_type 461 (xs (i + 1 : Int32).toNatClampNeg) v4).1 : Int32).toInt64)) : Int32) = 0) → False))) ∧ (¬ ((((fL_type 448 (xs (i + 1 : Int32).toNatClampNeg) 468 v x).1) : Int32) = 0) → ((c0 + kkL_type 448 (xs (i + 1 : Int32).toNatClampNeg) 468 v x) ≤ c1)))) ∧ (¬ (((fX11_thrown 461 v7) : Int32) = ((fL_type 448 (xs (i + 1 : Int32).toNatClampNeg) 468 v x).1)) → False))))))))
def flc_71 (i : Int32) (xs : Nat → Int32) (v : vSt) (x : gX) : vSt × gX := let v2 : vSt := (fX10_clearText 448 v).2; let v3 : vSt := (fX11_clearText 461 v2).2; if (((fX10_clearText 448 v).1) : Int32) = ((fX11_clearText 461 v2).1) then ((v3, x)) else ((v3, x))
def olc_71 (i : Int32) (xs : Nat → Int32) (v : vSt) (x : gX) (c0 c1 : Nat) : Prop := (c0 ≤ 601024) ∧ (∀ v2 : vSt, v2 = ((fX10_clearText 448 v).2) → (∀ v3 : vSt, v3 = ((fX11_clearText 461 v2).2) → ((((((fX10_clearText 448 v).1) : Int32) = ((fX11_clearText 461 v2).1)) → (c0 ≤ c1)) ∧ (¬ ((((fX10_clearText 448 v).1) : Int32) = ((fX11_clearText 461 v2).1)) → False))))
def flc_72 (i : Int32) (xs : Nat → Int32) (v : vSt) (x : gX) : vSt × gX := let v4 : vSt := (fL_faultPosition 448 468 v x).2.1; let x5 : gX := (fL_faultPosition 448 468 v x).2.2; let v7 : vSt := (fX11_faultPosition 461 v4).2; if ((fX11_thrown 461 v7) : Int32) = ((fL_faultPosition 448 468 v x).1) then (if (((fL_faultPosition 448 468 v x).1) : Int32) = 0 then (if ((lg_cmp (x5.1 468 (0 : Int32).toNatClampNeg) (((fX11_faultPosition 461 v4).1 : Int32).toInt64)) : Int32) = 0 then ((v7, x5)) else ((v7, x5))) else ((v7, x5))) else ((v7, x5))
def olc_72 (i : Int32) (xs : Nat → Int32) (v : vSt) (x : gX) (c0 c1 : Nat) : Prop := (oL_faultPosition 448 468 v x) ∧ ((c0 ≤ 601024) ∧ ((c0 + kkL_faultPosition 448 468 v x ≤ 601024) ∧ (∀ v4 : vSt, v4 = ((fL_faultPosition 448 468 v x).2.1) → (∀ x5 : gX, x5 = ((fL_faultPosition 448 468 v x).2.2) → ((oX11_faultPosition 461 v4) ∧ (∀ v7 : vSt, v7 = ((fX11_faultPosition 461 v4).2) → (((((fX11_thrown 461 v7) : Int32) = ((fL_faultPosition 448 468 v x).1)) → ((((((fL_faultPosition 448 468 v x).1) : Int32) = 0) → (((((lg_cmp (x5.1 468 (0 : Int32).toNatClampNeg) (((fX11_faultPosition 461 v4).1 : Int32).toInt64)) : Int32) = 0) → ((c0 + kkL_faultPosition 448 468 v x) ≤ c1)) ∧ (¬ (((lg_cmp (x5.1 468 (0 : Int32).toNatClampNeg) (((fX11_faultPosition 461 v4).1 : Int32).toInt64)) : Int32) = 0) → False))) ∧ (¬ ((((fL_faultPosition 448 468 v x).1) : Int32) = 0) → ((c0 + kkL_faultPosition 448 468 v x) ≤ c1)))) ∧ (¬ (((fX11_thrown 461 v7) : Int32) = ((fL_faultPosition 448 468 v x).1)) → False))))))))
def flc_73 (i : Int32) (xs : Nat → Int32) (v : vSt) (x : gX) : vSt × gX := let v4 : vSt := (fL_faultReason 448 468 v x).2.1; let x5 : gX := (fL_faultReason 448 468 v x).2.2; let v7 : vSt := (fX11_faultReason 461 v4).2; if ((fX11_thrown 461 v7) : Int32) = ((fL_faultReason 448 468 v x).1) then (if (((fL_faultReason 448 468 v x).1) : Int32) = 0 then (if ((lg_cmp (x5.1 468 (0 : Int32).toNatClampNeg) (((fX11_faultReason 461 v4).1 : Int32).toInt64)) : Int32) = 0 then ((v7, x5)) else ((v7, x5))) else ((v7, x5))) else ((v7, x5))
def olc_73 (i : Int32) (xs : Nat → Int32) (v : vSt) (x : gX) (c0 c1 : Nat) : Prop := (oL_faultReason 448 468 v x) ∧ ((c0 ≤ 601024) ∧ ((c0 + kkL_faultReason 448 468 v x ≤ 601024) ∧ (∀ v4 : vSt, v4 = ((fL_faultReason 448 468 v x).2.1) → (∀ x5 : gX, x5 = ((fL_faultReason 448 468 v x).2.2) → ((oX11_faultReason 461 v4) ∧ (∀ v7 : vSt, v7 = ((fX11_faultReason 461 v4).2) → (((((fX11_thrown 461 v7) : Int32) = ((fL_faultReason 448 468 v x).1)) → ((((((fL_faultReason 448 468 v x).1) : Int32) = 0) → (((((lg_cmp (x5.1 468 (0 : Int32).toNatClampNeg) (((fX11_faultReason 461 v4).1 : Int32).toInt64)) : Int32) = 0) → ((c0 + kkL_faultReason 448 468 v x) ≤ c1)) ∧ (¬ (((lg_cmp (x5.1 468 (0 : Int32).toNatClampNeg) (((fX11_faultReason 461 v4).1 : Int32).toInt64)) : Int32) = 0) → False))) ∧ (¬ ((((fL_faultReason 448 468 v x).1) : Int32) = 0) → ((c0 + kkL_faultReason 448 468 v x) ≤ c1)))) ∧ (¬ (((fX11_thrown 461 v7) : Int32) = ((fL_faultReason 448 468 v x).1)) → False))))))))
def flc_74 (i : Int32) (xs : Nat → Int32) (v : vSt) (x : gX) : vSt × gX := let v4 : vSt := (fL_faultCause 448 468 v x).2.1; let x5 : gX := (fL_faultCause 448 468 v x).2.2; let v7 : vSt := (fX11_faultCause 461 v4).2; if ((fX11_thrown 461 v7) : Int32) = ((fL_faultCause 448 468 v x).1) then (if (((fL_faultCause 448 468 v x).1) : Int32) = 0 then (if ((lg_cmp (x5.1 468 (0 : Int32).toNatClampNeg) (((fX11_faultCause 461 v4).1 : Int32).toInt64)) : Int32) = 0 then ((v7, x5)) else ((v7, x5))) else ((v7, x5))) else ((v7, x5))
def olc_74 (i : Int32) (xs : Nat → Int32) (v : vSt) (x : gX) (c0 c1 : Nat) : Prop := (oL_faultCause 448 468 v x) ∧ ((c0 ≤ 601024) ∧ ((c0 + kkL_faultCause 448 468 v x ≤ 601024) ∧ (∀ v4 : vSt, v4 = ((fL_faultCause 448 468 v x).2.1) → (∀ x5 : gX, x5 = ((fL_faultCause 448 468 v x).2.2) → ((oX11_faultCause 461 v4) ∧ (∀ v7 : vSt, v7 = ((fX11_faultCause 461 v4).2) → (((((fX11_thrown 461 v7) : Int32) = ((fL_faultCause 448 468 v x).1)) → ((((((fL_faultCause 448 468 v x).1) : Int32) = 0) → (((((lg_cmp (x5.1 468 (0 : Int32).toNatClampNeg) (((fX11_faultCause 461 v4).1 : Int32).toInt64)) : Int32) = 0) → ((c0 + kkL_faultCause 448 468 v x) ≤ c1)) ∧ (¬ (((lg_cmp (x5.1 468 (0 : Int32).toNatClampNeg) (((fX11_faultCause 461 v4).1 : Int32).toInt64)) : Int32) = 0) → False))) ∧ (¬ ((((fL_faultCause 448 468 v x).1) : Int32) = 0) → ((c0 + kkL_faultCause 448 468 v x) ≤ c1)))) ∧ (¬ (((fX11_thrown 461 v7) : Int32) = ((fL_faultCause 448 468 v x).1)) → False))))))))
def flc_75 (i : Int32) (xs : Nat → Int32) (v : vSt) (x : gX) : vSt × gX := let v4 : vSt := (fL_play 448 468 v x).2.1; let x5 : gX := (fL_play 448 468 v x).2.2; let v7 : vSt := (fX11_play 461 v4).2; if ((fX11_thrown 461 v7) : Int32) = ((fL_play 448 468 v x).1) then (if (((fL_play 448 468 v x).1) : Int32) = 0 then (if ((lg_cmp (x5.1 468 (0 : Int32).toNatClampNeg) (((fX11_play 461 v4).1 : Int32).toInt64)) : Int32) = 0 then ((v7, x5)) else ((v7, x5))) else ((v7, x5))) else ((v7, x5))
def olc_75 (i : Int32) (xs : Nat → Int32) (v : vSt) (x : gX) (c0 c1 : Nat) : Prop := (oL_play 448 468 v x) ∧ ((c0 ≤ 601024) ∧ ((c0 + kkL_play 448 468 v x ≤ 601024) ∧ (∀ v4 : vSt, v4 = ((fL_play 448 468 v x).2.1) → (∀ x5 : gX, x5 = ((fL_play 448 468 v x).2.2) → ((oX11_play 461 v4) ∧ (∀ v7 : vSt, v7 = ((fX11_play 461 v4).2) → (((((fX11_thrown 461 v7) : Int32) = ((fL_play 448 468 v x).1)) → ((((((fL_play 448 468 v x).1) : Int32) = 0) → (((((lg_cmp (x5.1 468 (0 : Int32).toNatClampNeg) (((fX11_play 461 v4).1 : Int32).toInt64)) : Int32) = 0) → ((c0 + kkL_play 448 468 v x) ≤ c1)) ∧ (¬ (((lg_cmp (x5.1 468 (0 : Int32).toNatClampNeg) (((fX11_play 461 v4).1 : Int32).toInt64)) : Int32) = 0) → False))) ∧ (¬ ((((fL_play 448 468 v x).1) : Int32) = 0) → ((c0 + kkL_play 448 468 v x) ≤ c1)))) ∧ (¬ (((fX11_thrown 461 v7) : Int32) = ((fL_play 448 468 v x).1)) → False))))))))
section T48d
variable {n m K c0 : Nat} {i : Int32} {xs : Nat → Int32} {v : vSt} {x : gX}
theorem fcw_52 : (flc_52 i xs v x).1 = (fX11_chartedAt 461 (xs (i + 1 : Int32).toNatClampNeg) (xs (i + 2 : Int32).toNatClampNeg) (fL_chartedAt 448 (xs (i + 1 : Int32).toNatClampNeg) (xs (i + 2 : Int32).toNatClampNeg) 468 v x).2.1).2 := by
  unfold flc_52
  dsimp only
  simp only [ite_self]
theorem cs_52 (hI : Inv n m v) (hn : n ≤ 511) (hK : K ≤ 268012) (hc : c0 ≤ K + pot v + 36 * n) : CS n K (olc_52 i xs v x c0) (flc_52 i xs v x).1 := by
  rw [fcw_52]
  unfold olc_52
  exact csQ (d := 12) (by decide) (LQ_chartedAt (p := (xs (i + 1 : Int32).toNatClampNeg)) (p2 := (xs (i + 2 : Int32).toNatClampNeg)) (x := x) hI) hn hK hc hI
theorem fcw_53 : (flc_53 i xs v x).1 = (fX11_signalsOf 461 (xs (i + 1 : Int32).toNatClampNeg) (fL_signalsOf 448 (xs (i + 1 : Int32).toNatClampNeg) 468 v x).2.1).2 := by
  unfold flc_53
  dsimp only
  simp only [ite_self]
theorem cs_53 (hI : Inv n m v) (hn : n ≤ 511) (hK : K ≤ 268012) (hc : c0 ≤ K + pot v + 36 * n) : CS n K (olc_53 i xs v x c0) (flc_53 i xs v x).1 := by
  rw [fcw_53]
  unfold olc_53
  exact csQ (d := 6) (by decide) (LQ_signalsOf (p := (xs (i + 1 : Int32).toNatClampNeg)) (x := x) hI) hn hK hc hI
theorem fcw_54 : (flc_54 i xs v x).1 = (fX11_middleOf 461 (xs (i + 1 : Int32).toNatClampNeg) (fL_middleOf 448 (xs (i + 1 : Int32).toNatClampNeg) 468 v x).2.1).2 := by
  unfold flc_54
  dsimp only
  simp only [ite_self]
theorem cs_54 (hI : Inv n m v) (hn : n ≤ 511) (hK : K ≤ 268012) (hc : c0 ≤ K + pot v + 36 * n) : CS n K (olc_54 i xs v x c0) (flc_54 i xs v x).1 := by
  rw [fcw_54]
  unfold olc_54
  exact csC (L0_middleOf (p := (xs (i + 1 : Int32).toNatClampNeg)) (x := x) hI) hn hK hc
theorem fcw_55 : (flc_55 i xs v x).1 = (fX11_middleByTaking 461 (xs (i + 1 : Int32).toNatClampNeg) (fL_middleByTaking 448 (xs (i + 1 : Int32).toNatClampNeg) 468 v x).2.1).2 := by
  unfold flc_55
  dsimp only
  simp only [ite_self]
theorem cs_55 (hI : Inv n m v) (hn : n ≤ 511) (hK : K ≤ 268012) (hc : c0 ≤ K + pot v + 36 * n) : CS n K (olc_55 i xs v x c0) (flc_55 i xs v x).1 := by
  rw [fcw_55]
  unfold olc_55
  exact csC (L0_middleByTaking (p := (xs (i + 1 : Int32).toNatClampNeg)) (x := x) hI) hn hK hc
theorem fcw_56 : (flc_56 i xs v x).1 = (fX11_spreadOf 461 (xs (i + 1 : Int32).toNatClampNeg) (fL_spreadOf 448 (xs (i + 1 : Int32).toNatClampNeg) 468 v x).2.1).2 := by
  unfold flc_56
  dsimp only
  simp only [ite_self]
theorem cs_56 (hI : Inv n m v) (hn : n ≤ 511) (hK : K ≤ 268012) (hc : c0 ≤ K + pot v + 36 * n) : CS n K (olc_56 i xs v x c0) (flc_56 i xs v x).1 := by
  rw [fcw_56]
  unfold olc_56
  exact csQ (d := 12) (by decide) (LQ_spreadOf (p := (xs (i + 1 : Int32).toNatClampNeg)) (x := x) hI) hn hK hc hI
theorem fcw_57 : (flc_57 i xs v x).1 = (fX11_meanOf 461 (xs (i + 1 : Int32).toNatClampNeg) (fL_meanOf 448 (xs (i + 1 : Int32).toNatClampNeg) 469 v x).2.1).2 := by
  unfold flc_57
  dsimp only
  simp only [ite_self]
theorem cs_57 (hI : Inv n m v) (hn : n ≤ 511) (hK : K ≤ 268012) (hc : c0 ≤ K + pot v + 36 * n) : CS n K (olc_57 i xs v x c0) (flc_57 i xs v x).1 := by
  rw [fcw_57]
  unfold olc_57
  exact csF (d := 12) (by decide) (LF_meanOf (p := (xs (i + 1 : Int32).toNatClampNeg)) (x := x) hI) hn hK hc hI
theorem fcw_58 : (flc_58 i xs v x).1 = (fX11_days 461 v).2 := by
  unfold flc_58
  dsimp only
  simp only [ite_self]
theorem cs_58 (hI : Inv n m v) (hn : n ≤ 511) (hK : K ≤ 268012) (hc : c0 ≤ K + pot v + 36 * n) : CS n K (olc_58 i xs v x c0) (flc_58 i xs v x).1 := by
  rw [fcw_58]
  unfold olc_58
  exact csP (t_days hI) hn hK hc hI
theorem fcw_59 : (flc_59 i xs v x).1 = (fX11_brought 461 v).2 := by
  unfold flc_59
  dsimp only
  simp only [ite_self]
theorem cs_59 (hI : Inv n m v) (hn : n ≤ 511) (hK : K ≤ 268012) (hc : c0 ≤ K + pot v + 36 * n) : CS n K (olc_59 i xs v x c0) (flc_59 i xs v x).1 := by
  rw [fcw_59]
  unfold olc_59
  exact csP (t_brought hI) hn hK hc hI
theorem fcw_60 : (flc_60 i xs v x).1 = (fX11_broughtByPlaces 461 v).2 := by
  unfold flc_60
  dsimp only
  simp only [ite_self]
theorem cs_60 (hI : Inv n m v) (hn : n ≤ 511) (hK : K ≤ 268012) (hc : c0 ≤ K + pot v + 36 * n) : CS n K (olc_60 i xs v x c0) (flc_60 i xs v x).1 := by
  rw [fcw_60]
  unfold olc_60
  exact csP (t_broughtByPlaces hI) hn hK hc hI
theorem fcw_61 : (flc_61 i xs v x).1 = (fX11_good 461 v).2 := by
  unfold flc_61
  dsimp only
  simp only [ite_self]
theorem cs_61 (hI : Inv n m v) (hn : n ≤ 511) (hK : K ≤ 268012) (hc : c0 ≤ K + pot v + 36 * n) : CS n K (olc_61 i xs v x c0) (flc_61 i xs v x).1 := by
  rw [fcw_61]
  unfold olc_61
  exact csP (t_good hI) hn hK hc hI
theorem fcw_62 : (flc_62 i xs v x).1 = (fX11_thrownAway 461 v).2 := by
  unfold flc_62
  dsimp only
  simp only [ite_self]
theorem cs_62 (hI : Inv n m v) (hn : n ≤ 511) (hK : K ≤ 268012) (hc : c0 ≤ K + pot v + 36 * n) : CS n K (olc_62 i xs v x c0) (flc_62 i xs v x).1 := by
  rw [fcw_62]
  unfold olc_62
  exact csP (t_thrownAway hI) hn hK hc hI
theorem fcw_63 : (flc_63 i xs v x).1 = (fX11_unseen 461 v).2 := by
  unfold flc_63
  dsimp only
  simp only [ite_self]
theorem cs_63 (hI : Inv n m v) (hn : n ≤ 511) (hK : K ≤ 268012) (hc : c0 ≤ K + pot v + 36 * n) : CS n K (olc_63 i xs v x c0) (flc_63 i xs v x).1 := by
  rw [fcw_63]
  unfold olc_63
  exact csP (t_unseen hI) hn hK hc hI
theorem fcw_64 : (flc_64 i xs v x).1 = (fX11_doubts 461 v).2 := by
  unfold flc_64
  dsimp only
  simp only [ite_self]
theorem cs_64 (hI : Inv n m v) (hn : n ≤ 511) (hK : K ≤ 268012) (hc : c0 ≤ K + pot v + 36 * n) : CS n K (olc_64 i xs v x c0) (flc_64 i xs v x).1 := by
  rw [fcw_64]
  unfold olc_64
  exact csP (t_doubts hI) hn hK hc hI
theorem fcw_65 : (flc_65 i xs v x).1 = (fX11_goodShare 461 (fL_goodShare 448 469 v x).2.1).2 := by
  unfold flc_65
  dsimp only
  simp only [ite_self]
theorem cs_65 (hI : Inv n m v) (hn : n ≤ 511) (hK : K ≤ 268012) (hc : c0 ≤ K + pot v + 36 * n) : CS n K (olc_65 i xs v x c0) (flc_65 i xs v x).1 := by
  rw [fcw_65]
  unfold olc_65
  exact csF (d := 6) (by decide) (LF_goodShare (x := x) hI) hn hK hc hI
theorem fcw_66 : (flc_66 i xs v x).1 = (fX11_keep 461 (fX10_keep 448 v).2).2 := by
  unfold flc_66
  dsimp only
  simp only [ite_self]
theorem cs_66 (hI : Inv n m v) (hn : n ≤ 511) (hK : K ≤ 268012) (hc : c0 ≤ K + pot v + 36 * n) : CS n K (olc_66 i xs v x c0) (flc_66 i xs v x).1 := by
  rw [fcw_66]
  unfold olc_66
  obtain ⟨o1, o2, k1, k2, k3, k4, m', k5⟩ := t_keep hI
  have hp := pot_le k5
  refine ⟨c0 + kkX10_keep 448 v, ⟨o1, by omega, by unfold kkX10_keep; omega, fun v4 e4 => ?_⟩, by unfold kkX10_keep; omega, m', k5⟩
  rw [e4]
  exact ⟨o2, fun v6 _ => ⟨fun _ => Nat.le_refl _, fun h => h (k4 rfl)⟩⟩
theorem fcw_67 : (flc_67 i xs v x).1 = (fX11_goBack 461 (fL_goBack 448 468 v x).2.1).2 := by
  unfold flc_67
  dsimp only
  simp only [ite_self]
theorem cs_67 (hI : Inv n m v) (hn : n ≤ 511) (hK : K ≤ 268012) (hc : c0 ≤ K + pot v + 36 * n) : CS n K (olc_67 i xs v x c0) (flc_67 i xs v x).1 := by
  rw [fcw_67]
  unfold olc_67
  exact csC (L0_goBack (x := x) hI) hn hK hc
theorem fcw_68 : (flc_68 i xs v x).1 = (fX11_states 461 v).2 := by
  unfold flc_68
  dsimp only
  simp only [ite_self]
theorem cs_68 (hI : Inv n m v) (hn : n ≤ 511) (hK : K ≤ 268012) (hc : c0 ≤ K + pot v + 36 * n) : CS n K (olc_68 i xs v x c0) (flc_68 i xs v x).1 := by
  rw [fcw_68]
  unfold olc_68
  have ok := t_states hI
  have hp := pot_le hI
  have e := ok.1.pot
  exact ⟨c0, ⟨by omega, fun v2 _ => ⟨fun _ => Nat.le_refl _, fun h => h (ok.2 rfl)⟩⟩, by omega, m, hI.asked ok.1⟩
theorem fcw_69 : (flc_69 i xs v x).1 = (fX11_undo 461 (fL_undo 448 468 v x).2.1).2 := by
  unfold flc_69
  dsimp only
  simp only [ite_self]
theorem cs_69 (hI : Inv n m v) (hn : n ≤ 511) (hK : K ≤ 268012) (hc : c0 ≤ K + pot v + 36 * n) : CS n K (olc_69 i xs v x c0) (flc_69 i xs v x).1 := by
  rw [fcw_69]
  unfold olc_69
  exact csC (L0_undo (x := x) hI) hn hK hc
theorem fcw_70 : (flc_70 i xs v x).1 = (fX11_type 461 (xs (i + 1 : Int32).toNatClampNeg) (fL_type 448 (xs (i + 1 : Int32).toNatClampNeg) 468 v x).2.1).2 := by
  unfold flc_70
  dsimp only
  simp only [ite_self]
theorem cs_70 (hI : Inv n m v) (hn : n ≤ 511) (hK : K ≤ 268012) (hc : c0 ≤ K + pot v + 36 * n) : CS n K (olc_70 i xs v x c0) (flc_70 i xs v x).1 := by
  rw [fcw_70]
  unfold olc_70
  exact csC (L0_type (p1 := (xs (i + 1 : Int32).toNatClampNeg)) (x := x) hI) hn hK hc
theorem fcw_71 : (flc_71 i xs v x).1 = (fX11_clearText 461 (fX10_clearText 448 v).2).2 := by
  unfold flc_71
  dsimp only
  simp only [ite_self]
theorem cs_71 (hI : Inv n m v) (hn : n ≤ 511) (hK : K ≤ 268012) (hc : c0 ≤ K + pot v + 36 * n) : CS n K (olc_71 i xs v x c0) (flc_71 i xs v x).1 := by
  rw [fcw_71]
  unfold olc_71
  obtain ⟨k1, k2, k3, k4, m', k5⟩ := t_clearText hI
  have hp := pot_le k5
  refine ⟨c0, ⟨by omega, fun v2 e2 => ?_⟩, by omega, m', k5⟩
  rw [e2]
  exact fun v3 _ => ⟨fun _ => Nat.le_refl _, fun h => h (k4 rfl)⟩
theorem fcw_72 : (flc_72 i xs v x).1 = (fX11_faultPosition 461 (fL_faultPosition 448 468 v x).2.1).2 := by
  unfold flc_72
  dsimp only
  simp only [ite_self]
theorem cs_72 (hI : Inv n m v) (hn : n ≤ 511) (hK : K ≤ 268012) (hc : c0 ≤ K + pot v + 36 * n) : CS n K (olc_72 i xs v x c0) (flc_72 i xs v x).1 := by
  rw [fcw_72]
  unfold olc_72
  exact csC (L0_faultPosition (x := x) hI (by omega)) hn hK hc
theorem fcw_73 : (flc_73 i xs v x).1 = (fX11_faultReason 461 (fL_faultReason 448 468 v x).2.1).2 := by
  unfold flc_73
  dsimp only
  simp only [ite_self]
theorem cs_73 (hI : Inv n m v) (hn : n ≤ 511) (hK : K ≤ 268012) (hc : c0 ≤ K + pot v + 36 * n) : CS n K (olc_73 i xs v x c0) (flc_73 i xs v x).1 := by
  rw [fcw_73]
  unfold olc_73
  exact csC (L0_faultReason (x := x) hI (by omega)) hn hK hc
theorem fcw_74 : (flc_74 i xs v x).1 = (fX11_faultCause 461 (fL_faultCause 448 468 v x).2.1).2 := by
  unfold flc_74
  dsimp only
  simp only [ite_self]
theorem cs_74 (hI : Inv n m v) (hn : n ≤ 511) (hK : K ≤ 268012) (hc : c0 ≤ K + pot v + 36 * n) : CS n K (olc_74 i xs v x c0) (flc_74 i xs v x).1 := by
  rw [fcw_74]
  unfold olc_74
  exact csC (L0_faultCause (x := x) hI (by omega)) hn hK hc
theorem fcw_75 : (flc_75 i xs v x).1 = (fX11_play 461 (fL_play 448 468 v x).2.1).2 := by
  unfold flc_75
  dsimp only
  simp only [ite_self]
theorem cs_75 (hI : Inv n m v) (hn : n ≤ 511) (hK : K ≤ 268012) (hc : c0 ≤ K + pot v + 36 * n) : CS n K (olc_75 i xs v x c0) (flc_75 i xs v x).1 := by
  rw [fcw_75]
  unfold olc_75
  exact csC (L0_play (x := x) hI (by omega)) hn hK hc
end T48d
