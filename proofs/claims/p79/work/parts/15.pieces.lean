/-! VernierDrawers$Pieces: the queues. -/
def fX5_makeRoom (r : Nat) (p1 : Int32) (v : vSt) : vSt := if (p1 : Int32) ≤ (Int32.ofNat (rN (v r 4))) then v else (if (p1 : Int32) ≤ 16384 then (let y3 : Int32 := (if p1 < (if 2 * (Int32.ofNat (rN (v r 4))) < 16384 then 2 * (Int32.ofNat (rN (v r 4))) else 16384 : Int32) then (if 2 * (Int32.ofNat (rN (v r 4))) < 16384 then 2 * (Int32.ofNat (rN (v r 4))) else 16384 : Int32) else p1 : Int32); let v7 : vSt := uG v r 0 (rN (y3)) (cpF (v (chP r)) (rN (v r 4)) (y3)); let v10 : vSt := uG v7 r 1 (rN (y3)) (cpF (v7 (chP r + 1)) (rN (v7 r 5)) (y3)); let v13 : vSt := uG v10 r 2 (rN (y3)) (cpF (v10 (chP r + 2)) (rN (v10 r 6)) (y3)); v13) else v)

def kkX5_makeRoom (r : Nat) (p1 : Int32) (v : vSt) : Nat := pot (fX5_makeRoom r p1 v) - pot v
def oX5_makeRoom (r : Nat) (p1 : Int32) (v : vSt) : Prop := ¬ ((p1 : Int32) ≤ (Int32.ofNat (rN (v r 4)))) → (((p1 : Int32) ≤ 16384) → (∀ y3 : Int32, y3 = (if p1 < (if 2 * (Int32.ofNat (rN (v r 4))) < 16384 then 2 * (Int32.ofNat (rN (v r 4))) else 16384 : Int32) then (if 2 * (Int32.ofNat (rN (v r 4))) < 16384 then 2 * (Int32.ofNat (rN (v r 4))) else 16384 : Int32) else p1 : Int32) → ((¬ (y3 : Int32) = Int32.ofNat (rN (v r 4))) ∧ ((0 ≤ (y3 : Int32).toInt ∧ (y3 : Int32).toInt ≤ 100000) ∧ ((0 + (rN (y3) + 1) ≤ kkX5_makeRoom r p1 v) ∧ (∀ v7 : vSt, v7 = (uG v r 0 (rN (y3)) (cpF (v (chP r)) (rN (v r 4)) (y3))) → ((¬ (y3 : Int32) = Int32.ofNat (rN (v7 r 5))) ∧ (((0 + (rN (y3) + 1)) + (rN (y3) + 1) ≤ kkX5_makeRoom r p1 v) ∧ (∀ v10 : vSt, v10 = (uG v7 r 1 (rN (y3)) (cpF (v7 (chP r + 1)) (rN (v7 r 5)) (y3))) → ((¬ (y3 : Int32) = Int32.ofNat (rN (v10 r 6))) ∧ (((0 + (rN (y3) + 1)) + (rN (y3) + 1)) + (rN (y3) + 1) ≤ kkX5_makeRoom r p1 v)))))))))))
abbrev rmX5_makeRoom (r : Nat) (p1 : Int32) (v : vSt) : Room := { frames := 2, cells := kkX5_makeRoom r p1 v, slots := kkX5_makeRoom r p1 v, locals := 90 }
theorem dX5_makeRoom_0 : decode cX5_makeRoom 0 = .ok (.iload_n 1, 1) := by decide +kernel
theorem dX5_makeRoom_1 : decode cX5_makeRoom 1 = .ok (.aload_n 0, 1) := by decide +kernel
theorem dX5_makeRoom_2 : decode cX5_makeRoom 2 = .ok (.getfield 9, 3) := by decide +kernel
theorem dX5_makeRoom_5 : decode cX5_makeRoom 5 = .ok (.arraylength, 1) := by decide +kernel
theorem dX5_makeRoom_6 : decode cX5_makeRoom 6 = .ok (.if_icmp .le 10, 3) := by decide +kernel
theorem dX5_makeRoom_9 : decode cX5_makeRoom 9 = .ok (.iload_n 1, 1) := by decide +kernel
theorem dX5_makeRoom_10 : decode cX5_makeRoom 10 = .ok (.sipush 16384, 3) := by decide +kernel
theorem dX5_makeRoom_13 : decode cX5_makeRoom 13 = .ok (.if_icmp .le 4, 3) := by decide +kernel
theorem dX5_makeRoom_16 : decode cX5_makeRoom 16 = .ok (.return_, 1) := by decide +kernel
theorem dX5_makeRoom_17 : decode cX5_makeRoom 17 = .ok (.iload_n 1, 1) := by decide +kernel
theorem dX5_makeRoom_18 : decode cX5_makeRoom 18 = .ok (.sipush 16384, 3) := by decide +kernel
theorem dX5_makeRoom_21 : decode cX5_makeRoom 21 = .ok (.iconst 2, 1) := by decide +kernel
theorem dX5_makeRoom_22 : decode cX5_makeRoom 22 = .ok (.aload_n 0, 1) := by decide +kernel
theorem dX5_makeRoom_23 : decode cX5_makeRoom 23 = .ok (.getfield 9, 3) := by decide +kernel
theorem dX5_makeRoom_26 : decode cX5_makeRoom 26 = .ok (.arraylength, 1) := by decide +kernel
theorem dX5_makeRoom_27 : decode cX5_makeRoom 27 = .ok (.imul, 1) := by decide +kernel
theorem dX5_makeRoom_28 : decode cX5_makeRoom 28 = .ok (.invokestatic 29, 3) := by decide +kernel
theorem dX5_makeRoom_31 : decode cX5_makeRoom 31 = .ok (.invokestatic 41, 3) := by decide +kernel
theorem dX5_makeRoom_34 : decode cX5_makeRoom 34 = .ok (.istore_n 2, 1) := by decide +kernel
theorem dX5_makeRoom_35 : decode cX5_makeRoom 35 = .ok (.aload_n 0, 1) := by decide +kernel
theorem dX5_makeRoom_36 : decode cX5_makeRoom 36 = .ok (.aload_n 0, 1) := by decide +kernel
theorem dX5_makeRoom_37 : decode cX5_makeRoom 37 = .ok (.getfield 9, 3) := by decide +kernel
theorem dX5_makeRoom_40 : decode cX5_makeRoom 40 = .ok (.iload_n 2, 1) := by decide +kernel
theorem dX5_makeRoom_41 : decode cX5_makeRoom 41 = .ok (.invokestatic 44, 3) := by decide +kernel
theorem dX5_makeRoom_44 : decode cX5_makeRoom 44 = .ok (.putfield 9, 3) := by decide +kernel
theorem dX5_makeRoom_47 : decode cX5_makeRoom 47 = .ok (.aload_n 0, 1) := by decide +kernel
theorem dX5_makeRoom_48 : decode cX5_makeRoom 48 = .ok (.aload_n 0, 1) := by decide +kernel
theorem dX5_makeRoom_49 : decode cX5_makeRoom 49 = .ok (.getfield 15, 3) := by decide +kernel
theorem dX5_makeRoom_52 : decode cX5_makeRoom 52 = .ok (.iload_n 2, 1) := by decide +kernel
theorem dX5_makeRoom_53 : decode cX5_makeRoom 53 = .ok (.invokestatic 44, 3) := by decide +kernel
theorem dX5_makeRoom_56 : decode cX5_makeRoom 56 = .ok (.putfield 15, 3) := by decide +kernel
theorem dX5_makeRoom_59 : decode cX5_makeRoom 59 = .ok (.aload_n 0, 1) := by decide +kernel
theorem dX5_makeRoom_60 : decode cX5_makeRoom 60 = .ok (.aload_n 0, 1) := by decide +kernel
theorem dX5_makeRoom_61 : decode cX5_makeRoom 61 = .ok (.getfield 18, 3) := by decide +kernel
theorem dX5_makeRoom_64 : decode cX5_makeRoom 64 = .ok (.iload_n 2, 1) := by decide +kernel
theorem dX5_makeRoom_65 : decode cX5_makeRoom 65 = .ok (.invokestatic 44, 3) := by decide +kernel
theorem dX5_makeRoom_68 : decode cX5_makeRoom 68 = .ok (.putfield 18, 3) := by decide +kernel
theorem dX5_makeRoom_71 : decode cX5_makeRoom 71 = .ok (.return_, 1) := by decide +kernel
set_option maxHeartbeats 8000000 in
set_option maxRecDepth 100000 in
theorem mX5_makeRoom (l : Launch) (G : gG) (da : Nat → Nat) (v : vSt) (x : gX) (r : Nat) (hk_r : kd r = 5 ∨ kd r = 15) (p1 : Int32) (ho : oX5_makeRoom r p1 v) : MV l yX5_makeRoom cX5_makeRoom 3 none (rmX5_makeRoom r p1 v) [.ref (ga G r), .int p1] G da v x (kkX5_makeRoom r p1 v) (kkX5_makeRoom r p1 v) (fX5_makeRoom r p1 v) x := by
  refine gofMV (own := RX5) (by decide) rfl (Nat.le_of_ble_eq_true rfl) (fun p e s m args below meth c ls Q X hH hl E => ?_)
  have hx := X.1
  have hb := X.2.1
  have hown := X.2.2.2.1
  have hts := X.2.2.2.2.1
  have hS : va_S (gA G) s.heap s.heap [] := va_S.rf
  unfold oX5_makeRoom at ho
  have hl : lv_has ls 3 [(0, .ref (ga G r)), (1, .int p1)] := hl
  refine lv_iload_n hx hb dX5_makeRoom_0 rfl (lv_at hl 1 rfl) ?_
  refine lv_aload_n hx hb dX5_makeRoom_1 rfl (lv_at hl 0 rfl) ?_
  refine g_Pieces_9 X hH hk_r dX5_makeRoom_2 ?_
  refine len_d0 X hH hk_r dX5_makeRoom_5 ?_
  refine lv_icmp_le (tgt := 16) hx hb dX5_makeRoom_6 (by decide) (fun c1 => ?_) (fun c1 => ?_)
  · skip
    exact E _ _ _ _ _ _ _ _ dX5_makeRoom_16 (Eq.symm ((fX5_makeRoom.eq_1 _ _ _).trans ((if_pos c1).trans rfl))) hH hS (Nat.zero_le _) (Nat.zero_le _)
  · have ho := ho c1
    refine lv_iload_n hx hb dX5_makeRoom_9 rfl (lv_at hl 1 rfl) ?_
    refine lv_sipush (v := 16384) hx hb dX5_makeRoom_10 (by decide) ?_
    refine lv_icmp_le (tgt := 17) hx hb dX5_makeRoom_13 (by decide) (fun c2 => ?_) (fun c2 => ?_)
    · have ho := ho c2
      refine lv_iload_n hx hb dX5_makeRoom_17 rfl (lv_at hl 1 rfl) ?_
      refine lv_sipush (v := 16384) hx hb dX5_makeRoom_18 (by decide) ?_
      refine lv_iconst (v := 2) hx hb dX5_makeRoom_21 (by decide) ?_
      refine lv_aload_n hx hb dX5_makeRoom_22 rfl (lv_at hl 0 rfl) ?_
      refine g_Pieces_9 X hH hk_r dX5_makeRoom_23 ?_
      refine len_d0 X hH hk_r dX5_makeRoom_26 ?_
      refine lv_imul hx hb dX5_makeRoom_27 ?_
      refine k_mmin X t_ml_Pieces_29 hl.1 ⟨Nat.le_of_ble_eq_true rfl, Nat.le_of_ble_eq_true rfl⟩ ⟨Nat.zero_le _, Nat.zero_le _⟩ dX5_makeRoom_28 ?_
      refine k_mmax X t_ml_Pieces_41 hl.1 ⟨Nat.le_of_ble_eq_true rfl, Nat.le_of_ble_eq_true rfl⟩ ⟨Nat.zero_le _, Nat.zero_le _⟩ dX5_makeRoom_31 ?_
      obtain ⟨y3, ey3⟩ : ∃ z : Int32, z = (if p1 < (if 2 * (Int32.ofNat (rN (v r 4))) < 16384 then 2 * (Int32.ofNat (rN (v r 4))) else 16384 : Int32) then (if 2 * (Int32.ofNat (rN (v r 4))) < 16384 then 2 * (Int32.ofNat (rN (v r 4))) else 16384 : Int32) else p1 : Int32) := ⟨_, rfl⟩
      rw [← ey3]
      have ho := ho y3 ey3
      refine lv_istore_n (lv' := [(2, .int y3), (0, .ref (ga G r)), (1, .int p1)]) hx hb dX5_makeRoom_34 rfl hl (by decide) rfl (fun ls hl => ?_)
      refine lv_aload_n hx hb dX5_makeRoom_35 rfl (lv_at hl 1 rfl) ?_
      refine lv_aload_n hx hb dX5_makeRoom_36 rfl (lv_at hl 1 rfl) ?_
      refine g_Pieces_9 X hH hk_r dX5_makeRoom_37 ?_
      refine lv_iload_n hx hb dX5_makeRoom_40 rfl (lv_at hl 0 rfl) ?_
      have hq4 := ho.1
      have ho := ho.2
      have hq5 := ho.1
      have ho := ho.2
      have hq6 := ho.1
      have ho := ho.2
      refine k_J7_copyOf X hS hH (al_d0 hk_r) (rN_lt _) hq4 hq5 t_ml_Pieces_44 hl.1 (Nat.le_of_ble_eq_true rfl) ⟨Nat.le_of_ble_eq_true rfl, Nat.le_of_ble_eq_true rfl⟩ ⟨hq6, hq6⟩ dX5_makeRoom_41 (fun a9 H locs hQ hS => ?_)
      refine pd_0 X hQ (rN_lt _) hS hk_r t_fl_Pieces_9 dX5_makeRoom_44 (fun da H locs v7 ev7 hH hS => ?_)
      have ho := ho v7 ev7
      refine lv_aload_n hx hb dX5_makeRoom_47 rfl (lv_at hl 1 rfl) ?_
      refine lv_aload_n hx hb dX5_makeRoom_48 rfl (lv_at hl 1 rfl) ?_
      refine g_Pieces_15 X hH hk_r dX5_makeRoom_49 ?_
      refine lv_iload_n hx hb dX5_makeRoom_52 rfl (lv_at hl 0 rfl) ?_
      have hq8 := ho.1
      have ho := ho.2
      have hq9 := ho.1
      have ho := ho.2
      refine k_J7_copyOf X hS hH (al_d1 hk_r) (rN_lt _) hq8 hq5 t_ml_Pieces_44 hl.1 (Nat.le_of_ble_eq_true rfl) ⟨Nat.le_of_ble_eq_true rfl, Nat.le_of_ble_eq_true rfl⟩ ⟨hq9, hq9⟩ dX5_makeRoom_53 (fun a9 H locs hQ hS => ?_)
      refine pd_1 X hQ (rN_lt _) hS hk_r t_fl_Pieces_15 dX5_makeRoom_56 (fun da H locs v10 ev10 hH hS => ?_)
      have ho := ho v10 ev10
      refine lv_aload_n hx hb dX5_makeRoom_59 rfl (lv_at hl 1 rfl) ?_
      refine lv_aload_n hx hb dX5_makeRoom_60 rfl (lv_at hl 1 rfl) ?_
      refine g_Pieces_18 X hH hk_r dX5_makeRoom_61 ?_
      refine lv_iload_n hx hb dX5_makeRoom_64 rfl (lv_at hl 0 rfl) ?_
      have hq11 := ho.1
      have ho := ho.2
      have hq12 := ho
      refine k_J7_copyOf X hS hH (al_d2 hk_r) (rN_lt _) hq11 hq5 t_ml_Pieces_44 hl.1 (Nat.le_of_ble_eq_true rfl) ⟨Nat.le_of_ble_eq_true rfl, Nat.le_of_ble_eq_true rfl⟩ ⟨hq12, hq12⟩ dX5_makeRoom_65 (fun a9 H locs hQ hS => ?_)
      refine pd_2 X hQ (rN_lt _) hS hk_r t_fl_Pieces_18 dX5_makeRoom_68 (fun da H locs v13 ev13 hH hS => ?_)
      replace ey3 := Eq.symm ey3
      replace ev7 := Eq.symm ev7
      replace ev10 := Eq.symm ev10
      replace ev13 := Eq.symm ev13
      subst ey3 ev7 ev10 ev13
      exact E _ _ _ _ _ _ _ _ dX5_makeRoom_71 (Eq.symm ((fX5_makeRoom.eq_1 _ _ _).trans ((if_neg c1).trans ((if_pos c2).trans rfl)))) hH hS hq12 hq12
    · skip
      exact E _ _ _ _ _ _ _ _ dX5_makeRoom_16 (Eq.symm ((fX5_makeRoom.eq_1 _ _ _).trans ((if_neg c1).trans ((if_neg c2).trans rfl)))) hH hS (Nat.zero_le _) (Nat.zero_le _)
theorem k_X5_makeRoom {p : Program} {l : Launch} {e : Env} {R : Room} {s : State} {m : MethodId} {args : Array Value} {below : List Frame} {meth : Method} {c : Code} {H : Heap} {locs : List Loc} {cells slots : Nat} {Q : State → Prop} {cc : ByteArray} {pc nL : Nat} {ls : Array Slot} {rest : List Value} {G : gG} {own : String} {da : Nat → Nat} {v : vSt} {x : gX} (X : CX G p s m args c cc nL own) (hS : va_S (gA G) s.heap H locs) (hH : Hp G da v x H) {r : Nat} (hk_r : kd r = 5 ∨ kd r = 15) {p1 : Int32} (ho : oX5_makeRoom r p1 v) {idx : Nat} (hml : Cond.methodLink own idx yX5_makeRoom ∈ TT) (hls : ls.size = nL) (hsum : (rest.map fun v => v.category).sum ≤ 8) (hR : (rmX5_makeRoom r p1 v).frames + 1 ≤ R.frames ∧ 8 + (3 + 11) + (rmX5_makeRoom r p1 v).locals ≤ R.locals) (hcs : cells + (kkX5_makeRoom r p1 v) ≤ R.cells ∧ slots + (kkX5_makeRoom r p1 v) ≤ R.slots) (hdg : decode cc pc = .ok (.invokevirtual idx, 3)) (kk : ∀ (d : Nat → Nat) (H1 : Heap) (locs1 : List Loc) (v1 : vSt), v1 = fX5_makeRoom r p1 v → Hp G d v1 x H1 → va_S (gA G) s.heap H1 locs1 → W p l e R s m args below meth c H1 locs1 (cells + (kkX5_makeRoom r p1 v)) (slots + (kkX5_makeRoom r p1 v)) Q (F0 m (pc + 3) ls rest)) : W p l e R s m args below meth c H locs cells slots Q (F0 m pc ls (.int p1 :: .ref (ga G r) :: rest)) := c_mv X.2.2.2.2.2.2 (runV (k := 1) X.1 X.2.1 X.2.2.1 X.2.2.2.1 X.2.2.2.2.1 (mX5_makeRoom l G da v x r hk_r p1 ho) pW_bl hml t_im_X5_makeRoom t_sel_X5_makeRoom t_ini_Pieces t_code_X5_makeRoom ⟨rfl, by decide, by decide, by decide +kernel⟩ rfl rfl hR hcs (recvW X hH (kd_P hk_r).1 (kd_P hk_r).2 (ce_P hk_r) rfl) (preW X hS hH) rfl hls rfl hsum hdg) hS kk
def fX5_putLast (r : Nat) (p1 : Int32) (p2 : Int32) (p3 : Int32) (v : vSt) : vSt := let v3 : vSt := fX5_makeRoom r ((v r 3) + 1) v; if ((Int32.ofNat (rN (v3 r 4))) : Int32) ≤ (v3 r 3) then v3 else (let v6 : vSt := u2 v3 (chP r) (v3 r 3 : Int32).toNatClampNeg p1; let v8 : vSt := u2 v6 (chP r + 1) (v6 r 3 : Int32).toNatClampNeg p2; let y9 : Int32 := (if (p3 : Int32) = 0 then 0 else 1 : Int32); let v12 : vSt := u2 v8 (chP r + 2) (v8 r 3 : Int32).toNatClampNeg y9; let v13 : vSt := u2 v12 r 3 ((v12 r 3) + 1); v13)

def kkX5_putLast (r : Nat) (p1 : Int32) (p2 : Int32) (p3 : Int32) (v : vSt) : Nat := pot (fX5_putLast r p1 p2 p3 v) - pot v
def oX5_putLast (r : Nat) (p1 : Int32) (p2 : Int32) (p3 : Int32) (v : vSt) : Prop := (oX5_makeRoom r ((v r 3) + 1) v) ∧ ((0 + kkX5_makeRoom r ((v r 3) + 1) v ≤ kkX5_putLast r p1 p2 p3 v) ∧ (∀ v3 : vSt, v3 = (fX5_makeRoom r ((v r 3) + 1) v) → (¬ (((Int32.ofNat (rN (v3 r 4))) : Int32) ≤ (v3 r 3)) → ((vp_in (v3 r 3) (rN (v3 r 4))) ∧ (∀ v6 : vSt, v6 = (u2 v3 (chP r) (v3 r 3 : Int32).toNatClampNeg p1) → ((vp_in (v6 r 3) (rN (v6 r 5))) ∧ (∀ v8 : vSt, v8 = (u2 v6 (chP r + 1) (v6 r 3 : Int32).toNatClampNeg p2) → ((∀ (y9 : Int32), y9 = ((if (p3 : Int32) = 0 then 0 else 1 : Int32) : Int32) → (vp_in (v8 r 3) (rN (v8 r 6))))))))))))
abbrev rmX5_putLast (r : Nat) (p1 : Int32) (p2 : Int32) (p3 : Int32) (v : vSt) : Room := { frames := 3, cells := kkX5_putLast r p1 p2 p3 v, slots := kkX5_putLast r p1 p2 p3 v, locals := 112 }
theorem dX5_putLast_0 : decode cX5_putLast 0 = .ok (.aload_n 0, 1) := by decide +kernel
theorem dX5_putLast_1 : decode cX5_putLast 1 = .ok (.aload_n 0, 1) := by decide +kernel
theorem dX5_putLast_2 : decode cX5_putLast 2 = .ok (.getfield 21, 3) := by decide +kernel
theorem dX5_putLast_5 : decode cX5_putLast 5 = .ok (.iconst 1, 1) := by decide +kernel
theorem dX5_putLast_6 : decode cX5_putLast 6 = .ok (.iadd, 1) := by decide +kernel
theorem dX5_putLast_7 : decode cX5_putLast 7 = .ok (.invokevirtual 25, 3) := by decide +kernel
theorem dX5_putLast_10 : decode cX5_putLast 10 = .ok (.aload_n 0, 1) := by decide +kernel
theorem dX5_putLast_11 : decode cX5_putLast 11 = .ok (.getfield 21, 3) := by decide +kernel
theorem dX5_putLast_14 : decode cX5_putLast 14 = .ok (.aload_n 0, 1) := by decide +kernel
theorem dX5_putLast_15 : decode cX5_putLast 15 = .ok (.getfield 9, 3) := by decide +kernel
theorem dX5_putLast_18 : decode cX5_putLast 18 = .ok (.arraylength, 1) := by decide +kernel
theorem dX5_putLast_19 : decode cX5_putLast 19 = .ok (.if_icmp .ge 51, 3) := by decide +kernel
theorem dX5_putLast_22 : decode cX5_putLast 22 = .ok (.aload_n 0, 1) := by decide +kernel
theorem dX5_putLast_23 : decode cX5_putLast 23 = .ok (.getfield 9, 3) := by decide +kernel
theorem dX5_putLast_26 : decode cX5_putLast 26 = .ok (.aload_n 0, 1) := by decide +kernel
theorem dX5_putLast_27 : decode cX5_putLast 27 = .ok (.getfield 21, 3) := by decide +kernel
theorem dX5_putLast_30 : decode cX5_putLast 30 = .ok (.iload_n 1, 1) := by decide +kernel
theorem dX5_putLast_31 : decode cX5_putLast 31 = .ok (.iastore, 1) := by decide +kernel
theorem dX5_putLast_32 : decode cX5_putLast 32 = .ok (.aload_n 0, 1) := by decide +kernel
theorem dX5_putLast_33 : decode cX5_putLast 33 = .ok (.getfield 15, 3) := by decide +kernel
theorem dX5_putLast_36 : decode cX5_putLast 36 = .ok (.aload_n 0, 1) := by decide +kernel
theorem dX5_putLast_37 : decode cX5_putLast 37 = .ok (.getfield 21, 3) := by decide +kernel
theorem dX5_putLast_40 : decode cX5_putLast 40 = .ok (.iload_n 2, 1) := by decide +kernel
theorem dX5_putLast_41 : decode cX5_putLast 41 = .ok (.iastore, 1) := by decide +kernel
theorem dX5_putLast_42 : decode cX5_putLast 42 = .ok (.aload_n 0, 1) := by decide +kernel
theorem dX5_putLast_43 : decode cX5_putLast 43 = .ok (.getfield 18, 3) := by decide +kernel
theorem dX5_putLast_46 : decode cX5_putLast 46 = .ok (.aload_n 0, 1) := by decide +kernel
theorem dX5_putLast_47 : decode cX5_putLast 47 = .ok (.getfield 21, 3) := by decide +kernel
theorem dX5_putLast_50 : decode cX5_putLast 50 = .ok (.iload_n 3, 1) := by decide +kernel
theorem dX5_putLast_51 : decode cX5_putLast 51 = .ok (.ifCond .eq 7, 3) := by decide +kernel
theorem dX5_putLast_54 : decode cX5_putLast 54 = .ok (.iconst 1, 1) := by decide +kernel
theorem dX5_putLast_55 : decode cX5_putLast 55 = .ok (.goto 4, 3) := by decide +kernel
theorem dX5_putLast_58 : decode cX5_putLast 58 = .ok (.iconst 0, 1) := by decide +kernel
theorem dX5_putLast_59 : decode cX5_putLast 59 = .ok (.iastore, 1) := by decide +kernel
theorem dX5_putLast_60 : decode cX5_putLast 60 = .ok (.aload_n 0, 1) := by decide +kernel
theorem dX5_putLast_61 : decode cX5_putLast 61 = .ok (.dup, 1) := by decide +kernel
theorem dX5_putLast_62 : decode cX5_putLast 62 = .ok (.getfield 21, 3) := by decide +kernel
theorem dX5_putLast_65 : decode cX5_putLast 65 = .ok (.iconst 1, 1) := by decide +kernel
theorem dX5_putLast_66 : decode cX5_putLast 66 = .ok (.iadd, 1) := by decide +kernel
theorem dX5_putLast_67 : decode cX5_putLast 67 = .ok (.putfield 21, 3) := by decide +kernel
theorem dX5_putLast_70 : decode cX5_putLast 70 = .ok (.return_, 1) := by decide +kernel
set_option maxHeartbeats 8000000 in
set_option maxRecDepth 100000 in
theorem mX5_putLast (l : Launch) (G : gG) (da : Nat → Nat) (v : vSt) (x : gX) (r : Nat) (hk_r : kd r = 5 ∨ kd r = 15) (p1 : Int32) (p2 : Int32) (p3 : Int32) (ho : oX5_putLast r p1 p2 p3 v) : MV l yX5_putLast cX5_putLast 4 none (rmX5_putLast r p1 p2 p3 v) [.ref (ga G r), .int p1, .int p2, .int p3] G da v x (kkX5_putLast r p1 p2 p3 v) (kkX5_putLast r p1 p2 p3 v) (fX5_putLast r p1 p2 p3 v) x := by
  refine gofMV (own := RX5) (by decide) rfl (Nat.le_of_ble_eq_true rfl) (fun p e s m args below meth c ls Q X hH hl E => ?_)
  have hx := X.1
  have hb := X.2.1
  have hown := X.2.2.2.1
  have hts := X.2.2.2.2.1
  have hS : va_S (gA G) s.heap s.heap [] := va_S.rf
  unfold oX5_putLast at ho
  have hl : lv_has ls 4 [(0, .ref (ga G r)), (1, .int p1), (2, .int p2), (3, .int p3)] := hl
  refine lv_aload_n hx hb dX5_putLast_0 rfl (lv_at hl 0 rfl) ?_
  refine lv_aload_n hx hb dX5_putLast_1 rfl (lv_at hl 0 rfl) ?_
  refine g_Pieces_21 X hH hk_r dX5_putLast_2 ?_
  refine lv_iconst (v := 1) hx hb dX5_putLast_5 (by decide) ?_
  refine lv_iadd hx hb dX5_putLast_6 ?_
  have hq1 := ho.1
  have ho := ho.2
  have hq2 := ho.1
  have ho := ho.2
  refine k_X5_makeRoom X hS hH hk_r hq1 t_ml_Pieces_25 hl.1 (Nat.le_of_ble_eq_true rfl) ⟨Nat.le_of_ble_eq_true rfl, Nat.le_of_ble_eq_true rfl⟩ ⟨hq2, hq2⟩ dX5_putLast_7 (fun da H locs v3 ev3 hH hS => ?_)
  have ho := ho v3 ev3
  refine lv_aload_n hx hb dX5_putLast_10 rfl (lv_at hl 0 rfl) ?_
  refine g_Pieces_21 X hH hk_r dX5_putLast_11 ?_
  refine lv_aload_n hx hb dX5_putLast_14 rfl (lv_at hl 0 rfl) ?_
  refine g_Pieces_9 X hH hk_r dX5_putLast_15 ?_
  refine len_d0 X hH hk_r dX5_putLast_18 ?_
  refine lv_icmp_ge (tgt := 70) hx hb dX5_putLast_19 (by decide) (fun c4 => ?_) (fun c4 => ?_)
  · skip
    replace ev3 := Eq.symm ev3
    subst ev3
    exact E _ _ _ _ _ _ _ _ dX5_putLast_70 (Eq.symm ((fX5_putLast.eq_1 _ _ _ _ _).trans ((if_pos c4).trans rfl))) hH hS hq2 hq2
  · have ho := ho c4
    refine lv_aload_n hx hb dX5_putLast_22 rfl (lv_at hl 0 rfl) ?_
    refine g_Pieces_9 X hH hk_r dX5_putLast_23 ?_
    refine lv_aload_n hx hb dX5_putLast_26 rfl (lv_at hl 0 rfl) ?_
    refine g_Pieces_21 X hH hk_r dX5_putLast_27 ?_
    refine lv_iload_n hx hb dX5_putLast_30 rfl (lv_at hl 1 rfl) ?_
    have hq5 := ho.1
    have ho := ho.2
    refine ast_d0 X hH hS hk_r hq5 dX5_putLast_31 (fun H locs v6 ev6 hH hS => ?_)
    have ho := ho v6 ev6
    refine lv_aload_n hx hb dX5_putLast_32 rfl (lv_at hl 0 rfl) ?_
    refine g_Pieces_15 X hH hk_r dX5_putLast_33 ?_
    refine lv_aload_n hx hb dX5_putLast_36 rfl (lv_at hl 0 rfl) ?_
    refine g_Pieces_21 X hH hk_r dX5_putLast_37 ?_
    refine lv_iload_n hx hb dX5_putLast_40 rfl (lv_at hl 2 rfl) ?_
    have hq7 := ho.1
    have ho := ho.2
    refine ast_d1 X hH hS hk_r hq7 dX5_putLast_41 (fun H locs v8 ev8 hH hS => ?_)
    have ho := ho v8 ev8
    refine lv_aload_n hx hb dX5_putLast_42 rfl (lv_at hl 0 rfl) ?_
    refine g_Pieces_18 X hH hk_r dX5_putLast_43 ?_
    refine lv_aload_n hx hb dX5_putLast_46 rfl (lv_at hl 0 rfl) ?_
    refine g_Pieces_21 X hH hk_r dX5_putLast_47 ?_
    refine lv_iload_n hx hb dX5_putLast_50 rfl (lv_at hl 3 rfl) ?_
    have K10 : ∀ (y9 : Int32) (ls : Array Slot), y9 = (if (p3 : Int32) = 0 then 0 else 1 : Int32) → lv_has ls 4 [(0, .ref (ga G r))] → W p l e (rmX5_putLast r p1 p2 p3 v) s m args below meth c H locs (0 + kkX5_makeRoom r ((v r 3) + 1) v) (0 + kkX5_makeRoom r ((v r 3) + 1) v) Q (F0 m 59 ls [.int y9, .int (v8 r 3), .ref (da (chP r + 2))]) := by
      intro y9 ls ey9 hl
      have ho := ho y9 ey9
      have hq11 := ho
      refine ast_d2 X hH hS hk_r hq11 dX5_putLast_59 (fun H locs v12 ev12 hH hS => ?_)
      refine lv_aload_n hx hb dX5_putLast_60 rfl (lv_at hl 0 rfl) ?_
      refine lv_dup hx hb dX5_putLast_61 rfl ?_
      refine g_Pieces_21 X hH hk_r dX5_putLast_62 ?_
      refine lv_iconst (v := 1) hx hb dX5_putLast_65 (by decide) ?_
      refine lv_iadd hx hb dX5_putLast_66 ?_
      refine p_Pieces_21 X hH hS hk_r dX5_putLast_67 (fun H locs v13 ev13 hH hS => ?_)
      replace ev3 := Eq.symm ev3
      replace ev6 := Eq.symm ev6
      replace ev8 := Eq.symm ev8
      replace ey9 := Eq.symm ey9
      replace ev12 := Eq.symm ev12
      replace ev13 := Eq.symm ev13
      subst ev3 ev6 ev8 ey9 ev12 ev13
      exact E _ _ _ _ _ _ _ _ dX5_putLast_70 (Eq.symm ((fX5_putLast.eq_1 _ _ _ _ _).trans ((if_neg c4).trans rfl))) hH hS hq2 hq2
    refine lv_if_eq (tgt := 58) hx hb dX5_putLast_51 (by decide) (fun c10 => ?_) (fun c10 => ?_)
    · skip
      refine lv_iconst (v := 0) hx hb dX5_putLast_58 (by decide) ?_
      exact K10 _ _ (Eq.symm ((if_pos c10).trans rfl)) (lv_sub hl [0] rfl)
    · skip
      refine lv_iconst (v := 1) hx hb dX5_putLast_54 (by decide) ?_
      refine lv_goto (tgt := 59) hx hb dX5_putLast_55 (by decide) ?_
      exact K10 _ _ (Eq.symm ((if_neg c10).trans rfl)) (lv_sub hl [0] rfl)
theorem k_X5_putLast {p : Program} {l : Launch} {e : Env} {R : Room} {s : State} {m : MethodId} {args : Array Value} {below : List Frame} {meth : Method} {c : Code} {H : Heap} {locs : List Loc} {cells slots : Nat} {Q : State → Prop} {cc : ByteArray} {pc nL : Nat} {ls : Array Slot} {rest : List Value} {G : gG} {own : String} {da : Nat → Nat} {v : vSt} {x : gX} (X : CX G p s m args c cc nL own) (hS : va_S (gA G) s.heap H locs) (hH : Hp G da v x H) {r : Nat} (hk_r : kd r = 5 ∨ kd r = 15) {p1 : Int32} {p2 : Int32} {p3 : Int32} (ho : oX5_putLast r p1 p2 p3 v) {idx : Nat} (hml : Cond.methodLink own idx yX5_putLast ∈ TT) (hls : ls.size = nL) (hsum : (rest.map fun v => v.category).sum ≤ 8) (hR : (rmX5_putLast r p1 p2 p3 v).frames + 1 ≤ R.frames ∧ 8 + (4 + 11) + (rmX5_putLast r p1 p2 p3 v).locals ≤ R.locals) (hcs : cells + (kkX5_putLast r p1 p2 p3 v) ≤ R.cells ∧ slots + (kkX5_putLast r p1 p2 p3 v) ≤ R.slots) (hdg : decode cc pc = .ok (.invokevirtual idx, 3)) (kk : ∀ (d : Nat → Nat) (H1 : Heap) (locs1 : List Loc) (v1 : vSt), v1 = fX5_putLast r p1 p2 p3 v → Hp G d v1 x H1 → va_S (gA G) s.heap H1 locs1 → W p l e R s m args below meth c H1 locs1 (cells + (kkX5_putLast r p1 p2 p3 v)) (slots + (kkX5_putLast r p1 p2 p3 v)) Q (F0 m (pc + 3) ls rest)) : W p l e R s m args below meth c H locs cells slots Q (F0 m pc ls (.int p3 :: .int p2 :: .int p1 :: .ref (ga G r) :: rest)) := c_mv X.2.2.2.2.2.2 (runV (k := 3) X.1 X.2.1 X.2.2.1 X.2.2.2.1 X.2.2.2.2.1 (mX5_putLast l G da v x r hk_r p1 p2 p3 ho) pW_bl hml t_im_X5_putLast t_sel_X5_putLast t_ini_Pieces t_code_X5_putLast ⟨rfl, by decide, by decide, by decide +kernel⟩ rfl rfl hR hcs (recvW X hH (kd_P hk_r).1 (kd_P hk_r).2 (ce_P hk_r) rfl) (preW X hS hH) rfl hls rfl hsum hdg) hS kk
def fX5_dropFirst (r : Nat) (v : vSt) : vSt := if (0 : Int32) < (v r 3) then (let v2 : vSt := u2 v r 3 ((v r 3) - 1); let v4 : vSt := uA v2 (chP r) (va_cpy (v2 (chP r)) (v2 (chP r)) (1 : Int32).toNatClampNeg (0 : Int32).toNatClampNeg (v2 r 3 : Int32).toNatClampNeg); let v6 : vSt := uA v4 (chP r + 1) (va_cpy (v4 (chP r + 1)) (v4 (chP r + 1)) (1 : Int32).toNatClampNeg (0 : Int32).toNatClampNeg (v4 r 3 : Int32).toNatClampNeg); let v8 : vSt := uA v6 (chP r + 2) (va_cpy (v6 (chP r + 2)) (v6 (chP r + 2)) (1 : Int32).toNatClampNeg (0 : Int32).toNatClampNeg (v6 r 3 : Int32).toNatClampNeg); v8) else v
def oX5_dropFirst (r : Nat) (v : vSt) : Prop := ((0 : Int32) < (v r 3)) → (∀ v2 : vSt, v2 = (u2 v r 3 ((v r 3) - 1)) → ((cpOK (1) (0) (v2 r 3) (rN (v2 r 4)) (rN (v2 r 4))) ∧ (∀ v4 : vSt, v4 = (uA v2 (chP r) (va_cpy (v2 (chP r)) (v2 (chP r)) (1 : Int32).toNatClampNeg (0 : Int32).toNatClampNeg (v2 r 3 : Int32).toNatClampNeg)) → ((cpOK (1) (0) (v4 r 3) (rN (v4 r 5)) (rN (v4 r 5))) ∧ (∀ v6 : vSt, v6 = (uA v4 (chP r + 1) (va_cpy (v4 (chP r + 1)) (v4 (chP r + 1)) (1 : Int32).toNatClampNeg (0 : Int32).toNatClampNeg (v4 r 3 : Int32).toNatClampNeg)) → (cpOK (1) (0) (v6 r 3) (rN (v6 r 6)) (rN (v6 r 6))))))))
abbrev rmX5_dropFirst : Room := { frames := 1, cells := 0, slots := 0, locals := 40 }
theorem dX5_dropFirst_0 : decode cX5_dropFirst 0 = .ok (.aload_n 0, 1) := by decide +kernel
theorem dX5_dropFirst_1 : decode cX5_dropFirst 1 = .ok (.getfield 21, 3) := by decide +kernel
theorem dX5_dropFirst_4 : decode cX5_dropFirst 4 = .ok (.ifCond .gt 4, 3) := by decide +kernel
theorem dX5_dropFirst_7 : decode cX5_dropFirst 7 = .ok (.return_, 1) := by decide +kernel
theorem dX5_dropFirst_8 : decode cX5_dropFirst 8 = .ok (.aload_n 0, 1) := by decide +kernel
theorem dX5_dropFirst_9 : decode cX5_dropFirst 9 = .ok (.dup, 1) := by decide +kernel
theorem dX5_dropFirst_10 : decode cX5_dropFirst 10 = .ok (.getfield 21, 3) := by decide +kernel
theorem dX5_dropFirst_13 : decode cX5_dropFirst 13 = .ok (.iconst 1, 1) := by decide +kernel
theorem dX5_dropFirst_14 : decode cX5_dropFirst 14 = .ok (.isub, 1) := by decide +kernel
theorem dX5_dropFirst_15 : decode cX5_dropFirst 15 = .ok (.putfield 21, 3) := by decide +kernel
theorem dX5_dropFirst_18 : decode cX5_dropFirst 18 = .ok (.aload_n 0, 1) := by decide +kernel
theorem dX5_dropFirst_19 : decode cX5_dropFirst 19 = .ok (.getfield 9, 3) := by decide +kernel
theorem dX5_dropFirst_22 : decode cX5_dropFirst 22 = .ok (.iconst 1, 1) := by decide +kernel
theorem dX5_dropFirst_23 : decode cX5_dropFirst 23 = .ok (.aload_n 0, 1) := by decide +kernel
theorem dX5_dropFirst_24 : decode cX5_dropFirst 24 = .ok (.getfield 9, 3) := by decide +kernel
theorem dX5_dropFirst_27 : decode cX5_dropFirst 27 = .ok (.iconst 0, 1) := by decide +kernel
theorem dX5_dropFirst_28 : decode cX5_dropFirst 28 = .ok (.aload_n 0, 1) := by decide +kernel
theorem dX5_dropFirst_29 : decode cX5_dropFirst 29 = .ok (.getfield 21, 3) := by decide +kernel
theorem dX5_dropFirst_32 : decode cX5_dropFirst 32 = .ok (.invokestatic 35, 3) := by decide +kernel
theorem dX5_dropFirst_35 : decode cX5_dropFirst 35 = .ok (.aload_n 0, 1) := by decide +kernel
theorem dX5_dropFirst_36 : decode cX5_dropFirst 36 = .ok (.getfield 15, 3) := by decide +kernel
theorem dX5_dropFirst_39 : decode cX5_dropFirst 39 = .ok (.iconst 1, 1) := by decide +kernel
theorem dX5_dropFirst_40 : decode cX5_dropFirst 40 = .ok (.aload_n 0, 1) := by decide +kernel
theorem dX5_dropFirst_41 : decode cX5_dropFirst 41 = .ok (.getfield 15, 3) := by decide +kernel
theorem dX5_dropFirst_44 : decode cX5_dropFirst 44 = .ok (.iconst 0, 1) := by decide +kernel
theorem dX5_dropFirst_45 : decode cX5_dropFirst 45 = .ok (.aload_n 0, 1) := by decide +kernel
theorem dX5_dropFirst_46 : decode cX5_dropFirst 46 = .ok (.getfield 21, 3) := by decide +kernel
theorem dX5_dropFirst_49 : decode cX5_dropFirst 49 = .ok (.invokestatic 35, 3) := by decide +kernel
theorem dX5_dropFirst_52 : decode cX5_dropFirst 52 = .ok (.aload_n 0, 1) := by decide +kernel
theorem dX5_dropFirst_53 : decode cX5_dropFirst 53 = .ok (.getfield 18, 3) := by decide +kernel
theorem dX5_dropFirst_56 : decode cX5_dropFirst 56 = .ok (.iconst 1, 1) := by decide +kernel
theorem dX5_dropFirst_57 : decode cX5_dropFirst 57 = .ok (.aload_n 0, 1) := by decide +kernel
theorem dX5_dropFirst_58 : decode cX5_dropFirst 58 = .ok (.getfield 18, 3) := by decide +kernel
theorem dX5_dropFirst_61 : decode cX5_dropFirst 61 = .ok (.iconst 0, 1) := by decide +kernel
theorem dX5_dropFirst_62 : decode cX5_dropFirst 62 = .ok (.aload_n 0, 1) := by decide +kernel
theorem dX5_dropFirst_63 : decode cX5_dropFirst 63 = .ok (.getfield 21, 3) := by decide +kernel
theorem dX5_dropFirst_66 : decode cX5_dropFirst 66 = .ok (.invokestatic 35, 3) := by decide +kernel
theorem dX5_dropFirst_69 : decode cX5_dropFirst 69 = .ok (.return_, 1) := by decide +kernel
set_option maxHeartbeats 8000000 in
set_option maxRecDepth 100000 in
theorem mX5_dropFirst (l : Launch) (G : gG) (da : Nat → Nat) (v : vSt) (x : gX) (r : Nat) (hk_r : kd r = 5 ∨ kd r = 15) (ho : oX5_dropFirst r v) : MV l yX5_dropFirst cX5_dropFirst 1 none rmX5_dropFirst [.ref (ga G r)] G da v x 0 0 (fX5_dropFirst r v) x := by
  refine gofMV (own := RX5) (by decide) rfl (Nat.le_of_ble_eq_true rfl) (fun p e s m args below meth c ls Q X hH hl E => ?_)
  have hx := X.1
  have hb := X.2.1
  have hown := X.2.2.2.1
  have hts := X.2.2.2.2.1
  have hS : va_S (gA G) s.heap s.heap [] := va_S.rf
  unfold oX5_dropFirst at ho
  have hl : lv_has ls 1 [(0, .ref (ga G r))] := hl
  refine lv_aload_n hx hb dX5_dropFirst_0 rfl (lv_at hl 0 rfl) ?_
  refine g_Pieces_21 X hH hk_r dX5_dropFirst_1 ?_
  refine lv_if_gt (tgt := 8) hx hb dX5_dropFirst_4 (by decide) (fun c1 => ?_) (fun c1 => ?_)
  · have ho := ho c1
    refine lv_aload_n hx hb dX5_dropFirst_8 rfl (lv_at hl 0 rfl) ?_
    refine lv_dup hx hb dX5_dropFirst_9 rfl ?_
    refine g_Pieces_21 X hH hk_r dX5_dropFirst_10 ?_
    refine lv_iconst (v := 1) hx hb dX5_dropFirst_13 (by decide) ?_
    refine lv_isub hx hb dX5_dropFirst_14 ?_
    refine p_Pieces_21 X hH hS hk_r dX5_dropFirst_15 (fun H locs v2 ev2 hH hS => ?_)
    have ho := ho v2 ev2
    refine lv_aload_n hx hb dX5_dropFirst_18 rfl (lv_at hl 0 rfl) ?_
    refine g_Pieces_9 X hH hk_r dX5_dropFirst_19 ?_
    refine lv_iconst (v := 1) hx hb dX5_dropFirst_22 (by decide) ?_
    refine lv_aload_n hx hb dX5_dropFirst_23 rfl (lv_at hl 0 rfl) ?_
    refine g_Pieces_9 X hH hk_r dX5_dropFirst_24 ?_
    refine lv_iconst (v := 0) hx hb dX5_dropFirst_27 (by decide) ?_
    refine lv_aload_n hx hb dX5_dropFirst_28 rfl (lv_at hl 0 rfl) ?_
    refine g_Pieces_21 X hH hk_r dX5_dropFirst_29 ?_
    have hq3 := ho.1
    have ho := ho.2
    refine r_cpy X hH hS (al_d0 hk_r) (al_d0 hk_r) t_ml_Pieces_35 hl.1 hq3 ⟨Nat.le_of_ble_eq_true rfl, Nat.le_of_ble_eq_true rfl⟩ dX5_dropFirst_32 (fun H locs v4 ev4 hH hS => ?_)
    have ho := ho v4 ev4
    refine lv_aload_n hx hb dX5_dropFirst_35 rfl (lv_at hl 0 rfl) ?_
    refine g_Pieces_15 X hH hk_r dX5_dropFirst_36 ?_
    refine lv_iconst (v := 1) hx hb dX5_dropFirst_39 (by decide) ?_
    refine lv_aload_n hx hb dX5_dropFirst_40 rfl (lv_at hl 0 rfl) ?_
    refine g_Pieces_15 X hH hk_r dX5_dropFirst_41 ?_
    refine lv_iconst (v := 0) hx hb dX5_dropFirst_44 (by decide) ?_
    refine lv_aload_n hx hb dX5_dropFirst_45 rfl (lv_at hl 0 rfl) ?_
    refine g_Pieces_21 X hH hk_r dX5_dropFirst_46 ?_
    have hq5 := ho.1
    have ho := ho.2
    refine r_cpy X hH hS (al_d1 hk_r) (al_d1 hk_r) t_ml_Pieces_35 hl.1 hq5 ⟨Nat.le_of_ble_eq_true rfl, Nat.le_of_ble_eq_true rfl⟩ dX5_dropFirst_49 (fun H locs v6 ev6 hH hS => ?_)
    have ho := ho v6 ev6
    refine lv_aload_n hx hb dX5_dropFirst_52 rfl (lv_at hl 0 rfl) ?_
    refine g_Pieces_18 X hH hk_r dX5_dropFirst_53 ?_
    refine lv_iconst (v := 1) hx hb dX5_dropFirst_56 (by decide) ?_
    refine lv_aload_n hx hb dX5_dropFirst_57 rfl (lv_at hl 0 rfl) ?_
    refine g_Pieces_18 X hH hk_r dX5_dropFirst_58 ?_
    refine lv_iconst (v := 0) hx hb dX5_dropFirst_61 (by decide) ?_
    refine lv_aload_n hx hb dX5_dropFirst_62 rfl (lv_at hl 0 rfl) ?_
    refine g_Pieces_21 X hH hk_r dX5_dropFirst_63 ?_
    have hq7 := ho
    refine r_cpy X hH hS (al_d2 hk_r) (al_d2 hk_r) t_ml_Pieces_35 hl.1 hq7 ⟨Nat.le_of_ble_eq_true rfl, Nat.le_of_ble_eq_true rfl⟩ dX5_dropFirst_66 (fun H locs v8 ev8 hH hS => ?_)
    replace ev2 := Eq.symm ev2
    replace ev4 := Eq.symm ev4
    replace ev6 := Eq.symm ev6
    replace ev8 := Eq.symm ev8
    subst ev2 ev4 ev6 ev8
    exact E _ _ _ _ _ _ _ _ dX5_dropFirst_69 (Eq.symm ((fX5_dropFirst.eq_1 _ _).trans ((if_pos c1).trans rfl))) hH hS (Nat.zero_le _) (Nat.zero_le _)
  · skip
    exact E _ _ _ _ _ _ _ _ dX5_dropFirst_7 (Eq.symm ((fX5_dropFirst.eq_1 _ _).trans ((if_neg c1).trans rfl))) hH hS (Nat.zero_le _) (Nat.zero_le _)
theorem k_X5_dropFirst {p : Program} {l : Launch} {e : Env} {R : Room} {s : State} {m : MethodId} {args : Array Value} {below : List Frame} {meth : Method} {c : Code} {H : Heap} {locs : List Loc} {cells slots : Nat} {Q : State → Prop} {cc : ByteArray} {pc nL : Nat} {ls : Array Slot} {rest : List Value} {G : gG} {own : String} {da : Nat → Nat} {v : vSt} {x : gX} (X : CX G p s m args c cc nL own) (hS : va_S (gA G) s.heap H locs) (hH : Hp G da v x H) {r : Nat} (hk_r : kd r = 5 ∨ kd r = 15) (ho : oX5_dropFirst r v) {idx : Nat} (hml : Cond.methodLink own idx yX5_dropFirst ∈ TT) (hls : ls.size = nL) (hsum : (rest.map fun v => v.category).sum ≤ 8) (hR : rmX5_dropFirst.frames + 1 ≤ R.frames ∧ 8 + (1 + 11) + rmX5_dropFirst.locals ≤ R.locals) (hcs : cells ≤ R.cells ∧ slots ≤ R.slots) (hdg : decode cc pc = .ok (.invokevirtual idx, 3)) (kk : ∀ (d : Nat → Nat) (H1 : Heap) (locs1 : List Loc) (v1 : vSt), v1 = fX5_dropFirst r v → Hp G d v1 x H1 → va_S (gA G) s.heap H1 locs1 → W p l e R s m args below meth c H1 locs1 cells slots Q (F0 m (pc + 3) ls rest)) : W p l e R s m args below meth c H locs cells slots Q (F0 m pc ls (.ref (ga G r) :: rest)) := c_mv X.2.2.2.2.2.2 (runV (k := 0) X.1 X.2.1 X.2.2.1 X.2.2.2.1 X.2.2.2.2.1 (mX5_dropFirst l G da v x r hk_r ho) pW_bl hml t_im_X5_dropFirst t_sel_X5_dropFirst t_ini_Pieces t_code_X5_dropFirst ⟨rfl, by decide, by decide, by decide +kernel⟩ rfl rfl hR hcs (recvW X hH (kd_P hk_r).1 (kd_P hk_r).2 (ce_P hk_r) rfl) (preW X hS hH) rfl hls rfl hsum hdg) hS kk
def fX5_copyFrom (r : Nat) (o1 : Nat) (v : vSt) : vSt := let v3 : vSt := fX5_makeRoom r (v o1 3) v; let v4 : vSt := u2 v3 r 3 (if Int32.ofNat (rN (v3 r 4)) < (v3 o1 3) then Int32.ofNat (rN (v3 r 4)) else v3 o1 3 : Int32); let v6 : vSt := uA v4 (chP r) (va_cpy (v4 (chP o1)) (v4 (chP r)) (0 : Int32).toNatClampNeg (0 : Int32).toNatClampNeg (v4 r 3 : Int32).toNatClampNeg); let v8 : vSt := uA v6 (chP r + 1) (va_cpy (v6 (chP o1 + 1)) (v6 (chP r + 1)) (0 : Int32).toNatClampNeg (0 : Int32).toNatClampNeg (v6 r 3 : Int32).toNatClampNeg); let v10 : vSt := uA v8 (chP r + 2) (va_cpy (v8 (chP o1 + 2)) (v8 (chP r + 2)) (0 : Int32).toNatClampNeg (0 : Int32).toNatClampNeg (v8 r 3 : Int32).toNatClampNeg); v10

def kkX5_copyFrom (r : Nat) (o1 : Nat) (v : vSt) : Nat := pot (fX5_copyFrom r o1 v) - pot v
def oX5_copyFrom (r : Nat) (o1 : Nat) (v : vSt) : Prop := (oX5_makeRoom r (v o1 3) v) ∧ ((0 + kkX5_makeRoom r (v o1 3) v ≤ kkX5_copyFrom r o1 v) ∧ (∀ v3 : vSt, v3 = (fX5_makeRoom r (v o1 3) v) → (∀ v4 : vSt, v4 = (u2 v3 r 3 (if Int32.ofNat (rN (v3 r 4)) < (v3 o1 3) then Int32.ofNat (rN (v3 r 4)) else v3 o1 3 : Int32)) → ((cpOK (0) (0) (v4 r 3) (rN (v4 o1 4)) (rN (v4 r 4))) ∧ (∀ v6 : vSt, v6 = (uA v4 (chP r) (va_cpy (v4 (chP o1)) (v4 (chP r)) (0 : Int32).toNatClampNeg (0 : Int32).toNatClampNeg (v4 r 3 : Int32).toNatClampNeg)) → ((cpOK (0) (0) (v6 r 3) (rN (v6 o1 5)) (rN (v6 r 5))) ∧ (∀ v8 : vSt, v8 = (uA v6 (chP r + 1) (va_cpy (v6 (chP o1 + 1)) (v6 (chP r + 1)) (0 : Int32).toNatClampNeg (0 : Int32).toNatClampNeg (v6 r 3 : Int32).toNatClampNeg)) → (cpOK (0) (0) (v8 r 3) (rN (v8 o1 6)) (rN (v8 r 6))))))))))
abbrev rmX5_copyFrom (r : Nat) (o1 : Nat) (v : vSt) : Room := { frames := 3, cells := kkX5_copyFrom r o1 v, slots := kkX5_copyFrom r o1 v, locals := 112 }
theorem dX5_copyFrom_0 : decode cX5_copyFrom 0 = .ok (.aload_n 0, 1) := by decide +kernel
theorem dX5_copyFrom_1 : decode cX5_copyFrom 1 = .ok (.aload_n 1, 1) := by decide +kernel
theorem dX5_copyFrom_2 : decode cX5_copyFrom 2 = .ok (.getfield 21, 3) := by decide +kernel
theorem dX5_copyFrom_5 : decode cX5_copyFrom 5 = .ok (.invokevirtual 25, 3) := by decide +kernel
theorem dX5_copyFrom_8 : decode cX5_copyFrom 8 = .ok (.aload_n 0, 1) := by decide +kernel
theorem dX5_copyFrom_9 : decode cX5_copyFrom 9 = .ok (.aload_n 1, 1) := by decide +kernel
theorem dX5_copyFrom_10 : decode cX5_copyFrom 10 = .ok (.getfield 21, 3) := by decide +kernel
theorem dX5_copyFrom_13 : decode cX5_copyFrom 13 = .ok (.aload_n 0, 1) := by decide +kernel
theorem dX5_copyFrom_14 : decode cX5_copyFrom 14 = .ok (.getfield 9, 3) := by decide +kernel
theorem dX5_copyFrom_17 : decode cX5_copyFrom 17 = .ok (.arraylength, 1) := by decide +kernel
theorem dX5_copyFrom_18 : decode cX5_copyFrom 18 = .ok (.invokestatic 29, 3) := by decide +kernel
theorem dX5_copyFrom_21 : decode cX5_copyFrom 21 = .ok (.putfield 21, 3) := by decide +kernel
theorem dX5_copyFrom_24 : decode cX5_copyFrom 24 = .ok (.aload_n 1, 1) := by decide +kernel
theorem dX5_copyFrom_25 : decode cX5_copyFrom 25 = .ok (.getfield 9, 3) := by decide +kernel
theorem dX5_copyFrom_28 : decode cX5_copyFrom 28 = .ok (.iconst 0, 1) := by decide +kernel
theorem dX5_copyFrom_29 : decode cX5_copyFrom 29 = .ok (.aload_n 0, 1) := by decide +kernel
theorem dX5_copyFrom_30 : decode cX5_copyFrom 30 = .ok (.getfield 9, 3) := by decide +kernel
theorem dX5_copyFrom_33 : decode cX5_copyFrom 33 = .ok (.iconst 0, 1) := by decide +kernel
theorem dX5_copyFrom_34 : decode cX5_copyFrom 34 = .ok (.aload_n 0, 1) := by decide +kernel
theorem dX5_copyFrom_35 : decode cX5_copyFrom 35 = .ok (.getfield 21, 3) := by decide +kernel
theorem dX5_copyFrom_38 : decode cX5_copyFrom 38 = .ok (.invokestatic 35, 3) := by decide +kernel
theorem dX5_copyFrom_41 : decode cX5_copyFrom 41 = .ok (.aload_n 1, 1) := by decide +kernel
theorem dX5_copyFrom_42 : decode cX5_copyFrom 42 = .ok (.getfield 15, 3) := by decide +kernel
theorem dX5_copyFrom_45 : decode cX5_copyFrom 45 = .ok (.iconst 0, 1) := by decide +kernel
theorem dX5_copyFrom_46 : decode cX5_copyFrom 46 = .ok (.aload_n 0, 1) := by decide +kernel
theorem dX5_copyFrom_47 : decode cX5_copyFrom 47 = .ok (.getfield 15, 3) := by decide +kernel
theorem dX5_copyFrom_50 : decode cX5_copyFrom 50 = .ok (.iconst 0, 1) := by decide +kernel
theorem dX5_copyFrom_51 : decode cX5_copyFrom 51 = .ok (.aload_n 0, 1) := by decide +kernel
theorem dX5_copyFrom_52 : decode cX5_copyFrom 52 = .ok (.getfield 21, 3) := by decide +kernel
theorem dX5_copyFrom_55 : decode cX5_copyFrom 55 = .ok (.invokestatic 35, 3) := by decide +kernel
theorem dX5_copyFrom_58 : decode cX5_copyFrom 58 = .ok (.aload_n 1, 1) := by decide +kernel
theorem dX5_copyFrom_59 : decode cX5_copyFrom 59 = .ok (.getfield 18, 3) := by decide +kernel
theorem dX5_copyFrom_62 : decode cX5_copyFrom 62 = .ok (.iconst 0, 1) := by decide +kernel
theorem dX5_copyFrom_63 : decode cX5_copyFrom 63 = .ok (.aload_n 0, 1) := by decide +kernel
theorem dX5_copyFrom_64 : decode cX5_copyFrom 64 = .ok (.getfield 18, 3) := by decide +kernel
theorem dX5_copyFrom_67 : decode cX5_copyFrom 67 = .ok (.iconst 0, 1) := by decide +kernel
theorem dX5_copyFrom_68 : decode cX5_copyFrom 68 = .ok (.aload_n 0, 1) := by decide +kernel
theorem dX5_copyFrom_69 : decode cX5_copyFrom 69 = .ok (.getfield 21, 3) := by decide +kernel
theorem dX5_copyFrom_72 : decode cX5_copyFrom 72 = .ok (.invokestatic 35, 3) := by decide +kernel
theorem dX5_copyFrom_75 : decode cX5_copyFrom 75 = .ok (.return_, 1) := by decide +kernel
set_option maxHeartbeats 8000000 in
set_option maxRecDepth 100000 in
theorem mX5_copyFrom (l : Launch) (G : gG) (da : Nat → Nat) (v : vSt) (x : gX) (r : Nat) (hk_r : kd r = 5 ∨ kd r = 15) (o1 : Nat) (hk_o1 : kd o1 = 5 ∨ kd o1 = 15) (ho : oX5_copyFrom r o1 v) : MV l yX5_copyFrom cX5_copyFrom 2 none (rmX5_copyFrom r o1 v) [.ref (ga G r), .ref (ga G o1)] G da v x (kkX5_copyFrom r o1 v) (kkX5_copyFrom r o1 v) (fX5_copyFrom r o1 v) x := by
  refine gofMV (own := RX5) (by decide) rfl (Nat.le_of_ble_eq_true rfl) (fun p e s m args below meth c ls Q X hH hl E => ?_)
  have hx := X.1
  have hb := X.2.1
  have hown := X.2.2.2.1
  have hts := X.2.2.2.2.1
  have hS : va_S (gA G) s.heap s.heap [] := va_S.rf
  unfold oX5_copyFrom at ho
  have hl : lv_has ls 2 [(0, .ref (ga G r)), (1, .ref (ga G o1))] := hl
  refine lv_aload_n hx hb dX5_copyFrom_0 rfl (lv_at hl 0 rfl) ?_
  refine lv_aload_n hx hb dX5_copyFrom_1 rfl (lv_at hl 1 rfl) ?_
  refine g_Pieces_21 X hH hk_o1 dX5_copyFrom_2 ?_
  have hq1 := ho.1
  have ho := ho.2
  have hq2 := ho.1
  have ho := ho.2
  refine k_X5_makeRoom X hS hH hk_r hq1 t_ml_Pieces_25 hl.1 (Nat.le_of_ble_eq_true rfl) ⟨Nat.le_of_ble_eq_true rfl, Nat.le_of_ble_eq_true rfl⟩ ⟨hq2, hq2⟩ dX5_copyFrom_5 (fun da H locs v3 ev3 hH hS => ?_)
  have ho := ho v3 ev3
  refine lv_aload_n hx hb dX5_copyFrom_8 rfl (lv_at hl 0 rfl) ?_
  refine lv_aload_n hx hb dX5_copyFrom_9 rfl (lv_at hl 1 rfl) ?_
  refine g_Pieces_21 X hH hk_o1 dX5_copyFrom_10 ?_
  refine lv_aload_n hx hb dX5_copyFrom_13 rfl (lv_at hl 0 rfl) ?_
  refine g_Pieces_9 X hH hk_r dX5_copyFrom_14 ?_
  refine len_d0 X hH hk_r dX5_copyFrom_17 ?_
  refine k_mmin X t_ml_Pieces_29 hl.1 ⟨Nat.le_of_ble_eq_true rfl, Nat.le_of_ble_eq_true rfl⟩ ⟨hq2, hq2⟩ dX5_copyFrom_18 ?_
  refine p_Pieces_21 X hH hS hk_r dX5_copyFrom_21 (fun H locs v4 ev4 hH hS => ?_)
  have ho := ho v4 ev4
  refine lv_aload_n hx hb dX5_copyFrom_24 rfl (lv_at hl 1 rfl) ?_
  refine g_Pieces_9 X hH hk_o1 dX5_copyFrom_25 ?_
  refine lv_iconst (v := 0) hx hb dX5_copyFrom_28 (by decide) ?_
  refine lv_aload_n hx hb dX5_copyFrom_29 rfl (lv_at hl 0 rfl) ?_
  refine g_Pieces_9 X hH hk_r dX5_copyFrom_30 ?_
  refine lv_iconst (v := 0) hx hb dX5_copyFrom_33 (by decide) ?_
  refine lv_aload_n hx hb dX5_copyFrom_34 rfl (lv_at hl 0 rfl) ?_
  refine g_Pieces_21 X hH hk_r dX5_copyFrom_35 ?_
  have hq5 := ho.1
  have ho := ho.2
  refine r_cpy X hH hS (al_d0 hk_o1) (al_d0 hk_r) t_ml_Pieces_35 hl.1 hq5 ⟨Nat.le_of_ble_eq_true rfl, Nat.le_of_ble_eq_true rfl⟩ dX5_copyFrom_38 (fun H locs v6 ev6 hH hS => ?_)
  have ho := ho v6 ev6
  refine lv_aload_n hx hb dX5_copyFrom_41 rfl (lv_at hl 1 rfl) ?_
  refine g_Pieces_15 X hH hk_o1 dX5_copyFrom_42 ?_
  refine lv_iconst (v := 0) hx hb dX5_copyFrom_45 (by decide) ?_
  refine lv_aload_n hx hb dX5_copyFrom_46 rfl (lv_at hl 0 rfl) ?_
  refine g_Pieces_15 X hH hk_r dX5_copyFrom_47 ?_
  refine lv_iconst (v := 0) hx hb dX5_copyFrom_50 (by decide) ?_
  refine lv_aload_n hx hb dX5_copyFrom_51 rfl (lv_at hl 0 rfl) ?_
  refine g_Pieces_21 X hH hk_r dX5_copyFrom_52 ?_
  have hq7 := ho.1
  have ho := ho.2
  refine r_cpy X hH hS (al_d1 hk_o1) (al_d1 hk_r) t_ml_Pieces_35 hl.1 hq7 ⟨Nat.le_of_ble_eq_true rfl, Nat.le_of_ble_eq_true rfl⟩ dX5_copyFrom_55 (fun H locs v8 ev8 hH hS => ?_)
  have ho := ho v8 ev8
  refine lv_aload_n hx hb dX5_copyFrom_58 rfl (lv_at hl 1 rfl) ?_
  refine g_Pieces_18 X hH hk_o1 dX5_copyFrom_59 ?_
  refine lv_iconst (v := 0) hx hb dX5_copyFrom_62 (by decide) ?_
  refine lv_aload_n hx hb dX5_copyFrom_63 rfl (lv_at hl 0 rfl) ?_
  refine g_Pieces_18 X hH hk_r dX5_copyFrom_64 ?_
  refine lv_iconst (v := 0) hx hb dX5_copyFrom_67 (by decide) ?_
  refine lv_aload_n hx hb dX5_copyFrom_68 rfl (lv_at hl 0 rfl) ?_
  refine g_Pieces_21 X hH hk_r dX5_copyFrom_69 ?_
  have hq9 := ho
  refine r_cpy X hH hS (al_d2 hk_o1) (al_d2 hk_r) t_ml_Pieces_35 hl.1 hq9 ⟨Nat.le_of_ble_eq_true rfl, Nat.le_of_ble_eq_true rfl⟩ dX5_copyFrom_72 (fun H locs v10 ev10 hH hS => ?_)
  replace ev3 := Eq.symm ev3
  replace ev4 := Eq.symm ev4
  replace ev6 := Eq.symm ev6
  replace ev8 := Eq.symm ev8
  replace ev10 := Eq.symm ev10
  subst ev3 ev4 ev6 ev8 ev10
  exact E _ _ _ _ _ _ _ _ dX5_copyFrom_75 (Eq.symm rfl) hH hS hq2 hq2
theorem k_X5_copyFrom {p : Program} {l : Launch} {e : Env} {R : Room} {s : State} {m : MethodId} {args : Array Value} {below : List Frame} {meth : Method} {c : Code} {H : Heap} {locs : List Loc} {cells slots : Nat} {Q : State → Prop} {cc : ByteArray} {pc nL : Nat} {ls : Array Slot} {rest : List Value} {G : gG} {own : String} {da : Nat → Nat} {v : vSt} {x : gX} (X : CX G p s m args c cc nL own) (hS : va_S (gA G) s.heap H locs) (hH : Hp G da v x H) {r : Nat} (hk_r : kd r = 5 ∨ kd r = 15) {o1 : Nat} (hk_o1 : kd o1 = 5 ∨ kd o1 = 15) (ho : oX5_copyFrom r o1 v) {idx : Nat} (hml : Cond.methodLink own idx yX5_copyFrom ∈ TT) (hls : ls.size = nL) (hsum : (rest.map fun v => v.category).sum ≤ 8) (hR : (rmX5_copyFrom r o1 v).frames + 1 ≤ R.frames ∧ 8 + (2 + 11) + (rmX5_copyFrom r o1 v).locals ≤ R.locals) (hcs : cells + (kkX5_copyFrom r o1 v) ≤ R.cells ∧ slots + (kkX5_copyFrom r o1 v) ≤ R.slots) (hdg : decode cc pc = .ok (.invokevirtual idx, 3)) (kk : ∀ (d : Nat → Nat) (H1 : Heap) (locs1 : List Loc) (v1 : vSt), v1 = fX5_copyFrom r o1 v → Hp G d v1 x H1 → va_S (gA G) s.heap H1 locs1 → W p l e R s m args below meth c H1 locs1 (cells + (kkX5_copyFrom r o1 v)) (slots + (kkX5_copyFrom r o1 v)) Q (F0 m (pc + 3) ls rest)) : W p l e R s m args below meth c H locs cells slots Q (F0 m pc ls (.ref (ga G o1) :: .ref (ga G r) :: rest)) := c_mv X.2.2.2.2.2.2 (runV (k := 1) X.1 X.2.1 X.2.2.1 X.2.2.2.1 X.2.2.2.2.1 (mX5_copyFrom l G da v x r hk_r o1 hk_o1 ho) pW_bl hml t_im_X5_copyFrom t_sel_X5_copyFrom t_ini_Pieces t_code_X5_copyFrom ⟨rfl, by decide, by decide, by decide +kernel⟩ rfl rfl hR hcs (recvW X hH (kd_P hk_r).1 (kd_P hk_r).2 (ce_P hk_r) rfl) (preW X hS hH) rfl hls rfl hsum hdg) hS kk
