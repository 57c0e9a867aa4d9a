/-! ENTRIES with the ends as a hypothesis; small facts that the walks use. -/
section E8
variable {l : Launch} {y : MethodName} {cc : ByteArray} {nL : Nat} {rm : Room} {avs : List Value} {G : gG} {da : Nat → Nat} {v : vSt} {x : gX} {own : String} {mc ms : Nat}
abbrev PI (l : Launch) (y : MethodName) (b : ByteArray) (n : Nat) (ret : Option FieldType) (rm : Room) (avs : List Value) (G : gG) (Rr : State → Prop) (F : Int32) : Prop := QI l y b n ret rm avs (fun U => pT G U ∧ Rr U) F
theorem gofP {ty : FieldType} {Rr : State → Prop} {F : Int32} (hy : plainName y.cls = true) (hown : y.cls = own) (hlen : (lg_sl avs).length ≤ nL)
    (body : ∀ (p : Program) (e : Env) (s : State) (m : MethodId) (args : Array Value) (below : List Frame) (meth : Method) (c : Code) (ls : Array Slot) (Q : State → Prop), CX G p s m args c cc nL own → Rr s → lv_has ls nL (lv_args 0 avs) →
      (∀ (pc : Nat) (ls : Array Slot) (z : Int32), decode cc pc = .ok (.ireturn, 1) → narrow ty (.int z) = .int z → z = F → W p l e rm s m args below meth c s.heap [] 0 0 Q (F0 m pc ls [.int z])) →
      W p l e rm s m args below meth c s.heap [] 0 0 Q (F0 m 0 ls [])) : PI l y cc nL (some ty) rm avs G Rr F :=
  gofT hy hown hlen (fun p e s m below meth c ls h1 h2 h3 h4 h5 h6 h7 hP hl => body p e s m _ below meth c ls _ ⟨h1, h2, h3, h4, h5, hP.1.1, hP.1.2⟩ hP.2 hl
    (fun _ _ _ hd hn he => e_qi h1 h2 h6 h7 hn he hd))
theorem gofQ {ty : FieldType} {F : Int32} (hy : plainName y.cls = true) (hown : y.cls = own) (hlen : (lg_sl avs).length ≤ nL)
    (body : ∀ (p : Program) (e : Env) (s : State) (m : MethodId) (args : Array Value) (below : List Frame) (meth : Method) (c : Code) (ls : Array Slot) (Q : State → Prop), CX G p s m args c cc nL own → Hp G da v x s.heap → lv_has ls nL (lv_args 0 avs) →
      (∀ (pc : Nat) (ls : Array Slot) (z : Int32), decode cc pc = .ok (.ireturn, 1) → narrow ty (.int z) = .int z → z = F → W p l e rm s m args below meth c s.heap [] 0 0 Q (F0 m pc ls [.int z])) →
      W p l e rm s m args below meth c s.heap [] 0 0 Q (F0 m 0 ls [])) : QI l y cc nL (some ty) rm avs (pW G da v x) F :=
  gofW hy hown hlen (fun p e s m below meth c ls X h6 h7 hH hl => body p e s m _ below meth c ls _ X hH hl (fun _ _ _ hd hn he => e_qi X.1 X.2.1 h6 h7 hn he hd))
theorem gofQR {C : String} {F : Nat} (hy : plainName y.cls = true) (hown : y.cls = own) (hlen : (lg_sl avs).length ≤ nL)
    (body : ∀ (p : Program) (e : Env) (s : State) (m : MethodId) (args : Array Value) (below : List Frame) (meth : Method) (c : Code) (ls : Array Slot) (Q : State → Prop), CX G p s m args c cc nL own → Hp G da v x s.heap → lv_has ls nL (lv_args 0 avs) →
      (∀ (pc : Nat) (ls : Array Slot) (z : Nat), decode cc pc = .ok (.areturn, 1) → z = F → W p l e rm s m args below meth c s.heap [] 0 0 Q (F0 m pc ls [.ref z])) →
      W p l e rm s m args below meth c s.heap [] 0 0 Q (F0 m 0 ls [])) : QR l y cc nL (some (.object C)) rm avs (pW G da v x) F :=
  gofW hy hown hlen (fun p e s m below meth c ls X h6 h7 hH hl => body p e s m _ below meth c ls _ X hH hl (fun _ _ _ hd he => e_qr X.1 X.2.1 h6 h7 he hd))
theorem gofMV {F : vSt} {x1 : gX} (hy : plainName y.cls = true) (hown : y.cls = own) (hlen : (lg_sl avs).length ≤ nL)
    (body : ∀ (p : Program) (e : Env) (s : State) (m : MethodId) (args : Array Value) (below : List Frame) (meth : Method) (c : Code) (ls : Array Slot) (Q : State → Prop), CX G p s m args c cc nL own → Hp G da v x s.heap → lv_has ls nL (lv_args 0 avs) →
      (∀ (pc : Nat) (ls : Array Slot) (H : Heap) (locs : List Loc) (da1 : Nat → Nat) (v1 : vSt) (cells slots : Nat), decode cc pc = .ok (.return_, 1) → v1 = F → Hp G da1 v1 x1 H → va_S (gA G) s.heap H locs → cells ≤ mc → slots ≤ ms → W p l e rm s m args below meth c H locs cells slots Q (F0 m pc ls [])) →
      W p l e rm s m args below meth c s.heap [] 0 0 Q (F0 m 0 ls [])) : MV l y cc nL none rm avs G da v x mc ms F x1 :=
  gofW hy hown hlen (fun p e s m below meth c ls X h6 h7 hH hl => body p e s m _ below meth c ls _ X hH hl (fun _ _ _ _ _ _ _ _ hd he hH hS hc hs => e_mv X.1 X.2.1 h6 h7 he hH hS hc hs hd))
theorem gofMI {ty : FieldType} {z0 : Int32} {F : vSt} {x1 : gX} (hy : plainName y.cls = true) (hown : y.cls = own) (hlen : (lg_sl avs).length ≤ nL)
    (body : ∀ (p : Program) (e : Env) (s : State) (m : MethodId) (args : Array Value) (below : List Frame) (meth : Method) (c : Code) (ls : Array Slot) (Q : State → Prop), CX G p s m args c cc nL own → Hp G da v x s.heap → lv_has ls nL (lv_args 0 avs) →
      (∀ (pc : Nat) (ls : Array Slot) (H : Heap) (locs : List Loc) (da1 : Nat → Nat) (v1 : vSt) (cells slots : Nat) (z : Int32), decode cc pc = .ok (.ireturn, 1) → narrow ty (.int z) = .int z → z = z0 → v1 = F → Hp G da1 v1 x1 H → va_S (gA G) s.heap H locs → cells ≤ mc → slots ≤ ms → W p l e rm s m args below meth c H locs cells slots Q (F0 m pc ls [.int z])) →
      W p l e rm s m args below meth c s.heap [] 0 0 Q (F0 m 0 ls [])) : MI l y cc nL (some ty) rm avs G da v x mc ms z0 F x1 :=
  gofW hy hown hlen (fun p e s m below meth c ls X h6 h7 hH hl => body p e s m _ below meth c ls _ X hH hl (fun _ _ _ _ _ _ _ _ _ hd hn hz he hH hS hc hs => e_mi X.1 X.2.1 h6 h7 hn hz he hH hS hc hs hd))
end E8
theorem pr1 {α β : Type} {x : α × β} {a : α} {b : β} (h : x = (a, b)) : a = x.1 := by rw [h]
theorem pr2 {α β : Type} {x : α × β} {a : α} {b : β} (h : x = (a, b)) : b = x.2 := by rw [h]
theorem t31 {α β γ : Type} {x : α × β × γ} {a : α} {b : β} {c : γ} (h : x = (a, b, c)) : a = x.1 := by rw [h]
theorem t32 {α β γ : Type} {x : α × β × γ} {a : α} {b : β} {c : γ} (h : x = (a, b, c)) : b = x.2.1 := by rw [h]
theorem t33 {α β γ : Type} {x : α × β × γ} {a : α} {b : β} {c : γ} (h : x = (a, b, c)) : c = x.2.2 := by rw [h]
theorem t41 {α β γ δ : Type} {x : α × β × γ × δ} {a : α} {b : β} {c : γ} {d : δ} (h : x = (a, b, c, d)) : a = x.1 := by rw [h]
theorem t42 {α β γ δ : Type} {x : α × β × γ × δ} {a : α} {b : β} {c : γ} {d : δ} (h : x = (a, b, c, d)) : b = x.2.1 := by rw [h]
theorem t43 {α β γ δ : Type} {x : α × β × γ × δ} {a : α} {b : β} {c : γ} {d : δ} (h : x = (a, b, c, d)) : c = x.2.2.1 := by rw [h]
theorem t44 {α β γ δ : Type} {x : α × β × γ × δ} {a : α} {b : β} {c : γ} {d : δ} (h : x = (a, b, c, d)) : d = x.2.2.2 := by rw [h]
theorem vp_lt {i : Int32} {n : Nat} (h : vp_in i n) : i.toNatClampNeg < n := Nat.not_le.mp fun q => h (Or.inr q)
theorem bn01 {z : Int32} (h : z = 0 ∨ z = 1) : narrow .boolean (.int z) = .int z ∧ fits .boolean (.int z) = true := by rcases h with rfl | rfl <;> exact ⟨rfl, rfl⟩
theorem i_n0 {i : Int32} (h : 0 ≤ i.toInt) : ¬ i < 0 := fun q => by have := i_lt q; have : (0 : Int32).toInt = 0 := rfl; omega
theorem i_ofn {i : Int32} {n : Nat} (hn : n < 2147483648) (h : i.toInt < n) : i < Int32.ofNat n := Int32.lt_iff_toInt_lt.mpr (by rw [show (Int32.ofNat n).toInt = (n : Int) from nI_toInt hn]; exact h)
/-- a counting loop: one step nearer to its end -/
theorem i_step {i b : Int32} {n : Nat} (h : ¬ b ≤ i) (hm : (b.toInt - i.toInt).toNat < n + 1) : (b.toInt - (i + 1).toInt).toNat < n := by
  have h1 := i_nle h
  have h2 := fb_rngX b
  have h3 := fb_rngX i
  have : (i + 1).toInt = i.toInt + 1 := i_add1 (by omega)
  omega
section I8
variable {p : Program} {s : State} {m : MethodId} {args : Array Value} {c : Code} {cc : ByteArray} {nL : Nat} {own : String} {G : gG} {da : Nat → Nat} {v : vSt} {x : gX} {H : Heap} {locs : List Loc} {r : Nat}
theorem preT (X : CX G p s m args c cc nL own) (hS : va_S (gA G) s.heap H locs) : ∀ U : State, U.heap = H → s.WarmedH U.vm → pT G U := fun U hU hW =>
  ⟨X.2.2.2.2.2.1.warm hW (fun a h1 h2 => by rw [hU]; exact hS.2.1 a h1 h2), by rw [hU]; exact Nat.le_trans X.2.2.2.2.2.2 hS.1⟩
theorem ia_s0 (X : CX G p s m args c cc nL own) (hS : va_S (gA G) s.heap H locs) : IA (gs G 0) 5 tbL s H := IA.of_st X.2.2.2.2.2.1.2.1.1 hS (by decide)
theorem ia_s1 (X : CX G p s m args c cc nL own) (hS : va_S (gA G) s.heap H locs) : IA (gs G 1) 5 tbM s H := IA.of_st X.2.2.2.2.2.1.2.1.2.1 hS (by decide)
theorem ia_s2 (X : CX G p s m args c cc nL own) (hS : va_S (gA G) s.heap H locs) : IA (gs G 2) 5 tbG s H := IA.of_st X.2.2.2.2.2.1.2.1.2.2.1 hS (by decide)
theorem ia_s3 (X : CX G p s m args c cc nL own) (hS : va_S (gA G) s.heap H locs) : IA (gs G 3) 3 tbS s H := IA.of_st X.2.2.2.2.2.1.2.1.2.2.2.1 hS (by decide)
theorem ia_s4 (X : CX G p s m args c cc nL own) (hS : va_S (gA G) s.heap H locs) : IA (gs G 4) 3 tbR s H := IA.of_st X.2.2.2.2.2.1.2.1.2.2.2.2.1 hS (by decide)
theorem ia_s5 (X : CX G p s m args c cc nL own) (hS : va_S (gA G) s.heap H locs) : IA (gs G 5) 7 tbO s H := IA.of_st X.2.2.2.2.2.1.2.1.2.2.2.2.2 hS (by decide)
theorem ia_24 (X : CX G p s m args c cc nL own) (hH : Hp G da v x H) (hk : kd r = 24) : IA (ga G r) 10 (v r) s H := by
  have h := IA.of_r X.2.2.2.2.2.1 hH (r := r) (by rw [hk]; decide) (ce_24 hk) (by decide)
  rwa [adr_st hk (by decide)] at h
theorem ia_25 (X : CX G p s m args c cc nL own) (hH : Hp G da v x H) (hk : kd r = 25) : IA (ga G r) 12 (v r) s H := by
  have h := IA.of_r X.2.2.2.2.2.1 hH (r := r) (by rw [hk]; decide) (ce_25 hk) (by decide)
  rwa [adr_st hk (by decide)] at h
theorem ia_23 (X : CX G p s m args c cc nL own) (hH : Hp G da v x H) (hk : kd r = 23) (hn : rN (v (par r) (cap r)) < 2 ^ 31) : IA (da r) (rN (v (par r) (cap r))) (v r) s H := by
  have h := IA.of_r X.2.2.2.2.2.1 hH (r := r) (by rw [hk]; decide) (ce_23 hk) hn
  rwa [adr_dy hk] at h
end I8
theorem i_dpos {y : Int32} (h : ¬ y ≤ 0) : ¬ y = 0 := fun q => h (by rw [q]; decide)
theorem i_dp {y : Int32} (h : 0 < y) : ¬ y = 0 := fun q => by rw [q] at h; exact absurd h (by decide)
theorem i_nn {i b : Int32} (h0 : 0 ≤ i.toInt) (h : ¬ b ≤ i) : 0 ≤ (i + 1).toInt := by
  have h1 := i_nle h
  have h2 := fb_rngX b
  rw [i_add1 (by omega)]
  omega
theorem IA.lenV {p : Program} {l : Launch} {e : Env} {R : Room} {s : State} {m : MethodId} {args : Array Value} {below : List Frame} {meth : Method} {c : Code} {H : Heap} {locs : List Loc} {cells slots : Nat} {Q : State → Prop} {cc : ByteArray} {pc : Nat} {ls : Array Slot} {rest : List Value} (hx : p.tables.exec = Jvm.exec) (hb : c.code = cc) {a n : Nat} {f : Nat → Int32} (h : IA a n f s H) {y : Int32} (hy : Int32.ofNat n = y) (hdg : decode cc pc = .ok (.arraylength, 1))
    (kk : W p l e R s m args below meth c H locs cells slots Q (F0 m (pc + 1) ls (.int y :: rest))) : W p l e R s m args below meth c H locs cells slots Q (F0 m pc ls (.ref a :: rest)) := by
  subst hy
  exact IA.len hx hb h hdg kk
theorem rN_lt (x : Int32) : rN x < 2 ^ 31 := by
  have h := fb_rngX x
  show x.toInt.toNat < 2 ^ 31
  omega
theorem cald_27 {p : Program} {l : Launch} {e : Env} {R : Room} {s : State} {m : MethodId} {args : Array Value} {below : List Frame} {meth : Method} {c : Code} {H : Heap} {locs : List Loc} {cells slots : Nat} {Q : State → Prop} {cc : ByteArray} {pc nL : Nat} {ls : Array Slot} {rest : List Value} {G : gG} {da : Nat → Nat} {v : vSt} {x : gX} {r : Nat} {own : String} (X : CX G p s m args c cc nL own) (hH : Hp G da v x H) (hk : kd r = 27) {i : Int32} (hin : vp_in i 60) (hdg : decode cc pc = .ok (.caload, 1))
    (kk : W p l e R s m args below meth c H locs cells slots Q (F0 m (pc + 1) ls (.int (v r i.toNatClampNeg) :: rest))) : W p l e R s m args below meth c H locs cells slots Q (F0 m pc ls (.int i :: .ref (ga G r) :: rest)) := by
  have hP := hH.get (r := r) (by rw [hk]; decide)
  rw [ce_27 hk, adr_st hk (by decide)] at hP
  exact va_cald X.1 X.2.1 X.2.2.2.2.2.1.1 hP 0 2 (f := v r) rfl rfl hin hdg kk
theorem i_rng (x : Int32) : -2147483648 ≤ x.toInt ∧ x.toInt < 2147483648 := fb_rngX x
theorem ia_d0 {p : Program} {s : State} {m : MethodId} {args : Array Value} {c : Code} {cc : ByteArray} {nL : Nat} {own : String} {G : gG} {da : Nat → Nat} {v : vSt} {x : gX} {H : Heap} {r : Nat} (X : CX G p s m args c cc nL own) (hH : Hp G da v x H) (hk : kd r = 5 ∨ kd r = 15) : IA (da (chP r)) (rN (v r 4)) (v (chP r)) s H := by
  have h := ia_23 X hH (kc_P_0 hk).1 (rN_lt _)
  rwa [(kc_P_0 hk).2, cap_P_0 hk] at h
theorem ia_d1 {p : Program} {s : State} {m : MethodId} {args : Array Value} {c : Code} {cc : ByteArray} {nL : Nat} {own : String} {G : gG} {da : Nat → Nat} {v : vSt} {x : gX} {H : Heap} {r : Nat} (X : CX G p s m args c cc nL own) (hH : Hp G da v x H) (hk : kd r = 5 ∨ kd r = 15) : IA (da (chP r + 1)) (rN (v r 5)) (v (chP r + 1)) s H := by
  have h := ia_23 X hH (kc_P_1 hk).1 (rN_lt _)
  rwa [(kc_P_1 hk).2, cap_P_1 hk] at h
theorem ia_d2 {p : Program} {s : State} {m : MethodId} {args : Array Value} {c : Code} {cc : ByteArray} {nL : Nat} {own : String} {G : gG} {da : Nat → Nat} {v : vSt} {x : gX} {H : Heap} {r : Nat} (X : CX G p s m args c cc nL own) (hH : Hp G da v x H) (hk : kd r = 5 ∨ kd r = 15) : IA (da (chP r + 2)) (rN (v r 6)) (v (chP r + 2)) s H := by
  have h := ia_23 X hH (kc_P_2 hk).1 (rN_lt _)
  rwa [(kc_P_2 hk).2, cap_P_2 hk] at h
