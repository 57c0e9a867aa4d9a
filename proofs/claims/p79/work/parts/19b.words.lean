/-! METHODS THAT THROW: contracts, entries, ends, calls. -/
def exN (k : Nat) : String := if k = 1 then "java/lang/IllegalArgumentException" else if k = 2 then "java/lang/IllegalStateException" else "java/util/NoSuchElementException"
def nmX : List String := ["java/lang/RuntimeException", "java/lang/Exception"]
abbrev XQ (G : gG) (k : Nat) (F : vSt) (x1 : gX) : String → State → State → Prop := vx_X (fun _ : Nat → Nat => True) (fun E d t => k ≠ 0 ∧ E = exN k ∧ Hp G d F x1 t.heap) (gA G)
abbrev TI (l : Launch) (y : MethodName) (b : ByteArray) (n : Nat) (ret : Option FieldType) (rm : Room) (avs : List Value) (G : gG) (da : Nat → Nat) (v : vSt) (x : gX) (mc ms k : Nat) (z : Int32) (F : vSt) (x1 : gX) : Prop :=
  vx_Met l y (wc y b n ret) rm (va_Pc avs (pW G da v x)) (va_Qi (fun (q : Int32) (_ : Nat → Nat) => k = 0 ∧ q = z) (fun d t => Hp G d F x1 t.heap) (gA G)) (XQ G k F x1) mc ms (gA G)
abbrev TF (l : Launch) (y : MethodName) (b : ByteArray) (n : Nat) (ret : Option FieldType) (rm : Room) (avs : List Value) (G : gG) (da : Nat → Nat) (v : vSt) (x : gX) (mc ms k : Nat) (z : UInt32) (F : vSt) (x1 : gX) : Prop :=
  vx_Met l y (wc y b n ret) rm (va_Pc avs (pW G da v x)) (va_Qf (fun (q : UInt32) (_ : Nat → Nat) => k = 0 ∧ q = z) (fun d t => Hp G d F x1 t.heap) (gA G)) (XQ G k F x1) mc ms (gA G)
abbrev TV (l : Launch) (y : MethodName) (b : ByteArray) (n : Nat) (ret : Option FieldType) (rm : Room) (avs : List Value) (G : gG) (da : Nat → Nat) (v : vSt) (x : gX) (mc ms k : Nat) (F : vSt) (x1 : gX) : Prop :=
  vx_Met l y (wc y b n ret) rm (va_Pc avs (pW G da v x)) (va_Qv (fun _ : Nat → Nat => k = 0) (fun d t => Hp G d F x1 t.heap) (gA G)) (XQ G k F x1) mc ms (gA G)
abbrev TR (l : Launch) (y : MethodName) (b : ByteArray) (n : Nat) (ret : Option FieldType) (rm : Room) (avs : List Value) (G : gG) (da : Nat → Nat) (v : vSt) (x : gX) (mc ms k z : Nat) (F : vSt) (x1 : gX) : Prop :=
  vx_Met l y (wc y b n ret) rm (va_Pc avs (pW G da v x)) (va_Qr (fun _ : Nat → Nat => k = 0) (fun d a t => a = ga G z ∧ Hp G d F x1 t.heap) (gA G)) (XQ G k F x1) mc ms (gA G)
theorem va_F_of {G : gG} {s t : State} {H : Heap} {locs : List Loc} (hS : va_S (gA G) s.heap H locs) (h1 : H.size ≤ t.heap.size) (h2 : ∀ q : Nat, q < H.size → t.heap[q]? = H[q]?) : va_F (gA G) s t :=
  ⟨Nat.le_trans hS.1 h1, fun q hq hA => by rw [h2 q (Nat.lt_of_lt_of_le hq hS.1)]; exact hS.2.1 q hq hA⟩
/-- what a throw's words are -/
def thW (args : Array Value) (s : State) (k ik ic : Nat) : Prop :=
  (Cond.classLink RX10 ik (exN k)).before args s = true ∧ (Cond.initialized (exN k)).before args s = true ∧
  (((∀ w ∈ vx_atS RX10 ic (exN k) nmX, w.before args s = true) ∧ (∀ w ∈ Cond.classLink RX10 ik (exN k) :: Cond.initialized (exN k) :: vx_atS RX10 ic (exN k) nmX, vx_ot w = true)) ∨
   ∃ (ix : Nat) (rx : ByteArray), decode rx 0 = .ok (.aload_n 0, 1) ∧ decode rx 1 = .ok (.aload_n 1, 1) ∧ decode rx 2 = .ok (.invokespecial ix, 3) ∧ decode rx 5 = .ok (.return_, 1) ∧
    (∀ w ∈ vx_atX RX10 ic (exN k) ix rx "java/lang/RuntimeException" ["java/lang/Exception"], w.before args s = true) ∧ (∀ w ∈ Cond.classLink RX10 ik (exN k) :: Cond.initialized (exN k) :: vx_atX RX10 ic (exN k) ix rx "java/lang/RuntimeException" ["java/lang/Exception"], vx_ot w = true))
def rx3 : ByteArray := ⟨#[0x2a, 0x2b, 0xb7, 0x00, 0x0d, 0xb1]⟩
theorem th_of {G : gG} {p : Program} {s : State} {m : MethodId} {args : Array Value} {c : Code} {cc : ByteArray} {nL : Nat} {own : String} (X : CX G p s m args c cc nL own) {L : List Cond} (h1 : ∀ w ∈ L, w ∈ lw_tbl) (h2 : ∀ w ∈ L, (goodWord w || nwk w) = true) : ∀ w ∈ L, w.before args s = true := by
  intro w hw
  have h := h2 w hw
  by_cases g : goodWord w = true
  · exact X.2.2.2.2.1 w (TT_of (h1 w hw) g)
  · have hn : nwk w = true := by simpa [g] using h
    exact va_Nw.use (nwk_tab hn) (X.2.2.2.2.2.1.2.2.1 w (h1 w hw) hn)
theorem nmX_fit : ∀ n ∈ nmX, Bundle.fit n = true := by decide +kernel
theorem exN_fit (k : Nat) : Bundle.fit (exN k) = true := by
  unfold exN
  split
  · decide +kernel
  · split <;> decide +kernel
set_option maxRecDepth 100000 in
set_option maxHeartbeats 8000000 in
theorem tw_1 : ∀ w ∈ vx_atS RX10 57 (exN 1) nmX, w ∈ lw_tbl := by decide +kernel
set_option maxRecDepth 100000 in
set_option maxHeartbeats 8000000 in
theorem tw_2 : ∀ w ∈ vx_atS RX10 70 (exN 2) nmX, w ∈ lw_tbl := by decide +kernel
set_option maxRecDepth 100000 in
set_option maxHeartbeats 8000000 in
theorem tw_3 : ∀ w ∈ vx_atX RX10 263 (exN 3) 13 rx3 "java/lang/RuntimeException" ["java/lang/Exception"], w ∈ lw_tbl := by decide +kernel
theorem tg_1 : ∀ w ∈ vx_atS RX10 57 (exN 1) nmX, (goodWord w || nwk w) = true := by decide +kernel
theorem tg_2 : ∀ w ∈ vx_atS RX10 70 (exN 2) nmX, (goodWord w || nwk w) = true := by decide +kernel
theorem tg_3 : ∀ w ∈ vx_atX RX10 263 (exN 3) 13 rx3 "java/lang/RuntimeException" ["java/lang/Exception"], (goodWord w || nwk w) = true := by decide +kernel
theorem to_1 : ∀ w ∈ Cond.classLink RX10 53 (exN 1) :: Cond.initialized (exN 1) :: vx_atS RX10 57 (exN 1) nmX, vx_ot w = true := by decide +kernel
theorem to_2 : ∀ w ∈ Cond.classLink RX10 66 (exN 2) :: Cond.initialized (exN 2) :: vx_atS RX10 70 (exN 2) nmX, vx_ot w = true := by decide +kernel
theorem to_3 : ∀ w ∈ Cond.classLink RX10 259 (exN 3) :: Cond.initialized (exN 3) :: vx_atX RX10 263 (exN 3) 13 rx3 "java/lang/RuntimeException" ["java/lang/Exception"], vx_ot w = true := by decide +kernel
