section
/-! the state of a world is a function of two numbers (component, index); a method's meaning is a function eS -> Option (answer x eS); GG ties the two -/
abbrev eS : Type := Nat → Nat → Int32
def wr (s : eS) (c i : Nat) (x : Int32) : eS := fun c' => if c' = c then upd (s c') i x else s c'
def nm {α β : Type} (a : α) (k : α → β) : β := k a
def ix {α : Type} (i : Int32) (n : Nat) (k : Option α) : Option α := if i < 0 ∨ n ≤ i.toNatClampNeg then none else k
def nz {α : Type} (y : Int32) (k : Option α) : Option α := if y = 0 then none else k
def bz {α : Type} (y : Int32) (k : Option α) : Option α := if vp_nar .boolean y = y then k else none
def bnd {ρ σ τ : Type} (o : Option (ρ × σ)) (k : ρ → σ → Option τ) : Option τ := match o with
  | none => none
  | some (r, s) => k r s
def fu : Nat := 2000
abbrev rvI : Int32 → Option Value := fun r => some (.int r)
abbrev rvV : Unit → Option Value := fun _ => none
abbrev rvR (ad : Nat → Nat) (b : Nat) : Nat → Option Value := fun n => some (.ref (ad (b + n)))
def Qx {ρ σ : Type} (rv : ρ → Option Value) (w : σ → va_W) (D : va_G) (cl : List vw_C) (tys : List (ClassId × FieldType)) (A : Nat → Prop) (r : ρ) (s' : σ) : Array Value → State → Outcome → State → Prop := fun _ st oc t => oc = .returned (rv r) ∧ va_P D cl (w s') t.heap ∧ va_K D cl tys t ∧ va_D A (w s') ∧ va_F A st t
def Px {σ : Type} (w : σ → va_W) (D : va_G) (cl : List vw_C) (tys : List (ClassId × FieldType)) (nw : List Cond) (sz : Nat) (s : σ) (av : List Value) : Array Value → State → Prop := va_Pc av (fun U => U.heap.size = sz ∧ va_P D cl (w s) U.heap ∧ va_K D cl tys U ∧ va_D (fun _ => True) (w s) ∧ ∀ x ∈ nw, va_Nw x U)
def CX (p : Program) (s0 : State) (m : MethodId) (args : Array Value) (meth : Method) (c : Code) (D : va_G) (cl : List vw_C) (tys : List (ClassId × FieldType)) (nw : List Cond) (A : Nat → Prop) (cc : ByteArray) (nL : Nat) (ret : Option FieldType) (Ts : List Cond) (own : String) : Prop :=
  CallFix p m c cc nL s0 args Ts own ∧ meth.sig.returnType = ret ∧ meth.locks = false ∧ va_K D cl tys s0 ∧ (∀ q, s0.heap.size ≤ q → A q) ∧ ∀ x ∈ nw, va_Nw x s0
def QM {ρ σ : Type} (below : List Frame) (args : Array Value) (s0 : State) (D : va_G) (cl : List vw_C) (tys : List (ClassId × FieldType)) (A : Nat → Prop) (w : σ → va_W) (rv : ρ → Option Value) : ρ → σ → State → Prop := fun r s' => MQ below (Qx rv w D cl tys A r s') args s0 0 0 A
def GG {ρ σ : Type} (p : Program) (l : Launch) (e : Env) (R : Room) (s0 : State) (m : MethodId) (args : Array Value) (below : List Frame) (meth : Method) (c : Code) (D : va_G) (cl : List vw_C) (tys : List (ClassId × FieldType)) (A : Nat → Prop) (w : σ → va_W) (nc ns : Nat) (Q : ρ → σ → State → Prop) (res : Option (ρ × σ)) (g : JFrame) (s : σ) : Prop :=
  ∀ (r : ρ) (s' : σ), res = some (r, s') → ∀ (H : Heap) (locs : List Loc), va_P D cl (w s) H → va_D A (w s) → va_S A s0.heap H locs → W p l e R s0 m args below meth c H locs nc ns (Q r s') g
theorem ixb {i : Int32} {n : Nat} (h : vp_in i n) : i.toNatClampNeg < n := Nat.not_le.mp fun q => h (Or.inr q)
theorem ixb2 {a i n : Nat} (ha : a < n) (hi : i < 2) : 2 * a + i < 2 * n := by omega
section GGS
variable {p : Program} {l : Launch} {e : Env} {R : Room} {s0 : State} {m : MethodId} {args : Array Value} {below : List Frame} {meth : Method} {c : Code} {D : va_G} {cl : List vw_C} {tys : List (ClassId × FieldType)} {nw : List Cond} {A : Nat → Prop} {σ : Type} {w : σ → va_W} {nc ns : Nat} {cc : ByteArray} {nL : Nat} {ret : Option FieldType} {Ts : List Cond} {own : String} {ρ : Type} {Q : ρ → σ → State → Prop} {res : Option (ρ × σ)} {ls : Array Slot} {rest : List Value} {s : σ}
theorem gg_none {g : JFrame} : GG p l e R s0 m args below meth c D cl tys A w nc ns Q none (g) s := fun r s' hr => by cases hr
theorem gg_iconst (X : CX p s0 m args meth c D cl tys nw A cc nL ret Ts own) (pc : Nat) {n : Int} (v : Int32) (d : decode cc pc = .ok (.iconst n, 1)) (hv : Int32.ofInt n = v) (k : GG p l e R s0 m args below meth c D cl tys A w nc ns Q res (F0 m (pc + 1) ls (.int v :: rest)) s) : GG p l e R s0 m args below meth c D cl tys A w nc ns Q res (F0 m pc ls (rest)) s := fun r s' hr H locs h1 h2 h3 => lv_iconst X.1.1 X.1.2.1 d hv (k r s' hr H locs h1 h2 h3)
theorem gg_bipush (X : CX p s0 m args meth c D cl tys nw A cc nL ret Ts own) (pc : Nat) {n : Int} (v : Int32) (d : decode cc pc = .ok (.bipush n, 2)) (hv : (Int8.ofInt n).toInt32 = v) (k : GG p l e R s0 m args below meth c D cl tys A w nc ns Q res (F0 m (pc + 2) ls (.int v :: rest)) s) : GG p l e R s0 m args below meth c D cl tys A w nc ns Q res (F0 m pc ls (rest)) s := fun r s' hr H locs h1 h2 h3 => lv_bipush X.1.1 X.1.2.1 d hv (k r s' hr H locs h1 h2 h3)
theorem gg_sipush (X : CX p s0 m args meth c D cl tys nw A cc nL ret Ts own) (pc : Nat) {n : Int} (v : Int32) (d : decode cc pc = .ok (.sipush n, 3)) (hv : (Int16.ofInt n).toInt32 = v) (k : GG p l e R s0 m args below meth c D cl tys A w nc ns Q res (F0 m (pc + 3) ls (.int v :: rest)) s) : GG p l e R s0 m args below meth c D cl tys A w nc ns Q res (F0 m pc ls (rest)) s := fun r s' hr H locs h1 h2 h3 => lv_sipush X.1.1 X.1.2.1 d hv (k r s' hr H locs h1 h2 h3)
theorem gg_ldc (X : CX p s0 m args meth c D cl tys nw A cc nL ret Ts own) (pc : Nat) {index : Nat} (v : Int32) (hc : Cond.constant own index v ∈ Ts) (d : decode cc pc = .ok (.ldc index, 2)) (k : GG p l e R s0 m args below meth c D cl tys A w nc ns Q res (F0 m (pc + 2) ls (.int v :: rest)) s) : GG p l e R s0 m args below meth c D cl tys A w nc ns Q res (F0 m pc ls rest) s := fun r s' hr H locs h1 h2 h3 => lv_ldc X.1.1 X.1.2.1 X.1.2.2.2.1 (X.1.2.2.2.2 _ hc) d (k r s' hr H locs h1 h2 h3)
theorem gg_iload_n (X : CX p s0 m args meth c D cl tys nw A cc nL ret Ts own) (pc : Nat) {kk : Fin 4} {i : Nat} {x : Int32} (d : decode cc pc = .ok (.iload_n kk, 1)) (hi : (kk : Nat) = i) (hl : ls[i]? = some (.val (.int x))) (k : GG p l e R s0 m args below meth c D cl tys A w nc ns Q res (F0 m (pc + 1) ls (.int x :: rest)) s) : GG p l e R s0 m args below meth c D cl tys A w nc ns Q res (F0 m pc ls (rest)) s := fun r s' hr H locs h1 h2 h3 => lv_iload_n X.1.1 X.1.2.1 d hi hl (k r s' hr H locs h1 h2 h3)
theorem gg_iload (X : CX p s0 m args meth c D cl tys nw A cc nL ret Ts own) (pc : Nat) {i : Nat} {x : Int32} (d : decode cc pc = .ok (.iload i, 2)) (hl : ls[i]? = some (.val (.int x))) (k : GG p l e R s0 m args below meth c D cl tys A w nc ns Q res (F0 m (pc + 2) ls (.int x :: rest)) s) : GG p l e R s0 m args below meth c D cl tys A w nc ns Q res (F0 m pc ls (rest)) s := fun r s' hr H locs h1 h2 h3 => lv_iload X.1.1 X.1.2.1 d hl (k r s' hr H locs h1 h2 h3)
theorem gg_aload_n (X : CX p s0 m args meth c D cl tys nw A cc nL ret Ts own) (pc : Nat) {kk : Fin 4} {i x : Nat} (d : decode cc pc = .ok (.aload_n kk, 1)) (hi : (kk : Nat) = i) (hl : ls[i]? = some (.val (.ref x))) (k : GG p l e R s0 m args below meth c D cl tys A w nc ns Q res (F0 m (pc + 1) ls (.ref x :: rest)) s) : GG p l e R s0 m args below meth c D cl tys A w nc ns Q res (F0 m pc ls (rest)) s := fun r s' hr H locs h1 h2 h3 => lv_aload_n X.1.1 X.1.2.1 d hi hl (k r s' hr H locs h1 h2 h3)
theorem gg_aload (X : CX p s0 m args meth c D cl tys nw A cc nL ret Ts own) (pc : Nat) {i x : Nat} (d : decode cc pc = .ok (.aload i, 2)) (hl : ls[i]? = some (.val (.ref x))) (k : GG p l e R s0 m args below meth c D cl tys A w nc ns Q res (F0 m (pc + 2) ls (.ref x :: rest)) s) : GG p l e R s0 m args below meth c D cl tys A w nc ns Q res (F0 m pc ls (rest)) s := fun r s' hr H locs h1 h2 h3 => lv_aload X.1.1 X.1.2.1 d hl (k r s' hr H locs h1 h2 h3)
theorem gg_istore_n (X : CX p s0 m args meth c D cl tys nw A cc nL ret Ts own) (pc : Nat) {kk : Fin 4} {i : Nat} {x : Int32} {lv : List (Nat × Value)} (lv' : Int32 → List (Nat × Value)) {K : Int32 → Option (ρ × σ)} (d : decode cc pc = .ok (.istore_n kk, 1)) (hi : (kk : Nat) = i) (h : lv_has ls nL lv) (hn : i < nL) (hl : ∀ v, (i, Value.int v) :: lv.filter (fun q => !(q.1 == i) && !(q.1 + 1 == i && q.2.category == 2)) = lv' v) (k : ∀ (v : Int32) (ls : Array Slot), lv_has ls nL (lv' v) → GG p l e R s0 m args below meth c D cl tys A w nc ns Q (K v) (F0 m (pc + 1) ls rest) s) : GG p l e R s0 m args below meth c D cl tys A w nc ns Q (nm x K) (F0 m pc ls (.int x :: rest)) s := fun r s' hr H locs h1 h2 h3 => lv_istore_n X.1.1 X.1.2.1 d hi h hn (hl x) (fun ls' hls => k x ls' hls r s' hr H locs h1 h2 h3)
theorem gg_istore (X : CX p s0 m args meth c D cl tys nw A cc nL ret Ts own) (pc : Nat) {i : Nat} {x : Int32} {lv : List (Nat × Value)} (lv' : Int32 → List (Nat × Value)) {K : Int32 → Option (ρ × σ)} (d : decode cc pc = .ok (.istore i, 2)) (h : lv_has ls nL lv) (hn : i < nL) (hl : ∀ v, (i, Value.int v) :: lv.filter (fun q => !(q.1 == i) && !(q.1 + 1 == i && q.2.category == 2)) = lv' v) (k : ∀ (v : Int32) (ls : Array Slot), lv_has ls nL (lv' v) → GG p l e R s0 m args below meth c D cl tys A w nc ns Q (K v) (F0 m (pc + 2) ls rest) s) : GG p l e R s0 m args below meth c D cl tys A w nc ns Q (nm x K) (F0 m pc ls (.int x :: rest)) s := fun r s' hr H locs h1 h2 h3 => lv_istore X.1.1 X.1.2.1 d h hn (hl x) (fun ls' hls => k x ls' hls r s' hr H locs h1 h2 h3)
theorem gg_astore_n (X : CX p s0 m args meth c D cl tys nw A cc nL ret Ts own) (pc : Nat) {kk : Fin 4} {i : Nat} {ad : Nat → Nat} {b x : Nat} (B : Nat) {lv : List (Nat × Value)} (lv' : Nat → List (Nat × Value)) {K : Nat → Option (ρ × σ)} (d : decode cc pc = .ok (.astore_n kk, 1)) (hi : (kk : Nat) = i) (h : lv_has ls nL lv) (hn : i < nL) (hl : ∀ v, (i, Value.ref (ad (b + v))) :: lv.filter (fun q => !(q.1 == i) && !(q.1 + 1 == i && q.2.category == 2)) = lv' v) (hB : x < B) (k : ∀ (v : Nat) (ls : Array Slot), v < B → lv_has ls nL (lv' v) → GG p l e R s0 m args below meth c D cl tys A w nc ns Q (K v) (F0 m (pc + 1) ls rest) s) : GG p l e R s0 m args below meth c D cl tys A w nc ns Q (nm x K) (F0 m pc ls (.ref (ad (b + x)) :: rest)) s := fun r s' hr H locs h1 h2 h3 => lv_astore_n X.1.1 X.1.2.1 d hi h hn (hl x) (fun ls' hls => k x ls' hB hls r s' hr H locs h1 h2 h3)
theorem gg_astore (X : CX p s0 m args meth c D cl tys nw A cc nL ret Ts own) (pc : Nat) {i : Nat} {ad : Nat → Nat} {b x : Nat} (B : Nat) {lv : List (Nat × Value)} (lv' : Nat → List (Nat × Value)) {K : Nat → Option (ρ × σ)} (d : decode cc pc = .ok (.astore i, 2)) (h : lv_has ls nL lv) (hn : i < nL) (hl : ∀ v, (i, Value.ref (ad (b + v))) :: lv.filter (fun q => !(q.1 == i) && !(q.1 + 1 == i && q.2.category == 2)) = lv' v) (hB : x < B) (k : ∀ (v : Nat) (ls : Array Slot), v < B → lv_has ls nL (lv' v) → GG p l e R s0 m args below meth c D cl tys A w nc ns Q (K v) (F0 m (pc + 2) ls rest) s) : GG p l e R s0 m args below meth c D cl tys A w nc ns Q (nm x K) (F0 m pc ls (.ref (ad (b + x)) :: rest)) s := fun r s' hr H locs h1 h2 h3 => lv_astore X.1.1 X.1.2.1 d h hn (hl x) (fun ls' hls => k x ls' hB hls r s' hr H locs h1 h2 h3)
theorem gg_iinc (X : CX p s0 m args meth c D cl tys nw A cc nL ret Ts own) (pc : Nat) {i k : Nat} {n : Int} {x : Int32} (v1 : Int32) {lv : List (Nat × Value)} (lv' : Int32 → List (Nat × Value)) {K : Int32 → Option (ρ × σ)} (d : decode cc pc = .ok (.iinc i n, 3)) (h : lv_has ls nL lv) (hk : lv[k]? = some (i, .int x)) (hv : Int32.ofInt n = v1) (hn : i < nL) (hl : ∀ v, (i, Value.int v) :: lv.filter (fun q => !(q.1 == i) && !(q.1 + 1 == i && q.2.category == 2)) = lv' v) (kk : ∀ (v : Int32) (ls : Array Slot), lv_has ls nL (lv' v) → GG p l e R s0 m args below meth c D cl tys A w nc ns Q (K v) (F0 m (pc + 3) ls rest) s) : GG p l e R s0 m args below meth c D cl tys A w nc ns Q (nm (x + v1) K) (F0 m pc ls rest) s := fun r s' hr H locs h1 h2 h3 => lv_iinc X.1.1 X.1.2.1 d h hk (by rw [hv]) hn (hl (x + v1)) (fun ls' hls => kk (x + v1) ls' hls r s' hr H locs h1 h2 h3)
theorem gg_iadd (X : CX p s0 m args meth c D cl tys nw A cc nL ret Ts own) (pc : Nat) {x y : Int32} (d : decode cc pc = .ok (.iadd, 1))  (k : GG p l e R s0 m args below meth c D cl tys A w nc ns Q res (F0 m (pc + 1) ls (.int (x + y) :: rest)) s) : GG p l e R s0 m args below meth c D cl tys A w nc ns Q res (F0 m pc ls (.int y :: .int x :: rest)) s := fun r s' hr H locs h1 h2 h3 => lv_iadd X.1.1 X.1.2.1 d  (k r s' hr H locs h1 h2 h3)
theorem gg_isub (X : CX p s0 m args meth c D cl tys nw A cc nL ret Ts own) (pc : Nat) {x y : Int32} (d : decode cc pc = .ok (.isub, 1))  (k : GG p l e R s0 m args below meth c D cl tys A w nc ns Q res (F0 m (pc + 1) ls (.int (x - y) :: rest)) s) : GG p l e R s0 m args below meth c D cl tys A w nc ns Q res (F0 m pc ls (.int y :: .int x :: rest)) s := fun r s' hr H locs h1 h2 h3 => lv_isub X.1.1 X.1.2.1 d  (k r s' hr H locs h1 h2 h3)
theorem gg_imul (X : CX p s0 m args meth c D cl tys nw A cc nL ret Ts own) (pc : Nat) {x y : Int32} (d : decode cc pc = .ok (.imul, 1))  (k : GG p l e R s0 m args below meth c D cl tys A w nc ns Q res (F0 m (pc + 1) ls (.int (x * y) :: rest)) s) : GG p l e R s0 m args below meth c D cl tys A w nc ns Q res (F0 m pc ls (.int y :: .int x :: rest)) s := fun r s' hr H locs h1 h2 h3 => lv_imul X.1.1 X.1.2.1 d  (k r s' hr H locs h1 h2 h3)
theorem gg_iand (X : CX p s0 m args meth c D cl tys nw A cc nL ret Ts own) (pc : Nat) {x y : Int32} (d : decode cc pc = .ok (.iand, 1))  (k : GG p l e R s0 m args below meth c D cl tys A w nc ns Q res (F0 m (pc + 1) ls (.int (x &&& y) :: rest)) s) : GG p l e R s0 m args below meth c D cl tys A w nc ns Q res (F0 m pc ls (.int y :: .int x :: rest)) s := fun r s' hr H locs h1 h2 h3 => lv_iand X.1.1 X.1.2.1 d  (k r s' hr H locs h1 h2 h3)
theorem gg_ior (X : CX p s0 m args meth c D cl tys nw A cc nL ret Ts own) (pc : Nat) {x y : Int32} (d : decode cc pc = .ok (.ior, 1))  (k : GG p l e R s0 m args below meth c D cl tys A w nc ns Q res (F0 m (pc + 1) ls (.int (x ||| y) :: rest)) s) : GG p l e R s0 m args below meth c D cl tys A w nc ns Q res (F0 m pc ls (.int y :: .int x :: rest)) s := fun r s' hr H locs h1 h2 h3 => lv_ior X.1.1 X.1.2.1 d  (k r s' hr H locs h1 h2 h3)
theorem gg_ixor (X : CX p s0 m args meth c D cl tys nw A cc nL ret Ts own) (pc : Nat) {x y : Int32} (d : decode cc pc = .ok (.ixor, 1))  (k : GG p l e R s0 m args below meth c D cl tys A w nc ns Q res (F0 m (pc + 1) ls (.int (x ^^^ y) :: rest)) s) : GG p l e R s0 m args below meth c D cl tys A w nc ns Q res (F0 m pc ls (.int y :: .int x :: rest)) s := fun r s' hr H locs h1 h2 h3 => lv_ixor X.1.1 X.1.2.1 d  (k r s' hr H locs h1 h2 h3)
theorem gg_ishl (X : CX p s0 m args meth c D cl tys nw A cc nL ret Ts own) (pc : Nat) {x y : Int32} (d : decode cc pc = .ok (.ishl, 1))  (k : GG p l e R s0 m args below meth c D cl tys A w nc ns Q res (F0 m (pc + 1) ls (.int (x <<< (y &&& 31)) :: rest)) s) : GG p l e R s0 m args below meth c D cl tys A w nc ns Q res (F0 m pc ls (.int y :: .int x :: rest)) s := fun r s' hr H locs h1 h2 h3 => lv_ishl X.1.1 X.1.2.1 d  (k r s' hr H locs h1 h2 h3)
theorem gg_ishr (X : CX p s0 m args meth c D cl tys nw A cc nL ret Ts own) (pc : Nat) {x y : Int32} (d : decode cc pc = .ok (.ishr, 1))  (k : GG p l e R s0 m args below meth c D cl tys A w nc ns Q res (F0 m (pc + 1) ls (.int (x >>> (y &&& 31)) :: rest)) s) : GG p l e R s0 m args below meth c D cl tys A w nc ns Q res (F0 m pc ls (.int y :: .int x :: rest)) s := fun r s' hr H locs h1 h2 h3 => lv_ishr X.1.1 X.1.2.1 d  (k r s' hr H locs h1 h2 h3)
theorem gg_iushr (X : CX p s0 m args meth c D cl tys nw A cc nL ret Ts own) (pc : Nat) {x y : Int32} (d : decode cc pc = .ok (.iushr, 1))  (k : GG p l e R s0 m args below meth c D cl tys A w nc ns Q res (F0 m (pc + 1) ls (.int ((x.toUInt32 >>> (y.toUInt32 &&& Int32.toUInt32 31)).toInt32) :: rest)) s) : GG p l e R s0 m args below meth c D cl tys A w nc ns Q res (F0 m pc ls (.int y :: .int x :: rest)) s := fun r s' hr H locs h1 h2 h3 => lv_iushr X.1.1 X.1.2.1 d rfl (k r s' hr H locs h1 h2 h3)
theorem gg_ineg (X : CX p s0 m args meth c D cl tys nw A cc nL ret Ts own) (pc : Nat) {x : Int32} (d : decode cc pc = .ok (.ineg, 1))  (k : GG p l e R s0 m args below meth c D cl tys A w nc ns Q res (F0 m (pc + 1) ls (.int (-x) :: rest)) s) : GG p l e R s0 m args below meth c D cl tys A w nc ns Q res (F0 m pc ls (.int x :: rest)) s := fun r s' hr H locs h1 h2 h3 => lv_ineg X.1.1 X.1.2.1 d  (k r s' hr H locs h1 h2 h3)
theorem gg_idivk (X : CX p s0 m args meth c D cl tys nw A cc nL ret Ts own) (pc : Nat) {x y : Int32} (d : decode cc pc = .ok (.idiv, 1)) (hne : ¬ y = 0) (k : GG p l e R s0 m args below meth c D cl tys A w nc ns Q res (F0 m (pc + 1) ls (.int (x / y) :: rest)) s) : GG p l e R s0 m args below meth c D cl tys A w nc ns Q res (F0 m pc ls (.int y :: .int x :: rest)) s := fun r s' hr H locs h1 h2 h3 => lv_idiv X.1.1 X.1.2.1 d hne (k r s' hr H locs h1 h2 h3)
theorem gg_iremk (X : CX p s0 m args meth c D cl tys nw A cc nL ret Ts own) (pc : Nat) {x y : Int32} (d : decode cc pc = .ok (.irem, 1)) (hne : ¬ y = 0) (k : GG p l e R s0 m args below meth c D cl tys A w nc ns Q res (F0 m (pc + 1) ls (.int (x - x / y * y) :: rest)) s) : GG p l e R s0 m args below meth c D cl tys A w nc ns Q res (F0 m pc ls (.int y :: .int x :: rest)) s := fun r s' hr H locs h1 h2 h3 => lv_irem X.1.1 X.1.2.1 d hne (k r s' hr H locs h1 h2 h3)
theorem gg_idiv (X : CX p s0 m args meth c D cl tys nw A cc nL ret Ts own) (pc : Nat) {x y : Int32} (d : decode cc pc = .ok (.idiv, 1)) (k : ¬ y = 0 → GG p l e R s0 m args below meth c D cl tys A w nc ns Q res (F0 m (pc + 1) ls (.int (x / y) :: rest)) s) : GG p l e R s0 m args below meth c D cl tys A w nc ns Q (nz y res) (F0 m pc ls (.int y :: .int x :: rest)) s := by
  intro r s' hr H locs h1 h2 h3
  unfold nz at hr
  by_cases h : y = 0
  · rw [if_pos h] at hr; cases hr
  · rw [if_neg h] at hr; exact lv_idiv X.1.1 X.1.2.1 d h (k h r s' hr H locs h1 h2 h3)
theorem gg_irem (X : CX p s0 m args meth c D cl tys nw A cc nL ret Ts own) (pc : Nat) {x y : Int32} (d : decode cc pc = .ok (.irem, 1)) (k : ¬ y = 0 → GG p l e R s0 m args below meth c D cl tys A w nc ns Q res (F0 m (pc + 1) ls (.int (x - x / y * y) :: rest)) s) : GG p l e R s0 m args below meth c D cl tys A w nc ns Q (nz y res) (F0 m pc ls (.int y :: .int x :: rest)) s := by
  intro r s' hr H locs h1 h2 h3
  unfold nz at hr
  by_cases h : y = 0
  · rw [if_pos h] at hr; cases hr
  · rw [if_neg h] at hr; exact lv_irem X.1.1 X.1.2.1 d h (k h r s' hr H locs h1 h2 h3)
theorem gg_dup (X : CX p s0 m args meth c D cl tys nw A cc nL ret Ts own) (pc : Nat) {va : Value} (d : decode cc pc = .ok (.dup, 1)) (ha : va.category = 1) (k : GG p l e R s0 m args below meth c D cl tys A w nc ns Q res (F0 m (pc + 1) ls (va :: va :: rest)) s) : GG p l e R s0 m args below meth c D cl tys A w nc ns Q res (F0 m pc ls (va :: rest)) s := fun r s' hr H locs h1 h2 h3 => lv_dup X.1.1 X.1.2.1 d ha (k r s' hr H locs h1 h2 h3)
theorem gg_pop (X : CX p s0 m args meth c D cl tys nw A cc nL ret Ts own) (pc : Nat) {va : Value} (d : decode cc pc = .ok (.pop, 1)) (ha : va.category = 1) (k : GG p l e R s0 m args below meth c D cl tys A w nc ns Q res (F0 m (pc + 1) ls (rest)) s) : GG p l e R s0 m args below meth c D cl tys A w nc ns Q res (F0 m pc ls (va :: rest)) s := fun r s' hr H locs h1 h2 h3 => lv_pop X.1.1 X.1.2.1 d ha (k r s' hr H locs h1 h2 h3)
theorem gg_dup2 (X : CX p s0 m args meth c D cl tys nw A cc nL ret Ts own) (pc : Nat) {va vb : Value} (d : decode cc pc = .ok (.dup2, 1)) (ha : va.category = 1) (hb : vb.category = 1) (k : GG p l e R s0 m args below meth c D cl tys A w nc ns Q res (F0 m (pc + 1) ls (va :: vb :: va :: vb :: rest)) s) : GG p l e R s0 m args below meth c D cl tys A w nc ns Q res (F0 m pc ls (va :: vb :: rest)) s := fun r s' hr H locs h1 h2 h3 => lv_dup2_11 X.1.1 X.1.2.1 d ha hb (k r s' hr H locs h1 h2 h3)
theorem gg_if_eq (X : CX p s0 m args meth c D cl tys nw A cc nL ret Ts own) (pc : Nat) {x : Int32} {off : Int} (tgt : Nat) {resT resF : Option (ρ × σ)} (d : decode cc pc = .ok (.ifCond .eq off, 3)) (ht : (pc : Int) + off = (tgt : Int)) (kt : x = 0 → GG p l e R s0 m args below meth c D cl tys A w nc ns Q resT (F0 m tgt ls rest) s) (kf : ¬ x = 0 → GG p l e R s0 m args below meth c D cl tys A w nc ns Q resF (F0 m (pc + 3) ls rest) s) : GG p l e R s0 m args below meth c D cl tys A w nc ns Q (if x = 0 then resT else resF) (F0 m pc ls (.int x :: rest)) s := by
  intro r s' hr H locs h1 h2 h3
  refine lv_if_eq X.1.1 X.1.2.1 d ht (fun h => ?_) (fun h => ?_)
  · rw [if_pos h] at hr; exact kt h r s' hr H locs h1 h2 h3
  · rw [if_neg h] at hr; exact kf h r s' hr H locs h1 h2 h3
theorem gg_icmp_eq (X : CX p s0 m args meth c D cl tys nw A cc nL ret Ts own) (pc : Nat) {x y : Int32} {off : Int} (tgt : Nat) {resT resF : Option (ρ × σ)} (d : decode cc pc = .ok (.if_icmp .eq off, 3)) (ht : (pc : Int) + off = (tgt : Int)) (kt : x = y → GG p l e R s0 m args below meth c D cl tys A w nc ns Q resT (F0 m tgt ls rest) s) (kf : ¬ x = y → GG p l e R s0 m args below meth c D cl tys A w nc ns Q resF (F0 m (pc + 3) ls rest) s) : GG p l e R s0 m args below meth c D cl tys A w nc ns Q (if x = y then resT else resF) (F0 m pc ls (.int y :: .int x :: rest)) s := by
  intro r s' hr H locs h1 h2 h3
  refine lv_icmp_eq X.1.1 X.1.2.1 d ht (fun h => ?_) (fun h => ?_)
  · rw [if_pos h] at hr; exact kt h r s' hr H locs h1 h2 h3
  · rw [if_neg h] at hr; exact kf h r s' hr H locs h1 h2 h3
theorem gg_if_lt (X : CX p s0 m args meth c D cl tys nw A cc nL ret Ts own) (pc : Nat) {x : Int32} {off : Int} (tgt : Nat) {resT resF : Option (ρ × σ)} (d : decode cc pc = .ok (.ifCond .lt off, 3)) (ht : (pc : Int) + off = (tgt : Int)) (kt : x < 0 → GG p l e R s0 m args below meth c D cl tys A w nc ns Q resT (F0 m tgt ls rest) s) (kf : ¬ x < 0 → GG p l e R s0 m args below meth c D cl tys A w nc ns Q resF (F0 m (pc + 3) ls rest) s) : GG p l e R s0 m args below meth c D cl tys A w nc ns Q (if x < 0 then resT else resF) (F0 m pc ls (.int x :: rest)) s := by
  intro r s' hr H locs h1 h2 h3
  refine lv_if_lt X.1.1 X.1.2.1 d ht (fun h => ?_) (fun h => ?_)
  · rw [if_pos h] at hr; exact kt h r s' hr H locs h1 h2 h3
  · rw [if_neg h] at hr; exact kf h r s' hr H locs h1 h2 h3
theorem gg_icmp_lt (X : CX p s0 m args meth c D cl tys nw A cc nL ret Ts own) (pc : Nat) {x y : Int32} {off : Int} (tgt : Nat) {resT resF : Option (ρ × σ)} (d : decode cc pc = .ok (.if_icmp .lt off, 3)) (ht : (pc : Int) + off = (tgt : Int)) (kt : x < y → GG p l e R s0 m args below meth c D cl tys A w nc ns Q resT (F0 m tgt ls rest) s) (kf : ¬ x < y → GG p l e R s0 m args below meth c D cl tys A w nc ns Q resF (F0 m (pc + 3) ls rest) s) : GG p l e R s0 m args below meth c D cl tys A w nc ns Q (if x < y then resT else resF) (F0 m pc ls (.int y :: .int x :: rest)) s := by
  intro r s' hr H locs h1 h2 h3
  refine lv_icmp_lt X.1.1 X.1.2.1 d ht (fun h => ?_) (fun h => ?_)
  · rw [if_pos h] at hr; exact kt h r s' hr H locs h1 h2 h3
  · rw [if_neg h] at hr; exact kf h r s' hr H locs h1 h2 h3
theorem gg_if_ge (X : CX p s0 m args meth c D cl tys nw A cc nL ret Ts own) (pc : Nat) {x : Int32} {off : Int} (tgt : Nat) {resT resF : Option (ρ × σ)} (d : decode cc pc = .ok (.ifCond .ge off, 3)) (ht : (pc : Int) + off = (tgt : Int)) (kt : 0 ≤ x → GG p l e R s0 m args below meth c D cl tys A w nc ns Q resT (F0 m tgt ls rest) s) (kf : ¬ 0 ≤ x → GG p l e R s0 m args below meth c D cl tys A w nc ns Q resF (F0 m (pc + 3) ls rest) s) : GG p l e R s0 m args below meth c D cl tys A w nc ns Q (if 0 ≤ x then resT else resF) (F0 m pc ls (.int x :: rest)) s := by
  intro r s' hr H locs h1 h2 h3
  refine lv_if_ge X.1.1 X.1.2.1 d ht (fun h => ?_) (fun h => ?_)
  · rw [if_pos h] at hr; exact kt h r s' hr H locs h1 h2 h3
  · rw [if_neg h] at hr; exact kf h r s' hr H locs h1 h2 h3
theorem gg_icmp_ge (X : CX p s0 m args meth c D cl tys nw A cc nL ret Ts own) (pc : Nat) {x y : Int32} {off : Int} (tgt : Nat) {resT resF : Option (ρ × σ)} (d : decode cc pc = .ok (.if_icmp .ge off, 3)) (ht : (pc : Int) + off = (tgt : Int)) (kt : y ≤ x → GG p l e R s0 m args below meth c D cl tys A w nc ns Q resT (F0 m tgt ls rest) s) (kf : ¬ y ≤ x → GG p l e R s0 m args below meth c D cl tys A w nc ns Q resF (F0 m (pc + 3) ls rest) s) : GG p l e R s0 m args below meth c D cl tys A w nc ns Q (if y ≤ x then resT else resF) (F0 m pc ls (.int y :: .int x :: rest)) s := by
  intro r s' hr H locs h1 h2 h3
  refine lv_icmp_ge X.1.1 X.1.2.1 d ht (fun h => ?_) (fun h => ?_)
  · rw [if_pos h] at hr; exact kt h r s' hr H locs h1 h2 h3
  · rw [if_neg h] at hr; exact kf h r s' hr H locs h1 h2 h3
theorem gg_if_gt (X : CX p s0 m args meth c D cl tys nw A cc nL ret Ts own) (pc : Nat) {x : Int32} {off : Int} (tgt : Nat) {resT resF : Option (ρ × σ)} (d : decode cc pc = .ok (.ifCond .gt off, 3)) (ht : (pc : Int) + off = (tgt : Int)) (kt : 0 < x → GG p l e R s0 m args below meth c D cl tys A w nc ns Q resT (F0 m tgt ls rest) s) (kf : ¬ 0 < x → GG p l e R s0 m args below meth c D cl tys A w nc ns Q resF (F0 m (pc + 3) ls rest) s) : GG p l e R s0 m args below meth c D cl tys A w nc ns Q (if 0 < x then resT else resF) (F0 m pc ls (.int x :: rest)) s := by
  intro r s' hr H locs h1 h2 h3
  refine lv_if_gt X.1.1 X.1.2.1 d ht (fun h => ?_) (fun h => ?_)
  · rw [if_pos h] at hr; exact kt h r s' hr H locs h1 h2 h3
  · rw [if_neg h] at hr; exact kf h r s' hr H locs h1 h2 h3
theorem gg_icmp_gt (X : CX p s0 m args meth c D cl tys nw A cc nL ret Ts own) (pc : Nat) {x y : Int32} {off : Int} (tgt : Nat) {resT resF : Option (ρ × σ)} (d : decode cc pc = .ok (.if_icmp .gt off, 3)) (ht : (pc : Int) + off = (tgt : Int)) (kt : y < x → GG p l e R s0 m args below meth c D cl tys A w nc ns Q resT (F0 m tgt ls rest) s) (kf : ¬ y < x → GG p l e R s0 m args below meth c D cl tys A w nc ns Q resF (F0 m (pc + 3) ls rest) s) : GG p l e R s0 m args below meth c D cl tys A w nc ns Q (if y < x then resT else resF) (F0 m pc ls (.int y :: .int x :: rest)) s := by
  intro r s' hr H locs h1 h2 h3
  refine lv_icmp_gt X.1.1 X.1.2.1 d ht (fun h => ?_) (fun h => ?_)
  · rw [if_pos h] at hr; exact kt h r s' hr H locs h1 h2 h3
  · rw [if_neg h] at hr; exact kf h r s' hr H locs h1 h2 h3
theorem gg_if_le (X : CX p s0 m args meth c D cl tys nw A cc nL ret Ts own) (pc : Nat) {x : Int32} {off : Int} (tgt : Nat) {resT resF : Option (ρ × σ)} (d : decode cc pc = .ok (.ifCond .le off, 3)) (ht : (pc : Int) + off = (tgt : Int)) (kt : x ≤ 0 → GG p l e R s0 m args below meth c D cl tys A w nc ns Q resT (F0 m tgt ls rest) s) (kf : ¬ x ≤ 0 → GG p l e R s0 m args below meth c D cl tys A w nc ns Q resF (F0 m (pc + 3) ls rest) s) : GG p l e R s0 m args below meth c D cl tys A w nc ns Q (if x ≤ 0 then resT else resF) (F0 m pc ls (.int x :: rest)) s := by
  intro r s' hr H locs h1 h2 h3
  refine lv_if_le X.1.1 X.1.2.1 d ht (fun h => ?_) (fun h => ?_)
  · rw [if_pos h] at hr; exact kt h r s' hr H locs h1 h2 h3
  · rw [if_neg h] at hr; exact kf h r s' hr H locs h1 h2 h3
theorem gg_icmp_le (X : CX p s0 m args meth c D cl tys nw A cc nL ret Ts own) (pc : Nat) {x y : Int32} {off : Int} (tgt : Nat) {resT resF : Option (ρ × σ)} (d : decode cc pc = .ok (.if_icmp .le off, 3)) (ht : (pc : Int) + off = (tgt : Int)) (kt : x ≤ y → GG p l e R s0 m args below meth c D cl tys A w nc ns Q resT (F0 m tgt ls rest) s) (kf : ¬ x ≤ y → GG p l e R s0 m args below meth c D cl tys A w nc ns Q resF (F0 m (pc + 3) ls rest) s) : GG p l e R s0 m args below meth c D cl tys A w nc ns Q (if x ≤ y then resT else resF) (F0 m pc ls (.int y :: .int x :: rest)) s := by
  intro r s' hr H locs h1 h2 h3
  refine lv_icmp_le X.1.1 X.1.2.1 d ht (fun h => ?_) (fun h => ?_)
  · rw [if_pos h] at hr; exact kt h r s' hr H locs h1 h2 h3
  · rw [if_neg h] at hr; exact kf h r s' hr H locs h1 h2 h3
theorem gg_if_ne (X : CX p s0 m args meth c D cl tys nw A cc nL ret Ts own) (pc : Nat) {x : Int32} {off : Int} (tgt : Nat) {resT resF : Option (ρ × σ)} (d : decode cc pc = .ok (.ifCond .ne off, 3)) (ht : (pc : Int) + off = (tgt : Int)) (kt : ¬ x = 0 → GG p l e R s0 m args below meth c D cl tys A w nc ns Q resF (F0 m tgt ls rest) s) (kf : x = 0 → GG p l e R s0 m args below meth c D cl tys A w nc ns Q resT (F0 m (pc + 3) ls rest) s) : GG p l e R s0 m args below meth c D cl tys A w nc ns Q (if x = 0 then resT else resF) (F0 m pc ls (.int x :: rest)) s := by
  intro r s' hr H locs h1 h2 h3
  refine lv_if_ne X.1.1 X.1.2.1 d ht (fun h => ?_) (fun h => ?_)
  · rw [if_neg h] at hr; exact kt h r s' hr H locs h1 h2 h3
  · rw [if_pos h] at hr; exact kf h r s' hr H locs h1 h2 h3
theorem gg_icmp_ne (X : CX p s0 m args meth c D cl tys nw A cc nL ret Ts own) (pc : Nat) {x y : Int32} {off : Int} (tgt : Nat) {resT resF : Option (ρ × σ)} (d : decode cc pc = .ok (.if_icmp .ne off, 3)) (ht : (pc : Int) + off = (tgt : Int)) (kt : ¬ x = y → GG p l e R s0 m args below meth c D cl tys A w nc ns Q resF (F0 m tgt ls rest) s) (kf : x = y → GG p l e R s0 m args below meth c D cl tys A w nc ns Q resT (F0 m (pc + 3) ls rest) s) : GG p l e R s0 m args below meth c D cl tys A w nc ns Q (if x = y then resT else resF) (F0 m pc ls (.int y :: .int x :: rest)) s := by
  intro r s' hr H locs h1 h2 h3
  refine lv_icmp_ne X.1.1 X.1.2.1 d ht (fun h => ?_) (fun h => ?_)
  · rw [if_neg h] at hr; exact kt h r s' hr H locs h1 h2 h3
  · rw [if_pos h] at hr; exact kf h r s' hr H locs h1 h2 h3
theorem gg_goto (X : CX p s0 m args meth c D cl tys nw A cc nL ret Ts own) (pc : Nat) {off : Int} (tgt : Nat) (d : decode cc pc = .ok (.goto off, 3)) (ht : (pc : Int) + off = (tgt : Int)) (k : GG p l e R s0 m args below meth c D cl tys A w nc ns Q res (F0 m tgt ls rest) s) : GG p l e R s0 m args below meth c D cl tys A w nc ns Q res (F0 m pc ls rest) s := fun r s' hr H locs h1 h2 h3 => lv_goto X.1.1 X.1.2.1 d ht (k r s' hr H locs h1 h2 h3)
theorem gg_eqc {x k : Int32} {g : JFrame} {resT resF : Option (ρ × σ)} (kt : x = k → GG p l e R s0 m args below meth c D cl tys A w nc ns Q resT (g) s) (kf : ¬ x = k → GG p l e R s0 m args below meth c D cl tys A w nc ns Q resF (g) s) : GG p l e R s0 m args below meth c D cl tys A w nc ns Q (if x = k then resT else resF) (g) s := by
  intro r s' hr H locs h1 h2 h3
  by_cases h : x = k
  · rw [if_pos h] at hr; exact kt h r s' hr H locs h1 h2 h3
  · rw [if_neg h] at hr; exact kf h r s' hr H locs h1 h2 h3
theorem gg_tin (X : CX p s0 m args meth c D cl tys nw A cc nL ret Ts own) (pc : Nat) {dflt lo hi off : Int} {offs : Array Int} {len : Nat} {x k : Int32} (tgt : Nat) (d : decode cc pc = .ok (.tableswitch dflt lo hi offs, len)) (h : x = k) (h1 : ¬ k.toInt < lo) (h2 : ¬ hi < k.toInt) (ho : offs[(k.toInt - lo).toNat]? = some off) (ht : (pc : Int) + off = (tgt : Int)) (kk : GG p l e R s0 m args below meth c D cl tys A w nc ns Q res (F0 m tgt ls rest) s) : GG p l e R s0 m args below meth c D cl tys A w nc ns Q res (F0 m pc ls (.int x :: rest)) s := by
  subst h
  exact fun r s' hr H locs g1 g2 g3 => lv_tableIn X.1.1 X.1.2.1 d h1 h2 ho ht (kk r s' hr H locs g1 g2 g3)
theorem gg_tout (X : CX p s0 m args meth c D cl tys nw A cc nL ret Ts own) (pc : Nat) {dflt lo hi : Int} {offs : Array Int} {len : Nat} {x : Int32} (tgt : Nat) (d : decode cc pc = .ok (.tableswitch dflt lo hi offs, len)) (h : x.toInt < lo ∨ hi < x.toInt) (ht : (pc : Int) + dflt = (tgt : Int)) (kk : GG p l e R s0 m args below meth c D cl tys A w nc ns Q res (F0 m tgt ls rest) s) : GG p l e R s0 m args below meth c D cl tys A w nc ns Q res (F0 m pc ls (.int x :: rest)) s := fun r s' hr H locs g1 g2 g3 => lv_tableOut X.1.1 X.1.2.1 d h ht (kk r s' hr H locs g1 g2 g3)
theorem gg_iret {r0 : Int32} (X : CX p s0 m args meth c D cl tys nw A cc nL (some .int) Ts own) (pc : Nat) (d : decode cc pc = .ok (.ireturn, 1)) : GG p l e R s0 m args below meth c D cl tys A w 0 0 (QM below args s0 D cl tys A w rvI) (some (r0, s)) (F0 m pc ls [.int r0]) s := by
  intro r s' hr H locs h1 h2 h3
  cases hr
  exact W.iret X.1.1 X.1.2.1 X.2.1 (fun t ht hW => ⟨rfl, by rw [ht]; exact h1, va_K.moved hW.alike X.2.2.2.1, h2, h3.F ht⟩) h3.2.2 d X.2.2.1
theorem gg_zretk {r0 : Int32} (X : CX p s0 m args meth c D cl tys nw A cc nL (some .boolean) Ts own) (pc : Nat) (hn : narrow .boolean (.int r0) = .int r0) (d : decode cc pc = .ok (.ireturn, 1)) : GG p l e R s0 m args below meth c D cl tys A w 0 0 (QM below args s0 D cl tys A w rvI) (some (r0, s)) (F0 m pc ls [.int r0]) s := by
  intro r s' hr H locs h1 h2 h3
  cases hr
  exact W.zret X.1.1 X.1.2.1 X.2.1 hn (fun t ht hW => ⟨rfl, by rw [ht]; exact h1, va_K.moved hW.alike X.2.2.2.1, h2, h3.F ht⟩) h3.2.2 d X.2.2.1
theorem nar_b {x : Int32} (h : vp_nar .boolean x = x) : narrow .boolean (.int x) = .int x := by
  have h2 : narrow .boolean (.int x) = .int (vp_nar .boolean x) := rfl
  rw [h2, h]
theorem gg_zret {r0 : Int32} (X : CX p s0 m args meth c D cl tys nw A cc nL (some .boolean) Ts own) (pc : Nat) (d : decode cc pc = .ok (.ireturn, 1)) : GG p l e R s0 m args below meth c D cl tys A w 0 0 (QM below args s0 D cl tys A w rvI) (bz r0 (some (r0, s))) (F0 m pc ls [.int r0]) s := by
  intro r s' hr
  unfold bz at hr
  by_cases h : vp_nar .boolean r0 = r0
  · rw [if_pos h] at hr; exact gg_zretk X pc (nar_b h) d r s' hr
  · rw [if_neg h] at hr; cases hr
theorem gg_vret (X : CX p s0 m args meth c D cl tys nw A cc nL none Ts own) (pc : Nat) (d : decode cc pc = .ok (.return_, 1)) : GG p l e R s0 m args below meth c D cl tys A w 0 0 (QM below args s0 D cl tys A w rvV) (some ((), s)) (F0 m pc ls []) s := by
  intro r s' hr H locs h1 h2 h3
  cases hr
  exact W.vret X.1.1 X.1.2.1 X.2.1 (fun t ht hW => ⟨rfl, by rw [ht]; exact h1, va_K.moved hW.alike X.2.2.2.1, h2, h3.F ht⟩) h3.2.2 d X.2.2.1
theorem gg_aret {r0 b : Nat} {ad : Nat → Nat} {cn : String} (X : CX p s0 m args meth c D cl tys nw A cc nL (some (.object cn)) Ts own) (pc : Nat) (d : decode cc pc = .ok (.areturn, 1)) : GG p l e R s0 m args below meth c D cl tys A w 0 0 (QM below args s0 D cl tys A w (rvR ad b)) (some (r0, s)) (F0 m pc ls [.ref (ad (b + r0))]) s := by
  intro r s' hr H locs h1 h2 h3
  cases hr
  exact W.aret X.1.1 X.1.2.1 X.2.1 (Or.inl ⟨_, rfl⟩) (Or.inr ⟨_, rfl⟩) (fun t ht hW => ⟨rfl, by rw [ht]; exact h1, va_K.moved hW.alike X.2.2.2.1, h2, h3.F ht⟩) h3.2.2 d X.2.2.1
theorem gg_get (X : CX p s0 m args meth c D cl tys nw A cc nL ret Ts own) (pc : Nat) {q0 a ci k N index : Nat} {C : String} {T : u_T} {fs : List Value} {v : Value} (hin : ∀ x ∈ u_ws C T N, x ∈ Ts) (he : (w s)[q0]? = some (a, .inr (ci, fs))) (hc : cl[ci]? = some (C, T, N)) (hk : k < N) (hv : fs[k]? = some v) (hlink : Cond.fieldLink own index (T k).1 (T k).2.1 (T k).2.2.1 ∈ Ts ∨ ∃ host, Cond.fieldLinkNest own index (T k).1 (T k).2.1 (T k).2.2.1 host ∈ nw) (d : decode cc pc = .ok (.getfield index, 3)) (kk : GG p l e R s0 m args below meth c D cl tys A w nc ns Q res (F0 m (pc + 3) ls (v :: rest)) s) : GG p l e R s0 m args below meth c D cl tys A w nc ns Q res (F0 m pc ls (.ref a :: rest)) s := by
  intro r s' hr H locs h1 h2 h3
  rcases hlink with hl | ⟨host, hl⟩
  · exact va_get X.1.1 X.1.2.1 X.1.2.2.2.2 hin X.1.2.2.2.1 X.2.2.2.1 h1 q0 he hc k hk (X.1.2.2.2.2 _ hl) (fun _ h => h) hv d (kk r s' hr H locs h1 h2 h3)
  · exact va_getN X.1.1 X.1.2.1 X.1.2.2.2.2 hin X.1.2.2.2.1 X.2.2.2.1 h1 q0 he hc k hk (va_Nw.use rfl (X.2.2.2.2.2 _ hl)) (fun _ h => h) hv d (kk r s' hr H locs h1 h2 h3)
theorem gg_put (X : CX p s0 m args meth c D cl tys nw A cc nL ret Ts own) (pc : Nat) {q0 a ci k N index : Nat} {C : String} {T : u_T} {fs : List Value} {v : Value} {ty : FieldType} {s2 : σ} {K : σ → Option (ρ × σ)} (hin : ∀ x ∈ u_ws C T N, x ∈ Ts) (ty0 : Nat → FieldType) (hty : ∀ k, k < N → parseFieldDescriptor (T k).2.2.1 = some (ty0 k)) (hnm : ∀ a, a < N → ∀ b, b < N → a ≠ b → (T a).2.1 ≠ (T b).2.1) (he : (w s)[q0]? = some (a, .inr (ci, fs))) (hc : cl[ci]? = some (C, T, N)) (hk : k < N) (hfin : (T k).2.2.2 = false) (hd : parseFieldDescriptor (T k).2.2.1 = some ty) (hl0 : k < fs.length) (hlink : Cond.fieldLink own index (T k).1 (T k).2.1 (T k).2.2.1 ∈ Ts ∨ ∃ host, Cond.fieldLinkNest own index (T k).1 (T k).2.1 (T k).2.2.1 host ∈ nw) (hset : (w s).set q0 (a, .inr (ci, fs.set k v)) = w s2) (hn : narrow ty v = v) (hfit : fits ty v = true) (d : decode cc pc = .ok (.putfield index, 3)) (kk : ∀ s1, GG p l e R s0 m args below meth c D cl tys A w nc ns Q (K s1) (F0 m (pc + 3) ls rest) s1) : GG p l e R s0 m args below meth c D cl tys A w nc ns Q (nm s2 K) (F0 m pc ls (v :: .ref a :: rest)) s := by
  intro r s' hr H locs h1 h2 h3
  rcases hlink with hl | ⟨host, hl⟩
  · exact va_put X.1.1 X.1.2.1 X.1.2.2.2.2 hin ty0 hty hnm X.1.2.2.2.1 X.2.2.2.1 h1 h2 h3 q0 he hc k hk (X.1.2.2.2.2 _ hl) (fun _ h => h) hfin hd hn hfit hl0 d (fun H1 locs1 g1 g2 g3 => kk s2 r s' hr H1 locs1 (by rw [← hset]; exact g1) (by rw [← hset]; exact g2) g3)
  · exact va_putN X.1.1 X.1.2.1 X.1.2.2.2.2 hin ty0 hty hnm X.1.2.2.2.1 X.2.2.2.1 h1 h2 h3 q0 he hc k hk (va_Nw.use rfl (X.2.2.2.2.2 _ hl)) (fun _ h => h) hfin hd hn hfit hl0 d (fun H1 locs1 g1 g2 g3 => kk s2 r s' hr H1 locs1 (by rw [← hset]; exact g1) (by rw [← hset]; exact g2) g3)
theorem gg_iald (X : CX p s0 m args meth c D cl tys nw A cc nL ret Ts own) (pc : Nat) {q0 t0 a n : Nat} {cA : ClassId} {f : Nat → Int32} {i : Int32} (he : (w s)[q0]? = some (a, .inl (cA, n, .inl f))) (ht : tys[t0]? = some (cA, .int)) (d : decode cc pc = .ok (.iaload, 1)) (kk : GG p l e R s0 m args below meth c D cl tys A w nc ns Q res (F0 m (pc + 1) ls (.int (f i.toNatClampNeg) :: rest)) s) : GG p l e R s0 m args below meth c D cl tys A w nc ns Q (ix i n res) (F0 m pc ls (.int i :: .ref a :: rest)) s := by
  intro r s' hr H locs h1 h2 h3
  unfold ix at hr
  by_cases hin : i < 0 ∨ n ≤ i.toNatClampNeg
  · rw [if_pos hin] at hr; cases hr
  · rw [if_neg hin] at hr
    exact va_iald X.1.1 X.1.2.1 X.2.2.2.1 h1 q0 t0 he ht hin d (kk r s' hr H locs h1 h2 h3)
theorem gg_zald (X : CX p s0 m args meth c D cl tys nw A cc nL ret Ts own) (pc : Nat) {q0 t0 a n : Nat} {cA : ClassId} {f : Nat → Int32} {i : Int32} (he : (w s)[q0]? = some (a, .inl (cA, n, .inl f))) (ht : tys[t0]? = some (cA, .boolean)) (d : decode cc pc = .ok (.baload, 1)) (kk : GG p l e R s0 m args below meth c D cl tys A w nc ns Q res (F0 m (pc + 1) ls (.int (f i.toNatClampNeg) :: rest)) s) : GG p l e R s0 m args below meth c D cl tys A w nc ns Q (ix i n res) (F0 m pc ls (.int i :: .ref a :: rest)) s := by
  intro r s' hr H locs h1 h2 h3
  unfold ix at hr
  by_cases hin : i < 0 ∨ n ≤ i.toNatClampNeg
  · rw [if_pos hin] at hr; cases hr
  · rw [if_neg hin] at hr
    exact va_zald X.1.1 X.1.2.1 X.2.2.2.1 h1 q0 t0 he ht hin d (kk r s' hr H locs h1 h2 h3)
theorem gg_aald (X : CX p s0 m args meth c D cl tys nw A cc nL ret Ts own) (pc : Nat) {q0 t0 a n : Nat} {cA : ClassId} {C : String} {f : Nat → Option Nat} {i : Int32} (he : (w s)[q0]? = some (a, .inl (cA, n, .inr (.inr (.inr (.inr f)))))) (ht : tys[t0]? = some (cA, .object C)) (d : decode cc pc = .ok (.aaload, 1)) (kk : vp_in i n → GG p l e R s0 m args below meth c D cl tys A w nc ns Q res (F0 m (pc + 1) ls (va_rf (f i.toNatClampNeg) :: rest)) s) : GG p l e R s0 m args below meth c D cl tys A w nc ns Q (ix i n res) (F0 m pc ls (.int i :: .ref a :: rest)) s := by
  intro r s' hr H locs h1 h2 h3
  unfold ix at hr
  by_cases hin : i < 0 ∨ n ≤ i.toNatClampNeg
  · rw [if_pos hin] at hr; cases hr
  · rw [if_neg hin] at hr
    exact va_aldq X.1.1 X.1.2.1 X.2.2.2.1 h1 q0 t0 he ht hin d (kk hin r s' hr H locs h1 h2 h3)
theorem gg_iast (X : CX p s0 m args meth c D cl tys nw A cc nL ret Ts own) (pc : Nat) {q0 t0 a n : Nat} {cA : ClassId} {f : Nat → Int32} {i x : Int32} {s2 : σ} {K : σ → Option (ρ × σ)} (he : (w s)[q0]? = some (a, .inl (cA, n, .inl f))) (ht : tys[t0]? = some (cA, .int)) (hset : (w s).set q0 (a, .inl (cA, n, .inl (upd f i.toNatClampNeg x))) = w s2) (d : decode cc pc = .ok (.iastore, 1)) (kk : ∀ s1, GG p l e R s0 m args below meth c D cl tys A w nc ns Q (K s1) (F0 m (pc + 1) ls rest) s1) : GG p l e R s0 m args below meth c D cl tys A w nc ns Q (ix i n (nm s2 K)) (F0 m pc ls (.int x :: .int i :: .ref a :: rest)) s := by
  intro r s' hr H locs h1 h2 h3
  unfold ix at hr
  by_cases hin : i < 0 ∨ n ≤ i.toNatClampNeg
  · rw [if_pos hin] at hr; cases hr
  · rw [if_neg hin] at hr
    exact va_iast X.1.1 X.1.2.1 X.2.2.2.1 h1 h2 h3 q0 t0 he ht hin d (fun H1 locs1 g1 g2 g3 => kk s2 r s' hr H1 locs1 (by rw [← hset]; exact g1) (by rw [← hset]; exact g2) g3)
theorem gg_zast (X : CX p s0 m args meth c D cl tys nw A cc nL ret Ts own) (pc : Nat) {q0 t0 a n : Nat} {cA : ClassId} {f : Nat → Int32} {i x : Int32} {s2 : σ} {K : σ → Option (ρ × σ)} (he : (w s)[q0]? = some (a, .inl (cA, n, .inl f))) (ht : tys[t0]? = some (cA, .boolean)) (hset : (w s).set q0 (a, .inl (cA, n, .inl (upd f i.toNatClampNeg (vp_nar .boolean x)))) = w s2) (d : decode cc pc = .ok (.bastore, 1)) (kk : ∀ s1, GG p l e R s0 m args below meth c D cl tys A w nc ns Q (K s1) (F0 m (pc + 1) ls rest) s1) : GG p l e R s0 m args below meth c D cl tys A w nc ns Q (ix i n (nm s2 K)) (F0 m pc ls (.int x :: .int i :: .ref a :: rest)) s := by
  intro r s' hr H locs h1 h2 h3
  unfold ix at hr
  by_cases hin : i < 0 ∨ n ≤ i.toNatClampNeg
  · rw [if_pos hin] at hr; cases hr
  · rw [if_neg hin] at hr
    exact va_zast X.1.1 X.1.2.1 X.2.2.2.1 h1 h2 h3 q0 t0 he ht hin d (fun H1 locs1 g1 g2 g3 => kk s2 r s' hr H1 locs1 (by rw [← hset]; exact g1) (by rw [← hset]; exact g2) g3)
theorem gg_alen (X : CX p s0 m args meth c D cl tys nw A cc nL ret Ts own) (pc : Nat) {q0 t0 a : Nat} {cA : ClassId} {x : vp_A} {ty : FieldType} (v : Int32) (he : (w s)[q0]? = some (a, .inl (cA, x))) (ht : tys[t0]? = some (cA, ty)) (hv : Int32.ofNat x.1 = v) (d : decode cc pc = .ok (.arraylength, 1)) (kk : GG p l e R s0 m args below meth c D cl tys A w nc ns Q res (F0 m (pc + 1) ls (.int v :: rest)) s) : GG p l e R s0 m args below meth c D cl tys A w nc ns Q res (F0 m pc ls (.ref a :: rest)) s := fun r s' hr H locs h1 h2 h3 => va_alen X.1.1 X.1.2.1 X.2.2.2.1 h1 q0 t0 he ht hv d (kk r s' hr H locs h1 h2 h3)
theorem gg_free (X : CX p s0 m args meth c D cl tys nw A cc nL ret Ts own) {H : Heap} {locs : List Loc} (h2 : va_D A (w s)) (h3 : va_S A s0.heap H locs) : ∀ q, va_A (w s) H.size q → A q := by
  intro q h
  rcases h with ⟨k, e, h⟩ | h
  · exact h2.2 k (q, e) h
  · exact X.2.2.2.2.1 q (Nat.le_trans h3.1 h)
theorem gg_run {ρ' : Type} (X : CX p s0 m args meth c D cl tys nw A cc nL ret Ts own) (pc : Nat) {rv' : ρ' → Option Value} {o : Option (ρ' × σ)} {K : ρ' → σ → Option (ρ × σ)} {st0 : List Value} {a : Array Value} (hr : ∀ r s1, o = some (r, s1) → ∀ (H : Heap) (locs : List Loc), va_P D cl (w s) H → va_D A (w s) → va_S A s0.heap H locs → va_Run p l e R s0 m args below meth c H locs nc ns 0 0 (F0 m pc ls st0) rest (Qx rv' w D cl tys (va_A (w s) H.size) r s1 a) (va_A (w s) H.size)) (kk : ∀ r s1, o = some (r, s1) → GG p l e R s0 m args below meth c D cl tys A w nc ns Q (K r s1) (F0 m (pc + 3) ls ((rv' r).toList ++ rest)) s1) : GG p l e R s0 m args below meth c D cl tys A w nc ns Q (bnd o K) (F0 m pc ls st0) s := by
  intro r s' hres H locs hP hD hS
  cases ho : o with
  | none => rw [ho] at hres; cases hres
  | some q =>
    obtain ⟨r1, s1⟩ := q
    rw [ho] at hres
    have hk := kk r1 s1 ho r s' hres
    have hrun := hr r1 s1 ho H locs hP hD hS
    have hfree := gg_free X hD hS
    intro T hT X0
    obtain ⟨v, st₀, t, T', L, h0, X', hL, e1, e2, ⟨hv, qP, qK, qD, hz, hkp⟩, st⟩ := hrun T hT X0
    cases hv
    rw [h0] at hz hkp
    obtain ⟨t2, a1, b1⟩ := hk T'.heap (locs ++ L) (by rw [e1]; exact qP) (qD.weaken (fun _ _ _ h => hfree _ h)) ⟨Nat.le_trans hS.1 (by rw [e1]; exact hz), fun q g1 g2 => by rw [e1, hkp q (Nat.lt_of_lt_of_le g1 hS.1) (fun z => g2 (hfree q z))]; exact hS.2.1 q g1 g2, fun q hq => by
      rcases List.mem_append.mp hq with h | h
      · exact hS.2.2 q h
      · exact hfree _ (hL q h)⟩ T' rfl X'
    exact ⟨t2, st t2 a1, b1⟩
def nwOne : Cond → Bool
  | .fieldLinkNest _ _ _ _ _ _ => true
  | .methodLinkNest _ _ _ _ => true
  | _ => false
def nwOk (nw : List Cond) : Bool := nw.all nwOne
theorem px_blind {sz : Nat} {av : List Value} (hg : nwOk nw = true) : FrameBlind (Px w D cl tys nw sz s av) := by
  intro a U g mk q
  obtain ⟨q0, q1, qP, qK, qD, qN⟩ := q
  exact ⟨q0, q1, qP, va_K.moved (u := U) (U := U.calling g mk a) (Vm.Alike.refl U.vm) qK, qD, fun x hx => by
    have h1 := qN x hx
    have h2 := List.all_eq_true.mp hg x hx
    cases x <;> first | exact va_Nw.same rfl (rfl : U.vm = (U.calling g mk a).vm) h1 | (exact absurd h2 (by simp [nwOne]))⟩
theorem nw_warm {U : State} (hg : nwOk nw = true) (hW : s0.WarmedH U.vm) (h : ∀ x ∈ nw, va_Nw x s0) : ∀ x ∈ nw, va_Nw x U := by
  intro x hx
  have h1 := h x hx
  have h2 := List.all_eq_true.mp hg x hx
  cases x <;> first | exact va_Nw.warmF hW h1 | exact va_Nw.warmM hW h1 | (exact absurd h2 (by simp [nwOne]))
theorem gg_callV {ρ' : Type} (X : CX p s0 m args meth c D cl tys nw A cc nL ret Ts own) (pc : Nat) {rv' : ρ' → Option Value} {o : Option (ρ' × σ)} {K : ρ' → σ → Option (ρ × σ)} {st0 : List Value} {q0 b ci N : Nat} {C : String} {T : u_T} {fs : List Value} {y : MethodName} {bytes : ByteArray} {maxL n index : Nat} {retc : Option FieldType} {ws : List Cond} {rm : Room} (hg : nwOk nw = true) (As : List Value) (rest : List Value) (hM : ∀ r s1, o = some (r, s1) → ∀ sz, Met l y ws rm (Px w D cl tys nw sz s (.ref b :: As)) (Qx rv' w D cl tys (va_A (w s) sz) r s1) 0 0 (va_A (w s) sz)) (cw : CallW R s0 args own C index y bytes maxL retc ws rm 0 0 n) (he : (w s)[q0]? = some (b, .inr (ci, fs))) (hc : cl[ci]? = some (C, T, N)) (hn : As.length = n) (hsize : ls.size = nL) (hst : st0 = As.reverse ++ .ref b :: rest) (hroom : (rest.map fun v => v.category).sum ≤ 8) (hR : nc + 0 ≤ R.cells ∧ ns + 0 ≤ R.slots) (d : decode cc pc = .ok (.invokevirtual index, 3)) (kk : ∀ r s1, o = some (r, s1) → GG p l e R s0 m args below meth c D cl tys A w nc ns Q (K r s1) (F0 m (pc + 3) ls ((rv' r).toList ++ rest)) s1) : GG p l e R s0 m args below meth c D cl tys A w nc ns Q (bnd o K) (F0 m pc ls st0) s :=
  gg_run X pc (fun r s1 ho H locs hP hD hS => va_runV (As := As) (rest := rest) X.1 (hM r s1 ho H.size) cw ⟨px_blind hg, va_recv X.2.2.2.1 hP hc he, fun U hU hW => ⟨rfl, by rw [hU], by rw [hU]; exact hP, va_K.moved hW.alike X.2.2.2.1, hD.weaken (fun _ _ _ _ => trivial), nw_warm hg hW X.2.2.2.2.2⟩⟩ rfl hn hsize hst (lv_room hroom) d hR) kk
theorem gg_callVN {ρ' : Type} (X : CX p s0 m args meth c D cl tys nw A cc nL ret Ts own) (pc : Nat) {rv' : ρ' → Option Value} {o : Option (ρ' × σ)} {K : ρ' → σ → Option (ρ × σ)} {st0 : List Value} {q0 b ci N : Nat} {C : String} {T : u_T} {fs : List Value} {y : MethodName} {bytes : ByteArray} {maxL n index : Nat} {retc : Option FieldType} {ws : List Cond} {rm : Room} {host : String} (hg : nwOk nw = true) (As : List Value) (rest : List Value) (hM : ∀ r s1, o = some (r, s1) → ∀ sz, Met l y ws rm (Px w D cl tys nw sz s (.ref b :: As)) (Qx rv' w D cl tys (va_A (w s) sz) r s1) 0 0 (va_A (w s) sz)) (cw : va_CN R s0 args own index y host bytes maxL retc ws rm 0 0 n ∧ (Cond.instanceMethod y).before args s0 = true ∧ (Cond.selects C y y).before args s0 = true) (he : (w s)[q0]? = some (b, .inr (ci, fs))) (hc : cl[ci]? = some (C, T, N)) (hn : As.length = n) (hsize : ls.size = nL) (hst : st0 = As.reverse ++ .ref b :: rest) (hroom : (rest.map fun v => v.category).sum ≤ 8) (hR : nc + 0 ≤ R.cells ∧ ns + 0 ≤ R.slots) (d : decode cc pc = .ok (.invokevirtual index, 3)) (kk : ∀ r s1, o = some (r, s1) → GG p l e R s0 m args below meth c D cl tys A w nc ns Q (K r s1) (F0 m (pc + 3) ls ((rv' r).toList ++ rest)) s1) : GG p l e R s0 m args below meth c D cl tys A w nc ns Q (bnd o K) (F0 m pc ls st0) s :=
  gg_run X pc (fun r s1 ho H locs hP hD hS => va_runVN (As := As) (rest := rest) X.1 (hM r s1 ho H.size) cw ⟨px_blind hg, va_recv X.2.2.2.1 hP hc he, fun U hU hW => ⟨rfl, by rw [hU], by rw [hU]; exact hP, va_K.moved hW.alike X.2.2.2.1, hD.weaken (fun _ _ _ _ => trivial), nw_warm hg hW X.2.2.2.2.2⟩⟩ rfl hn hsize hst (lv_room hroom) d hR) kk
theorem gg_callS {ρ' : Type} (X : CX p s0 m args meth c D cl tys nw A cc nL ret Ts own) (pc : Nat) {rv' : ρ' → Option Value} {o : Option (ρ' × σ)} {K : ρ' → σ → Option (ρ × σ)} {st0 : List Value}  {y : MethodName} {bytes : ByteArray} {maxL n index : Nat} {retc : Option FieldType} {ws : List Cond} {rm : Room} (hg : nwOk nw = true) (As : List Value) (rest : List Value) (hM : ∀ r s1, o = some (r, s1) → ∀ sz, Met l y ws rm (Px w D cl tys nw sz s As) (Qx rv' w D cl tys (va_A (w s) sz) r s1) 0 0 (va_A (w s) sz)) (cw : CallB R s0 args own index y bytes maxL retc ws rm 0 0 n ∧ (Cond.static y).before args s0 = true) (hn : As.length = n) (hsize : ls.size = nL) (hst : st0 = As.reverse ++ rest) (hroom : (rest.map fun v => v.category).sum ≤ 8) (hR : nc + 0 ≤ R.cells ∧ ns + 0 ≤ R.slots) (d : decode cc pc = .ok (.invokestatic index, 3)) (kk : ∀ r s1, o = some (r, s1) → GG p l e R s0 m args below meth c D cl tys A w nc ns Q (K r s1) (F0 m (pc + 3) ls ((rv' r).toList ++ rest)) s1) : GG p l e R s0 m args below meth c D cl tys A w nc ns Q (bnd o K) (F0 m pc ls st0) s :=
  gg_run X pc (fun r s1 ho H locs hP hD hS => va_runS (As := As) (rest := rest) X.1 (hM r s1 ho H.size) cw ⟨px_blind hg, fun U hU hW => ⟨rfl, by rw [hU], by rw [hU]; exact hP, va_K.moved hW.alike X.2.2.2.1, hD.weaken (fun _ _ _ _ => trivial), nw_warm hg hW X.2.2.2.2.2⟩⟩ rfl hn hsize hst (lv_room hroom) d hR) kk
theorem gg_callSN {ρ' : Type} (X : CX p s0 m args meth c D cl tys nw A cc nL ret Ts own) (pc : Nat) {rv' : ρ' → Option Value} {o : Option (ρ' × σ)} {K : ρ' → σ → Option (ρ × σ)} {st0 : List Value}  {y : MethodName} {bytes : ByteArray} {maxL n index : Nat} {retc : Option FieldType} {ws : List Cond} {rm : Room} {host : String} (hg : nwOk nw = true) (As : List Value) (rest : List Value) (hM : ∀ r s1, o = some (r, s1) → ∀ sz, Met l y ws rm (Px w D cl tys nw sz s As) (Qx rv' w D cl tys (va_A (w s) sz) r s1) 0 0 (va_A (w s) sz)) (cw : va_CN R s0 args own index y host bytes maxL retc ws rm 0 0 n ∧ (Cond.static y).before args s0 = true ∧ True) (hn : As.length = n) (hsize : ls.size = nL) (hst : st0 = As.reverse ++ rest) (hroom : (rest.map fun v => v.category).sum ≤ 8) (hR : nc + 0 ≤ R.cells ∧ ns + 0 ≤ R.slots) (d : decode cc pc = .ok (.invokestatic index, 3)) (kk : ∀ r s1, o = some (r, s1) → GG p l e R s0 m args below meth c D cl tys A w nc ns Q (K r s1) (F0 m (pc + 3) ls ((rv' r).toList ++ rest)) s1) : GG p l e R s0 m args below meth c D cl tys A w nc ns Q (bnd o K) (F0 m pc ls st0) s :=
  gg_run X pc (fun r s1 ho H locs hP hD hS => va_runSN (As := As) (rest := rest) X.1 (hM r s1 ho H.size) cw ⟨px_blind hg, fun U hU hW => ⟨rfl, by rw [hU], by rw [hU]; exact hP, va_K.moved hW.alike X.2.2.2.1, hD.weaken (fun _ _ _ _ => trivial), nw_warm hg hW X.2.2.2.2.2⟩⟩ rfl hn hsize hst (lv_room hroom) d hR) kk
theorem gg_show_i {pc : Nat} {r1 : Int32} (k : GG p l e R s0 m args below meth c D cl tys A w nc ns Q res (F0 m pc ls (.int r1 :: rest)) s) : GG p l e R s0 m args below meth c D cl tys A w nc ns Q res (F0 m pc ls ((rvI r1).toList ++ rest)) s := k
theorem gg_show_r {pc : Nat} {r1 : Nat} {ad : Nat → Nat} {b1 : Nat} (k : GG p l e R s0 m args below meth c D cl tys A w nc ns Q res (F0 m pc ls (.ref (ad (b1 + r1)) :: rest)) s) : GG p l e R s0 m args below meth c D cl tys A w nc ns Q res (F0 m pc ls ((rvR ad b1 r1).toList ++ rest)) s := k
theorem gg_show_v {pc : Nat} {r1 : Unit} (k : GG p l e R s0 m args below meth c D cl tys A w nc ns Q res (F0 m pc ls rest) s) : GG p l e R s0 m args below meth c D cl tys A w nc ns Q res (F0 m pc ls ((rvV r1).toList ++ rest)) s := k
end GGS
theorem met_of {l : Launch} {D : va_G} {cl : List vw_C} {tys : List (ClassId × FieldType)} {nw : List Cond} {σ : Type} {w : σ → va_W} {ρ : Type} {rv : ρ → Option Value} {res : Option (ρ × σ)} {s s' : σ} {r : ρ} {y : MethodName} {ws ws' : List Cond} {rm : Room} {cc : ByteArray} {nL : Nat} {ret : Option FieldType} {own : String} {sz : Nat} (av : List Value) (hy : plainName y.cls = true) (hw : ws = Cond.code y cc nL ret :: ws') (ho : y.cls = own) (hlen : (lg_sl av).length ≤ nL) (hF : res = some (r, s'))
    (body : ∀ (p : Program) (e : Env) (s0 : State) (m : MethodId) (args : Array Value) (below : List Frame) (meth : Method) (c : Code) (A : Nat → Prop) (ls : Array Slot), CX p s0 m args meth c D cl tys nw A cc nL ret ws own → lv_has ls nL (lv_args 0 av) → GG p l e rm s0 m args below meth c D cl tys A w 0 0 (QM below args s0 D cl tys A w rv) res (F0 m 0 ls []) s) :
    Met l y ws rm (Px w D cl tys nw sz s av) (Qx rv w D cl tys (va_A (w s) sz) r s') 0 0 (va_A (w s) sz) := by
  refine Met.ofW (cc := cc) (maxL := nL) (ret := ret) hy hw ?_
  intro p e s0 m args below meth c s₁ B hml hv
  obtain ⟨rfl, hsz, hP, hK, hD0, hN⟩ := hv
  have hts := atoms_spec (ws := ws) B.pre
  have hown : s0.vm.findClass own = some m.cls := by rw [← ho]; exact findClass_of_methodNamed B.named
  have hlocks := B.notSynchronized
  subst hsz
  have hD := hD0.self (sz := s0.heap.size)
  have hA : ∀ q : Nat, s0.heap.size ≤ q → va_A (w s) s0.heap.size q := fun q h => Or.inr h
  have hl := lv_entry av (n := nL) hlen
  rw [lg_entry_eq]
  exact body p e s0 m av.toArray below meth c _ _ ⟨⟨B.exec, B.bytes, hml, hown, hts⟩, B.returns, hlocks, hK, hA, hN⟩ hl r s' hF s0.heap [] hP hD va_S.rf
end
section
/-! what each method means: printed by wip/whole/main.py out of the bytecode -/
def f_W_isAddress_15  (s : eS) : Option (Int32 × eS) := (some ((0 : Int32), s))
def f_W_isAddress (a0 : Int32) (s : eS) : Option (Int32 × eS) := (if a0 < 0 then (f_W_isAddress_15 s) else (if (256 : Int32) ≤ a0 then (f_W_isAddress_15 s) else (some ((1 : Int32), s))))
def f_W_systemMayUse_29  (s : eS) : Option (Int32 × eS) := (some ((1 : Int32), s))
def f_W_systemMayUse (a1 : Int32) (s : eS) : Option (Int32 × eS) := bnd (f_W_isAddress a1 s) fun r1 s2 => (if r1 = 0 then (some ((0 : Int32), s2)) else ix (a1 / (16 : Int32)) 16 (nm (s2 1 (Int32.toNatClampNeg (a1 / (16 : Int32)))) fun v4 => (if v4 = (1 : Int32) then (f_W_systemMayUse_29 s2) else (if v4 < (5 : Int32) then (some ((0 : Int32), s2)) else (f_W_systemMayUse_29 s2)))))
def f_W_poke (a1 : Int32) (a2 : Int32) (s : eS) : Option (Int32 × eS) := bnd (f_W_systemMayUse a1 s) fun r1 s2 => (if r1 = 0 then (some ((0 : Int32), s2)) else ix a1 256 (nm (wr s2 0 (Int32.toNatClampNeg a1) a2) fun s4 => (some ((1 : Int32), s4))))
def f_W_peek (a1 : Int32) (s : eS) : Option (Int32 × eS) := bnd (f_W_systemMayUse a1 s) fun r1 s2 => (if r1 = 0 then (some ((0 : Int32), s2)) else ix a1 256 ((some ((s2 0 (Int32.toNatClampNeg a1)), s2))))
def f_W_bare (a1 : Int32) (s : eS) : Option (Int32 × eS) := bnd (f_W_isAddress a1 s) fun r1 s2 => (if r1 = 0 then (some ((0 : Int32), s2)) else ix a1 256 ((some ((s2 0 (Int32.toNatClampNeg a1)), s2))))
def f_C_put (n0 : Nat) (a1 : Int32) (a2 : Int32) (s : eS) : Option (Unit × eS) := (if a1 ≤ 0 then (some ((), s)) else (if (8 : Int32) ≤ a1 then (some ((), s)) else ix a1 8 (nm (wr s (10 + n0) (Int32.toNatClampNeg a1) a2) fun s1 => (some ((), s1)))))
def f_W_give_19  (s : eS) : Option (Int32 × eS) := (some ((0 : Int32), s))
def f_W_give (a1 : Int32) (a2 : Int32) (s : eS) : Option (Int32 × eS) := (if a1 < (1 : Int32) then (f_W_give_19 s) else (if (8 : Int32) ≤ a1 then (f_W_give_19 s) else (if (s 9 2) = (-1 : Int32) then bnd (f_C_put 6 a1 a2 s) fun _ s2 => (some ((1 : Int32), s2)) else (f_W_give_19 s))))
def f_C_get_19  (s : eS) : Option (Int32 × eS) := (some ((0 : Int32), s))
def f_C_get (n0 : Nat) (a1 : Int32) (s : eS) : Option (Int32 × eS) := (if a1 < 0 then (f_C_get_19 s) else (if (8 : Int32) ≤ a1 then (f_C_get_19 s) else ix a1 8 ((some ((s (10 + n0) (Int32.toNatClampNeg a1)), s)))))
def f_W_register (a1 : Int32) (s : eS) : Option (Int32 × eS) := bnd (f_C_get 6 a1 s) fun r1 s2 => (some (r1, s2))
def f_W_pc  (s : eS) : Option (Int32 × eS) := (some ((s 8 6), s))
def f_W_boot (a1 : Int32) (s : eS) : Option (Int32 × eS) := (if (s 9 2) = (-1 : Int32) then nm (wr s 8 6 a1) fun s1 => nm (wr s1 9 1 (0 : Int32)) fun s2 => (some ((1 : Int32), s2)) else (some ((0 : Int32), s)))
def f_W_halted  (s : eS) : Option (Int32 × eS) := (bz (s 9 1) (some ((s 9 1), s)))
def f_W_isRegion_14  (s : eS) : Option (Int32 × eS) := (some ((0 : Int32), s))
def f_W_isRegion (a0 : Int32) (s : eS) : Option (Int32 × eS) := (if a0 < 0 then (f_W_isRegion_14 s) else (if (16 : Int32) ≤ a0 then (f_W_isRegion_14 s) else (some ((1 : Int32), s))))
def f_W_allFree_2 : Nat → Int32 → Int32 → Int32 → eS → Option (Int32 × eS)
  | 0, _, _, _, _ => none
  | fl + 1, x1, x2, x3, s => (if x2 ≤ x3 then (some ((1 : Int32), s)) else ix (x1 + x3) 16 ((if (s 1 (Int32.toNatClampNeg (x1 + x3))) = 0 then nm (x3 + (1 : Int32)) fun v1 => (f_W_allFree_2 fl x1 x2 v1 s) else (some ((0 : Int32), s)))))
def f_W_allFree (a1 : Int32) (a2 : Int32) (s : eS) : Option (Int32 × eS) := nm (0 : Int32) fun v1 => (f_W_allFree_2 fu a1 a2 v1 s)
def f_W_leastAbsent_2 : Nat → Int32 → eS → Option (Int32 × eS)
  | 0, _, _ => none
  | fl + 1, x1, s => (if (3 : Int32) ≤ x1 then (some ((3 : Int32), s)) else ix x1 3 ((if (s 3 (Int32.toNatClampNeg x1)) = 0 then (some (x1, s)) else nm (x1 + (1 : Int32)) fun v2 => (f_W_leastAbsent_2 fl v2 s))))
def f_W_leastAbsent  (s : eS) : Option (Int32 × eS) := nm (0 : Int32) fun v1 => (f_W_leastAbsent_2 fu v1 s)
def f_V_become_17 : Nat → Nat → Int32 → eS → Option (Unit × eS)
  | 0, _, _, _ => none
  | fl + 1, m0, x2, s => (if (2 : Int32) ≤ x2 then (some ((), s)) else ix x2 2 (nm (wr s 6 (2 * m0 + (Int32.toNatClampNeg x2)) (0 : Int32)) fun s2 => nm (x2 + (1 : Int32)) fun v3 => (f_V_become_17 fl m0 v3 s2)))
def f_V_become (n0 : Nat) (a1 : Int32) (s : eS) : Option (Unit × eS) := nm (wr s 3 n0 a1) fun s1 => nm (wr s1 4 n0 (0 : Int32)) fun s2 => nm (wr s2 5 n0 (0 : Int32)) fun s3 => nm (0 : Int32) fun v4 => (f_V_become_17 fu n0 v4 s3)
def f_W_mix (a0 : Int32) (a1 : Int32) (s : eS) : Option (Int32 × eS) := nm ((a0 ^^^ a1) * (1390208809 : Int32)) fun v1 => (some ((v1 ^^^ (((Int32.toUInt32 v1) >>> ((Int32.toUInt32 (15 : Int32)) &&& Int32.toUInt32 31)).toInt32)), s))
def f_V_add (n0 : Nat) (a1 : Int32) (s : eS) : Option (Unit × eS) := bnd (f_W_mix (s 4 n0) a1 s) fun r1 s2 => nm (wr s2 4 n0 r1) fun s4 => (some ((), s4))
def f_W_create_28  (s : eS) : Option (Int32 × eS) := (some ((-2 : Int32), s))
def f_W_create_59 : Nat → Int32 → Int32 → Int32 → Int32 → eS → Option (Int32 × eS)
  | 0, _, _, _, _, _ => none
  | fl + 1, x1, x2, x3, x4, s => (if x2 ≤ x4 then ix x3 3 (nm (Int32.toNatClampNeg x3) fun t2 => bnd (f_V_become t2 (1 : Int32) s) fun _ s5 => bnd (f_V_add t2 (1 : Int32) s5) fun _ s8 => bnd (f_V_add t2 x1 s8) fun _ s11 => bnd (f_V_add t2 x2 s11) fun _ s14 => (some (x3, s14))) else ix (x1 + x4) 16 (nm (wr s 1 (Int32.toNatClampNeg (x1 + x4)) ((2 : Int32) + x3)) fun s16 => nm (x4 + (1 : Int32)) fun v17 => (f_W_create_59 fl x1 x2 x3 v17 s16)))
def f_W_create_22 (x1 : Int32) (x2 : Int32) (s : eS) : Option (Int32 × eS) := nz x2 ((if (x1 - x1 / x2 * x2) = 0 then bnd (f_W_allFree x1 x2 s) fun r1 s2 => (if r1 = 0 then (some ((-4 : Int32), s2)) else bnd (f_W_leastAbsent s2) fun r4 s5 => nm r4 fun v7 => (if v7 = (3 : Int32) then (some ((-5 : Int32), s5)) else nm (0 : Int32) fun v8 => (f_W_create_59 fu x1 x2 v7 v8 s5))) else (f_W_create_28 s)))
def f_W_create (a1 : Int32) (a2 : Int32) (s : eS) : Option (Int32 × eS) := bnd (f_W_isRegion a1 s) fun r1 s2 => (if r1 = 0 then (f_W_create_28 s2) else (if a2 = (1 : Int32) then (f_W_create_22 a1 a2 s2) else (if a2 = (2 : Int32) then (f_W_create_22 a1 a2 s2) else (if a2 = (4 : Int32) then (f_W_create_22 a1 a2 s2) else (f_W_create_28 s2)))))
def f_W_isEnclave_13  (s : eS) : Option (Int32 × eS) := (some ((0 : Int32), s))
def f_W_isEnclave (a0 : Int32) (s : eS) : Option (Int32 × eS) := (if a0 < 0 then (f_W_isEnclave_13 s) else (if (3 : Int32) ≤ a0 then (f_W_isEnclave_13 s) else (some ((1 : Int32), s))))
def f_W_load_21  (s : eS) : Option (Int32 × eS) := (some ((-2 : Int32), s))
def f_W_load_66  (s : eS) : Option (Int32 × eS) := (some ((-4 : Int32), s))
def f_W_load_108 : Nat → Int32 → Int32 → Nat → Int32 → eS → Option (Int32 × eS)
  | 0, _, _, _, _, _ => none
  | fl + 1, x2, x3, m4, x5, s => (if (16 : Int32) ≤ x5 then (some ((0 : Int32), s)) else ix ((x3 * (16 : Int32)) + x5) 256 (nm (s 0 (Int32.toNatClampNeg ((x3 * (16 : Int32)) + x5))) fun v1 => ix ((x2 * (16 : Int32)) + x5) 256 (nm (wr s 0 (Int32.toNatClampNeg ((x2 * (16 : Int32)) + x5)) v1) fun s2 => bnd (f_V_add m4 v1 s2) fun _ s4 => nm (x5 + (1 : Int32)) fun v6 => (f_W_load_108 fl x2 x3 m4 v6 s4))))
def f_W_load (a1 : Int32) (a2 : Int32) (a3 : Int32) (s : eS) : Option (Int32 × eS) := bnd (f_W_isEnclave a1 s) fun r1 s2 => (if r1 = 0 then (f_W_load_21 s2) else bnd (f_W_isRegion a2 s2) fun r4 s5 => (if r4 = 0 then (f_W_load_21 s5) else bnd (f_W_isRegion a3 s5) fun r7 s8 => (if r7 = 0 then (f_W_load_21 s8) else ix a1 3 (nm (Int32.toNatClampNeg a1) fun t11 => (if (s8 3 t11) = (1 : Int32) then ix a2 16 ((if (s8 1 (Int32.toNatClampNeg a2)) = ((2 : Int32) + a1) then ix a3 16 ((if (s8 1 (Int32.toNatClampNeg a3)) = (1 : Int32) then (if (s8 5 t11) < (8 : Int32) then nm (wr s8 5 t11 ((s8 5 t11) + (1 : Int32))) fun s13 => bnd (f_V_add t11 (2 : Int32) s13) fun _ s15 => bnd (f_V_add t11 a2 s15) fun _ s18 => nm (0 : Int32) fun v20 => (f_W_load_108 fu a2 a3 t11 v20 s18) else (some ((-5 : Int32), s8))) else (f_W_load_66 s8))) else (f_W_load_66 s8))) else (some ((-3 : Int32), s8)))))))
def f_V_threadCount_4 : Nat → Nat → Int32 → Int32 → eS → Option (Int32 × eS)
  | 0, _, _, _, _ => none
  | fl + 1, m0, x1, x2, s => (if (2 : Int32) ≤ x2 then (some (x1, s)) else ix x2 2 ((if (s 6 (2 * m0 + (Int32.toNatClampNeg x2))) = 0 then nm (x2 + (1 : Int32)) fun v2 => (f_V_threadCount_4 fl m0 x1 v2 s) else nm (x1 + (1 : Int32)) fun v3 => nm (x2 + (1 : Int32)) fun v4 => (f_V_threadCount_4 fl m0 v3 v4 s))))
def f_V_threadCount (n0 : Nat) (s : eS) : Option (Int32 × eS) := nm (0 : Int32) fun v1 => nm (0 : Int32) fun v2 => (f_V_threadCount_4 fu n0 v1 v2 s)
def f_W_addThread_14  (s : eS) : Option (Int32 × eS) := (some ((-2 : Int32), s))
def f_W_addThread (a1 : Int32) (a2 : Int32) (s : eS) : Option (Int32 × eS) := bnd (f_W_isEnclave a1 s) fun r1 s2 => (if r1 = 0 then (f_W_addThread_14 s2) else bnd (f_W_isAddress a2 s2) fun r4 s5 => (if r4 = 0 then (f_W_addThread_14 s5) else ix a1 3 (nm (Int32.toNatClampNeg a1) fun t8 => (if (s5 3 t8) = (1 : Int32) then ix (a2 / (16 : Int32)) 16 ((if (s5 1 (Int32.toNatClampNeg (a2 / (16 : Int32)))) = ((2 : Int32) + a1) then bnd (f_V_threadCount t8 s5) fun r10 s11 => nm r10 fun v13 => (if v13 < (2 : Int32) then ix v13 2 (nm (wr s11 6 (2 * t8 + (Int32.toNatClampNeg v13)) (1 : Int32)) fun s15 => ix v13 2 (nm (wr s15 7 (2 * t8 + (Int32.toNatClampNeg v13)) a2) fun s17 => bnd (f_V_add t8 (3 : Int32) s17) fun _ s19 => bnd (f_V_add t8 a2 s19) fun _ s22 => (some (v13, s22)))) else (some ((-5 : Int32), s11))) else (some ((-4 : Int32), s5)))) else (some ((-3 : Int32), s5))))))
def f_W_seal_32  (s : eS) : Option (Int32 × eS) := (some ((-3 : Int32), s))
def f_W_seal (a1 : Int32) (s : eS) : Option (Int32 × eS) := bnd (f_W_isEnclave a1 s) fun r1 s2 => (if r1 = 0 then (some ((-2 : Int32), s2)) else ix a1 3 (nm (Int32.toNatClampNeg a1) fun t5 => (if (s2 3 t5) = (1 : Int32) then bnd (f_V_threadCount t5 s2) fun r7 s8 => (if r7 = 0 then (f_W_seal_32 s8) else nm (wr s8 3 t5 (2 : Int32)) fun s10 => bnd (f_V_add t5 (4 : Int32) s10) fun _ s12 => (some ((0 : Int32), s12))) else (f_W_seal_32 s2))))
def f_W_sharedWith_4 : Nat → Int32 → Int32 → Int32 → eS → Option (Int32 × eS)
  | 0, _, _, _, _ => none
  | fl + 1, x1, x2, x3, s => (if (16 : Int32) ≤ x3 then (some (x2, s)) else ix x3 16 ((if (s 1 (Int32.toNatClampNeg x3)) = ((5 : Int32) + x1) then nm (x2 + (1 : Int32)) fun v2 => nm (x3 + (1 : Int32)) fun v3 => (f_W_sharedWith_4 fl x1 v2 v3 s) else nm (x3 + (1 : Int32)) fun v1 => (f_W_sharedWith_4 fl x1 x2 v1 s))))
def f_W_sharedWith (a1 : Int32) (s : eS) : Option (Int32 × eS) := nm (0 : Int32) fun v1 => nm (0 : Int32) fun v2 => (f_W_sharedWith_4 fu a1 v1 v2 s)
def f_W_share_14  (s : eS) : Option (Int32 × eS) := (some ((-2 : Int32), s))
def f_W_share (a1 : Int32) (a2 : Int32) (s : eS) : Option (Int32 × eS) := bnd (f_W_isEnclave a1 s) fun r1 s2 => (if r1 = 0 then (f_W_share_14 s2) else bnd (f_W_isRegion a2 s2) fun r4 s5 => (if r4 = 0 then (f_W_share_14 s5) else ix a1 3 ((if (s5 3 (Int32.toNatClampNeg a1)) = 0 then (some ((-3 : Int32), s5)) else ix a2 16 ((if (s5 1 (Int32.toNatClampNeg a2)) = (1 : Int32) then bnd (f_W_sharedWith a1 s5) fun r8 s9 => (if r8 < (2 : Int32) then ix a2 16 (nm (wr s9 1 (Int32.toNatClampNeg a2) ((5 : Int32) + a1)) fun s11 => (some ((0 : Int32), s11))) else (some ((-5 : Int32), s9))) else (some ((-4 : Int32), s5))))))))
def f_W_isThread_13  (s : eS) : Option (Int32 × eS) := (some ((0 : Int32), s))
def f_W_isThread (a0 : Int32) (s : eS) : Option (Int32 × eS) := (if a0 < 0 then (f_W_isThread_13 s) else (if (2 : Int32) ≤ a0 then (f_W_isThread_13 s) else (some ((1 : Int32), s))))
def f_W_refusalToStart_14  (s : eS) : Option (Int32 × eS) := (some ((-2 : Int32), s))
def f_W_refusalToStart_52  (s : eS) : Option (Int32 × eS) := (some ((-3 : Int32), s))
def f_W_refusalToStart (a1 : Int32) (a2 : Int32) (a3 : Int32) (s : eS) : Option (Int32 × eS) := bnd (f_W_isEnclave a1 s) fun r1 s2 => (if r1 = 0 then (f_W_refusalToStart_14 s2) else bnd (f_W_isThread a2 s2) fun r4 s5 => (if r4 = 0 then (f_W_refusalToStart_14 s5) else ix a1 3 (nm (Int32.toNatClampNeg a1) fun t8 => (if (s5 3 t8) = (2 : Int32) then ix a2 2 ((if (s5 6 (2 * t8 + (Int32.toNatClampNeg a2))) = a3 then (some ((0 : Int32), s5)) else (f_W_refusalToStart_52 s5))) else (f_W_refusalToStart_52 s5)))))
def f_C_start_2 : Nat → Nat → Int32 → Int32 → Int32 → eS → Option (Unit × eS)
  | 0, _, _, _, _, _ => none
  | fl + 1, m0, x1, x2, x3, s => (if (8 : Int32) ≤ x3 then bnd (f_C_put m0 (1 : Int32) x2 s) fun _ s2 => nm (wr s2 8 m0 x1) fun s4 => (some ((), s4)) else bnd (f_C_put m0 x3 (0 : Int32) s) fun _ s6 => nm (x3 + (1 : Int32)) fun v8 => (f_C_start_2 fl m0 x1 x2 v8 s6))
def f_C_start (n0 : Nat) (a1 : Int32) (a2 : Int32) (s : eS) : Option (Unit × eS) := nm (0 : Int32) fun v1 => (f_C_start_2 fu n0 a1 a2 v1 s)
def f_W_handOver (a1 : Int32) (a2 : Int32) (s : eS) : Option (Unit × eS) := ix a1 3 (ix a2 2 (nm (wr s 6 (2 * (Int32.toNatClampNeg a1) + (Int32.toNatClampNeg a2)) (2 : Int32)) fun s3 => nm (wr s3 9 2 ((a1 * (2 : Int32)) + a2)) fun s4 => (some ((), s4))))
def f_W_enter_47 (x4 : Int32) (s : eS) : Option (Int32 × eS) := (some (x4, s))
def f_W_enter (a1 : Int32) (a2 : Int32) (a3 : Int32) (s : eS) : Option (Int32 × eS) := bnd (f_W_refusalToStart a1 a2 (1 : Int32) s) fun r1 s2 => nm r1 fun v4 => (if v4 = 0 then ix a1 3 (ix a2 2 (nm (2 * (Int32.toNatClampNeg a1) + (Int32.toNatClampNeg a2)) fun t7 => bnd (f_C_start t7 (s2 7 t7) a3 s2) fun _ s10 => bnd (f_W_handOver a1 a2 s10) fun _ s13 => (f_W_enter_47 v4 s13))) else (f_W_enter_47 v4 s2))
def f_W_resume_18 (x3 : Int32) (s : eS) : Option (Int32 × eS) := (some (x3, s))
def f_W_resume (a1 : Int32) (a2 : Int32) (s : eS) : Option (Int32 × eS) := bnd (f_W_refusalToStart a1 a2 (3 : Int32) s) fun r1 s2 => nm r1 fun v4 => (if v4 = 0 then bnd (f_W_handOver a1 a2 s2) fun _ s6 => (f_W_resume_18 v4 s6) else (f_W_resume_18 v4 s2))
def f_W_stop (a1 : Int32) (s : eS) : Option (Int32 × eS) := bnd (f_W_isEnclave a1 s) fun r1 s2 => (if r1 = 0 then (some ((-2 : Int32), s2)) else ix a1 3 ((if (s2 3 (Int32.toNatClampNeg a1)) = (2 : Int32) then ix a1 3 (nm (wr s2 3 (Int32.toNatClampNeg a1) (3 : Int32)) fun s6 => (some ((0 : Int32), s6))) else (some ((-3 : Int32), s2)))))
def f_W_free_2 : Nat → Int32 → Int32 → eS → Option (Unit × eS)
  | 0, _, _, _ => none
  | fl + 1, x1, x2, s => (if (16 : Int32) ≤ x2 then ix x1 16 (nm (wr s 1 (Int32.toNatClampNeg x1) (0 : Int32)) fun s1 => (some ((), s1))) else ix ((x1 * (16 : Int32)) + x2) 256 (nm (wr s 0 (Int32.toNatClampNeg ((x1 * (16 : Int32)) + x2)) (0 : Int32)) fun s2 => nm (x2 + (1 : Int32)) fun v3 => (f_W_free_2 fl x1 v3 s2)))
def f_W_free (a1 : Int32) (s : eS) : Option (Unit × eS) := nm (0 : Int32) fun v1 => (f_W_free_2 fu a1 v1 s)
def f_W_destroy_29  (s : eS) : Option (Int32 × eS) := (some ((-3 : Int32), s))
def f_W_destroy_34 : Nat → Int32 → Int32 → eS → Option (Int32 × eS)
  | 0, _, _, _ => none
  | fl + 1, x1, x3, s => (if (16 : Int32) ≤ x3 then ix x1 3 (bnd (f_V_become (Int32.toNatClampNeg x1) (0 : Int32) s) fun _ s3 => (some ((0 : Int32), s3))) else ix x3 16 ((if (s 1 (Int32.toNatClampNeg x3)) = ((2 : Int32) + x1) then bnd (f_W_free x3 s) fun _ s9 => nm (x3 + (1 : Int32)) fun v11 => (f_W_destroy_34 fl x1 v11 s9) else ix x3 16 ((if (s 1 (Int32.toNatClampNeg x3)) = ((5 : Int32) + x1) then ix x3 16 (nm (wr s 1 (Int32.toNatClampNeg x3) (1 : Int32)) fun s6 => nm (x3 + (1 : Int32)) fun v7 => (f_W_destroy_34 fl x1 v7 s6)) else nm (x3 + (1 : Int32)) fun v5 => (f_W_destroy_34 fl x1 v5 s))))))
def f_W_destroy (a1 : Int32) (s : eS) : Option (Int32 × eS) := bnd (f_W_isEnclave a1 s) fun r1 s2 => (if r1 = 0 then (some ((-2 : Int32), s2)) else ix a1 3 (nm (s2 3 (Int32.toNatClampNeg a1)) fun v5 => (if v5 = 0 then (f_W_destroy_29 s2) else (if v5 = (2 : Int32) then (f_W_destroy_29 s2) else nm (0 : Int32) fun v6 => (f_W_destroy_34 fu a1 v6 s2)))))
def f_W_claim (a1 : Int32) (s : eS) : Option (Int32 × eS) := bnd (f_W_isRegion a1 s) fun r1 s2 => (if r1 = 0 then (some ((-2 : Int32), s2)) else ix a1 16 ((if (s2 1 (Int32.toNatClampNeg a1)) = 0 then ix a1 16 (nm (wr s2 1 (Int32.toNatClampNeg a1) (1 : Int32)) fun s4 => (some ((0 : Int32), s4))) else (some ((-4 : Int32), s2)))))
def f_W_giveUp (a1 : Int32) (s : eS) : Option (Int32 × eS) := bnd (f_W_isRegion a1 s) fun r1 s2 => (if r1 = 0 then (some ((-2 : Int32), s2)) else ix a1 16 ((if (s2 1 (Int32.toNatClampNeg a1)) = (1 : Int32) then bnd (f_W_free a1 s2) fun _ s5 => (some ((0 : Int32), s5)) else (some ((-4 : Int32), s2)))))
def f_W_systemCall (a1 : Int32) (a2 : Int32) (a3 : Int32) (a4 : Int32) (s : eS) : Option (Int32 × eS) := (if a1 = (1 : Int32) then bnd (f_W_create a2 a3 s) fun r2 s3 => (some (r2, s3)) else (if a1 = (2 : Int32) then bnd (f_W_load a2 a3 a4 s) fun r6 s7 => (some (r6, s7)) else (if a1 = (3 : Int32) then bnd (f_W_addThread a2 a3 s) fun r10 s11 => (some (r10, s11)) else (if a1 = (4 : Int32) then bnd (f_W_seal a2 s) fun r14 s15 => (some (r14, s15)) else (if a1 = (5 : Int32) then bnd (f_W_share a2 a3 s) fun r18 s19 => (some (r18, s19)) else (if a1 = (6 : Int32) then bnd (f_W_enter a2 a3 a4 s) fun r22 s23 => (some (r22, s23)) else (if a1 = (7 : Int32) then bnd (f_W_resume a2 a3 s) fun r26 s27 => (some (r26, s27)) else (if a1 = (8 : Int32) then bnd (f_W_stop a2 s) fun r30 s31 => (some (r30, s31)) else (if a1 = (9 : Int32) then bnd (f_W_destroy a2 s) fun r34 s35 => (some (r34, s35)) else (if a1 = (10 : Int32) then bnd (f_W_claim a2 s) fun r38 s39 => (some (r38, s39)) else (if a1 = (11 : Int32) then bnd (f_W_giveUp a2 s) fun r42 s43 => (some (r42, s43)) else (some ((-1 : Int32), s)))))))))))))
def f_W_call (a1 : Int32) (a2 : Int32) (a3 : Int32) (a4 : Int32) (s : eS) : Option (Int32 × eS) := (if (s 9 2) = (-1 : Int32) then bnd (f_W_systemCall a1 a2 a3 a4 s) fun r1 s2 => (some (r1, s2)) else (some ((-6 : Int32), s)))
def f_W_runningThread  (s : eS) : Option (Nat × eS) := ix ((s 9 2) / (2 : Int32)) 3 (ix ((s 9 2) - (s 9 2) / (2 : Int32) * (2 : Int32)) 2 ((some ((2 * (Int32.toNatClampNeg ((s 9 2) / (2 : Int32))) + (Int32.toNatClampNeg ((s 9 2) - (s 9 2) / (2 : Int32) * (2 : Int32)))), s))))
def f_W_leave (a1 : Int32) (a2 : Int32) (a3 : Int32) (s : eS) : Option (Unit × eS) := bnd (f_W_runningThread s) fun r1 s2 => nm (wr s2 6 r1 a1) fun s4 => ix (0 : Int32) 5 (ix (0 : Int32) 5 (nm (wr s4 2 (Int32.toNatClampNeg (0 : Int32)) ((s4 2 (Int32.toNatClampNeg (0 : Int32))) + (1 : Int32))) fun s5 => ix (1 : Int32) 5 (nm (wr s5 2 (Int32.toNatClampNeg (1 : Int32)) ((s5 9 2) / (2 : Int32))) fun s6 => ix (2 : Int32) 5 (nm (wr s6 2 (Int32.toNatClampNeg (2 : Int32)) a2) fun s7 => ix (3 : Int32) 5 (nm (wr s7 2 (Int32.toNatClampNeg (3 : Int32)) a3) fun s8 => ix (4 : Int32) 5 (nm (wr s8 2 (Int32.toNatClampNeg (4 : Int32)) (s8 9 4)) fun s9 => nm (wr s9 9 2 (-1 : Int32)) fun s10 => bnd (f_C_put 6 (1 : Int32) a2 s10) fun _ s12 => bnd (f_C_put 6 (2 : Int32) a3 s12) fun _ s15 => (some ((), s15))))))))
def f_W_enclaveMayUse_33  (s : eS) : Option (Int32 × eS) := (some ((1 : Int32), s))
def f_W_enclaveMayUse (a1 : Int32) (a2 : Int32) (s : eS) : Option (Int32 × eS) := bnd (f_W_isAddress a2 s) fun r1 s2 => (if r1 = 0 then (some ((0 : Int32), s2)) else ix (a2 / (16 : Int32)) 16 (nm (s2 1 (Int32.toNatClampNeg (a2 / (16 : Int32)))) fun v4 => (if v4 = ((2 : Int32) + a1) then (f_W_enclaveMayUse_33 s2) else (if v4 = ((5 : Int32) + a1) then (f_W_enclaveMayUse_33 s2) else (some ((0 : Int32), s2))))))
def f_W_runnerMayUse (a1 : Int32) (s : eS) : Option (Int32 × eS) := (if (s 9 2) = (-1 : Int32) then bnd (f_W_systemMayUse a1 s) fun r4 s5 => (bz r4 (some (r4, s5))) else bnd (f_W_enclaveMayUse ((s 9 2) / (2 : Int32)) a1 s) fun r1 s2 => (bz r1 (some (r1, s2))))
def f_W_fault (a1 : Int32) (s : eS) : Option (Unit × eS) := (if (s 9 2) = (-1 : Int32) then nm (wr s 9 1 (1 : Int32)) fun s4 => (some ((), s4)) else bnd (f_W_leave (1 : Int32) a1 (0 : Int32) s) fun _ s2 => (some ((), s2)))
def f_W_macOf (a1 : Int32) (a2 : Int32) (s : eS) : Option (Int32 × eS) := bnd (f_W_mix (s 9 0) a1 s) fun r1 s2 => bnd (f_W_mix r1 a2 s2) fun r4 s5 => bnd (f_W_mix r4 (s5 9 0) s5) fun r7 s8 => (some (r7, s8))
def f_W_enclaveCall (a1 : Int32) (a2 : Int32) (a3 : Int32) (a4 : Int32) (s : eS) : Option (Int32 × eS) := ix ((s 9 2) / (2 : Int32)) 3 (nm (s 4 (Int32.toNatClampNeg ((s 9 2) / (2 : Int32)))) fun v2 => (if a1 = (16 : Int32) then bnd (f_W_leave (1 : Int32) (1 : Int32) a2 s) fun _ s5 => (some ((0 : Int32), s5)) else (if a1 = (17 : Int32) then bnd (f_W_macOf v2 a2 s) fun r8 s9 => (some (r8, s9)) else (if a1 = (18 : Int32) then bnd (f_W_mix (s 9 0) v2 s) fun r12 s13 => bnd (f_W_mix r12 (18 : Int32) s13) fun r15 s16 => (some (r15, s16)) else (if a1 = (19 : Int32) then bnd (f_W_macOf a2 a3 s) fun r19 s20 => (if r19 = a4 then (some ((1 : Int32), s20)) else (some ((0 : Int32), s20))) else (some ((-1 : Int32), s)))))))
def f_W_obeyCall_65 (m1 : Nat) (x6 : Int32) (y0 : Int32) (s : eS) : Option (Unit × eS) := nm y0 fun v1 => (if (s 9 2) = x6 then bnd (f_C_put m1 (1 : Int32) v1 s) fun _ s3 => (some ((), s3)) else (some ((), s)))
def f_W_obeyCall (n1 : Nat) (a2 : Int32) (s : eS) : Option (Unit × eS) := bnd (f_C_get n1 (1 : Int32) s) fun r1 s2 => nm r1 fun v4 => bnd (f_C_get n1 (2 : Int32) s2) fun r5 s6 => nm r5 fun v8 => bnd (f_C_get n1 (3 : Int32) s6) fun r9 s10 => nm r9 fun v12 => nm (s10 9 2) fun v13 => nm (wr s10 8 n1 ((s10 8 n1) + (1 : Int32))) fun s14 => (if v13 = (-1 : Int32) then bnd (f_W_systemCall a2 v4 v8 v12 s14) fun r18 s19 => (f_W_obeyCall_65 n1 v13 r18 s19) else bnd (f_W_enclaveCall a2 v4 v8 v12 s14) fun r15 s16 => (f_W_obeyCall_65 n1 v13 r15 s16))
def f_W_branch (n0 : Nat) (a1 : Int32) (a2 : Int32) (s : eS) : Option (Unit × eS) := (if a1 = 0 then (some ((), s)) else nm (wr s 8 n0 ((s 8 n0) + a2)) fun s1 => (some ((), s1)))
def f_W_obey_56  (s : eS) : Option (Unit × eS) := bnd (f_W_fault (4 : Int32) s) fun _ s2 => (some ((), s2))
def f_W_obey_288 (x7 : Int32) (k0 : Nat) (y1 : Int32) (s : eS) : Option (Unit × eS) := bnd (f_W_branch k0 y1 x7 s) fun _ s2 => (some ((), s2))
def f_W_obey_313 (x7 : Int32) (k0 : Nat) (y1 : Int32) (s : eS) : Option (Unit × eS) := bnd (f_W_branch k0 y1 x7 s) fun _ s2 => (some ((), s2))
def f_W_obey_92 (m1 : Nat) (x3 : Int32) (x4 : Int32) (x5 : Int32) (x6 : Int32) (x7 : Int32) (s : eS) : Option (Unit × eS) := nm (wr s 8 m1 ((s 8 m1) + (1 : Int32))) fun s1 => (if x3 = (1 : Int32) then bnd (f_C_put m1 x4 x7 s1) fun _ s4 => (some ((), s4)) else (if x3 = (2 : Int32) then bnd (f_C_put m1 x4 (x5 + x7) s1) fun _ s8 => (some ((), s8)) else (if x3 = (3 : Int32) then bnd (f_C_put m1 x4 (x5 + x6) s1) fun _ s12 => (some ((), s12)) else (if x3 = (4 : Int32) then bnd (f_C_put m1 x4 (x5 - x6) s1) fun _ s16 => (some ((), s16)) else (if x3 = (5 : Int32) then bnd (f_C_put m1 x4 (x5 * x6) s1) fun _ s20 => (some ((), s20)) else (if x3 = (6 : Int32) then bnd (f_C_put m1 x4 (x5 ^^^ x6) s1) fun _ s24 => (some ((), s24)) else (if x3 = (7 : Int32) then ix (x5 + x7) 256 (bnd (f_C_put m1 x4 (s1 0 (Int32.toNatClampNeg (x5 + x7))) s1) fun _ s28 => (some ((), s28))) else (if x3 = (8 : Int32) then bnd (f_C_get m1 x4 s1) fun r31 s32 => ix (x5 + x7) 256 (nm (wr s32 0 (Int32.toNatClampNeg (x5 + x7)) r31) fun s34 => (some ((), s34))) else (if x3 = (9 : Int32) then bnd (f_C_get m1 x4 s1) fun r36 s37 => (if r36 = x5 then (f_W_obey_288 x7 m1 (1 : Int32) s37) else (f_W_obey_288 x7 m1 (0 : Int32) s37)) else bnd (f_C_get m1 x4 s1) fun r39 s40 => (if x5 ≤ r39 then (f_W_obey_313 x7 m1 (0 : Int32) s40) else (f_W_obey_313 x7 m1 (1 : Int32) s40)))))))))))
def f_W_obey_74 (m1 : Nat) (x3 : Int32) (x4 : Int32) (x5 : Int32) (x6 : Int32) (x7 : Int32) (s : eS) : Option (Unit × eS) := bnd (f_W_runnerMayUse (x5 + x7) s) fun r1 s2 => (if r1 = 0 then bnd (f_W_fault (3 : Int32) s2) fun _ s5 => (some ((), s5)) else (f_W_obey_92 m1 x3 x4 x5 x6 x7 s2))
def f_W_obey (n1 : Nat) (a2 : Int32) (s : eS) : Option (Unit × eS) := nm (a2 &&& (15 : Int32)) fun v1 => nm ((a2 >>> ((4 : Int32) &&& 31)) &&& (7 : Int32)) fun v2 => bnd (f_C_get n1 ((a2 >>> ((7 : Int32) &&& 31)) &&& (7 : Int32)) s) fun r3 s4 => nm r3 fun v6 => bnd (f_C_get n1 ((a2 >>> ((10 : Int32) &&& 31)) &&& (7 : Int32)) s4) fun r7 s8 => nm r7 fun v10 => nm (a2 >>> ((16 : Int32) &&& 31)) fun v11 => (if v1 < (1 : Int32) then (f_W_obey_56 s8) else (if v1 ≤ (10 : Int32) then (if v1 = (7 : Int32) then (f_W_obey_74 n1 v1 v2 v6 v10 v11 s8) else (if v1 = (8 : Int32) then (f_W_obey_74 n1 v1 v2 v6 v10 v11 s8) else (f_W_obey_92 n1 v1 v2 v6 v10 v11 s8))) else (f_W_obey_56 s8)))
def f_W_step_67 (k0 : Nat) (s : eS) : Option (Unit × eS) := nm k0 fun t1 => bnd (f_W_runnerMayUse (s 8 t1) s) fun r3 s4 => (if r3 = 0 then bnd (f_W_fault (3 : Int32) s4) fun _ s14 => (some ((), s14)) else ix (s4 8 t1) 256 (nm (s4 0 (Int32.toNatClampNeg (s4 8 t1))) fun v6 => (if (v6 &&& (15 : Int32)) = (11 : Int32) then bnd (f_W_obeyCall t1 (v6 >>> ((16 : Int32) &&& 31)) s4) fun _ s11 => (some ((), s11)) else bnd (f_W_obey t1 v6 s4) fun _ s8 => (some ((), s8)))))
def f_W_step_45  (s : eS) : Option (Unit × eS) := (if (s 9 2) = (-1 : Int32) then (f_W_step_67 6 s) else bnd (f_W_runningThread s) fun r1 s2 => (f_W_step_67 r1 s2))
def f_W_step  (s : eS) : Option (Unit × eS) := nm (wr s 9 4 ((s 9 4) + (1 : Int32))) fun s1 => (if (s1 9 2) = (-1 : Int32) then (f_W_step_45 s1) else (if (s1 9 3) ≤ 0 then (f_W_step_45 s1) else nz (s1 9 3) ((if ((s1 9 4) - (s1 9 4) / (s1 9 3) * (s1 9 3)) = 0 then bnd (f_W_leave (3 : Int32) (2 : Int32) (0 : Int32) s1) fun _ s3 => (some ((), s3)) else (f_W_step_45 s1)))))
def f_W_run_11  (s : eS) : Option (Int32 × eS) := (some ((0 : Int32), s))
def f_W_run_15 : Nat → Int32 → Int32 → eS → Option (Int32 × eS)
  | 0, _, _, _ => none
  | fl + 1, x1, x2, s => (if x1 ≤ x2 then (some (x1, s)) else (if (s 9 1) = 0 then bnd (f_W_step s) fun _ s2 => nm (x2 + (1 : Int32)) fun v4 => (f_W_run_15 fl x1 v4 s2) else (if (s 9 2) = (-1 : Int32) then (some (x2, s)) else bnd (f_W_step s) fun _ s6 => nm (x2 + (1 : Int32)) fun v8 => (f_W_run_15 fl x1 v8 s6))))
def f_W_run (a1 : Int32) (s : eS) : Option (Int32 × eS) := (if a1 < 0 then (f_W_run_11 s) else (if a1 ≤ (1000 : Int32) then nm (0 : Int32) fun v1 => (f_W_run_15 fu a1 v1 s) else (f_W_run_11 s)))
def f_W_period (a1 : Int32) (s : eS) : Option (Unit × eS) := nm (wr s 9 3 a1) fun s1 => (some ((), s1))
def f_W_tick  (s : eS) : Option (Int32 × eS) := (some ((s 9 4), s))
def f_W_running  (s : eS) : Option (Int32 × eS) := (some ((s 9 2), s))
def f_W_region (a1 : Int32) (s : eS) : Option (Int32 × eS) := bnd (f_W_isRegion a1 s) fun r1 s2 => (if r1 = 0 then (some ((-1 : Int32), s2)) else ix a1 16 ((some ((s2 1 (Int32.toNatClampNeg a1)), s2))))
def f_W_enclave (a1 : Int32) (s : eS) : Option (Int32 × eS) := bnd (f_W_isEnclave a1 s) fun r1 s2 => (if r1 = 0 then (some ((-1 : Int32), s2)) else ix a1 3 ((some ((s2 3 (Int32.toNatClampNeg a1)), s2))))
def f_W_thread_31  (s : eS) : Option (Int32 × eS) := (some ((0 : Int32), s))
def f_W_thread (a1 : Int32) (a2 : Int32) (s : eS) : Option (Int32 × eS) := bnd (f_W_isEnclave a1 s) fun r1 s2 => (if r1 = 0 then (f_W_thread_31 s2) else bnd (f_W_isThread a2 s2) fun r4 s5 => (if r4 = 0 then (f_W_thread_31 s5) else ix a1 3 (ix a2 2 ((some ((s5 6 (2 * (Int32.toNatClampNeg a1) + (Int32.toNatClampNeg a2))), s5))))))
def f_W_kept_14  (s : eS) : Option (Int32 × eS) := (some ((0 : Int32), s))
def f_W_kept_49 (x3 : Int32) (m4 : Nat) (s : eS) : Option (Int32 × eS) := (if x3 = (8 : Int32) then (some ((s 8 m4), s)) else bnd (f_C_get m4 x3 s) fun r1 s2 => (some (r1, s2)))
def f_W_kept (a1 : Int32) (a2 : Int32) (a3 : Int32) (s : eS) : Option (Int32 × eS) := bnd (f_W_isEnclave a1 s) fun r1 s2 => (if r1 = 0 then (f_W_kept_14 s2) else bnd (f_W_isThread a2 s2) fun r4 s5 => (if r4 = 0 then (f_W_kept_14 s5) else ix a1 3 (ix a2 2 (nm (2 * (Int32.toNatClampNeg a1) + (Int32.toNatClampNeg a2)) fun t9 => (if (s5 6 t9) = (2 : Int32) then (f_W_kept_49 a3 t9 s5) else (if (s5 6 t9) = (3 : Int32) then (f_W_kept_49 a3 t9 s5) else (some ((0 : Int32), s5))))))))
def f_W_measure (a1 : Int32) (s : eS) : Option (Int32 × eS) := bnd (f_W_isEnclave a1 s) fun r1 s2 => (if r1 = 0 then (some ((0 : Int32), s2)) else ix a1 3 ((some ((s2 4 (Int32.toNatClampNeg a1)), s2))))
def f_W_vouch (a1 : Int32) (a2 : Int32) (a3 : Int32) (s : eS) : Option (Int32 × eS) := bnd (f_W_macOf a1 a2 s) fun r1 s2 => (if r1 = a3 then (some ((1 : Int32), s2)) else (some ((0 : Int32), s2)))
def f_W_exit_22  (s : eS) : Option (Int32 × eS) := (some ((0 : Int32), s))
def f_W_exit (a1 : Int32) (s : eS) : Option (Int32 × eS) := (if a1 < 0 then (f_W_exit_22 s) else (if (5 : Int32) ≤ a1 then (f_W_exit_22 s) else ix a1 5 ((some ((s 2 (Int32.toNatClampNeg a1)), s)))))
def f_M_outside_9  (s : eS) : Option (Int32 × eS) := (some ((1 : Int32), s))
def f_M_outside (a0 : Int32) (a1 : Int32) (s : eS) : Option (Int32 × eS) := (if a0 < 0 then (f_M_outside_9 s) else (if a0 ≤ a1 then (some ((0 : Int32), s)) else (f_M_outside_9 s)))
def f_M_kind_2 : Nat → Int32 → Int32 → eS → Option (Int32 × eS)
  | 0, _, _, _ => none
  | fl + 1, x1, x2, s => (if (3 : Int32) ≤ x2 then ix x1 16 ((if (s 2 (Int32.toNatClampNeg x1)) ≤ 0 then ix x1 16 ((if (s 1 (Int32.toNatClampNeg x1)) = 0 then (some ((0 : Int32), s)) else (some ((1 : Int32), s)))) else ix x1 16 ((some (((4 : Int32) + (s 2 (Int32.toNatClampNeg x1))), s))))) else ix x2 3 ((if (s 3 (Int32.toNatClampNeg x2)) ≤ 0 then nm (x2 + (1 : Int32)) fun v1 => (f_M_kind_2 fl x1 v1 s) else ix x2 3 ((if x1 < (s 4 (Int32.toNatClampNeg x2)) then nm (x2 + (1 : Int32)) fun v2 => (f_M_kind_2 fl x1 v2 s) else ix x2 3 (ix x2 3 ((if ((s 4 (Int32.toNatClampNeg x2)) + (s 5 (Int32.toNatClampNeg x2))) ≤ x1 then nm (x2 + (1 : Int32)) fun v3 => (f_M_kind_2 fl x1 v3 s) else (some (((2 : Int32) + x2), s))))))))))
def f_M_kind (a1 : Int32) (s : eS) : Option (Int32 × eS) := nm (0 : Int32) fun v1 => (f_M_kind_2 fu a1 v1 s)
def f_M_uses_63  (s : eS) : Option (Int32 × eS) := (some ((1 : Int32), s))
def f_M_uses_37  (s : eS) : Option (Int32 × eS) := (some ((1 : Int32), s))
def f_M_uses (a1 : Int32) (a2 : Int32) (s : eS) : Option (Int32 × eS) := bnd (f_M_outside a2 (255 : Int32) s) fun r1 s2 => (if r1 = 0 then bnd (f_M_kind (a2 / (16 : Int32)) s2) fun r4 s5 => nm r4 fun v7 => (if a1 = (6 : Int32) then (if v7 = (1 : Int32) then (f_M_uses_37 s5) else (if v7 < (5 : Int32) then (some ((0 : Int32), s5)) else (f_M_uses_37 s5))) else (if v7 = ((2 : Int32) + (a1 / (2 : Int32))) then (f_M_uses_63 s5) else (if v7 = ((5 : Int32) + (a1 / (2 : Int32))) then (f_M_uses_63 s5) else (some ((0 : Int32), s5))))) else (some ((0 : Int32), s2)))
def f_M_mix (a0 : Int32) (a1 : Int32) (s : eS) : Option (Int32 × eS) := nm ((a0 ^^^ a1) * (1390208809 : Int32)) fun v1 => (some ((v1 ^^^ (((Int32.toUInt32 v1) >>> ((Int32.toUInt32 (15 : Int32)) &&& Int32.toUInt32 31)).toInt32)), s))
def f_M_mac (a1 : Int32) (a2 : Int32) (s : eS) : Option (Int32 × eS) := bnd (f_M_mix (s 13 0) a1 s) fun r1 s2 => nm r1 fun v4 => bnd (f_M_mix v4 a2 s2) fun r5 s6 => nm r5 fun v8 => bnd (f_M_mix v8 (s6 13 0) s6) fun r9 s10 => (some (r9, s10))
def f_M_add (a1 : Int32) (a2 : Int32) (s : eS) : Option (Unit × eS) := ix a1 3 (ix (((160 : Int32) * a1) + (s 8 (Int32.toNatClampNeg a1))) 480 (nm (wr s 7 (Int32.toNatClampNeg (((160 : Int32) * a1) + (s 8 (Int32.toNatClampNeg a1)))) a2) fun s1 => ix a1 3 (ix a1 3 (nm (wr s1 8 (Int32.toNatClampNeg a1) ((s1 8 (Int32.toNatClampNeg a1)) + (1 : Int32))) fun s2 => (some ((), s2))))))
def f_M_measured_4 : Nat → Int32 → Int32 → Int32 → eS → Option (Int32 × eS)
  | 0, _, _, _, _ => none
  | fl + 1, x1, x2, x3, s => ix x1 3 ((if (s 8 (Int32.toNatClampNeg x1)) ≤ x3 then (some (x2, s)) else ix (((160 : Int32) * x1) + x3) 480 (bnd (f_M_mix x2 (s 7 (Int32.toNatClampNeg (((160 : Int32) * x1) + x3))) s) fun r1 s2 => nm r1 fun v4 => nm (x3 + (1 : Int32)) fun v5 => (f_M_measured_4 fl x1 v4 v5 s2))))
def f_M_measured (a1 : Int32) (s : eS) : Option (Int32 × eS) := nm (0 : Int32) fun v1 => nm (0 : Int32) fun v2 => (f_M_measured_4 fu a1 v1 v2 s)
def f_M_bad_146  (s : eS) : Option (Int32 × eS) := (some ((0 : Int32), s))
def f_M_bad_142  (s : eS) : Option (Int32 × eS) := (some ((1 : Int32), s))
def f_M_bad_134 (x2 : Int32) (s : eS) : Option (Int32 × eS) := bnd (f_M_outside x2 (1 : Int32) s) fun r1 s2 => (if r1 = 0 then (f_M_bad_146 s2) else (f_M_bad_142 s2))
def f_M_bad_122 (x0 : Int32) (x2 : Int32) (s : eS) : Option (Int32 × eS) := (if x0 = (6 : Int32) then (f_M_bad_134 x2 s) else (if x0 = (7 : Int32) then (f_M_bad_134 x2 s) else (f_M_bad_146 s)))
def f_M_bad_108 (x0 : Int32) (x2 : Int32) (s : eS) : Option (Int32 × eS) := (if x0 = (5 : Int32) then bnd (f_M_outside x2 (15 : Int32) s) fun r1 s2 => (if r1 = 0 then (f_M_bad_122 x0 x2 s2) else (f_M_bad_142 s2)) else (f_M_bad_122 x0 x2 s))
def f_M_bad_87  (s : eS) : Option (Int32 × eS) := (some ((1 : Int32), s))
def f_M_bad_35  (s : eS) : Option (Int32 × eS) := (some ((1 : Int32), s))
def f_M_bad_29 (x1 : Int32) (x2 : Int32) (s : eS) : Option (Int32 × eS) := nz x2 ((if (x1 - x1 / x2 * x2) = 0 then (some ((0 : Int32), s)) else (f_M_bad_35 s)))
def f_M_bad (a0 : Int32) (a1 : Int32) (a2 : Int32) (a3 : Int32) (s : eS) : Option (Int32 × eS) := (if a0 = (1 : Int32) then bnd (f_M_outside a1 (15 : Int32) s) fun r16 s17 => (if r16 = 0 then (if a2 = (1 : Int32) then (f_M_bad_29 a1 a2 s17) else (if a2 = (2 : Int32) then (f_M_bad_29 a1 a2 s17) else (if a2 = (4 : Int32) then (f_M_bad_29 a1 a2 s17) else (f_M_bad_35 s17)))) else (f_M_bad_35 s17)) else (if a0 < (10 : Int32) then bnd (f_M_outside a1 (2 : Int32) s) fun r1 s2 => (if r1 = 0 then (if a0 = (2 : Int32) then bnd (f_M_outside a2 (15 : Int32) s2) fun r7 s8 => (if r7 = 0 then bnd (f_M_outside a3 (15 : Int32) s8) fun r10 s11 => (if r10 = 0 then (some ((0 : Int32), s11)) else (f_M_bad_87 s11)) else (f_M_bad_87 s8)) else (if a0 = (3 : Int32) then bnd (f_M_outside a2 (255 : Int32) s2) fun r4 s5 => (if r4 = 0 then (f_M_bad_108 a0 a2 s5) else (f_M_bad_142 s5)) else (f_M_bad_108 a0 a2 s2))) else (some ((1 : Int32), s2))) else bnd (f_M_outside a1 (15 : Int32) s) fun r13 s14 => (bz r13 (some (r13, s14)))))
def f_M_wrongState_85  (s : eS) : Option (Int32 × eS) := (some ((1 : Int32), s))
def f_M_wrongState_130  (s : eS) : Option (Int32 × eS) := (some ((1 : Int32), s))
def f_M_wrongState_160  (s : eS) : Option (Int32 × eS) := (some ((1 : Int32), s))
def f_M_wrongState_201  (s : eS) : Option (Int32 × eS) := (some ((1 : Int32), s))
def f_M_wrongState (a1 : Int32) (a2 : Int32) (a3 : Int32) (s : eS) : Option (Int32 × eS) := (if a1 = (2 : Int32) then ix a2 3 ((if (s 3 (Int32.toNatClampNeg a2)) = (1 : Int32) then (some ((0 : Int32), s)) else (some ((1 : Int32), s)))) else (if a1 = (3 : Int32) then ix a2 3 ((if (s 3 (Int32.toNatClampNeg a2)) = (1 : Int32) then (some ((0 : Int32), s)) else (some ((1 : Int32), s)))) else (if a1 = (4 : Int32) then ix a2 3 ((if (s 3 (Int32.toNatClampNeg a2)) = (1 : Int32) then ix ((2 : Int32) * a2) 6 ((if (s 9 (Int32.toNatClampNeg ((2 : Int32) * a2))) = 0 then (f_M_wrongState_85 s) else (some ((0 : Int32), s)))) else (f_M_wrongState_85 s))) else (if a1 = (5 : Int32) then ix a2 3 ((if (s 3 (Int32.toNatClampNeg a2)) = 0 then (some ((1 : Int32), s)) else (some ((0 : Int32), s)))) else (if a1 = (6 : Int32) then ix a2 3 ((if (s 3 (Int32.toNatClampNeg a2)) = (2 : Int32) then ix (((2 : Int32) * a2) + a3) 6 ((if (s 9 (Int32.toNatClampNeg (((2 : Int32) * a2) + a3))) = (1 : Int32) then (some ((0 : Int32), s)) else (f_M_wrongState_130 s))) else (f_M_wrongState_130 s))) else (if a1 = (7 : Int32) then ix a2 3 ((if (s 3 (Int32.toNatClampNeg a2)) = (2 : Int32) then ix (((2 : Int32) * a2) + a3) 6 ((if (s 9 (Int32.toNatClampNeg (((2 : Int32) * a2) + a3))) = (3 : Int32) then (some ((0 : Int32), s)) else (f_M_wrongState_160 s))) else (f_M_wrongState_160 s))) else (if a1 = (8 : Int32) then ix a2 3 ((if (s 3 (Int32.toNatClampNeg a2)) = (2 : Int32) then (some ((0 : Int32), s)) else (some ((1 : Int32), s)))) else (if a1 = (9 : Int32) then ix a2 3 ((if (s 3 (Int32.toNatClampNeg a2)) = 0 then (f_M_wrongState_201 s) else ix a2 3 ((if (s 3 (Int32.toNatClampNeg a2)) = (2 : Int32) then (f_M_wrongState_201 s) else (some ((0 : Int32), s)))))) else (some ((0 : Int32), s))))))))))
def f_M_taken_63 : Nat → Int32 → Int32 → Int32 → eS → Option (Int32 × eS)
  | 0, _, _, _, _ => none
  | fl + 1, x2, x3, x5, s => (if (x2 + x3) ≤ x5 then (some ((0 : Int32), s)) else bnd (f_M_kind x5 s) fun r1 s2 => (if r1 = 0 then nm (x5 + (1 : Int32)) fun v4 => (f_M_taken_63 fl x2 x3 v4 s2) else (some ((1 : Int32), s2))))
def f_M_taken_111  (s : eS) : Option (Int32 × eS) := (some ((1 : Int32), s))
def f_M_taken (a1 : Int32) (a2 : Int32) (a3 : Int32) (a4 : Int32) (s : eS) : Option (Int32 × eS) := (if a1 = (1 : Int32) then nm a2 fun v2 => (f_M_taken_63 fu a2 a3 v2 s) else (if a1 = (2 : Int32) then bnd (f_M_kind a3 s) fun r4 s5 => (if r4 = ((2 : Int32) + a2) then bnd (f_M_kind a4 s5) fun r7 s8 => (if r7 = (1 : Int32) then (some ((0 : Int32), s8)) else (f_M_taken_111 s8)) else (f_M_taken_111 s5)) else (if a1 = (3 : Int32) then bnd (f_M_kind (a3 / (16 : Int32)) s) fun r11 s12 => (if r11 = ((2 : Int32) + a2) then (some ((0 : Int32), s12)) else (some ((1 : Int32), s12))) else (if a1 = (4 : Int32) then (some ((0 : Int32), s)) else (if a1 = (5 : Int32) then bnd (f_M_kind a3 s) fun r16 s17 => (if r16 = (1 : Int32) then (some ((0 : Int32), s17)) else (some ((1 : Int32), s17))) else (if a1 = (6 : Int32) then (some ((0 : Int32), s)) else (if a1 = (7 : Int32) then (some ((0 : Int32), s)) else (if a1 = (8 : Int32) then (some ((0 : Int32), s)) else (if a1 = (9 : Int32) then (some ((0 : Int32), s)) else (if a1 = (10 : Int32) then bnd (f_M_kind a2 s) fun r24 s25 => (if r24 = 0 then (some ((0 : Int32), s25)) else (some ((1 : Int32), s25))) else (if a1 = (11 : Int32) then bnd (f_M_kind a2 s) fun r28 s29 => (if r28 = (1 : Int32) then (some ((0 : Int32), s29)) else (some ((1 : Int32), s29))) else (some ((0 : Int32), s)))))))))))))
def f_M_full_130  (s : eS) : Option (Int32 × eS) := (some ((0 : Int32), s))
def f_M_full_126  (s : eS) : Option (Int32 × eS) := (some ((1 : Int32), s))
def f_M_full_108 (x1 : Int32) (x2 : Int32) (s : eS) : Option (Int32 × eS) := (if x1 = (3 : Int32) then ix (((2 : Int32) * x2) + (1 : Int32)) 6 ((if (s 9 (Int32.toNatClampNeg (((2 : Int32) * x2) + (1 : Int32)))) ≤ 0 then (f_M_full_130 s) else (f_M_full_126 s))) else (f_M_full_130 s))
def f_M_full_48 : Nat → Int32 → Int32 → Int32 → eS → Option (Int32 × eS)
  | 0, _, _, _, _ => none
  | fl + 1, x2, x3, x4, s => (if (16 : Int32) ≤ x4 then (if x3 < (2 : Int32) then (some ((0 : Int32), s)) else (some ((1 : Int32), s))) else bnd (f_M_kind x4 s) fun r1 s2 => (if r1 = ((5 : Int32) + x2) then nm (x3 + (1 : Int32)) fun v6 => nm (x4 + (1 : Int32)) fun v7 => (f_M_full_48 fl x2 v6 v7 s2) else nm x3 fun v4 => nm (x4 + (1 : Int32)) fun v5 => (f_M_full_48 fl x2 v4 v5 s2)))
def f_M_full_36  (s : eS) : Option (Int32 × eS) := (some ((0 : Int32), s))
def f_M_full (a1 : Int32) (a2 : Int32) (s : eS) : Option (Int32 × eS) := (if a1 = (1 : Int32) then ix (0 : Int32) 3 ((if (s 3 (Int32.toNatClampNeg (0 : Int32))) ≤ 0 then (f_M_full_36 s) else ix (1 : Int32) 3 ((if (s 3 (Int32.toNatClampNeg (1 : Int32))) ≤ 0 then (f_M_full_36 s) else ix (2 : Int32) 3 ((if (s 3 (Int32.toNatClampNeg (2 : Int32))) ≤ 0 then (f_M_full_36 s) else (some ((1 : Int32), s)))))))) else (if a1 = (5 : Int32) then nm (0 : Int32) fun v1 => nm (0 : Int32) fun v2 => (f_M_full_48 fu a2 v1 v2 s) else (if a1 = (2 : Int32) then ix a2 3 ((if (8 : Int32) ≤ (s 6 (Int32.toNatClampNeg a2)) then (f_M_full_126 s) else (f_M_full_108 a1 a2 s))) else (f_M_full_108 a1 a2 s))))
def f_M_create_27 (x1 : Int32) (x2 : Int32) (y0 : Int32) (s : eS) : Option (Int32 × eS) := nm y0 fun v1 => ix v1 3 (nm (wr s 3 (Int32.toNatClampNeg v1) (1 : Int32)) fun s2 => ix v1 3 (nm (wr s2 4 (Int32.toNatClampNeg v1) x1) fun s3 => ix v1 3 (nm (wr s3 5 (Int32.toNatClampNeg v1) x2) fun s4 => ix v1 3 (nm (wr s4 6 (Int32.toNatClampNeg v1) (0 : Int32)) fun s5 => ix v1 3 (nm (wr s5 8 (Int32.toNatClampNeg v1) (0 : Int32)) fun s6 => bnd (f_M_add v1 (1 : Int32) s6) fun _ s8 => bnd (f_M_add v1 x1 s8) fun _ s11 => bnd (f_M_add v1 x2 s11) fun _ s14 => (some (v1, s14)))))))
def f_M_create (a1 : Int32) (a2 : Int32) (s : eS) : Option (Int32 × eS) := ix (0 : Int32) 3 ((if (s 3 (Int32.toNatClampNeg (0 : Int32))) = 0 then (f_M_create_27 a1 a2 (0 : Int32) s) else ix (1 : Int32) 3 ((if (s 3 (Int32.toNatClampNeg (1 : Int32))) = 0 then (f_M_create_27 a1 a2 (1 : Int32) s) else (f_M_create_27 a1 a2 (2 : Int32) s)))))
def f_M_thread_16  (s : eS) : Option (Int32 × eS) := (some ((0 : Int32), s))
def f_M_thread (a1 : Int32) (a2 : Int32) (s : eS) : Option (Int32 × eS) := bnd (f_M_outside a1 (2 : Int32) s) fun r1 s2 => (if r1 = 0 then bnd (f_M_outside a2 (1 : Int32) s2) fun r4 s5 => (if r4 = 0 then ix (((2 : Int32) * a1) + a2) 6 ((some ((s5 9 (Int32.toNatClampNeg (((2 : Int32) * a1) + a2))), s5))) else (f_M_thread_16 s5)) else (f_M_thread_16 s2))
def f_M_append (a1 : Int32) (a2 : Int32) (a3 : Int32) (s : eS) : Option (Int32 × eS) := ix (((2 : Int32) * a1) + a2) 6 (nm (wr s 9 (Int32.toNatClampNeg (((2 : Int32) * a1) + a2)) (1 : Int32)) fun s1 => ix (((2 : Int32) * a1) + a2) 6 (nm (wr s1 10 (Int32.toNatClampNeg (((2 : Int32) * a1) + a2)) a3) fun s2 => bnd (f_M_add a1 (3 : Int32) s2) fun _ s4 => bnd (f_M_add a1 a3 s4) fun _ s7 => (some (a2, s7))))
def f_M_load_25 : Nat → Int32 → Int32 → Int32 → Int32 → eS → Option (Unit × eS)
  | 0, _, _, _, _, _ => none
  | fl + 1, x1, x2, x3, x4, s => (if (16 : Int32) ≤ x4 then (some ((), s)) else ix (((16 : Int32) * x3) + x4) 256 (ix (((16 : Int32) * x2) + x4) 256 (nm (wr s 0 (Int32.toNatClampNeg (((16 : Int32) * x2) + x4)) (s 0 (Int32.toNatClampNeg (((16 : Int32) * x3) + x4)))) fun s1 => ix (((16 : Int32) * x2) + x4) 256 (bnd (f_M_add x1 (s1 0 (Int32.toNatClampNeg (((16 : Int32) * x2) + x4))) s1) fun _ s3 => nm (x4 + (1 : Int32)) fun v5 => (f_M_load_25 fl x1 x2 x3 v5 s3)))))
def f_M_load (a1 : Int32) (a2 : Int32) (a3 : Int32) (s : eS) : Option (Unit × eS) := ix a1 3 (ix a1 3 (nm (wr s 6 (Int32.toNatClampNeg a1) ((s 6 (Int32.toNatClampNeg a1)) + (1 : Int32))) fun s1 => bnd (f_M_add a1 (2 : Int32) s1) fun _ s3 => bnd (f_M_add a1 a2 s3) fun _ s6 => nm (0 : Int32) fun v8 => (f_M_load_25 fu a1 a2 a3 v8 s6)))
def f_M_wipe_2 : Nat → Int32 → Int32 → eS → Option (Unit × eS)
  | 0, _, _, _ => none
  | fl + 1, x1, x2, s => (if (16 : Int32) ≤ x2 then (some ((), s)) else ix (((16 : Int32) * x1) + x2) 256 (nm (wr s 0 (Int32.toNatClampNeg (((16 : Int32) * x1) + x2)) (0 : Int32)) fun s1 => nm (x2 + (1 : Int32)) fun v2 => (f_M_wipe_2 fl x1 v2 s1)))
def f_M_wipe (a1 : Int32) (s : eS) : Option (Unit × eS) := nm (0 : Int32) fun v1 => (f_M_wipe_2 fu a1 v1 s)
def f_M_destroy_2 : Nat → Int32 → Int32 → eS → Option (Unit × eS)
  | 0, _, _, _ => none
  | fl + 1, x1, x2, s => (if (16 : Int32) ≤ x2 then ix x1 3 (nm (wr s 3 (Int32.toNatClampNeg x1) (0 : Int32)) fun s1 => ix ((2 : Int32) * x1) 6 (nm (wr s1 9 (Int32.toNatClampNeg ((2 : Int32) * x1)) (0 : Int32)) fun s2 => ix (((2 : Int32) * x1) + (1 : Int32)) 6 (nm (wr s2 9 (Int32.toNatClampNeg (((2 : Int32) * x1) + (1 : Int32))) (0 : Int32)) fun s3 => (some ((), s3))))) else bnd (f_M_kind x2 s) fun r4 s5 => (if r4 = ((2 : Int32) + x1) then bnd (f_M_wipe x2 s5) fun _ s11 => ix x2 16 ((if (s11 2 (Int32.toNatClampNeg x2)) = ((1 : Int32) + x1) then ix x2 16 (nm (wr s11 2 (Int32.toNatClampNeg x2) (0 : Int32)) fun s14 => nm (x2 + (1 : Int32)) fun v15 => (f_M_destroy_2 fl x1 v15 s14)) else nm (x2 + (1 : Int32)) fun v13 => (f_M_destroy_2 fl x1 v13 s11))) else ix x2 16 ((if (s5 2 (Int32.toNatClampNeg x2)) = ((1 : Int32) + x1) then ix x2 16 (nm (wr s5 2 (Int32.toNatClampNeg x2) (0 : Int32)) fun s8 => nm (x2 + (1 : Int32)) fun v9 => (f_M_destroy_2 fl x1 v9 s8)) else nm (x2 + (1 : Int32)) fun v7 => (f_M_destroy_2 fl x1 v7 s5)))))
def f_M_destroy (a1 : Int32) (s : eS) : Option (Unit × eS) := nm (0 : Int32) fun v1 => (f_M_destroy_2 fu a1 v1 s)
def f_M_perform_131 : Nat → Int32 → Int32 → eS → Option (Unit × eS)
  | 0, _, _, _ => none
  | fl + 1, x4, x5, s => (if (8 : Int32) ≤ x5 then (some ((), s)) else (if x5 = (1 : Int32) then ix (((8 : Int32) * (s 13 1)) + x5) 56 (nm (wr s 11 (Int32.toNatClampNeg (((8 : Int32) * (s 13 1)) + x5)) x4) fun s3 => nm (x5 + (1 : Int32)) fun v4 => (f_M_perform_131 fl x4 v4 s3)) else ix (((8 : Int32) * (s 13 1)) + x5) 56 (nm (wr s 11 (Int32.toNatClampNeg (((8 : Int32) * (s 13 1)) + x5)) (0 : Int32)) fun s1 => nm (x5 + (1 : Int32)) fun v2 => (f_M_perform_131 fl x4 v2 s1))))
def f_M_perform (a1 : Int32) (a2 : Int32) (a3 : Int32) (a4 : Int32) (s : eS) : Option (Unit × eS) := (if a1 = (2 : Int32) then bnd (f_M_load a2 a3 a4 s) fun _ s3 => (some ((), s3)) else (if a1 = (3 : Int32) then ix a2 16 (nm (wr s 1 (Int32.toNatClampNeg a2) (vp_nar .boolean (0 : Int32))) fun s6 => bnd (f_M_wipe a2 s6) fun _ s8 => (some ((), s8))) else (if a1 = (4 : Int32) then ix a2 3 (nm (wr s 3 (Int32.toNatClampNeg a2) (2 : Int32)) fun s11 => bnd (f_M_add a2 (4 : Int32) s11) fun _ s13 => (some ((), s13))) else (if a1 = (5 : Int32) then ix a3 16 (nm (wr s 2 (Int32.toNatClampNeg a3) ((1 : Int32) + a2)) fun s16 => (some ((), s16))) else (if a1 = (6 : Int32) then nm (wr s 13 1 (((2 : Int32) * a2) + a3)) fun s18 => ix (s18 13 1) 6 (nm (wr s18 9 (Int32.toNatClampNeg (s18 13 1)) (2 : Int32)) fun s19 => ix (s19 13 1) 6 (ix (s19 13 1) 7 (nm (wr s19 12 (Int32.toNatClampNeg (s19 13 1)) (s19 10 (Int32.toNatClampNeg (s19 13 1)))) fun s20 => nm (0 : Int32) fun v21 => (f_M_perform_131 fu a4 v21 s20)))) else (if a1 = (7 : Int32) then nm (wr s 13 1 (((2 : Int32) * a2) + a3)) fun s23 => ix (s23 13 1) 6 (nm (wr s23 9 (Int32.toNatClampNeg (s23 13 1)) (2 : Int32)) fun s24 => (some ((), s24))) else (if a1 = (8 : Int32) then ix a2 3 (nm (wr s 3 (Int32.toNatClampNeg a2) (3 : Int32)) fun s26 => (some ((), s26))) else (if a1 = (9 : Int32) then bnd (f_M_destroy a2 s) fun _ s29 => (some ((), s29)) else (if a1 = (10 : Int32) then ix a2 16 (nm (wr s 1 (Int32.toNatClampNeg a2) (vp_nar .boolean (1 : Int32))) fun s32 => (some ((), s32))) else ix a2 16 (nm (wr s 1 (Int32.toNatClampNeg a2) (vp_nar .boolean (0 : Int32))) fun s33 => bnd (f_M_wipe a2 s33) fun _ s35 => (some ((), s35))))))))))))
def f_M_system (a1 : Int32) (a2 : Int32) (a3 : Int32) (a4 : Int32) (s : eS) : Option (Int32 × eS) := bnd (f_M_outside (a1 - (1 : Int32)) (10 : Int32) s) fun r1 s2 => (if r1 = 0 then bnd (f_M_bad a1 a2 a3 a4 s2) fun r4 s5 => (if r4 = 0 then bnd (f_M_wrongState a1 a2 a3 s5) fun r7 s8 => (if r7 = 0 then bnd (f_M_taken a1 a2 a3 a4 s8) fun r10 s11 => (if r10 = 0 then bnd (f_M_full a1 a2 s11) fun r13 s14 => (if r13 = 0 then (if a1 = (1 : Int32) then bnd (f_M_create a2 a3 s14) fun r28 s29 => (some (r28, s29)) else (if a1 = (3 : Int32) then bnd (f_M_thread a2 (0 : Int32) s14) fun r19 s20 => (if r19 = 0 then bnd (f_M_append a2 (0 : Int32) a3 s20) fun r25 s26 => (some (r25, s26)) else bnd (f_M_append a2 (1 : Int32) a3 s20) fun r22 s23 => (some (r22, s23))) else bnd (f_M_perform a1 a2 a3 a4 s14) fun _ s17 => (some ((0 : Int32), s17)))) else (some ((-5 : Int32), s14))) else (some ((-4 : Int32), s11))) else (some ((-3 : Int32), s8))) else (some ((-2 : Int32), s5))) else (some ((-1 : Int32), s2)))
def f_M_leave (a1 : Int32) (a2 : Int32) (s : eS) : Option (Unit × eS) := nm (wr s 13 5 ((s 13 5) + (1 : Int32))) fun s1 => nm (wr s1 13 6 ((s1 13 1) / (2 : Int32))) fun s2 => nm (wr s2 13 7 a1) fun s3 => nm (wr s3 13 8 a2) fun s4 => nm (wr s4 13 9 (s4 13 4)) fun s5 => nm (wr s5 13 1 (6 : Int32)) fun s6 => ix (49 : Int32) 56 (nm (wr s6 11 (Int32.toNatClampNeg (49 : Int32)) a1) fun s7 => ix (50 : Int32) 56 (nm (wr s7 11 (Int32.toNatClampNeg (50 : Int32)) a2) fun s8 => (some ((), s8))))
def f_M_fault (a1 : Int32) (s : eS) : Option (Unit × eS) := (if (s 13 1) = (6 : Int32) then nm (wr s 13 2 (1 : Int32)) fun s5 => (some ((), s5)) else ix (s 13 1) 6 (nm (wr s 9 (Int32.toNatClampNeg (s 13 1)) (1 : Int32)) fun s1 => bnd (f_M_leave a1 (0 : Int32) s1) fun _ s3 => (some ((), s3))))
def f_M_put (a1 : Int32) (a2 : Int32) (s : eS) : Option (Unit × eS) := (if a1 ≤ 0 then (some ((), s)) else ix (((8 : Int32) * (s 13 1)) + a1) 56 (nm (wr s 11 (Int32.toNatClampNeg (((8 : Int32) * (s 13 1)) + a1)) a2) fun s1 => (some ((), s1))))
def f_M_access_56  (s : eS) : Option (Unit × eS) := ix (s 13 1) 7 (ix (s 13 1) 7 (nm (wr s 12 (Int32.toNatClampNeg (s 13 1)) ((s 12 (Int32.toNatClampNeg (s 13 1))) + (1 : Int32))) fun s1 => (some ((), s1))))
def f_M_access (a1 : Int32) (a2 : Int32) (a3 : Int32) (s : eS) : Option (Unit × eS) := bnd (f_M_uses (s 13 1) a3 s) fun r1 s2 => (if r1 = 0 then bnd (f_M_fault (3 : Int32) s2) fun _ s9 => (some ((), s9)) else (if a1 = 0 then ix (((8 : Int32) * (s2 13 1)) + a2) 56 (ix a3 256 (nm (wr s2 0 (Int32.toNatClampNeg a3) (s2 11 (Int32.toNatClampNeg (((8 : Int32) * (s2 13 1)) + a2)))) fun s4 => (f_M_access_56 s4))) else ix a3 256 (bnd (f_M_put a2 (s2 0 (Int32.toNatClampNeg a3)) s2) fun _ s6 => (f_M_access_56 s6))))
def f_M_ask_216 (x5 : Int32) (s : eS) : Option (Unit × eS) := bnd (f_M_put (1 : Int32) x5 s) fun _ s2 => (some ((), s2))
def f_M_ask_214 (y0 : Int32) (s : eS) : Option (Unit × eS) := nm y0 fun v1 => (f_M_ask_216 v1 s)
def f_M_ask (a1 : Int32) (s : eS) : Option (Unit × eS) := ix (((8 : Int32) * (s 13 1)) + (1 : Int32)) 56 (nm (s 11 (Int32.toNatClampNeg (((8 : Int32) * (s 13 1)) + (1 : Int32)))) fun v1 => ix (((8 : Int32) * (s 13 1)) + (2 : Int32)) 56 (nm (s 11 (Int32.toNatClampNeg (((8 : Int32) * (s 13 1)) + (2 : Int32)))) fun v2 => ix (((8 : Int32) * (s 13 1)) + (3 : Int32)) 56 (nm (s 11 (Int32.toNatClampNeg (((8 : Int32) * (s 13 1)) + (3 : Int32)))) fun v3 => ix (s 13 1) 7 (ix (s 13 1) 7 (nm (wr s 12 (Int32.toNatClampNeg (s 13 1)) ((s 12 (Int32.toNatClampNeg (s 13 1))) + (1 : Int32))) fun s4 => nm (-1 : Int32) fun v5 => (if (s4 13 1) = (6 : Int32) then bnd (f_M_system a1 v1 v2 v3 s4) fun r31 s32 => nm r31 fun v34 => (if (s32 13 1) = (6 : Int32) then bnd (f_M_put (1 : Int32) v34 s32) fun _ s36 => (some ((), s36)) else (some ((), s32))) else (if a1 = (16 : Int32) then ix (s4 13 1) 6 (nm (wr s4 9 (Int32.toNatClampNeg (s4 13 1)) (1 : Int32)) fun s27 => bnd (f_M_leave (1 : Int32) v1 s27) fun _ s29 => (some ((), s29))) else (if a1 = (17 : Int32) then bnd (f_M_measured ((s4 13 1) / (2 : Int32)) s4) fun r20 s21 => bnd (f_M_mac r20 v1 s21) fun r23 s24 => nm r23 fun v26 => (f_M_ask_216 v26 s24) else (if a1 = (18 : Int32) then bnd (f_M_measured ((s4 13 1) / (2 : Int32)) s4) fun r9 s10 => bnd (f_M_mix (s4 13 0) r9 s10) fun r12 s13 => nm r12 fun v15 => bnd (f_M_mix v15 (18 : Int32) s13) fun r16 s17 => nm r16 fun v19 => (f_M_ask_216 v19 s17) else (if a1 = (19 : Int32) then bnd (f_M_mac v1 v2 s4) fun r6 s7 => (if r6 = v3 then (f_M_ask_214 (1 : Int32) s7) else (f_M_ask_214 (0 : Int32) s7)) else (f_M_ask_216 v5 s4)))))))))))
def f_M_step_279 (x5 : Int32) (x6 : Int32) (x8 : Int32) (y1 : Int32) (s : eS) : Option (Unit × eS) := bnd (f_M_access y1 x5 (x6 + x8) s) fun _ s2 => (some ((), s2))
def f_M_step_267 (x3 : Int32) (x5 : Int32) (x6 : Int32) (x8 : Int32) (s : eS) : Option (Unit × eS) := (if x3 = (7 : Int32) then (f_M_step_279 x5 x6 x8 (1 : Int32) s) else (f_M_step_279 x5 x6 x8 (0 : Int32) s))
def f_M_step_376 (y1 : Int32) (y2 : Int32) (s : eS) : Option (Unit × eS) := ix y1 7 (nm (wr s 12 (Int32.toNatClampNeg y1) y2) fun s1 => (some ((), s1)))
def f_M_step_349 (x1 : Int32) (x8 : Int32) (y0 : Int32) (s : eS) : Option (Unit × eS) := nm y0 fun v1 => (if v1 = 0 then (f_M_step_376 (s 13 1) (x1 + (1 : Int32)) s) else (f_M_step_376 (s 13 1) ((x1 + (1 : Int32)) + x8) s))
def f_M_step_304 (x1 : Int32) (x3 : Int32) (x4 : Int32) (x5 : Int32) (x6 : Int32) (x8 : Int32) (s : eS) : Option (Unit × eS) := ix (x4 + x5) 56 (nm (s 11 (Int32.toNatClampNeg (x4 + x5))) fun v1 => (if x3 = (9 : Int32) then (if v1 = x6 then (f_M_step_349 x1 x8 (1 : Int32) s) else (f_M_step_349 x1 x8 (0 : Int32) s)) else (if x6 ≤ v1 then (f_M_step_349 x1 x8 (0 : Int32) s) else (f_M_step_349 x1 x8 (1 : Int32) s))))
def f_M_step_255 (x1 : Int32) (x3 : Int32) (x4 : Int32) (x5 : Int32) (x6 : Int32) (x8 : Int32) (s : eS) : Option (Unit × eS) := (if x3 = (7 : Int32) then (f_M_step_267 x3 x5 x6 x8 s) else (if x3 = (8 : Int32) then (f_M_step_267 x3 x5 x6 x8 s) else (if x3 = (9 : Int32) then (f_M_step_304 x1 x3 x4 x5 x6 x8 s) else (if x3 = (10 : Int32) then (f_M_step_304 x1 x3 x4 x5 x6 x8 s) else (if x3 = (11 : Int32) then bnd (f_M_ask x8 s) fun _ s5 => (some ((), s5)) else bnd (f_M_fault (4 : Int32) s) fun _ s2 => (some ((), s2)))))))
def f_M_step_230 (x1 : Int32) (x5 : Int32) (y0 : Int32) (s : eS) : Option (Unit × eS) := nm y0 fun v1 => bnd (f_M_put x5 v1 s) fun _ s3 => ix (s3 13 1) 7 (nm (wr s3 12 (Int32.toNatClampNeg (s3 13 1)) (x1 + (1 : Int32))) fun s5 => (some ((), s5)))
def f_M_step_55  (s : eS) : Option (Unit × eS) := ix (s 13 1) 7 (nm (s 12 (Int32.toNatClampNeg (s 13 1))) fun v1 => bnd (f_M_uses (s 13 1) v1 s) fun r2 s3 => (if r2 = 0 then bnd (f_M_fault (3 : Int32) s3) fun _ s13 => (some ((), s13)) else ix v1 256 (nm (s3 0 (Int32.toNatClampNeg v1)) fun v5 => nm (v5 &&& (15 : Int32)) fun v6 => nm ((8 : Int32) * (s3 13 1)) fun v7 => nm ((v5 >>> ((4 : Int32) &&& 31)) &&& (7 : Int32)) fun v8 => ix (v7 + ((v5 >>> ((7 : Int32) &&& 31)) &&& (7 : Int32))) 56 (nm (s3 11 (Int32.toNatClampNeg (v7 + ((v5 >>> ((7 : Int32) &&& 31)) &&& (7 : Int32))))) fun v9 => ix (v7 + ((v5 >>> ((10 : Int32) &&& 31)) &&& (7 : Int32))) 56 (nm (s3 11 (Int32.toNatClampNeg (v7 + ((v5 >>> ((10 : Int32) &&& 31)) &&& (7 : Int32))))) fun v10 => nm (v5 >>> ((16 : Int32) &&& 31)) fun v11 => (if v6 < (1 : Int32) then (f_M_step_255 v1 v6 v7 v8 v9 v11 s3) else (if (6 : Int32) < v6 then (f_M_step_255 v1 v6 v7 v8 v9 v11 s3) else (if v6 = (1 : Int32) then (f_M_step_230 v1 v8 v11 s3) else (if v6 = (2 : Int32) then (f_M_step_230 v1 v8 (v9 + v11) s3) else (if v6 = (3 : Int32) then (f_M_step_230 v1 v8 (v9 + v10) s3) else (if v6 = (4 : Int32) then (f_M_step_230 v1 v8 (v9 - v10) s3) else (if v6 = (5 : Int32) then (f_M_step_230 v1 v8 (v9 * v10) s3) else (f_M_step_230 v1 v8 (v9 ^^^ v10) s3)))))))))))))
def f_M_step  (s : eS) : Option (Unit × eS) := nm (wr s 13 4 ((s 13 4) + (1 : Int32))) fun s1 => (if (6 : Int32) ≤ (s1 13 1) then (f_M_step_55 s1) else (if (s1 13 3) ≤ 0 then (f_M_step_55 s1) else nz (s1 13 3) ((if ((s1 13 4) - (s1 13 4) / (s1 13 3) * (s1 13 3)) = 0 then ix (s1 13 1) 6 (nm (wr s1 9 (Int32.toNatClampNeg (s1 13 1)) (3 : Int32)) fun s2 => bnd (f_M_leave (2 : Int32) (0 : Int32) s2) fun _ s4 => (some ((), s4))) else (f_M_step_55 s1)))))
def f_M_poke (a1 : Int32) (a2 : Int32) (s : eS) : Option (Int32 × eS) := bnd (f_M_uses (6 : Int32) a1 s) fun r1 s2 => (if r1 = 0 then (some ((0 : Int32), s2)) else ix a1 256 (nm (wr s2 0 (Int32.toNatClampNeg a1) a2) fun s4 => (some ((1 : Int32), s4))))
def f_M_peek (a1 : Int32) (s : eS) : Option (Int32 × eS) := bnd (f_M_uses (6 : Int32) a1 s) fun r1 s2 => (if r1 = 0 then (some ((0 : Int32), s2)) else ix a1 256 ((some ((s2 0 (Int32.toNatClampNeg a1)), s2))))
def f_M_bare (a1 : Int32) (s : eS) : Option (Int32 × eS) := bnd (f_M_outside a1 (255 : Int32) s) fun r1 s2 => (if r1 = 0 then ix a1 256 ((some ((s2 0 (Int32.toNatClampNeg a1)), s2))) else (some ((0 : Int32), s2)))
def f_M_give_20  (s : eS) : Option (Int32 × eS) := (some ((0 : Int32), s))
def f_M_give (a1 : Int32) (a2 : Int32) (s : eS) : Option (Int32 × eS) := (if a1 < (1 : Int32) then (f_M_give_20 s) else (if (7 : Int32) < a1 then (f_M_give_20 s) else (if (6 : Int32) ≤ (s 13 1) then ix ((48 : Int32) + a1) 56 (nm (wr s 11 (Int32.toNatClampNeg ((48 : Int32) + a1)) a2) fun s1 => (some ((1 : Int32), s1))) else (f_M_give_20 s))))
def f_M_register (a1 : Int32) (s : eS) : Option (Int32 × eS) := bnd (f_M_outside a1 (7 : Int32) s) fun r1 s2 => (if r1 = 0 then ix ((48 : Int32) + a1) 56 ((some ((s2 11 (Int32.toNatClampNeg ((48 : Int32) + a1))), s2))) else (some ((0 : Int32), s2)))
def f_M_pc  (s : eS) : Option (Int32 × eS) := ix (6 : Int32) 7 ((some ((s 12 (Int32.toNatClampNeg (6 : Int32))), s)))
def f_M_boot (a1 : Int32) (s : eS) : Option (Int32 × eS) := (if (6 : Int32) ≤ (s 13 1) then ix (6 : Int32) 7 (nm (wr s 12 (Int32.toNatClampNeg (6 : Int32)) a1) fun s1 => nm (wr s1 13 2 (0 : Int32)) fun s2 => (some ((1 : Int32), s2))) else (some ((0 : Int32), s)))
def f_M_halted  (s : eS) : Option (Int32 × eS) := (bz (s 13 2) (some ((s 13 2), s)))
def f_M_call (a1 : Int32) (a2 : Int32) (a3 : Int32) (a4 : Int32) (s : eS) : Option (Int32 × eS) := (if (6 : Int32) ≤ (s 13 1) then bnd (f_M_system a1 a2 a3 a4 s) fun r1 s2 => (some (r1, s2)) else (some ((-6 : Int32), s)))
def f_M_run_45 (x2 : Int32) (s : eS) : Option (Int32 × eS) := (some (x2, s))
def f_M_run_14 : Nat → Int32 → Int32 → eS → Option (Int32 × eS)
  | 0, _, _, _ => none
  | fl + 1, x1, x2, s => (if x1 ≤ x2 then (f_M_run_45 x2 s) else (if (s 13 1) = (6 : Int32) then (if (s 13 2) = 0 then bnd (f_M_step s) fun _ s6 => nm (x2 + (1 : Int32)) fun v8 => (f_M_run_14 fl x1 v8 s6) else (f_M_run_45 x2 s)) else bnd (f_M_step s) fun _ s2 => nm (x2 + (1 : Int32)) fun v4 => (f_M_run_14 fl x1 v4 s2)))
def f_M_run (a1 : Int32) (s : eS) : Option (Int32 × eS) := nm (0 : Int32) fun v1 => bnd (f_M_outside a1 (1000 : Int32) s) fun r2 s3 => (if r2 = 0 then (f_M_run_14 fu a1 v1 s3) else (some ((0 : Int32), s3)))
def f_M_period (a1 : Int32) (s : eS) : Option (Unit × eS) := nm (wr s 13 3 a1) fun s1 => (some ((), s1))
def f_M_tick  (s : eS) : Option (Int32 × eS) := (some ((s 13 4), s))
def f_M_running  (s : eS) : Option (Int32 × eS) := (if (s 13 1) = (6 : Int32) then (some ((-1 : Int32), s)) else (some ((s 13 1), s)))
def f_M_region (a1 : Int32) (s : eS) : Option (Int32 × eS) := bnd (f_M_outside a1 (15 : Int32) s) fun r1 s2 => (if r1 = 0 then bnd (f_M_kind a1 s2) fun r4 s5 => (some (r4, s5)) else (some ((-1 : Int32), s2)))
def f_M_enclave (a1 : Int32) (s : eS) : Option (Int32 × eS) := bnd (f_M_outside a1 (2 : Int32) s) fun r1 s2 => (if r1 = 0 then ix a1 3 ((some ((s2 3 (Int32.toNatClampNeg a1)), s2))) else (some ((-1 : Int32), s2)))
def f_M_kept_19  (s : eS) : Option (Int32 × eS) := (some ((0 : Int32), s))
def f_M_kept (a1 : Int32) (a2 : Int32) (a3 : Int32) (s : eS) : Option (Int32 × eS) := bnd (f_M_thread a1 a2 s) fun r1 s2 => (if r1 < (2 : Int32) then (f_M_kept_19 s2) else bnd (f_M_outside a3 (8 : Int32) s2) fun r4 s5 => (if r4 = 0 then (if a3 = (8 : Int32) then ix (((2 : Int32) * a1) + a2) 7 ((some ((s5 12 (Int32.toNatClampNeg (((2 : Int32) * a1) + a2))), s5))) else ix ((((16 : Int32) * a1) + ((8 : Int32) * a2)) + a3) 56 ((some ((s5 11 (Int32.toNatClampNeg ((((16 : Int32) * a1) + ((8 : Int32) * a2)) + a3))), s5)))) else (f_M_kept_19 s5)))
def f_M_measure_17  (s : eS) : Option (Int32 × eS) := (some ((0 : Int32), s))
def f_M_measure (a1 : Int32) (s : eS) : Option (Int32 × eS) := bnd (f_M_outside a1 (2 : Int32) s) fun r1 s2 => (if r1 = 0 then ix a1 3 ((if (s2 3 (Int32.toNatClampNeg a1)) = 0 then (f_M_measure_17 s2) else bnd (f_M_measured a1 s2) fun r4 s5 => (some (r4, s5)))) else (f_M_measure_17 s2))
def f_M_vouch (a1 : Int32) (a2 : Int32) (a3 : Int32) (s : eS) : Option (Int32 × eS) := bnd (f_M_mac a1 a2 s) fun r1 s2 => (if r1 = a3 then (some ((1 : Int32), s2)) else (some ((0 : Int32), s2)))
def f_M_exit (a1 : Int32) (s : eS) : Option (Int32 × eS) := (if a1 = 0 then (some ((s 13 5), s)) else (if a1 = (1 : Int32) then (some ((s 13 6), s)) else (if a1 = (2 : Int32) then (some ((s 13 7), s)) else (if a1 = (3 : Int32) then (some ((s 13 8), s)) else (if a1 = (4 : Int32) then (some ((s 13 9), s)) else (some ((0 : Int32), s)))))))
end
section
-- ===== PART A: goes FIRST, ahead of the names: the tables' words, and 'selects' of the private methods out of them =====
/-- a private method of a class that the tables say can be made, by its rows of tables_1 -/
def lw_okq (q : MethodName × Nat) : Prop := (q.1.cls ≠ "java/lang/invoke/MethodHandle" ∧ q.1.cls ≠ "java/lang/invoke/VarHandle") ∧ Cond.instantiable q.1.cls q.2 ∈ tables_1 ∧ Cond.privateMethod q.1 ∈ tables_1 ∧ Cond.instanceMethod q.1 ∈ tables_1
theorem lw_p0 : lw_okq (⟨"EnclaveWarden$Enclave", "become", "(I)V"⟩, 4) := ⟨⟨by decide +kernel, by decide +kernel⟩, List.mem_of_getElem? (i := 16) (by decide +kernel), List.mem_of_getElem? (i := 58) (by decide +kernel), List.mem_of_getElem? (i := 59) (by decide +kernel)⟩
theorem lw_p1 : lw_okq (⟨"EnclaveWarden", "systemMayUse", "(I)Z"⟩, 10) := ⟨⟨by decide +kernel, by decide +kernel⟩, List.mem_of_getElem? (i := 7) (by decide +kernel), List.mem_of_getElem? (i := 116) (by decide +kernel), List.mem_of_getElem? (i := 117) (by decide +kernel)⟩
theorem lw_p2 : lw_okq (⟨"EnclaveWarden$Core", "put", "(II)V"⟩, 2) := ⟨⟨by decide +kernel, by decide +kernel⟩, List.mem_of_getElem? (i := 29) (by decide +kernel), List.mem_of_getElem? (i := 135) (by decide +kernel), List.mem_of_getElem? (i := 136) (by decide +kernel)⟩
theorem lw_p3 : lw_okq (⟨"EnclaveWarden$Core", "get", "(I)I"⟩, 2) := ⟨⟨by decide +kernel, by decide +kernel⟩, List.mem_of_getElem? (i := 29) (by decide +kernel), List.mem_of_getElem? (i := 143) (by decide +kernel), List.mem_of_getElem? (i := 144) (by decide +kernel)⟩
theorem lw_p4 : lw_okq (⟨"EnclaveWarden", "systemCall", "(IIII)I"⟩, 10) := ⟨⟨by decide +kernel, by decide +kernel⟩, List.mem_of_getElem? (i := 7) (by decide +kernel), List.mem_of_getElem? (i := 163) (by decide +kernel), List.mem_of_getElem? (i := 164) (by decide +kernel)⟩
theorem lw_p5 : lw_okq (⟨"EnclaveWarden", "create", "(II)I"⟩, 10) := ⟨⟨by decide +kernel, by decide +kernel⟩, List.mem_of_getElem? (i := 7) (by decide +kernel), List.mem_of_getElem? (i := 167) (by decide +kernel), List.mem_of_getElem? (i := 168) (by decide +kernel)⟩
theorem lw_p6 : lw_okq (⟨"EnclaveWarden", "allFree", "(II)Z"⟩, 10) := ⟨⟨by decide +kernel, by decide +kernel⟩, List.mem_of_getElem? (i := 7) (by decide +kernel), List.mem_of_getElem? (i := 174) (by decide +kernel), List.mem_of_getElem? (i := 175) (by decide +kernel)⟩
theorem lw_p7 : lw_okq (⟨"EnclaveWarden", "leastAbsent", "()I"⟩, 10) := ⟨⟨by decide +kernel, by decide +kernel⟩, List.mem_of_getElem? (i := 7) (by decide +kernel), List.mem_of_getElem? (i := 178) (by decide +kernel), List.mem_of_getElem? (i := 179) (by decide +kernel)⟩
theorem lw_p8 : lw_okq (⟨"EnclaveWarden$Enclave", "add", "(I)V"⟩, 4) := ⟨⟨by decide +kernel, by decide +kernel⟩, List.mem_of_getElem? (i := 16) (by decide +kernel), List.mem_of_getElem? (i := 183) (by decide +kernel), List.mem_of_getElem? (i := 184) (by decide +kernel)⟩
theorem lw_p9 : lw_okq (⟨"EnclaveWarden", "load", "(III)I"⟩, 10) := ⟨⟨by decide +kernel, by decide +kernel⟩, List.mem_of_getElem? (i := 7) (by decide +kernel), List.mem_of_getElem? (i := 191) (by decide +kernel), List.mem_of_getElem? (i := 192) (by decide +kernel)⟩
theorem lw_p10 : lw_okq (⟨"EnclaveWarden", "addThread", "(II)I"⟩, 10) := ⟨⟨by decide +kernel, by decide +kernel⟩, List.mem_of_getElem? (i := 7) (by decide +kernel), List.mem_of_getElem? (i := 198) (by decide +kernel), List.mem_of_getElem? (i := 199) (by decide +kernel)⟩
theorem lw_p11 : lw_okq (⟨"EnclaveWarden$Enclave", "threadCount", "()I"⟩, 4) := ⟨⟨by decide +kernel, by decide +kernel⟩, List.mem_of_getElem? (i := 16) (by decide +kernel), List.mem_of_getElem? (i := 202) (by decide +kernel), List.mem_of_getElem? (i := 203) (by decide +kernel)⟩
theorem lw_p12 : lw_okq (⟨"EnclaveWarden", "seal", "(I)I"⟩, 10) := ⟨⟨by decide +kernel, by decide +kernel⟩, List.mem_of_getElem? (i := 7) (by decide +kernel), List.mem_of_getElem? (i := 206) (by decide +kernel), List.mem_of_getElem? (i := 207) (by decide +kernel)⟩
theorem lw_p13 : lw_okq (⟨"EnclaveWarden", "share", "(II)I"⟩, 10) := ⟨⟨by decide +kernel, by decide +kernel⟩, List.mem_of_getElem? (i := 7) (by decide +kernel), List.mem_of_getElem? (i := 210) (by decide +kernel), List.mem_of_getElem? (i := 211) (by decide +kernel)⟩
theorem lw_p14 : lw_okq (⟨"EnclaveWarden", "sharedWith", "(I)I"⟩, 10) := ⟨⟨by decide +kernel, by decide +kernel⟩, List.mem_of_getElem? (i := 7) (by decide +kernel), List.mem_of_getElem? (i := 214) (by decide +kernel), List.mem_of_getElem? (i := 215) (by decide +kernel)⟩
theorem lw_p15 : lw_okq (⟨"EnclaveWarden", "enter", "(III)I"⟩, 10) := ⟨⟨by decide +kernel, by decide +kernel⟩, List.mem_of_getElem? (i := 7) (by decide +kernel), List.mem_of_getElem? (i := 218) (by decide +kernel), List.mem_of_getElem? (i := 219) (by decide +kernel)⟩
def lw_privs_1 : List (MethodName × Nat) := [(⟨"EnclaveWarden$Enclave", "become", "(I)V"⟩, 4), (⟨"EnclaveWarden", "systemMayUse", "(I)Z"⟩, 10), (⟨"EnclaveWarden$Core", "put", "(II)V"⟩, 2), (⟨"EnclaveWarden$Core", "get", "(I)I"⟩, 2), (⟨"EnclaveWarden", "systemCall", "(IIII)I"⟩, 10), (⟨"EnclaveWarden", "create", "(II)I"⟩, 10), (⟨"EnclaveWarden", "allFree", "(II)Z"⟩, 10), (⟨"EnclaveWarden", "leastAbsent", "()I"⟩, 10), (⟨"EnclaveWarden$Enclave", "add", "(I)V"⟩, 4), (⟨"EnclaveWarden", "load", "(III)I"⟩, 10), (⟨"EnclaveWarden", "addThread", "(II)I"⟩, 10), (⟨"EnclaveWarden$Enclave", "threadCount", "()I"⟩, 4), (⟨"EnclaveWarden", "seal", "(I)I"⟩, 10), (⟨"EnclaveWarden", "share", "(II)I"⟩, 10), (⟨"EnclaveWarden", "sharedWith", "(I)I"⟩, 10), (⟨"EnclaveWarden", "enter", "(III)I"⟩, 10)]
theorem lw_r1 : ∀ q ∈ lw_privs_1, lw_okq q := List.forall_mem_cons.mpr ⟨lw_p0, List.forall_mem_cons.mpr ⟨lw_p1, List.forall_mem_cons.mpr ⟨lw_p2, List.forall_mem_cons.mpr ⟨lw_p3, List.forall_mem_cons.mpr ⟨lw_p4, List.forall_mem_cons.mpr ⟨lw_p5, List.forall_mem_cons.mpr ⟨lw_p6, List.forall_mem_cons.mpr ⟨lw_p7, List.forall_mem_cons.mpr ⟨lw_p8, List.forall_mem_cons.mpr ⟨lw_p9, List.forall_mem_cons.mpr ⟨lw_p10, List.forall_mem_cons.mpr ⟨lw_p11, List.forall_mem_cons.mpr ⟨lw_p12, List.forall_mem_cons.mpr ⟨lw_p13, List.forall_mem_cons.mpr ⟨lw_p14, List.forall_mem_cons.mpr ⟨lw_p15, fun _ h => absurd h List.not_mem_nil⟩⟩⟩⟩⟩⟩⟩⟩⟩⟩⟩⟩⟩⟩⟩⟩
theorem lw_p16 : lw_okq (⟨"EnclaveWarden", "refusalToStart", "(III)I"⟩, 10) := ⟨⟨by decide +kernel, by decide +kernel⟩, List.mem_of_getElem? (i := 7) (by decide +kernel), List.mem_of_getElem? (i := 222) (by decide +kernel), List.mem_of_getElem? (i := 223) (by decide +kernel)⟩
theorem lw_p17 : lw_okq (⟨"EnclaveWarden$Core", "start", "(II)V"⟩, 2) := ⟨⟨by decide +kernel, by decide +kernel⟩, List.mem_of_getElem? (i := 29) (by decide +kernel), List.mem_of_getElem? (i := 229) (by decide +kernel), List.mem_of_getElem? (i := 230) (by decide +kernel)⟩
theorem lw_p18 : lw_okq (⟨"EnclaveWarden", "handOver", "(II)V"⟩, 10) := ⟨⟨by decide +kernel, by decide +kernel⟩, List.mem_of_getElem? (i := 7) (by decide +kernel), List.mem_of_getElem? (i := 234) (by decide +kernel), List.mem_of_getElem? (i := 235) (by decide +kernel)⟩
theorem lw_p19 : lw_okq (⟨"EnclaveWarden", "resume", "(II)I"⟩, 10) := ⟨⟨by decide +kernel, by decide +kernel⟩, List.mem_of_getElem? (i := 7) (by decide +kernel), List.mem_of_getElem? (i := 238) (by decide +kernel), List.mem_of_getElem? (i := 239) (by decide +kernel)⟩
theorem lw_p20 : lw_okq (⟨"EnclaveWarden", "stop", "(I)I"⟩, 10) := ⟨⟨by decide +kernel, by decide +kernel⟩, List.mem_of_getElem? (i := 7) (by decide +kernel), List.mem_of_getElem? (i := 242) (by decide +kernel), List.mem_of_getElem? (i := 243) (by decide +kernel)⟩
theorem lw_p21 : lw_okq (⟨"EnclaveWarden", "destroy", "(I)I"⟩, 10) := ⟨⟨by decide +kernel, by decide +kernel⟩, List.mem_of_getElem? (i := 7) (by decide +kernel), List.mem_of_getElem? (i := 246) (by decide +kernel), List.mem_of_getElem? (i := 247) (by decide +kernel)⟩
theorem lw_p22 : lw_okq (⟨"EnclaveWarden", "free", "(I)V"⟩, 10) := ⟨⟨by decide +kernel, by decide +kernel⟩, List.mem_of_getElem? (i := 7) (by decide +kernel), List.mem_of_getElem? (i := 250) (by decide +kernel), List.mem_of_getElem? (i := 251) (by decide +kernel)⟩
theorem lw_p23 : lw_okq (⟨"EnclaveWarden", "claim", "(I)I"⟩, 10) := ⟨⟨by decide +kernel, by decide +kernel⟩, List.mem_of_getElem? (i := 7) (by decide +kernel), List.mem_of_getElem? (i := 254) (by decide +kernel), List.mem_of_getElem? (i := 255) (by decide +kernel)⟩
theorem lw_p24 : lw_okq (⟨"EnclaveWarden", "giveUp", "(I)I"⟩, 10) := ⟨⟨by decide +kernel, by decide +kernel⟩, List.mem_of_getElem? (i := 7) (by decide +kernel), List.mem_of_getElem? (i := 258) (by decide +kernel), List.mem_of_getElem? (i := 259) (by decide +kernel)⟩
theorem lw_p25 : lw_okq (⟨"EnclaveWarden", "step", "()V"⟩, 10) := ⟨⟨by decide +kernel, by decide +kernel⟩, List.mem_of_getElem? (i := 7) (by decide +kernel), List.mem_of_getElem? (i := 266) (by decide +kernel), List.mem_of_getElem? (i := 267) (by decide +kernel)⟩
theorem lw_p26 : lw_okq (⟨"EnclaveWarden", "leave", "(III)V"⟩, 10) := ⟨⟨by decide +kernel, by decide +kernel⟩, List.mem_of_getElem? (i := 7) (by decide +kernel), List.mem_of_getElem? (i := 270) (by decide +kernel), List.mem_of_getElem? (i := 271) (by decide +kernel)⟩
theorem lw_p27 : lw_okq (⟨"EnclaveWarden", "runningThread", "()LEnclaveWarden$EnclaveThread;"⟩, 10) := ⟨⟨by decide +kernel, by decide +kernel⟩, List.mem_of_getElem? (i := 7) (by decide +kernel), List.mem_of_getElem? (i := 274) (by decide +kernel), List.mem_of_getElem? (i := 275) (by decide +kernel)⟩
theorem lw_p28 : lw_okq (⟨"EnclaveWarden", "runnerMayUse", "(I)Z"⟩, 10) := ⟨⟨by decide +kernel, by decide +kernel⟩, List.mem_of_getElem? (i := 7) (by decide +kernel), List.mem_of_getElem? (i := 278) (by decide +kernel), List.mem_of_getElem? (i := 279) (by decide +kernel)⟩
theorem lw_p29 : lw_okq (⟨"EnclaveWarden", "enclaveMayUse", "(II)Z"⟩, 10) := ⟨⟨by decide +kernel, by decide +kernel⟩, List.mem_of_getElem? (i := 7) (by decide +kernel), List.mem_of_getElem? (i := 282) (by decide +kernel), List.mem_of_getElem? (i := 283) (by decide +kernel)⟩
theorem lw_p30 : lw_okq (⟨"EnclaveWarden", "fault", "(I)V"⟩, 10) := ⟨⟨by decide +kernel, by decide +kernel⟩, List.mem_of_getElem? (i := 7) (by decide +kernel), List.mem_of_getElem? (i := 286) (by decide +kernel), List.mem_of_getElem? (i := 287) (by decide +kernel)⟩
theorem lw_p31 : lw_okq (⟨"EnclaveWarden", "obeyCall", "(LEnclaveWarden$Core;I)V"⟩, 10) := ⟨⟨by decide +kernel, by decide +kernel⟩, List.mem_of_getElem? (i := 7) (by decide +kernel), List.mem_of_getElem? (i := 290) (by decide +kernel), List.mem_of_getElem? (i := 291) (by decide +kernel)⟩
def lw_privs_2 : List (MethodName × Nat) := [(⟨"EnclaveWarden", "refusalToStart", "(III)I"⟩, 10), (⟨"EnclaveWarden$Core", "start", "(II)V"⟩, 2), (⟨"EnclaveWarden", "handOver", "(II)V"⟩, 10), (⟨"EnclaveWarden", "resume", "(II)I"⟩, 10), (⟨"EnclaveWarden", "stop", "(I)I"⟩, 10), (⟨"EnclaveWarden", "destroy", "(I)I"⟩, 10), (⟨"EnclaveWarden", "free", "(I)V"⟩, 10), (⟨"EnclaveWarden", "claim", "(I)I"⟩, 10), (⟨"EnclaveWarden", "giveUp", "(I)I"⟩, 10), (⟨"EnclaveWarden", "step", "()V"⟩, 10), (⟨"EnclaveWarden", "leave", "(III)V"⟩, 10), (⟨"EnclaveWarden", "runningThread", "()LEnclaveWarden$EnclaveThread;"⟩, 10), (⟨"EnclaveWarden", "runnerMayUse", "(I)Z"⟩, 10), (⟨"EnclaveWarden", "enclaveMayUse", "(II)Z"⟩, 10), (⟨"EnclaveWarden", "fault", "(I)V"⟩, 10), (⟨"EnclaveWarden", "obeyCall", "(LEnclaveWarden$Core;I)V"⟩, 10)]
theorem lw_r2 : ∀ q ∈ lw_privs_2, lw_okq q := List.forall_mem_cons.mpr ⟨lw_p16, List.forall_mem_cons.mpr ⟨lw_p17, List.forall_mem_cons.mpr ⟨lw_p18, List.forall_mem_cons.mpr ⟨lw_p19, List.forall_mem_cons.mpr ⟨lw_p20, List.forall_mem_cons.mpr ⟨lw_p21, List.forall_mem_cons.mpr ⟨lw_p22, List.forall_mem_cons.mpr ⟨lw_p23, List.forall_mem_cons.mpr ⟨lw_p24, List.forall_mem_cons.mpr ⟨lw_p25, List.forall_mem_cons.mpr ⟨lw_p26, List.forall_mem_cons.mpr ⟨lw_p27, List.forall_mem_cons.mpr ⟨lw_p28, List.forall_mem_cons.mpr ⟨lw_p29, List.forall_mem_cons.mpr ⟨lw_p30, List.forall_mem_cons.mpr ⟨lw_p31, fun _ h => absurd h List.not_mem_nil⟩⟩⟩⟩⟩⟩⟩⟩⟩⟩⟩⟩⟩⟩⟩⟩
theorem lw_p32 : lw_okq (⟨"EnclaveWarden", "enclaveCall", "(IIII)I"⟩, 10) := ⟨⟨by decide +kernel, by decide +kernel⟩, List.mem_of_getElem? (i := 7) (by decide +kernel), List.mem_of_getElem? (i := 294) (by decide +kernel), List.mem_of_getElem? (i := 295) (by decide +kernel)⟩
theorem lw_p33 : lw_okq (⟨"EnclaveWarden", "macOf", "(II)I"⟩, 10) := ⟨⟨by decide +kernel, by decide +kernel⟩, List.mem_of_getElem? (i := 7) (by decide +kernel), List.mem_of_getElem? (i := 298) (by decide +kernel), List.mem_of_getElem? (i := 299) (by decide +kernel)⟩
theorem lw_p34 : lw_okq (⟨"EnclaveWarden", "obey", "(LEnclaveWarden$Core;I)V"⟩, 10) := ⟨⟨by decide +kernel, by decide +kernel⟩, List.mem_of_getElem? (i := 7) (by decide +kernel), List.mem_of_getElem? (i := 303) (by decide +kernel), List.mem_of_getElem? (i := 304) (by decide +kernel)⟩
theorem lw_p35 : lw_okq (⟨"EnclaveWardenModel", "uses", "(II)Z"⟩, 23) := ⟨⟨by decide +kernel, by decide +kernel⟩, List.mem_of_getElem? (i := 353) (by decide +kernel), List.mem_of_getElem? (i := 434) (by decide +kernel), List.mem_of_getElem? (i := 435) (by decide +kernel)⟩
theorem lw_p36 : lw_okq (⟨"EnclaveWardenModel", "kind", "(I)I"⟩, 23) := ⟨⟨by decide +kernel, by decide +kernel⟩, List.mem_of_getElem? (i := 353) (by decide +kernel), List.mem_of_getElem? (i := 441) (by decide +kernel), List.mem_of_getElem? (i := 442) (by decide +kernel)⟩
theorem lw_p37 : lw_okq (⟨"EnclaveWardenModel", "system", "(IIII)I"⟩, 23) := ⟨⟨by decide +kernel, by decide +kernel⟩, List.mem_of_getElem? (i := 353) (by decide +kernel), List.mem_of_getElem? (i := 477) (by decide +kernel), List.mem_of_getElem? (i := 478) (by decide +kernel)⟩
theorem lw_p38 : lw_okq (⟨"EnclaveWardenModel", "wrongState", "(III)Z"⟩, 23) := ⟨⟨by decide +kernel, by decide +kernel⟩, List.mem_of_getElem? (i := 353) (by decide +kernel), List.mem_of_getElem? (i := 484) (by decide +kernel), List.mem_of_getElem? (i := 485) (by decide +kernel)⟩
theorem lw_p39 : lw_okq (⟨"EnclaveWardenModel", "taken", "(IIII)Z"⟩, 23) := ⟨⟨by decide +kernel, by decide +kernel⟩, List.mem_of_getElem? (i := 353) (by decide +kernel), List.mem_of_getElem? (i := 488) (by decide +kernel), List.mem_of_getElem? (i := 489) (by decide +kernel)⟩
theorem lw_p40 : lw_okq (⟨"EnclaveWardenModel", "full", "(II)Z"⟩, 23) := ⟨⟨by decide +kernel, by decide +kernel⟩, List.mem_of_getElem? (i := 353) (by decide +kernel), List.mem_of_getElem? (i := 492) (by decide +kernel), List.mem_of_getElem? (i := 493) (by decide +kernel)⟩
theorem lw_p41 : lw_okq (⟨"EnclaveWardenModel", "create", "(II)I"⟩, 23) := ⟨⟨by decide +kernel, by decide +kernel⟩, List.mem_of_getElem? (i := 353) (by decide +kernel), List.mem_of_getElem? (i := 496) (by decide +kernel), List.mem_of_getElem? (i := 497) (by decide +kernel)⟩
theorem lw_p42 : lw_okq (⟨"EnclaveWardenModel", "add", "(II)V"⟩, 23) := ⟨⟨by decide +kernel, by decide +kernel⟩, List.mem_of_getElem? (i := 353) (by decide +kernel), List.mem_of_getElem? (i := 500) (by decide +kernel), List.mem_of_getElem? (i := 501) (by decide +kernel)⟩
theorem lw_p43 : lw_okq (⟨"EnclaveWardenModel", "append", "(III)I"⟩, 23) := ⟨⟨by decide +kernel, by decide +kernel⟩, List.mem_of_getElem? (i := 353) (by decide +kernel), List.mem_of_getElem? (i := 508) (by decide +kernel), List.mem_of_getElem? (i := 509) (by decide +kernel)⟩
theorem lw_p44 : lw_okq (⟨"EnclaveWardenModel", "perform", "(IIII)V"⟩, 23) := ⟨⟨by decide +kernel, by decide +kernel⟩, List.mem_of_getElem? (i := 353) (by decide +kernel), List.mem_of_getElem? (i := 512) (by decide +kernel), List.mem_of_getElem? (i := 513) (by decide +kernel)⟩
theorem lw_p45 : lw_okq (⟨"EnclaveWardenModel", "load", "(III)V"⟩, 23) := ⟨⟨by decide +kernel, by decide +kernel⟩, List.mem_of_getElem? (i := 353) (by decide +kernel), List.mem_of_getElem? (i := 516) (by decide +kernel), List.mem_of_getElem? (i := 517) (by decide +kernel)⟩
theorem lw_p46 : lw_okq (⟨"EnclaveWardenModel", "destroy", "(I)V"⟩, 23) := ⟨⟨by decide +kernel, by decide +kernel⟩, List.mem_of_getElem? (i := 353) (by decide +kernel), List.mem_of_getElem? (i := 520) (by decide +kernel), List.mem_of_getElem? (i := 521) (by decide +kernel)⟩
theorem lw_p47 : lw_okq (⟨"EnclaveWardenModel", "wipe", "(I)V"⟩, 23) := ⟨⟨by decide +kernel, by decide +kernel⟩, List.mem_of_getElem? (i := 353) (by decide +kernel), List.mem_of_getElem? (i := 524) (by decide +kernel), List.mem_of_getElem? (i := 525) (by decide +kernel)⟩
def lw_privs_3 : List (MethodName × Nat) := [(⟨"EnclaveWarden", "enclaveCall", "(IIII)I"⟩, 10), (⟨"EnclaveWarden", "macOf", "(II)I"⟩, 10), (⟨"EnclaveWarden", "obey", "(LEnclaveWarden$Core;I)V"⟩, 10), (⟨"EnclaveWardenModel", "uses", "(II)Z"⟩, 23), (⟨"EnclaveWardenModel", "kind", "(I)I"⟩, 23), (⟨"EnclaveWardenModel", "system", "(IIII)I"⟩, 23), (⟨"EnclaveWardenModel", "wrongState", "(III)Z"⟩, 23), (⟨"EnclaveWardenModel", "taken", "(IIII)Z"⟩, 23), (⟨"EnclaveWardenModel", "full", "(II)Z"⟩, 23), (⟨"EnclaveWardenModel", "create", "(II)I"⟩, 23), (⟨"EnclaveWardenModel", "add", "(II)V"⟩, 23), (⟨"EnclaveWardenModel", "append", "(III)I"⟩, 23), (⟨"EnclaveWardenModel", "perform", "(IIII)V"⟩, 23), (⟨"EnclaveWardenModel", "load", "(III)V"⟩, 23), (⟨"EnclaveWardenModel", "destroy", "(I)V"⟩, 23), (⟨"EnclaveWardenModel", "wipe", "(I)V"⟩, 23)]
theorem lw_r3 : ∀ q ∈ lw_privs_3, lw_okq q := List.forall_mem_cons.mpr ⟨lw_p32, List.forall_mem_cons.mpr ⟨lw_p33, List.forall_mem_cons.mpr ⟨lw_p34, List.forall_mem_cons.mpr ⟨lw_p35, List.forall_mem_cons.mpr ⟨lw_p36, List.forall_mem_cons.mpr ⟨lw_p37, List.forall_mem_cons.mpr ⟨lw_p38, List.forall_mem_cons.mpr ⟨lw_p39, List.forall_mem_cons.mpr ⟨lw_p40, List.forall_mem_cons.mpr ⟨lw_p41, List.forall_mem_cons.mpr ⟨lw_p42, List.forall_mem_cons.mpr ⟨lw_p43, List.forall_mem_cons.mpr ⟨lw_p44, List.forall_mem_cons.mpr ⟨lw_p45, List.forall_mem_cons.mpr ⟨lw_p46, List.forall_mem_cons.mpr ⟨lw_p47, fun _ h => absurd h List.not_mem_nil⟩⟩⟩⟩⟩⟩⟩⟩⟩⟩⟩⟩⟩⟩⟩⟩
theorem lw_p48 : lw_okq (⟨"EnclaveWardenModel", "step", "()V"⟩, 23) := ⟨⟨by decide +kernel, by decide +kernel⟩, List.mem_of_getElem? (i := 353) (by decide +kernel), List.mem_of_getElem? (i := 532) (by decide +kernel), List.mem_of_getElem? (i := 533) (by decide +kernel)⟩
theorem lw_p49 : lw_okq (⟨"EnclaveWardenModel", "leave", "(II)V"⟩, 23) := ⟨⟨by decide +kernel, by decide +kernel⟩, List.mem_of_getElem? (i := 353) (by decide +kernel), List.mem_of_getElem? (i := 536) (by decide +kernel), List.mem_of_getElem? (i := 537) (by decide +kernel)⟩
theorem lw_p50 : lw_okq (⟨"EnclaveWardenModel", "fault", "(I)V"⟩, 23) := ⟨⟨by decide +kernel, by decide +kernel⟩, List.mem_of_getElem? (i := 353) (by decide +kernel), List.mem_of_getElem? (i := 540) (by decide +kernel), List.mem_of_getElem? (i := 541) (by decide +kernel)⟩
theorem lw_p51 : lw_okq (⟨"EnclaveWardenModel", "put", "(II)V"⟩, 23) := ⟨⟨by decide +kernel, by decide +kernel⟩, List.mem_of_getElem? (i := 353) (by decide +kernel), List.mem_of_getElem? (i := 544) (by decide +kernel), List.mem_of_getElem? (i := 545) (by decide +kernel)⟩
theorem lw_p52 : lw_okq (⟨"EnclaveWardenModel", "access", "(ZII)V"⟩, 23) := ⟨⟨by decide +kernel, by decide +kernel⟩, List.mem_of_getElem? (i := 353) (by decide +kernel), List.mem_of_getElem? (i := 548) (by decide +kernel), List.mem_of_getElem? (i := 549) (by decide +kernel)⟩
theorem lw_p53 : lw_okq (⟨"EnclaveWardenModel", "ask", "(I)V"⟩, 23) := ⟨⟨by decide +kernel, by decide +kernel⟩, List.mem_of_getElem? (i := 353) (by decide +kernel), List.mem_of_getElem? (i := 552) (by decide +kernel), List.mem_of_getElem? (i := 553) (by decide +kernel)⟩
theorem lw_p54 : lw_okq (⟨"EnclaveWardenModel", "measured", "(I)I"⟩, 23) := ⟨⟨by decide +kernel, by decide +kernel⟩, List.mem_of_getElem? (i := 353) (by decide +kernel), List.mem_of_getElem? (i := 556) (by decide +kernel), List.mem_of_getElem? (i := 557) (by decide +kernel)⟩
theorem lw_p55 : lw_okq (⟨"EnclaveWardenModel", "mac", "(II)I"⟩, 23) := ⟨⟨by decide +kernel, by decide +kernel⟩, List.mem_of_getElem? (i := 353) (by decide +kernel), List.mem_of_getElem? (i := 564) (by decide +kernel), List.mem_of_getElem? (i := 565) (by decide +kernel)⟩
def lw_privs_4 : List (MethodName × Nat) := [(⟨"EnclaveWardenModel", "step", "()V"⟩, 23), (⟨"EnclaveWardenModel", "leave", "(II)V"⟩, 23), (⟨"EnclaveWardenModel", "fault", "(I)V"⟩, 23), (⟨"EnclaveWardenModel", "put", "(II)V"⟩, 23), (⟨"EnclaveWardenModel", "access", "(ZII)V"⟩, 23), (⟨"EnclaveWardenModel", "ask", "(I)V"⟩, 23), (⟨"EnclaveWardenModel", "measured", "(I)I"⟩, 23), (⟨"EnclaveWardenModel", "mac", "(II)I"⟩, 23)]
theorem lw_r4 : ∀ q ∈ lw_privs_4, lw_okq q := List.forall_mem_cons.mpr ⟨lw_p48, List.forall_mem_cons.mpr ⟨lw_p49, List.forall_mem_cons.mpr ⟨lw_p50, List.forall_mem_cons.mpr ⟨lw_p51, List.forall_mem_cons.mpr ⟨lw_p52, List.forall_mem_cons.mpr ⟨lw_p53, List.forall_mem_cons.mpr ⟨lw_p54, List.forall_mem_cons.mpr ⟨lw_p55, fun _ h => absurd h List.not_mem_nil⟩⟩⟩⟩⟩⟩⟩⟩
def lw_privs : List (MethodName × Nat) := lw_privs_1 ++ (lw_privs_2 ++ (lw_privs_3 ++ (lw_privs_4)))
def lw_tbl : List Cond := k2_sels lw_privs ++ tables_1
theorem lw_privs_ok : ∀ q ∈ lw_privs, lw_okq q := by
  show ∀ q ∈ lw_privs_1 ++ (lw_privs_2 ++ (lw_privs_3 ++ (lw_privs_4))), lw_okq q
  exact List.forall_mem_append.mpr ⟨lw_r1, List.forall_mem_append.mpr ⟨lw_r2, List.forall_mem_append.mpr ⟨lw_r3, lw_r4⟩⟩⟩
abbrev R_W : String := "EnclaveWarden"
def T_W : u_T := fun k => match k with
  | 0 => ("EnclaveWarden", "secret", "I", true)
  | 1 => ("EnclaveWarden", "memory", "[I", true)
  | 2 => ("EnclaveWarden", "kinds", "[I", true)
  | 3 => ("EnclaveWarden", "enclaves", "[LEnclaveWarden$Enclave;", true)
  | 4 => ("EnclaveWarden", "system", "LEnclaveWarden$Core;", true)
  | 5 => ("EnclaveWarden", "exits", "[I", true)
  | 6 => ("EnclaveWarden", "halted", "Z", false)
  | 7 => ("EnclaveWarden", "running", "I", false)
  | 8 => ("EnclaveWarden", "period", "I", false)
  | _ => ("EnclaveWarden", "tick", "I", false)
def ty_W : Nat → FieldType := fun k => match k with
  | 0 => .int
  | 1 => .array .int
  | 2 => .array .int
  | 3 => .array (.object "EnclaveWarden$Enclave")
  | 4 => .object "EnclaveWarden$Core"
  | 5 => .array .int
  | 6 => .boolean
  | 7 => .int
  | 8 => .int
  | _ => .int
theorem nm_W : ∀ a, a < 10 → ∀ b, b < 10 → a ≠ b → (T_W a).2.1 ≠ (T_W b).2.1 := by decide +kernel
theorem tyok_W : ∀ k, k < 10 → parseFieldDescriptor (T_W k).2.2.1 = some (ty_W k) := by decide +kernel
abbrev R_V : String := "EnclaveWarden$Enclave"
def T_V : u_T := fun k => match k with
  | 0 => ("EnclaveWarden$Enclave", "threads", "[LEnclaveWarden$EnclaveThread;", true)
  | 1 => ("EnclaveWarden$Enclave", "state", "I", false)
  | 2 => ("EnclaveWarden$Enclave", "measure", "I", false)
  | _ => ("EnclaveWarden$Enclave", "loads", "I", false)
def ty_V : Nat → FieldType := fun k => match k with
  | 0 => .array (.object "EnclaveWarden$EnclaveThread")
  | 1 => .int
  | 2 => .int
  | _ => .int
theorem nm_V : ∀ a, a < 4 → ∀ b, b < 4 → a ≠ b → (T_V a).2.1 ≠ (T_V b).2.1 := by decide +kernel
theorem tyok_V : ∀ k, k < 4 → parseFieldDescriptor (T_V k).2.2.1 = some (ty_V k) := by decide +kernel
abbrev R_T : String := "EnclaveWarden$EnclaveThread"
def T_T : u_T := fun k => match k with
  | 0 => ("EnclaveWarden$EnclaveThread", "core", "LEnclaveWarden$Core;", true)
  | 1 => ("EnclaveWarden$EnclaveThread", "state", "I", false)
  | _ => ("EnclaveWarden$EnclaveThread", "entry", "I", false)
def ty_T : Nat → FieldType := fun k => match k with
  | 0 => .object "EnclaveWarden$Core"
  | 1 => .int
  | _ => .int
theorem nm_T : ∀ a, a < 3 → ∀ b, b < 3 → a ≠ b → (T_T a).2.1 ≠ (T_T b).2.1 := by decide +kernel
theorem tyok_T : ∀ k, k < 3 → parseFieldDescriptor (T_T k).2.2.1 = some (ty_T k) := by decide +kernel
abbrev R_C : String := "EnclaveWarden$Core"
def T_C : u_T := fun k => match k with
  | 0 => ("EnclaveWarden$Core", "registers", "[I", true)
  | _ => ("EnclaveWarden$Core", "pc", "I", false)
def ty_C : Nat → FieldType := fun k => match k with
  | 0 => .array .int
  | _ => .int
theorem nm_C : ∀ a, a < 2 → ∀ b, b < 2 → a ≠ b → (T_C a).2.1 ≠ (T_C b).2.1 := by decide +kernel
theorem tyok_C : ∀ k, k < 2 → parseFieldDescriptor (T_C k).2.2.1 = some (ty_C k) := by decide +kernel
abbrev R_M : String := "EnclaveWardenModel"
def T_M : u_T := fun k => match k with
  | 0 => ("EnclaveWardenModel", "secret", "I", false)
  | 1 => ("EnclaveWardenModel", "memory", "[I", false)
  | 2 => ("EnclaveWardenModel", "own", "[Z", false)
  | 3 => ("EnclaveWardenModel", "partner", "[I", false)
  | 4 => ("EnclaveWardenModel", "stateOf", "[I", false)
  | 5 => ("EnclaveWardenModel", "from", "[I", false)
  | 6 => ("EnclaveWardenModel", "size", "[I", false)
  | 7 => ("EnclaveWardenModel", "loads", "[I", false)
  | 8 => ("EnclaveWardenModel", "added", "[I", false)
  | 9 => ("EnclaveWardenModel", "count", "[I", false)
  | 10 => ("EnclaveWardenModel", "phase", "[I", false)
  | 11 => ("EnclaveWardenModel", "entry", "[I", false)
  | 12 => ("EnclaveWardenModel", "reg", "[I", false)
  | 13 => ("EnclaveWardenModel", "place", "[I", false)
  | 14 => ("EnclaveWardenModel", "who", "I", false)
  | 15 => ("EnclaveWardenModel", "stopped", "Z", false)
  | 16 => ("EnclaveWardenModel", "rhythm", "I", false)
  | 17 => ("EnclaveWardenModel", "ticks", "I", false)
  | 18 => ("EnclaveWardenModel", "exits", "I", false)
  | 19 => ("EnclaveWardenModel", "exitEnclave", "I", false)
  | 20 => ("EnclaveWardenModel", "exitKind", "I", false)
  | 21 => ("EnclaveWardenModel", "exitValue", "I", false)
  | _ => ("EnclaveWardenModel", "exitTick", "I", false)
def ty_M : Nat → FieldType := fun k => match k with
  | 0 => .int
  | 1 => .array .int
  | 2 => .array .boolean
  | 3 => .array .int
  | 4 => .array .int
  | 5 => .array .int
  | 6 => .array .int
  | 7 => .array .int
  | 8 => .array .int
  | 9 => .array .int
  | 10 => .array .int
  | 11 => .array .int
  | 12 => .array .int
  | 13 => .array .int
  | 14 => .int
  | 15 => .boolean
  | 16 => .int
  | 17 => .int
  | 18 => .int
  | 19 => .int
  | 20 => .int
  | 21 => .int
  | _ => .int
theorem nm_M : ∀ a, a < 23 → ∀ b, b < 23 → a ≠ b → (T_M a).2.1 ≠ (T_M b).2.1 := by decide +kernel
theorem tyok_M : ∀ k, k < 23 → parseFieldDescriptor (T_M k).2.2.1 = some (ty_M k) := by decide +kernel
abbrev vwCl : List vw_C := [(R_W, T_W, 10), (R_V, T_V, 4), (R_T, T_T, 3), (R_C, T_C, 2), (R_M, T_M, 23)]
def WS : List Cond := lw_tbl.filter goodWord
theorem ws_good {w : Cond} (h : w ∈ WS) : (w.onTables && w.keeps) = true ∨ ∃ ty, w = .arrayClass ty := good_of_word (List.mem_filter.mp h).2
theorem ws_tbl {w : Cond} (h : w ∈ tables_1) (hg : goodWord w = true) : w ∈ WS := List.mem_filter.mpr ⟨List.mem_append_right _ h, hg⟩
theorem ws_sel {w : Cond} (h : w ∈ k2_sels lw_privs) (hg : goodWord w = true) : w ∈ WS := List.mem_filter.mpr ⟨List.mem_append_left _ h, hg⟩
theorem gwB {c0 cy : Cond} (h : cy ∈ WS) : GoodIn (c0 :: WS) (cy :: WS) := fun w hw => by
  have h2 : w ∈ WS := by
    rcases List.mem_cons.mp hw with rfl | q
    · exact h
    · exact q
  exact ⟨List.mem_cons_of_mem _ h2, ws_good h2⟩
theorem gwV {c0 cy : Cond} {own C : String} {idx : Nat} {y : MethodName} (h1 : Cond.methodLink own idx y ∈ WS) (h2 : Cond.instanceMethod y ∈ WS) (h3 : Cond.selects C y y ∈ WS) (h4 : Cond.initialized C ∈ WS) (h5 : cy ∈ WS) : GoodIn (c0 :: WS) (wsV own idx C y (cy :: WS)) := fun w hw => by
  have hm : w ∈ WS := by
    unfold wsV at hw
    rcases List.mem_append.mp hw with q | q
    · simp only [List.mem_cons, List.not_mem_nil, or_false] at q
      rcases q with rfl | rfl | rfl | rfl
      · exact h1
      · exact h2
      · exact h3
      · exact h4
    · rcases List.mem_cons.mp q with rfl | q
      · exact h5
      · exact q
  exact ⟨List.mem_cons_of_mem _ hm, ws_good hm⟩
theorem gwS {c0 cy : Cond} {own : String} {idx : Nat} {y : MethodName} (h1 : Cond.methodLink own idx y ∈ WS) (h2 : Cond.static y ∈ WS) (h4 : Cond.initialized own ∈ WS) (h5 : cy ∈ WS) : GoodIn (c0 :: WS) (wsS own idx y (cy :: WS)) := fun w hw => by
  have hm : w ∈ WS := by
    unfold wsS at hw
    rcases List.mem_append.mp hw with q | q
    · simp only [List.mem_cons, List.not_mem_nil, or_false] at q
      rcases q with rfl | rfl | rfl
      · exact h1
      · exact h2
      · exact h4
    · rcases List.mem_cons.mp q with rfl | q
      · exact h5
      · exact q
  exact ⟨List.mem_cons_of_mem _ hm, ws_good hm⟩
abbrev y_W_isAddress : MethodName := ⟨"EnclaveWarden", "isAddress", "(I)Z"⟩
abbrev rm_W_isAddress : Room := { frames := 0, cells := 0, slots := 0, locals := 0 }
abbrev y_W_systemMayUse : MethodName := ⟨"EnclaveWarden", "systemMayUse", "(I)Z"⟩
abbrev rm_W_systemMayUse : Room := { frames := 1, cells := 0, slots := 0, locals := 20 }
abbrev y_W_poke : MethodName := ⟨"EnclaveWarden", "poke", "(II)Z"⟩
abbrev rm_W_poke : Room := { frames := 2, cells := 0, slots := 0, locals := 42 }
abbrev y_W_peek : MethodName := ⟨"EnclaveWarden", "peek", "(I)I"⟩
abbrev rm_W_peek : Room := { frames := 2, cells := 0, slots := 0, locals := 42 }
abbrev y_W_bare : MethodName := ⟨"EnclaveWarden", "bare", "(I)I"⟩
abbrev rm_W_bare : Room := { frames := 1, cells := 0, slots := 0, locals := 20 }
abbrev y_C_put : MethodName := ⟨"EnclaveWarden$Core", "put", "(II)V"⟩
abbrev rm_C_put : Room := { frames := 0, cells := 0, slots := 0, locals := 0 }
abbrev y_W_give : MethodName := ⟨"EnclaveWarden", "give", "(II)Z"⟩
abbrev rm_W_give : Room := { frames := 1, cells := 0, slots := 0, locals := 22 }
abbrev y_C_get : MethodName := ⟨"EnclaveWarden$Core", "get", "(I)I"⟩
abbrev rm_C_get : Room := { frames := 0, cells := 0, slots := 0, locals := 0 }
abbrev y_W_register : MethodName := ⟨"EnclaveWarden", "register", "(I)I"⟩
abbrev rm_W_register : Room := { frames := 1, cells := 0, slots := 0, locals := 21 }
abbrev y_W_pc : MethodName := ⟨"EnclaveWarden", "pc", "()I"⟩
abbrev rm_W_pc : Room := { frames := 0, cells := 0, slots := 0, locals := 0 }
abbrev y_W_boot : MethodName := ⟨"EnclaveWarden", "boot", "(I)Z"⟩
abbrev rm_W_boot : Room := { frames := 0, cells := 0, slots := 0, locals := 0 }
abbrev y_W_halted : MethodName := ⟨"EnclaveWarden", "halted", "()Z"⟩
abbrev rm_W_halted : Room := { frames := 0, cells := 0, slots := 0, locals := 0 }
abbrev y_W_isRegion : MethodName := ⟨"EnclaveWarden", "isRegion", "(I)Z"⟩
abbrev rm_W_isRegion : Room := { frames := 0, cells := 0, slots := 0, locals := 0 }
abbrev y_W_allFree : MethodName := ⟨"EnclaveWarden", "allFree", "(II)Z"⟩
abbrev rm_W_allFree : Room := { frames := 0, cells := 0, slots := 0, locals := 0 }
abbrev y_W_leastAbsent : MethodName := ⟨"EnclaveWarden", "leastAbsent", "()I"⟩
abbrev rm_W_leastAbsent : Room := { frames := 0, cells := 0, slots := 0, locals := 0 }
abbrev y_V_become : MethodName := ⟨"EnclaveWarden$Enclave", "become", "(I)V"⟩
abbrev rm_V_become : Room := { frames := 0, cells := 0, slots := 0, locals := 0 }
abbrev y_W_mix : MethodName := ⟨"EnclaveWarden", "mix", "(II)I"⟩
abbrev rm_W_mix : Room := { frames := 0, cells := 0, slots := 0, locals := 0 }
abbrev y_V_add : MethodName := ⟨"EnclaveWarden$Enclave", "add", "(I)V"⟩
abbrev rm_V_add : Room := { frames := 1, cells := 0, slots := 0, locals := 22 }
abbrev y_W_create : MethodName := ⟨"EnclaveWarden", "create", "(II)I"⟩
abbrev rm_W_create : Room := { frames := 2, cells := 0, slots := 0, locals := 43 }
abbrev y_W_isEnclave : MethodName := ⟨"EnclaveWarden", "isEnclave", "(I)Z"⟩
abbrev rm_W_isEnclave : Room := { frames := 0, cells := 0, slots := 0, locals := 0 }
abbrev y_W_load : MethodName := ⟨"EnclaveWarden", "load", "(III)I"⟩
abbrev rm_W_load : Room := { frames := 2, cells := 0, slots := 0, locals := 43 }
abbrev y_V_threadCount : MethodName := ⟨"EnclaveWarden$Enclave", "threadCount", "()I"⟩
abbrev rm_V_threadCount : Room := { frames := 0, cells := 0, slots := 0, locals := 0 }
abbrev y_W_addThread : MethodName := ⟨"EnclaveWarden", "addThread", "(II)I"⟩
abbrev rm_W_addThread : Room := { frames := 2, cells := 0, slots := 0, locals := 43 }
abbrev y_W_seal : MethodName := ⟨"EnclaveWarden", "seal", "(I)I"⟩
abbrev rm_W_seal : Room := { frames := 2, cells := 0, slots := 0, locals := 43 }
abbrev y_W_sharedWith : MethodName := ⟨"EnclaveWarden", "sharedWith", "(I)I"⟩
abbrev rm_W_sharedWith : Room := { frames := 0, cells := 0, slots := 0, locals := 0 }
abbrev y_W_share : MethodName := ⟨"EnclaveWarden", "share", "(II)I"⟩
abbrev rm_W_share : Room := { frames := 1, cells := 0, slots := 0, locals := 23 }
abbrev y_W_isThread : MethodName := ⟨"EnclaveWarden", "isThread", "(I)Z"⟩
abbrev rm_W_isThread : Room := { frames := 0, cells := 0, slots := 0, locals := 0 }
abbrev y_W_refusalToStart : MethodName := ⟨"EnclaveWarden", "refusalToStart", "(III)I"⟩
abbrev rm_W_refusalToStart : Room := { frames := 1, cells := 0, slots := 0, locals := 20 }
abbrev y_C_start : MethodName := ⟨"EnclaveWarden$Core", "start", "(II)V"⟩
abbrev rm_C_start : Room := { frames := 1, cells := 0, slots := 0, locals := 22 }
abbrev y_W_handOver : MethodName := ⟨"EnclaveWarden", "handOver", "(II)V"⟩
abbrev rm_W_handOver : Room := { frames := 0, cells := 0, slots := 0, locals := 0 }
abbrev y_W_enter : MethodName := ⟨"EnclaveWarden", "enter", "(III)I"⟩
abbrev rm_W_enter : Room := { frames := 2, cells := 0, slots := 0, locals := 45 }
abbrev y_W_resume : MethodName := ⟨"EnclaveWarden", "resume", "(II)I"⟩
abbrev rm_W_resume : Room := { frames := 2, cells := 0, slots := 0, locals := 44 }
abbrev y_W_stop : MethodName := ⟨"EnclaveWarden", "stop", "(I)I"⟩
abbrev rm_W_stop : Room := { frames := 1, cells := 0, slots := 0, locals := 20 }
abbrev y_W_free : MethodName := ⟨"EnclaveWarden", "free", "(I)V"⟩
abbrev rm_W_free : Room := { frames := 0, cells := 0, slots := 0, locals := 0 }
abbrev y_W_destroy : MethodName := ⟨"EnclaveWarden", "destroy", "(I)I"⟩
abbrev rm_W_destroy : Room := { frames := 1, cells := 0, slots := 0, locals := 22 }
abbrev y_W_claim : MethodName := ⟨"EnclaveWarden", "claim", "(I)I"⟩
abbrev rm_W_claim : Room := { frames := 1, cells := 0, slots := 0, locals := 20 }
abbrev y_W_giveUp : MethodName := ⟨"EnclaveWarden", "giveUp", "(I)I"⟩
abbrev rm_W_giveUp : Room := { frames := 1, cells := 0, slots := 0, locals := 22 }
abbrev y_W_systemCall : MethodName := ⟨"EnclaveWarden", "systemCall", "(IIII)I"⟩
abbrev rm_W_systemCall : Room := { frames := 3, cells := 0, slots := 0, locals := 70 }
abbrev y_W_call : MethodName := ⟨"EnclaveWarden", "call", "(IIII)I"⟩
abbrev rm_W_call : Room := { frames := 4, cells := 0, slots := 0, locals := 94 }
abbrev y_W_runningThread : MethodName := ⟨"EnclaveWarden", "runningThread", "()LEnclaveWarden$EnclaveThread;"⟩
abbrev rm_W_runningThread : Room := { frames := 0, cells := 0, slots := 0, locals := 0 }
abbrev y_W_leave : MethodName := ⟨"EnclaveWarden", "leave", "(III)V"⟩
abbrev rm_W_leave : Room := { frames := 1, cells := 0, slots := 0, locals := 22 }
abbrev y_W_enclaveMayUse : MethodName := ⟨"EnclaveWarden", "enclaveMayUse", "(II)Z"⟩
abbrev rm_W_enclaveMayUse : Room := { frames := 1, cells := 0, slots := 0, locals := 20 }
abbrev y_W_runnerMayUse : MethodName := ⟨"EnclaveWarden", "runnerMayUse", "(I)Z"⟩
abbrev rm_W_runnerMayUse : Room := { frames := 2, cells := 0, slots := 0, locals := 43 }
abbrev y_W_fault : MethodName := ⟨"EnclaveWarden", "fault", "(I)V"⟩
abbrev rm_W_fault : Room := { frames := 2, cells := 0, slots := 0, locals := 45 }
abbrev y_W_macOf : MethodName := ⟨"EnclaveWarden", "macOf", "(II)I"⟩
abbrev rm_W_macOf : Room := { frames := 1, cells := 0, slots := 0, locals := 22 }
abbrev y_W_enclaveCall : MethodName := ⟨"EnclaveWarden", "enclaveCall", "(IIII)I"⟩
abbrev rm_W_enclaveCall : Room := { frames := 2, cells := 0, slots := 0, locals := 45 }
abbrev y_W_obeyCall : MethodName := ⟨"EnclaveWarden", "obeyCall", "(LEnclaveWarden$Core;I)V"⟩
abbrev rm_W_obeyCall : Room := { frames := 4, cells := 0, slots := 0, locals := 94 }
abbrev y_W_branch : MethodName := ⟨"EnclaveWarden", "branch", "(LEnclaveWarden$Core;ZI)V"⟩
abbrev rm_W_branch : Room := { frames := 0, cells := 0, slots := 0, locals := 0 }
abbrev y_W_obey : MethodName := ⟨"EnclaveWarden", "obey", "(LEnclaveWarden$Core;I)V"⟩
abbrev rm_W_obey : Room := { frames := 3, cells := 0, slots := 0, locals := 66 }
abbrev y_W_step : MethodName := ⟨"EnclaveWarden", "step", "()V"⟩
abbrev rm_W_step : Room := { frames := 5, cells := 0, slots := 0, locals := 121 }
abbrev y_W_run : MethodName := ⟨"EnclaveWarden", "run", "(I)I"⟩
abbrev rm_W_run : Room := { frames := 6, cells := 0, slots := 0, locals := 143 }
abbrev y_W_period : MethodName := ⟨"EnclaveWarden", "period", "(I)V"⟩
abbrev rm_W_period : Room := { frames := 0, cells := 0, slots := 0, locals := 0 }
abbrev y_W_tick : MethodName := ⟨"EnclaveWarden", "tick", "()I"⟩
abbrev rm_W_tick : Room := { frames := 0, cells := 0, slots := 0, locals := 0 }
abbrev y_W_running : MethodName := ⟨"EnclaveWarden", "running", "()I"⟩
abbrev rm_W_running : Room := { frames := 0, cells := 0, slots := 0, locals := 0 }
abbrev y_W_region : MethodName := ⟨"EnclaveWarden", "region", "(I)I"⟩
abbrev rm_W_region : Room := { frames := 1, cells := 0, slots := 0, locals := 20 }
abbrev y_W_enclave : MethodName := ⟨"EnclaveWarden", "enclave", "(I)I"⟩
abbrev rm_W_enclave : Room := { frames := 1, cells := 0, slots := 0, locals := 20 }
abbrev y_W_thread : MethodName := ⟨"EnclaveWarden", "thread", "(II)I"⟩
abbrev rm_W_thread : Room := { frames := 1, cells := 0, slots := 0, locals := 20 }
abbrev y_W_kept : MethodName := ⟨"EnclaveWarden", "kept", "(III)I"⟩
abbrev rm_W_kept : Room := { frames := 1, cells := 0, slots := 0, locals := 21 }
abbrev y_W_measure : MethodName := ⟨"EnclaveWarden", "measure", "(I)I"⟩
abbrev rm_W_measure : Room := { frames := 1, cells := 0, slots := 0, locals := 20 }
abbrev y_W_vouch : MethodName := ⟨"EnclaveWarden", "vouch", "(III)Z"⟩
abbrev rm_W_vouch : Room := { frames := 2, cells := 0, slots := 0, locals := 44 }
abbrev y_W_exit : MethodName := ⟨"EnclaveWarden", "exit", "(I)I"⟩
abbrev rm_W_exit : Room := { frames := 0, cells := 0, slots := 0, locals := 0 }
abbrev y_M_outside : MethodName := ⟨"EnclaveWardenModel", "outside", "(II)Z"⟩
abbrev rm_M_outside : Room := { frames := 0, cells := 0, slots := 0, locals := 0 }
abbrev y_M_kind : MethodName := ⟨"EnclaveWardenModel", "kind", "(I)I"⟩
abbrev rm_M_kind : Room := { frames := 0, cells := 0, slots := 0, locals := 0 }
abbrev y_M_uses : MethodName := ⟨"EnclaveWardenModel", "uses", "(II)Z"⟩
abbrev rm_M_uses : Room := { frames := 1, cells := 0, slots := 0, locals := 22 }
abbrev y_M_mix : MethodName := ⟨"EnclaveWardenModel", "mix", "(II)I"⟩
abbrev rm_M_mix : Room := { frames := 0, cells := 0, slots := 0, locals := 0 }
abbrev y_M_mac : MethodName := ⟨"EnclaveWardenModel", "mac", "(II)I"⟩
abbrev rm_M_mac : Room := { frames := 1, cells := 0, slots := 0, locals := 22 }
abbrev y_M_add : MethodName := ⟨"EnclaveWardenModel", "add", "(II)V"⟩
abbrev rm_M_add : Room := { frames := 0, cells := 0, slots := 0, locals := 0 }
abbrev y_M_measured : MethodName := ⟨"EnclaveWardenModel", "measured", "(I)I"⟩
abbrev rm_M_measured : Room := { frames := 1, cells := 0, slots := 0, locals := 22 }
abbrev y_M_bad : MethodName := ⟨"EnclaveWardenModel", "bad", "(IIII)Z"⟩
abbrev rm_M_bad : Room := { frames := 1, cells := 0, slots := 0, locals := 21 }
abbrev y_M_wrongState : MethodName := ⟨"EnclaveWardenModel", "wrongState", "(III)Z"⟩
abbrev rm_M_wrongState : Room := { frames := 0, cells := 0, slots := 0, locals := 0 }
abbrev y_M_taken : MethodName := ⟨"EnclaveWardenModel", "taken", "(IIII)Z"⟩
abbrev rm_M_taken : Room := { frames := 1, cells := 0, slots := 0, locals := 22 }
abbrev y_M_full : MethodName := ⟨"EnclaveWardenModel", "full", "(II)Z"⟩
abbrev rm_M_full : Room := { frames := 1, cells := 0, slots := 0, locals := 22 }
abbrev y_M_create : MethodName := ⟨"EnclaveWardenModel", "create", "(II)I"⟩
abbrev rm_M_create : Room := { frames := 1, cells := 0, slots := 0, locals := 22 }
abbrev y_M_thread : MethodName := ⟨"EnclaveWardenModel", "thread", "(II)I"⟩
abbrev rm_M_thread : Room := { frames := 1, cells := 0, slots := 0, locals := 21 }
abbrev y_M_append : MethodName := ⟨"EnclaveWardenModel", "append", "(III)I"⟩
abbrev rm_M_append : Room := { frames := 1, cells := 0, slots := 0, locals := 22 }
abbrev y_M_load : MethodName := ⟨"EnclaveWardenModel", "load", "(III)V"⟩
abbrev rm_M_load : Room := { frames := 1, cells := 0, slots := 0, locals := 22 }
abbrev y_M_wipe : MethodName := ⟨"EnclaveWardenModel", "wipe", "(I)V"⟩
abbrev rm_M_wipe : Room := { frames := 0, cells := 0, slots := 0, locals := 0 }
abbrev y_M_destroy : MethodName := ⟨"EnclaveWardenModel", "destroy", "(I)V"⟩
abbrev rm_M_destroy : Room := { frames := 1, cells := 0, slots := 0, locals := 22 }
abbrev y_M_perform : MethodName := ⟨"EnclaveWardenModel", "perform", "(IIII)V"⟩
abbrev rm_M_perform : Room := { frames := 2, cells := 0, slots := 0, locals := 46 }
abbrev y_M_system : MethodName := ⟨"EnclaveWardenModel", "system", "(IIII)I"⟩
abbrev rm_M_system : Room := { frames := 3, cells := 0, slots := 0, locals := 71 }
abbrev y_M_leave : MethodName := ⟨"EnclaveWardenModel", "leave", "(II)V"⟩
abbrev rm_M_leave : Room := { frames := 0, cells := 0, slots := 0, locals := 0 }
abbrev y_M_fault : MethodName := ⟨"EnclaveWardenModel", "fault", "(I)V"⟩
abbrev rm_M_fault : Room := { frames := 1, cells := 0, slots := 0, locals := 22 }
abbrev y_M_put : MethodName := ⟨"EnclaveWardenModel", "put", "(II)V"⟩
abbrev rm_M_put : Room := { frames := 0, cells := 0, slots := 0, locals := 0 }
abbrev y_M_access : MethodName := ⟨"EnclaveWardenModel", "access", "(ZII)V"⟩
abbrev rm_M_access : Room := { frames := 2, cells := 0, slots := 0, locals := 45 }
abbrev y_M_ask : MethodName := ⟨"EnclaveWardenModel", "ask", "(I)V"⟩
abbrev rm_M_ask : Room := { frames := 4, cells := 0, slots := 0, locals := 95 }
abbrev y_M_step : MethodName := ⟨"EnclaveWardenModel", "step", "()V"⟩
abbrev rm_M_step : Room := { frames := 5, cells := 0, slots := 0, locals := 120 }
abbrev y_M_poke : MethodName := ⟨"EnclaveWardenModel", "poke", "(II)Z"⟩
abbrev rm_M_poke : Room := { frames := 2, cells := 0, slots := 0, locals := 45 }
abbrev y_M_peek : MethodName := ⟨"EnclaveWardenModel", "peek", "(I)I"⟩
abbrev rm_M_peek : Room := { frames := 2, cells := 0, slots := 0, locals := 45 }
abbrev y_M_bare : MethodName := ⟨"EnclaveWardenModel", "bare", "(I)I"⟩
abbrev rm_M_bare : Room := { frames := 1, cells := 0, slots := 0, locals := 21 }
abbrev y_M_give : MethodName := ⟨"EnclaveWardenModel", "give", "(II)Z"⟩
abbrev rm_M_give : Room := { frames := 0, cells := 0, slots := 0, locals := 0 }
abbrev y_M_register : MethodName := ⟨"EnclaveWardenModel", "register", "(I)I"⟩
abbrev rm_M_register : Room := { frames := 1, cells := 0, slots := 0, locals := 21 }
abbrev y_M_pc : MethodName := ⟨"EnclaveWardenModel", "pc", "()I"⟩
abbrev rm_M_pc : Room := { frames := 0, cells := 0, slots := 0, locals := 0 }
abbrev y_M_boot : MethodName := ⟨"EnclaveWardenModel", "boot", "(I)Z"⟩
abbrev rm_M_boot : Room := { frames := 0, cells := 0, slots := 0, locals := 0 }
abbrev y_M_halted : MethodName := ⟨"EnclaveWardenModel", "halted", "()Z"⟩
abbrev rm_M_halted : Room := { frames := 0, cells := 0, slots := 0, locals := 0 }
abbrev y_M_call : MethodName := ⟨"EnclaveWardenModel", "call", "(IIII)I"⟩
abbrev rm_M_call : Room := { frames := 4, cells := 0, slots := 0, locals := 95 }
abbrev y_M_run : MethodName := ⟨"EnclaveWardenModel", "run", "(I)I"⟩
abbrev rm_M_run : Room := { frames := 6, cells := 0, slots := 0, locals := 150 }
abbrev y_M_period : MethodName := ⟨"EnclaveWardenModel", "period", "(I)V"⟩
abbrev rm_M_period : Room := { frames := 0, cells := 0, slots := 0, locals := 0 }
abbrev y_M_tick : MethodName := ⟨"EnclaveWardenModel", "tick", "()I"⟩
abbrev rm_M_tick : Room := { frames := 0, cells := 0, slots := 0, locals := 0 }
abbrev y_M_running : MethodName := ⟨"EnclaveWardenModel", "running", "()I"⟩
abbrev rm_M_running : Room := { frames := 0, cells := 0, slots := 0, locals := 0 }
abbrev y_M_region : MethodName := ⟨"EnclaveWardenModel", "region", "(I)I"⟩
abbrev rm_M_region : Room := { frames := 1, cells := 0, slots := 0, locals := 22 }
abbrev y_M_enclave : MethodName := ⟨"EnclaveWardenModel", "enclave", "(I)I"⟩
abbrev rm_M_enclave : Room := { frames := 1, cells := 0, slots := 0, locals := 21 }
abbrev y_M_kept : MethodName := ⟨"EnclaveWardenModel", "kept", "(III)I"⟩
abbrev rm_M_kept : Room := { frames := 2, cells := 0, slots := 0, locals := 43 }
abbrev y_M_measure : MethodName := ⟨"EnclaveWardenModel", "measure", "(I)I"⟩
abbrev rm_M_measure : Room := { frames := 2, cells := 0, slots := 0, locals := 45 }
abbrev y_M_vouch : MethodName := ⟨"EnclaveWardenModel", "vouch", "(III)Z"⟩
abbrev rm_M_vouch : Room := { frames := 2, cells := 0, slots := 0, locals := 45 }
abbrev y_M_exit : MethodName := ⟨"EnclaveWardenModel", "exit", "(I)I"⟩
abbrev rm_M_exit : Room := { frames := 0, cells := 0, slots := 0, locals := 0 }
def nwE : List Cond := [Cond.methodLinkNest "EnclaveWarden" 26 ⟨"EnclaveWarden$Enclave", "<init>", "()V"⟩ "EnclaveWarden",
  Cond.methodLinkNest "EnclaveWarden$Enclave" 17 ⟨"EnclaveWarden$EnclaveThread", "<init>", "()V"⟩ "EnclaveWarden",
  Cond.methodLinkNest "EnclaveWarden$EnclaveThread" 11 ⟨"EnclaveWarden$Core", "<init>", "()V"⟩ "EnclaveWarden",
  Cond.fieldLinkNest "EnclaveWarden" 65 "EnclaveWarden$Core" "pc" "I" "EnclaveWarden",
  Cond.fieldLinkNest "EnclaveWarden" 94 "EnclaveWarden$EnclaveThread" "core" "LEnclaveWarden$Core;" "EnclaveWarden",
  Cond.fieldLinkNest "EnclaveWarden$Enclave" 32 "EnclaveWarden$EnclaveThread" "state" "I" "EnclaveWarden",
  Cond.fieldLinkNest "EnclaveWarden" 91 "EnclaveWarden$EnclaveThread" "state" "I" "EnclaveWarden",
  Cond.fieldLinkNest "EnclaveWarden" 194 "EnclaveWarden$EnclaveThread" "entry" "I" "EnclaveWarden",
  Cond.fieldLinkNest "EnclaveWarden" 87 "EnclaveWarden$Enclave" "threads" "[LEnclaveWarden$EnclaveThread;" "EnclaveWarden",
  Cond.fieldLinkNest "EnclaveWarden" 81 "EnclaveWarden$Enclave" "state" "I" "EnclaveWarden",
  Cond.fieldLinkNest "EnclaveWarden" 97 "EnclaveWarden$Enclave" "measure" "I" "EnclaveWarden",
  Cond.fieldLinkNest "EnclaveWarden" 188 "EnclaveWarden$Enclave" "loads" "I" "EnclaveWarden",
  Cond.methodLinkNest "EnclaveWarden" 29 ⟨"EnclaveWarden$Core", "<init>", "()V"⟩ "EnclaveWarden",
  Cond.methodLinkNest "EnclaveWarden" 57 ⟨"EnclaveWarden$Core", "put", "(II)V"⟩ "EnclaveWarden",
  Cond.methodLinkNest "EnclaveWarden" 61 ⟨"EnclaveWarden$Core", "get", "(I)I"⟩ "EnclaveWarden",
  Cond.methodLinkNest "EnclaveWarden" 182 ⟨"EnclaveWarden$Enclave", "become", "(I)V"⟩ "EnclaveWarden",
  Cond.methodLinkNest "EnclaveWarden" 185 ⟨"EnclaveWarden$Enclave", "add", "(I)V"⟩ "EnclaveWarden",
  Cond.methodLinkNest "EnclaveWarden$Enclave" 33 ⟨"EnclaveWarden", "mix", "(II)I"⟩ "EnclaveWarden",
  Cond.methodLinkNest "EnclaveWarden" 191 ⟨"EnclaveWarden$Enclave", "threadCount", "()I"⟩ "EnclaveWarden",
  Cond.methodLinkNest "EnclaveWarden" 203 ⟨"EnclaveWarden$Core", "start", "(II)V"⟩ "EnclaveWarden"]
theorem nwOk_E : nwOk nwE = true := rfl
theorem nwOk_M : nwOk ([] : List Cond) = true := rfl
theorem nw_0 : Cond.methodLinkNest "EnclaveWarden" 26 ⟨"EnclaveWarden$Enclave", "<init>", "()V"⟩ "EnclaveWarden" ∈ nwE := List.mem_of_getElem? (i := 0) rfl
theorem nw_1 : Cond.methodLinkNest "EnclaveWarden$Enclave" 17 ⟨"EnclaveWarden$EnclaveThread", "<init>", "()V"⟩ "EnclaveWarden" ∈ nwE := List.mem_of_getElem? (i := 1) rfl
theorem nw_2 : Cond.methodLinkNest "EnclaveWarden$EnclaveThread" 11 ⟨"EnclaveWarden$Core", "<init>", "()V"⟩ "EnclaveWarden" ∈ nwE := List.mem_of_getElem? (i := 2) rfl
theorem nw_3 : Cond.fieldLinkNest "EnclaveWarden" 65 "EnclaveWarden$Core" "pc" "I" "EnclaveWarden" ∈ nwE := List.mem_of_getElem? (i := 3) rfl
theorem nw_4 : Cond.fieldLinkNest "EnclaveWarden" 94 "EnclaveWarden$EnclaveThread" "core" "LEnclaveWarden$Core;" "EnclaveWarden" ∈ nwE := List.mem_of_getElem? (i := 4) rfl
theorem nw_5 : Cond.fieldLinkNest "EnclaveWarden$Enclave" 32 "EnclaveWarden$EnclaveThread" "state" "I" "EnclaveWarden" ∈ nwE := List.mem_of_getElem? (i := 5) rfl
theorem nw_6 : Cond.fieldLinkNest "EnclaveWarden" 91 "EnclaveWarden$EnclaveThread" "state" "I" "EnclaveWarden" ∈ nwE := List.mem_of_getElem? (i := 6) rfl
theorem nw_7 : Cond.fieldLinkNest "EnclaveWarden" 194 "EnclaveWarden$EnclaveThread" "entry" "I" "EnclaveWarden" ∈ nwE := List.mem_of_getElem? (i := 7) rfl
theorem nw_8 : Cond.fieldLinkNest "EnclaveWarden" 87 "EnclaveWarden$Enclave" "threads" "[LEnclaveWarden$EnclaveThread;" "EnclaveWarden" ∈ nwE := List.mem_of_getElem? (i := 8) rfl
theorem nw_9 : Cond.fieldLinkNest "EnclaveWarden" 81 "EnclaveWarden$Enclave" "state" "I" "EnclaveWarden" ∈ nwE := List.mem_of_getElem? (i := 9) rfl
theorem nw_10 : Cond.fieldLinkNest "EnclaveWarden" 97 "EnclaveWarden$Enclave" "measure" "I" "EnclaveWarden" ∈ nwE := List.mem_of_getElem? (i := 10) rfl
theorem nw_11 : Cond.fieldLinkNest "EnclaveWarden" 188 "EnclaveWarden$Enclave" "loads" "I" "EnclaveWarden" ∈ nwE := List.mem_of_getElem? (i := 11) rfl
theorem nw_12 : Cond.methodLinkNest "EnclaveWarden" 29 ⟨"EnclaveWarden$Core", "<init>", "()V"⟩ "EnclaveWarden" ∈ nwE := List.mem_of_getElem? (i := 12) rfl
theorem nw_13 : Cond.methodLinkNest "EnclaveWarden" 57 ⟨"EnclaveWarden$Core", "put", "(II)V"⟩ "EnclaveWarden" ∈ nwE := List.mem_of_getElem? (i := 13) rfl
theorem nw_14 : Cond.methodLinkNest "EnclaveWarden" 61 ⟨"EnclaveWarden$Core", "get", "(I)I"⟩ "EnclaveWarden" ∈ nwE := List.mem_of_getElem? (i := 14) rfl
theorem nw_15 : Cond.methodLinkNest "EnclaveWarden" 182 ⟨"EnclaveWarden$Enclave", "become", "(I)V"⟩ "EnclaveWarden" ∈ nwE := List.mem_of_getElem? (i := 15) rfl
theorem nw_16 : Cond.methodLinkNest "EnclaveWarden" 185 ⟨"EnclaveWarden$Enclave", "add", "(I)V"⟩ "EnclaveWarden" ∈ nwE := List.mem_of_getElem? (i := 16) rfl
theorem nw_17 : Cond.methodLinkNest "EnclaveWarden$Enclave" 33 ⟨"EnclaveWarden", "mix", "(II)I"⟩ "EnclaveWarden" ∈ nwE := List.mem_of_getElem? (i := 17) rfl
theorem nw_18 : Cond.methodLinkNest "EnclaveWarden" 191 ⟨"EnclaveWarden$Enclave", "threadCount", "()I"⟩ "EnclaveWarden" ∈ nwE := List.mem_of_getElem? (i := 18) rfl
theorem nw_19 : Cond.methodLinkNest "EnclaveWarden" 203 ⟨"EnclaveWarden$Core", "start", "(II)V"⟩ "EnclaveWarden" ∈ nwE := List.mem_of_getElem? (i := 19) rfl
theorem w_1 : Cond.initialized "EnclaveWarden" ∈ WS := ws_tbl (show _ ∈ tables_1 from List.mem_append_left _ (show _ ∈ tables_1_1 from List.mem_of_getElem? (i := 1) (by decide +kernel))) (by decide +kernel)
theorem w_2 : Cond.initialized "EnclaveWarden$Enclave" ∈ WS := ws_tbl (show _ ∈ tables_1 from List.mem_append_left _ (show _ ∈ tables_1_1 from List.mem_of_getElem? (i := 2) (by decide +kernel))) (by decide +kernel)
theorem w_4 : Cond.initialized "EnclaveWarden$Core" ∈ WS := ws_tbl (show _ ∈ tables_1 from List.mem_append_left _ (show _ ∈ tables_1_1 from List.mem_of_getElem? (i := 4) (by decide +kernel))) (by decide +kernel)
theorem w_5 : Cond.initialized "EnclaveWardenModel" ∈ WS := ws_tbl (show _ ∈ tables_1 from List.mem_append_left _ (show _ ∈ tables_1_1 from List.mem_of_getElem? (i := 5) (by decide +kernel))) (by decide +kernel)
theorem w_34 : Cond.fieldLink "EnclaveWarden$Core" 9 "EnclaveWarden$Core" "registers" "[I" ∈ WS := ws_tbl (show _ ∈ tables_1 from List.mem_append_left _ (show _ ∈ tables_1_1 from List.mem_of_getElem? (i := 34) (by decide +kernel))) (by decide +kernel)
theorem w_35 : Cond.fieldLink "EnclaveWarden$Core" 15 "EnclaveWarden$Core" "pc" "I" ∈ WS := ws_tbl (show _ ∈ tables_1 from List.mem_append_left _ (show _ ∈ tables_1_1 from List.mem_of_getElem? (i := 35) (by decide +kernel))) (by decide +kernel)
theorem w_37 : Cond.laysFinal "EnclaveWarden$Core" "EnclaveWarden$Core" "registers" "[I" ∈ WS := ws_tbl (show _ ∈ tables_1 from List.mem_append_left _ (show _ ∈ tables_1_1 from List.mem_of_getElem? (i := 37) (by decide +kernel))) (by decide +kernel)
theorem w_39 : Cond.lays "EnclaveWarden$Core" "EnclaveWarden$Core" "pc" "I" ∈ WS := ws_tbl (show _ ∈ tables_1 from List.mem_append_left _ (show _ ∈ tables_1_1 from List.mem_of_getElem? (i := 39) (by decide +kernel))) (by decide +kernel)
theorem w_50 : Cond.laysFinal "EnclaveWarden$EnclaveThread" "EnclaveWarden$EnclaveThread" "core" "LEnclaveWarden$Core;" ∈ WS := ws_tbl (show _ ∈ tables_1 from List.mem_append_left _ (show _ ∈ tables_1_1 from List.mem_of_getElem? (i := 50) (by decide +kernel))) (by decide +kernel)
theorem w_52 : Cond.lays "EnclaveWarden$EnclaveThread" "EnclaveWarden$EnclaveThread" "state" "I" ∈ WS := ws_tbl (show _ ∈ tables_1 from List.mem_append_left _ (show _ ∈ tables_1_1 from List.mem_of_getElem? (i := 52) (by decide +kernel))) (by decide +kernel)
theorem w_54 : Cond.lays "EnclaveWarden$EnclaveThread" "EnclaveWarden$EnclaveThread" "entry" "I" ∈ WS := ws_tbl (show _ ∈ tables_1 from List.mem_append_left _ (show _ ∈ tables_1_1 from List.mem_of_getElem? (i := 54) (by decide +kernel))) (by decide +kernel)
theorem w_59 : Cond.instanceMethod ⟨"EnclaveWarden$Enclave", "become", "(I)V"⟩ ∈ WS := ws_tbl (show _ ∈ tables_1 from List.mem_append_left _ (show _ ∈ tables_1_1 from List.mem_of_getElem? (i := 59) (by decide +kernel))) (by decide +kernel)
theorem w_60 : Cond.code ⟨"EnclaveWarden$Enclave", "become", "(I)V"⟩ prog_3_method_2_code 3 none ∈ WS := ws_tbl (show _ ∈ tables_1 from List.mem_append_left _ (show _ ∈ tables_1_1 from List.mem_of_getElem? (i := 60) rfl)) (by decide +kernel)
theorem w_61 : Cond.fieldLink "EnclaveWarden$Enclave" 11 "EnclaveWarden$Enclave" "threads" "[LEnclaveWarden$EnclaveThread;" ∈ WS := ws_tbl (show _ ∈ tables_1 from List.mem_append_left _ (show _ ∈ tables_1_1 from List.mem_of_getElem? (i := 61) (by decide +kernel))) (by decide +kernel)
theorem w_63 : Cond.fieldLink "EnclaveWarden$Enclave" 22 "EnclaveWarden$Enclave" "state" "I" ∈ WS := ws_tbl (show _ ∈ tables_1 from List.mem_append_left _ (show _ ∈ tables_1_1 from List.mem_of_getElem? (i := 63) (by decide +kernel))) (by decide +kernel)
theorem w_65 : Cond.fieldLink "EnclaveWarden$Enclave" 26 "EnclaveWarden$Enclave" "measure" "I" ∈ WS := ws_tbl (show _ ∈ tables_1 from List.mem_append_left _ (show _ ∈ tables_1_1 from List.mem_of_getElem? (i := 65) (by decide +kernel))) (by decide +kernel)
theorem w_67 : Cond.fieldLink "EnclaveWarden$Enclave" 29 "EnclaveWarden$Enclave" "loads" "I" ∈ WS := ws_tbl (show _ ∈ tables_1 from List.mem_append_left _ (show _ ∈ tables_1_1 from List.mem_of_getElem? (i := 67) (by decide +kernel))) (by decide +kernel)
theorem w_69 : Cond.laysFinal "EnclaveWarden$Enclave" "EnclaveWarden$Enclave" "threads" "[LEnclaveWarden$EnclaveThread;" ∈ WS := ws_tbl (show _ ∈ tables_1 from List.mem_append_left _ (show _ ∈ tables_1_1 from List.mem_of_getElem? (i := 69) (by decide +kernel))) (by decide +kernel)
theorem w_71 : Cond.lays "EnclaveWarden$Enclave" "EnclaveWarden$Enclave" "state" "I" ∈ WS := ws_tbl (show _ ∈ tables_1 from List.mem_append_left _ (show _ ∈ tables_1_1 from List.mem_of_getElem? (i := 71) (by decide +kernel))) (by decide +kernel)
theorem w_73 : Cond.lays "EnclaveWarden$Enclave" "EnclaveWarden$Enclave" "measure" "I" ∈ WS := ws_tbl (show _ ∈ tables_1 from List.mem_append_left _ (show _ ∈ tables_1_1 from List.mem_of_getElem? (i := 73) (by decide +kernel))) (by decide +kernel)
theorem w_75 : Cond.lays "EnclaveWarden$Enclave" "EnclaveWarden$Enclave" "loads" "I" ∈ WS := ws_tbl (show _ ∈ tables_1 from List.mem_append_left _ (show _ ∈ tables_1_1 from List.mem_of_getElem? (i := 75) (by decide +kernel))) (by decide +kernel)
theorem w_80 : Cond.fieldLink "EnclaveWarden" 7 "EnclaveWarden" "secret" "I" ∈ WS := ws_tbl (show _ ∈ tables_1 from List.mem_append_left _ (show _ ∈ tables_1_1 from List.mem_of_getElem? (i := 80) (by decide +kernel))) (by decide +kernel)
theorem w_81 : Cond.fieldLink "EnclaveWarden" 13 "EnclaveWarden" "memory" "[I" ∈ WS := ws_tbl (show _ ∈ tables_1 from List.mem_append_left _ (show _ ∈ tables_1_1 from List.mem_of_getElem? (i := 81) (by decide +kernel))) (by decide +kernel)
theorem w_82 : Cond.fieldLink "EnclaveWarden" 17 "EnclaveWarden" "kinds" "[I" ∈ WS := ws_tbl (show _ ∈ tables_1 from List.mem_append_left _ (show _ ∈ tables_1_1 from List.mem_of_getElem? (i := 82) (by decide +kernel))) (by decide +kernel)
theorem w_83 : Cond.fieldLink "EnclaveWarden" 22 "EnclaveWarden" "enclaves" "[LEnclaveWarden$Enclave;" ∈ WS := ws_tbl (show _ ∈ tables_1 from List.mem_append_left _ (show _ ∈ tables_1_1 from List.mem_of_getElem? (i := 83) (by decide +kernel))) (by decide +kernel)
theorem w_84 : Cond.fieldLink "EnclaveWarden" 30 "EnclaveWarden" "system" "LEnclaveWarden$Core;" ∈ WS := ws_tbl (show _ ∈ tables_1 from List.mem_append_left _ (show _ ∈ tables_1_1 from List.mem_of_getElem? (i := 84) (by decide +kernel))) (by decide +kernel)
theorem w_85 : Cond.fieldLink "EnclaveWarden" 34 "EnclaveWarden" "exits" "[I" ∈ WS := ws_tbl (show _ ∈ tables_1 from List.mem_append_left _ (show _ ∈ tables_1_1 from List.mem_of_getElem? (i := 85) (by decide +kernel))) (by decide +kernel)
theorem w_86 : Cond.fieldLink "EnclaveWarden" 37 "EnclaveWarden" "halted" "Z" ∈ WS := ws_tbl (show _ ∈ tables_1 from List.mem_append_left _ (show _ ∈ tables_1_1 from List.mem_of_getElem? (i := 86) (by decide +kernel))) (by decide +kernel)
theorem w_87 : Cond.fieldLink "EnclaveWarden" 41 "EnclaveWarden" "running" "I" ∈ WS := ws_tbl (show _ ∈ tables_1 from List.mem_append_left _ (show _ ∈ tables_1_1 from List.mem_of_getElem? (i := 87) (by decide +kernel))) (by decide +kernel)
theorem w_88 : Cond.fieldLink "EnclaveWarden" 44 "EnclaveWarden" "period" "I" ∈ WS := ws_tbl (show _ ∈ tables_1 from List.mem_append_left _ (show _ ∈ tables_1_1 from List.mem_of_getElem? (i := 88) (by decide +kernel))) (by decide +kernel)
theorem w_89 : Cond.fieldLink "EnclaveWarden" 47 "EnclaveWarden" "tick" "I" ∈ WS := ws_tbl (show _ ∈ tables_1 from List.mem_append_left _ (show _ ∈ tables_1_1 from List.mem_of_getElem? (i := 89) (by decide +kernel))) (by decide +kernel)
theorem w_90 : Cond.laysFinal "EnclaveWarden" "EnclaveWarden" "secret" "I" ∈ WS := ws_tbl (show _ ∈ tables_1 from List.mem_append_left _ (show _ ∈ tables_1_1 from List.mem_of_getElem? (i := 90) (by decide +kernel))) (by decide +kernel)
theorem w_92 : Cond.laysFinal "EnclaveWarden" "EnclaveWarden" "memory" "[I" ∈ WS := ws_tbl (show _ ∈ tables_1 from List.mem_append_left _ (show _ ∈ tables_1_1 from List.mem_of_getElem? (i := 92) (by decide +kernel))) (by decide +kernel)
theorem w_94 : Cond.laysFinal "EnclaveWarden" "EnclaveWarden" "kinds" "[I" ∈ WS := ws_tbl (show _ ∈ tables_1 from List.mem_append_left _ (show _ ∈ tables_1_1 from List.mem_of_getElem? (i := 94) (by decide +kernel))) (by decide +kernel)
theorem w_96 : Cond.laysFinal "EnclaveWarden" "EnclaveWarden" "enclaves" "[LEnclaveWarden$Enclave;" ∈ WS := ws_tbl (show _ ∈ tables_1 from List.mem_append_left _ (show _ ∈ tables_1_1 from List.mem_of_getElem? (i := 96) (by decide +kernel))) (by decide +kernel)
theorem w_98 : Cond.laysFinal "EnclaveWarden" "EnclaveWarden" "system" "LEnclaveWarden$Core;" ∈ WS := ws_tbl (show _ ∈ tables_1 from List.mem_append_left _ (show _ ∈ tables_1_1 from List.mem_of_getElem? (i := 98) (by decide +kernel))) (by decide +kernel)
theorem w_100 : Cond.laysFinal "EnclaveWarden" "EnclaveWarden" "exits" "[I" ∈ WS := ws_tbl (show _ ∈ tables_1 from List.mem_append_left _ (show _ ∈ tables_1_1 from List.mem_of_getElem? (i := 100) (by decide +kernel))) (by decide +kernel)
theorem w_102 : Cond.lays "EnclaveWarden" "EnclaveWarden" "halted" "Z" ∈ WS := ws_tbl (show _ ∈ tables_1 from List.mem_append_left _ (show _ ∈ tables_1_1 from List.mem_of_getElem? (i := 102) (by decide +kernel))) (by decide +kernel)
theorem w_104 : Cond.lays "EnclaveWarden" "EnclaveWarden" "running" "I" ∈ WS := ws_tbl (show _ ∈ tables_1 from List.mem_append_left _ (show _ ∈ tables_1_1 from List.mem_of_getElem? (i := 104) (by decide +kernel))) (by decide +kernel)
theorem w_106 : Cond.lays "EnclaveWarden" "EnclaveWarden" "period" "I" ∈ WS := ws_tbl (show _ ∈ tables_1 from List.mem_append_left _ (show _ ∈ tables_1_1 from List.mem_of_getElem? (i := 106) (by decide +kernel))) (by decide +kernel)
theorem w_108 : Cond.lays "EnclaveWarden" "EnclaveWarden" "tick" "I" ∈ WS := ws_tbl (show _ ∈ tables_1 from List.mem_append_left _ (show _ ∈ tables_1_1 from List.mem_of_getElem? (i := 108) (by decide +kernel))) (by decide +kernel)
theorem w_115 : Cond.methodLink "EnclaveWarden" 50 ⟨"EnclaveWarden", "systemMayUse", "(I)Z"⟩ ∈ WS := ws_tbl (show _ ∈ tables_1 from List.mem_append_left _ (show _ ∈ tables_1_1 from List.mem_of_getElem? (i := 115) (by decide +kernel))) (by decide +kernel)
theorem w_117 : Cond.instanceMethod ⟨"EnclaveWarden", "systemMayUse", "(I)Z"⟩ ∈ WS := ws_tbl (show _ ∈ tables_1 from List.mem_append_left _ (show _ ∈ tables_1_1 from List.mem_of_getElem? (i := 117) (by decide +kernel))) (by decide +kernel)
theorem w_118 : Cond.code ⟨"EnclaveWarden", "systemMayUse", "(I)Z"⟩ prog_1_method_28_code 3 (Option.some .boolean) ∈ WS := ws_tbl (show _ ∈ tables_1 from List.mem_append_left _ (show _ ∈ tables_1_1 from List.mem_of_getElem? (i := 118) rfl)) (by decide +kernel)
theorem w_119 : Cond.methodLink "EnclaveWarden" 54 ⟨"EnclaveWarden", "isAddress", "(I)Z"⟩ ∈ WS := ws_tbl (show _ ∈ tables_1 from List.mem_append_left _ (show _ ∈ tables_1_1 from List.mem_of_getElem? (i := 119) (by decide +kernel))) (by decide +kernel)
theorem w_120 : Cond.static ⟨"EnclaveWarden", "isAddress", "(I)Z"⟩ ∈ WS := ws_tbl (show _ ∈ tables_1 from List.mem_append_left _ (show _ ∈ tables_1_1 from List.mem_of_getElem? (i := 120) (by decide +kernel))) (by decide +kernel)
theorem w_121 : Cond.code ⟨"EnclaveWarden", "isAddress", "(I)Z"⟩ prog_1_method_22_code 1 (Option.some .boolean) ∈ WS := ws_tbl (show _ ∈ tables_1 from List.mem_append_left _ (show _ ∈ tables_1_1 from List.mem_of_getElem? (i := 121) rfl)) (by decide +kernel)
theorem w_136 : Cond.instanceMethod ⟨"EnclaveWarden$Core", "put", "(II)V"⟩ ∈ WS := ws_tbl (show _ ∈ tables_1 from List.mem_append_left _ (show _ ∈ tables_1_1 from List.mem_of_getElem? (i := 136) (by decide +kernel))) (by decide +kernel)
theorem w_137 : Cond.code ⟨"EnclaveWarden$Core", "put", "(II)V"⟩ prog_2_method_3_code 3 none ∈ WS := ws_tbl (show _ ∈ tables_1 from List.mem_append_left _ (show _ ∈ tables_1_1 from List.mem_of_getElem? (i := 137) rfl)) (by decide +kernel)
theorem w_144 : Cond.instanceMethod ⟨"EnclaveWarden$Core", "get", "(I)I"⟩ ∈ WS := ws_tbl (show _ ∈ tables_1 from List.mem_append_left _ (show _ ∈ tables_1_1 from List.mem_of_getElem? (i := 144) (by decide +kernel))) (by decide +kernel)
theorem w_145 : Cond.code ⟨"EnclaveWarden$Core", "get", "(I)I"⟩ prog_2_method_2_code 2 (Option.some .int) ∈ WS := ws_tbl (show _ ∈ tables_1 from List.mem_append_left _ (show _ ∈ tables_1_1 from List.mem_of_getElem? (i := 145) rfl)) (by decide +kernel)
theorem w_162 : Cond.methodLink "EnclaveWarden" 68 ⟨"EnclaveWarden", "systemCall", "(IIII)I"⟩ ∈ WS := ws_tbl (show _ ∈ tables_1 from List.mem_append_left _ (show _ ∈ tables_1_1 from List.mem_of_getElem? (i := 162) (by decide +kernel))) (by decide +kernel)
theorem w_164 : Cond.instanceMethod ⟨"EnclaveWarden", "systemCall", "(IIII)I"⟩ ∈ WS := ws_tbl (show _ ∈ tables_1 from List.mem_append_left _ (show _ ∈ tables_1_1 from List.mem_of_getElem? (i := 164) (by decide +kernel))) (by decide +kernel)
theorem w_165 : Cond.code ⟨"EnclaveWarden", "systemCall", "(IIII)I"⟩ prog_1_method_39_code 5 (Option.some .int) ∈ WS := ws_tbl (show _ ∈ tables_1 from List.mem_append_left _ (show _ ∈ tables_1_1 from List.mem_of_getElem? (i := 165) rfl)) (by decide +kernel)
theorem w_166 : Cond.methodLink "EnclaveWarden" 141 ⟨"EnclaveWarden", "create", "(II)I"⟩ ∈ WS := ws_tbl (show _ ∈ tables_1 from List.mem_append_left _ (show _ ∈ tables_1_1 from List.mem_of_getElem? (i := 166) (by decide +kernel))) (by decide +kernel)
theorem w_168 : Cond.instanceMethod ⟨"EnclaveWarden", "create", "(II)I"⟩ ∈ WS := ws_tbl (show _ ∈ tables_1 from List.mem_append_left _ (show _ ∈ tables_1_1 from List.mem_of_getElem? (i := 168) (by decide +kernel))) (by decide +kernel)
theorem w_169 : Cond.code ⟨"EnclaveWarden", "create", "(II)I"⟩ prog_1_method_40_code 5 (Option.some .int) ∈ WS := ws_tbl (show _ ∈ tables_1 from List.mem_append_left _ (show _ ∈ tables_1_1 from List.mem_of_getElem? (i := 169) rfl)) (by decide +kernel)
theorem w_170 : Cond.methodLink "EnclaveWarden" 75 ⟨"EnclaveWarden", "isRegion", "(I)Z"⟩ ∈ WS := ws_tbl (show _ ∈ tables_1 from List.mem_append_left _ (show _ ∈ tables_1_1 from List.mem_of_getElem? (i := 170) (by decide +kernel))) (by decide +kernel)
theorem w_171 : Cond.static ⟨"EnclaveWarden", "isRegion", "(I)Z"⟩ ∈ WS := ws_tbl (show _ ∈ tables_1 from List.mem_append_left _ (show _ ∈ tables_1_1 from List.mem_of_getElem? (i := 171) (by decide +kernel))) (by decide +kernel)
theorem w_172 : Cond.code ⟨"EnclaveWarden", "isRegion", "(I)Z"⟩ prog_1_method_23_code 1 (Option.some .boolean) ∈ WS := ws_tbl (show _ ∈ tables_1 from List.mem_append_left _ (show _ ∈ tables_1_1 from List.mem_of_getElem? (i := 172) rfl)) (by decide +kernel)
theorem w_173 : Cond.methodLink "EnclaveWarden" 175 ⟨"EnclaveWarden", "allFree", "(II)Z"⟩ ∈ WS := ws_tbl (show _ ∈ tables_1 from List.mem_append_left _ (show _ ∈ tables_1_1 from List.mem_of_getElem? (i := 173) (by decide +kernel))) (by decide +kernel)
theorem w_175 : Cond.instanceMethod ⟨"EnclaveWarden", "allFree", "(II)Z"⟩ ∈ WS := ws_tbl (show _ ∈ tables_1 from List.mem_append_left _ (show _ ∈ tables_1_1 from List.mem_of_getElem? (i := 175) (by decide +kernel))) (by decide +kernel)
theorem w_176 : Cond.code ⟨"EnclaveWarden", "allFree", "(II)Z"⟩ prog_1_method_41_code 4 (Option.some .boolean) ∈ WS := ws_tbl (show _ ∈ tables_1 from List.mem_append_left _ (show _ ∈ tables_1_1 from List.mem_of_getElem? (i := 176) rfl)) (by decide +kernel)
theorem w_177 : Cond.methodLink "EnclaveWarden" 178 ⟨"EnclaveWarden", "leastAbsent", "()I"⟩ ∈ WS := ws_tbl (show _ ∈ tables_1 from List.mem_append_left _ (show _ ∈ tables_1_1 from List.mem_of_getElem? (i := 177) (by decide +kernel))) (by decide +kernel)
theorem w_179 : Cond.instanceMethod ⟨"EnclaveWarden", "leastAbsent", "()I"⟩ ∈ WS := ws_tbl (show _ ∈ tables_1 from List.mem_append_left _ (show _ ∈ tables_1_1 from List.mem_of_getElem? (i := 179) (by decide +kernel))) (by decide +kernel)
theorem w_180 : Cond.code ⟨"EnclaveWarden", "leastAbsent", "()I"⟩ prog_1_method_42_code 2 (Option.some .int) ∈ WS := ws_tbl (show _ ∈ tables_1 from List.mem_append_left _ (show _ ∈ tables_1_1 from List.mem_of_getElem? (i := 180) rfl)) (by decide +kernel)
theorem w_184 : Cond.instanceMethod ⟨"EnclaveWarden$Enclave", "add", "(I)V"⟩ ∈ WS := ws_tbl (show _ ∈ tables_1 from List.mem_append_left _ (show _ ∈ tables_1_1 from List.mem_of_getElem? (i := 184) (by decide +kernel))) (by decide +kernel)
theorem w_185 : Cond.code ⟨"EnclaveWarden$Enclave", "add", "(I)V"⟩ prog_3_method_3_code 2 none ∈ WS := ws_tbl (show _ ∈ tables_1 from List.mem_append_left _ (show _ ∈ tables_1_1 from List.mem_of_getElem? (i := 185) rfl)) (by decide +kernel)
theorem w_187 : Cond.static ⟨"EnclaveWarden", "mix", "(II)I"⟩ ∈ WS := ws_tbl (show _ ∈ tables_1 from List.mem_append_left _ (show _ ∈ tables_1_1 from List.mem_of_getElem? (i := 187) (by decide +kernel))) (by decide +kernel)
theorem w_188 : Cond.code ⟨"EnclaveWarden", "mix", "(II)I"⟩ prog_1_method_26_code 3 (Option.some .int) ∈ WS := ws_tbl (show _ ∈ tables_1 from List.mem_append_left _ (show _ ∈ tables_1_1 from List.mem_of_getElem? (i := 188) rfl)) (by decide +kernel)
theorem w_189 : Cond.constant "EnclaveWarden" 104 (1390208809) ∈ WS := ws_tbl (show _ ∈ tables_1 from List.mem_append_left _ (show _ ∈ tables_1_1 from List.mem_of_getElem? (i := 189) (by decide +kernel))) (by decide +kernel)
theorem w_190 : Cond.methodLink "EnclaveWarden" 144 ⟨"EnclaveWarden", "load", "(III)I"⟩ ∈ WS := ws_tbl (show _ ∈ tables_1 from List.mem_append_left _ (show _ ∈ tables_1_1 from List.mem_of_getElem? (i := 190) (by decide +kernel))) (by decide +kernel)
theorem w_192 : Cond.instanceMethod ⟨"EnclaveWarden", "load", "(III)I"⟩ ∈ WS := ws_tbl (show _ ∈ tables_1 from List.mem_append_left _ (show _ ∈ tables_1_1 from List.mem_of_getElem? (i := 192) (by decide +kernel))) (by decide +kernel)
theorem w_193 : Cond.code ⟨"EnclaveWarden", "load", "(III)I"⟩ prog_1_method_43_code 7 (Option.some .int) ∈ WS := ws_tbl (show _ ∈ tables_1 from List.mem_append_left _ (show _ ∈ tables_1_1 from List.mem_of_getElem? (i := 193) rfl)) (by decide +kernel)
theorem w_194 : Cond.methodLink "EnclaveWarden" 78 ⟨"EnclaveWarden", "isEnclave", "(I)Z"⟩ ∈ WS := ws_tbl (show _ ∈ tables_1 from List.mem_append_left _ (show _ ∈ tables_1_1 from List.mem_of_getElem? (i := 194) (by decide +kernel))) (by decide +kernel)
theorem w_195 : Cond.static ⟨"EnclaveWarden", "isEnclave", "(I)Z"⟩ ∈ WS := ws_tbl (show _ ∈ tables_1 from List.mem_append_left _ (show _ ∈ tables_1_1 from List.mem_of_getElem? (i := 195) (by decide +kernel))) (by decide +kernel)
theorem w_196 : Cond.code ⟨"EnclaveWarden", "isEnclave", "(I)Z"⟩ prog_1_method_24_code 1 (Option.some .boolean) ∈ WS := ws_tbl (show _ ∈ tables_1 from List.mem_append_left _ (show _ ∈ tables_1_1 from List.mem_of_getElem? (i := 196) rfl)) (by decide +kernel)
theorem w_197 : Cond.methodLink "EnclaveWarden" 148 ⟨"EnclaveWarden", "addThread", "(II)I"⟩ ∈ WS := ws_tbl (show _ ∈ tables_1 from List.mem_append_left _ (show _ ∈ tables_1_1 from List.mem_of_getElem? (i := 197) (by decide +kernel))) (by decide +kernel)
theorem w_199 : Cond.instanceMethod ⟨"EnclaveWarden", "addThread", "(II)I"⟩ ∈ WS := ws_tbl (show _ ∈ tables_1 from List.mem_append_left _ (show _ ∈ tables_1_1 from List.mem_of_getElem? (i := 199) (by decide +kernel))) (by decide +kernel)
theorem w_200 : Cond.code ⟨"EnclaveWarden", "addThread", "(II)I"⟩ prog_1_method_44_code 5 (Option.some .int) ∈ WS := ws_tbl (show _ ∈ tables_1 from List.mem_append_left _ (show _ ∈ tables_1_1 from List.mem_of_getElem? (i := 200) rfl)) (by decide +kernel)
theorem w_203 : Cond.instanceMethod ⟨"EnclaveWarden$Enclave", "threadCount", "()I"⟩ ∈ WS := ws_tbl (show _ ∈ tables_1 from List.mem_append_left _ (show _ ∈ tables_1_1 from List.mem_of_getElem? (i := 203) (by decide +kernel))) (by decide +kernel)
theorem w_204 : Cond.code ⟨"EnclaveWarden$Enclave", "threadCount", "()I"⟩ prog_3_method_4_code 3 (Option.some .int) ∈ WS := ws_tbl (show _ ∈ tables_1 from List.mem_append_left _ (show _ ∈ tables_1_1 from List.mem_of_getElem? (i := 204) rfl)) (by decide +kernel)
theorem w_205 : Cond.methodLink "EnclaveWarden" 151 ⟨"EnclaveWarden", "seal", "(I)I"⟩ ∈ WS := ws_tbl (show _ ∈ tables_1 from List.mem_append_left _ (show _ ∈ tables_1_1 from List.mem_of_getElem? (i := 205) (by decide +kernel))) (by decide +kernel)
theorem w_207 : Cond.instanceMethod ⟨"EnclaveWarden", "seal", "(I)I"⟩ ∈ WS := ws_tbl (show _ ∈ tables_1 from List.mem_append_left _ (show _ ∈ tables_1_1 from List.mem_of_getElem? (i := 207) (by decide +kernel))) (by decide +kernel)
theorem w_208 : Cond.code ⟨"EnclaveWarden", "seal", "(I)I"⟩ prog_1_method_45_code 3 (Option.some .int) ∈ WS := ws_tbl (show _ ∈ tables_1 from List.mem_append_left _ (show _ ∈ tables_1_1 from List.mem_of_getElem? (i := 208) rfl)) (by decide +kernel)
theorem w_209 : Cond.methodLink "EnclaveWarden" 154 ⟨"EnclaveWarden", "share", "(II)I"⟩ ∈ WS := ws_tbl (show _ ∈ tables_1 from List.mem_append_left _ (show _ ∈ tables_1_1 from List.mem_of_getElem? (i := 209) (by decide +kernel))) (by decide +kernel)
theorem w_211 : Cond.instanceMethod ⟨"EnclaveWarden", "share", "(II)I"⟩ ∈ WS := ws_tbl (show _ ∈ tables_1 from List.mem_append_left _ (show _ ∈ tables_1_1 from List.mem_of_getElem? (i := 211) (by decide +kernel))) (by decide +kernel)
theorem w_212 : Cond.code ⟨"EnclaveWarden", "share", "(II)I"⟩ prog_1_method_46_code 3 (Option.some .int) ∈ WS := ws_tbl (show _ ∈ tables_1 from List.mem_append_left _ (show _ ∈ tables_1_1 from List.mem_of_getElem? (i := 212) rfl)) (by decide +kernel)
theorem w_213 : Cond.methodLink "EnclaveWarden" 197 ⟨"EnclaveWarden", "sharedWith", "(I)I"⟩ ∈ WS := ws_tbl (show _ ∈ tables_1 from List.mem_append_left _ (show _ ∈ tables_1_1 from List.mem_of_getElem? (i := 213) (by decide +kernel))) (by decide +kernel)
theorem w_215 : Cond.instanceMethod ⟨"EnclaveWarden", "sharedWith", "(I)I"⟩ ∈ WS := ws_tbl (show _ ∈ tables_1 from List.mem_append_left _ (show _ ∈ tables_1_1 from List.mem_of_getElem? (i := 215) (by decide +kernel))) (by decide +kernel)
theorem w_216 : Cond.code ⟨"EnclaveWarden", "sharedWith", "(I)I"⟩ prog_1_method_47_code 4 (Option.some .int) ∈ WS := ws_tbl (show _ ∈ tables_1 from List.mem_append_left _ (show _ ∈ tables_1_1 from List.mem_of_getElem? (i := 216) rfl)) (by decide +kernel)
theorem w_217 : Cond.methodLink "EnclaveWarden" 157 ⟨"EnclaveWarden", "enter", "(III)I"⟩ ∈ WS := ws_tbl (show _ ∈ tables_1 from List.mem_append_left _ (show _ ∈ tables_1_1 from List.mem_of_getElem? (i := 217) (by decide +kernel))) (by decide +kernel)
theorem w_219 : Cond.instanceMethod ⟨"EnclaveWarden", "enter", "(III)I"⟩ ∈ WS := ws_tbl (show _ ∈ tables_1 from List.mem_append_left _ (show _ ∈ tables_1_1 from List.mem_of_getElem? (i := 219) (by decide +kernel))) (by decide +kernel)
theorem w_220 : Cond.code ⟨"EnclaveWarden", "enter", "(III)I"⟩ prog_1_method_48_code 6 (Option.some .int) ∈ WS := ws_tbl (show _ ∈ tables_1 from List.mem_append_left _ (show _ ∈ tables_1_1 from List.mem_of_getElem? (i := 220) rfl)) (by decide +kernel)
theorem w_221 : Cond.methodLink "EnclaveWarden" 200 ⟨"EnclaveWarden", "refusalToStart", "(III)I"⟩ ∈ WS := ws_tbl (show _ ∈ tables_1 from List.mem_append_left _ (show _ ∈ tables_1_1 from List.mem_of_getElem? (i := 221) (by decide +kernel))) (by decide +kernel)
theorem w_223 : Cond.instanceMethod ⟨"EnclaveWarden", "refusalToStart", "(III)I"⟩ ∈ WS := ws_tbl (show _ ∈ tables_1 from List.mem_append_left _ (show _ ∈ tables_1_1 from List.mem_of_getElem? (i := 223) (by decide +kernel))) (by decide +kernel)
theorem w_224 : Cond.code ⟨"EnclaveWarden", "refusalToStart", "(III)I"⟩ prog_1_method_50_code 5 (Option.some .int) ∈ WS := ws_tbl (show _ ∈ tables_1 from List.mem_append_left _ (show _ ∈ tables_1_1 from List.mem_of_getElem? (i := 224) rfl)) (by decide +kernel)
theorem w_225 : Cond.methodLink "EnclaveWarden" 84 ⟨"EnclaveWarden", "isThread", "(I)Z"⟩ ∈ WS := ws_tbl (show _ ∈ tables_1 from List.mem_append_left _ (show _ ∈ tables_1_1 from List.mem_of_getElem? (i := 225) (by decide +kernel))) (by decide +kernel)
theorem w_226 : Cond.static ⟨"EnclaveWarden", "isThread", "(I)Z"⟩ ∈ WS := ws_tbl (show _ ∈ tables_1 from List.mem_append_left _ (show _ ∈ tables_1_1 from List.mem_of_getElem? (i := 226) (by decide +kernel))) (by decide +kernel)
theorem w_227 : Cond.code ⟨"EnclaveWarden", "isThread", "(I)Z"⟩ prog_1_method_25_code 1 (Option.some .boolean) ∈ WS := ws_tbl (show _ ∈ tables_1 from List.mem_append_left _ (show _ ∈ tables_1_1 from List.mem_of_getElem? (i := 227) rfl)) (by decide +kernel)
theorem w_230 : Cond.instanceMethod ⟨"EnclaveWarden$Core", "start", "(II)V"⟩ ∈ WS := ws_tbl (show _ ∈ tables_1 from List.mem_append_left _ (show _ ∈ tables_1_1 from List.mem_of_getElem? (i := 230) (by decide +kernel))) (by decide +kernel)
theorem w_231 : Cond.code ⟨"EnclaveWarden$Core", "start", "(II)V"⟩ prog_2_method_4_code 4 none ∈ WS := ws_tbl (show _ ∈ tables_1 from List.mem_append_left _ (show _ ∈ tables_1_1 from List.mem_of_getElem? (i := 231) rfl)) (by decide +kernel)
theorem w_232 : Cond.methodLink "EnclaveWarden$Core" 19 ⟨"EnclaveWarden$Core", "put", "(II)V"⟩ ∈ WS := ws_tbl (show _ ∈ tables_1 from List.mem_append_left _ (show _ ∈ tables_1_1 from List.mem_of_getElem? (i := 232) (by decide +kernel))) (by decide +kernel)
theorem w_233 : Cond.methodLink "EnclaveWarden" 206 ⟨"EnclaveWarden", "handOver", "(II)V"⟩ ∈ WS := ws_tbl (show _ ∈ tables_1 from List.mem_append_left _ (show _ ∈ tables_1_1 from List.mem_of_getElem? (i := 233) (by decide +kernel))) (by decide +kernel)
theorem w_235 : Cond.instanceMethod ⟨"EnclaveWarden", "handOver", "(II)V"⟩ ∈ WS := ws_tbl (show _ ∈ tables_1 from List.mem_append_left _ (show _ ∈ tables_1_1 from List.mem_of_getElem? (i := 235) (by decide +kernel))) (by decide +kernel)
theorem w_236 : Cond.code ⟨"EnclaveWarden", "handOver", "(II)V"⟩ prog_1_method_51_code 3 none ∈ WS := ws_tbl (show _ ∈ tables_1 from List.mem_append_left _ (show _ ∈ tables_1_1 from List.mem_of_getElem? (i := 236) rfl)) (by decide +kernel)
theorem w_237 : Cond.methodLink "EnclaveWarden" 160 ⟨"EnclaveWarden", "resume", "(II)I"⟩ ∈ WS := ws_tbl (show _ ∈ tables_1 from List.mem_append_left _ (show _ ∈ tables_1_1 from List.mem_of_getElem? (i := 237) (by decide +kernel))) (by decide +kernel)
theorem w_239 : Cond.instanceMethod ⟨"EnclaveWarden", "resume", "(II)I"⟩ ∈ WS := ws_tbl (show _ ∈ tables_1 from List.mem_append_left _ (show _ ∈ tables_1_1 from List.mem_of_getElem? (i := 239) (by decide +kernel))) (by decide +kernel)
theorem w_240 : Cond.code ⟨"EnclaveWarden", "resume", "(II)I"⟩ prog_1_method_49_code 4 (Option.some .int) ∈ WS := ws_tbl (show _ ∈ tables_1 from List.mem_append_right _ (List.mem_append_left _ (show _ ∈ tables_1_2 from List.mem_of_getElem? (i := 0) rfl))) (by decide +kernel)
theorem w_241 : Cond.methodLink "EnclaveWarden" 163 ⟨"EnclaveWarden", "stop", "(I)I"⟩ ∈ WS := ws_tbl (show _ ∈ tables_1 from List.mem_append_right _ (List.mem_append_left _ (show _ ∈ tables_1_2 from List.mem_of_getElem? (i := 1) (by decide +kernel)))) (by decide +kernel)
theorem w_243 : Cond.instanceMethod ⟨"EnclaveWarden", "stop", "(I)I"⟩ ∈ WS := ws_tbl (show _ ∈ tables_1 from List.mem_append_right _ (List.mem_append_left _ (show _ ∈ tables_1_2 from List.mem_of_getElem? (i := 3) (by decide +kernel)))) (by decide +kernel)
theorem w_244 : Cond.code ⟨"EnclaveWarden", "stop", "(I)I"⟩ prog_1_method_52_code 2 (Option.some .int) ∈ WS := ws_tbl (show _ ∈ tables_1 from List.mem_append_right _ (List.mem_append_left _ (show _ ∈ tables_1_2 from List.mem_of_getElem? (i := 4) rfl))) (by decide +kernel)
theorem w_245 : Cond.methodLink "EnclaveWarden" 166 ⟨"EnclaveWarden", "destroy", "(I)I"⟩ ∈ WS := ws_tbl (show _ ∈ tables_1 from List.mem_append_right _ (List.mem_append_left _ (show _ ∈ tables_1_2 from List.mem_of_getElem? (i := 5) (by decide +kernel)))) (by decide +kernel)
theorem w_247 : Cond.instanceMethod ⟨"EnclaveWarden", "destroy", "(I)I"⟩ ∈ WS := ws_tbl (show _ ∈ tables_1 from List.mem_append_right _ (List.mem_append_left _ (show _ ∈ tables_1_2 from List.mem_of_getElem? (i := 7) (by decide +kernel)))) (by decide +kernel)
theorem w_248 : Cond.code ⟨"EnclaveWarden", "destroy", "(I)I"⟩ prog_1_method_53_code 4 (Option.some .int) ∈ WS := ws_tbl (show _ ∈ tables_1 from List.mem_append_right _ (List.mem_append_left _ (show _ ∈ tables_1_2 from List.mem_of_getElem? (i := 8) rfl))) (by decide +kernel)
theorem w_249 : Cond.methodLink "EnclaveWarden" 209 ⟨"EnclaveWarden", "free", "(I)V"⟩ ∈ WS := ws_tbl (show _ ∈ tables_1 from List.mem_append_right _ (List.mem_append_left _ (show _ ∈ tables_1_2 from List.mem_of_getElem? (i := 9) (by decide +kernel)))) (by decide +kernel)
theorem w_251 : Cond.instanceMethod ⟨"EnclaveWarden", "free", "(I)V"⟩ ∈ WS := ws_tbl (show _ ∈ tables_1 from List.mem_append_right _ (List.mem_append_left _ (show _ ∈ tables_1_2 from List.mem_of_getElem? (i := 11) (by decide +kernel)))) (by decide +kernel)
theorem w_252 : Cond.code ⟨"EnclaveWarden", "free", "(I)V"⟩ prog_1_method_56_code 3 none ∈ WS := ws_tbl (show _ ∈ tables_1 from List.mem_append_right _ (List.mem_append_left _ (show _ ∈ tables_1_2 from List.mem_of_getElem? (i := 12) rfl))) (by decide +kernel)
theorem w_253 : Cond.methodLink "EnclaveWarden" 169 ⟨"EnclaveWarden", "claim", "(I)I"⟩ ∈ WS := ws_tbl (show _ ∈ tables_1 from List.mem_append_right _ (List.mem_append_left _ (show _ ∈ tables_1_2 from List.mem_of_getElem? (i := 13) (by decide +kernel)))) (by decide +kernel)
theorem w_255 : Cond.instanceMethod ⟨"EnclaveWarden", "claim", "(I)I"⟩ ∈ WS := ws_tbl (show _ ∈ tables_1 from List.mem_append_right _ (List.mem_append_left _ (show _ ∈ tables_1_2 from List.mem_of_getElem? (i := 15) (by decide +kernel)))) (by decide +kernel)
theorem w_256 : Cond.code ⟨"EnclaveWarden", "claim", "(I)I"⟩ prog_1_method_54_code 2 (Option.some .int) ∈ WS := ws_tbl (show _ ∈ tables_1 from List.mem_append_right _ (List.mem_append_left _ (show _ ∈ tables_1_2 from List.mem_of_getElem? (i := 16) rfl))) (by decide +kernel)
theorem w_257 : Cond.methodLink "EnclaveWarden" 172 ⟨"EnclaveWarden", "giveUp", "(I)I"⟩ ∈ WS := ws_tbl (show _ ∈ tables_1 from List.mem_append_right _ (List.mem_append_left _ (show _ ∈ tables_1_2 from List.mem_of_getElem? (i := 17) (by decide +kernel)))) (by decide +kernel)
theorem w_259 : Cond.instanceMethod ⟨"EnclaveWarden", "giveUp", "(I)I"⟩ ∈ WS := ws_tbl (show _ ∈ tables_1 from List.mem_append_right _ (List.mem_append_left _ (show _ ∈ tables_1_2 from List.mem_of_getElem? (i := 19) (by decide +kernel)))) (by decide +kernel)
theorem w_260 : Cond.code ⟨"EnclaveWarden", "giveUp", "(I)I"⟩ prog_1_method_55_code 2 (Option.some .int) ∈ WS := ws_tbl (show _ ∈ tables_1 from List.mem_append_right _ (List.mem_append_left _ (show _ ∈ tables_1_2 from List.mem_of_getElem? (i := 20) rfl))) (by decide +kernel)
theorem w_265 : Cond.methodLink "EnclaveWarden" 72 ⟨"EnclaveWarden", "step", "()V"⟩ ∈ WS := ws_tbl (show _ ∈ tables_1 from List.mem_append_right _ (List.mem_append_left _ (show _ ∈ tables_1_2 from List.mem_of_getElem? (i := 25) (by decide +kernel)))) (by decide +kernel)
theorem w_267 : Cond.instanceMethod ⟨"EnclaveWarden", "step", "()V"⟩ ∈ WS := ws_tbl (show _ ∈ tables_1 from List.mem_append_right _ (List.mem_append_left _ (show _ ∈ tables_1_2 from List.mem_of_getElem? (i := 27) (by decide +kernel)))) (by decide +kernel)
theorem w_268 : Cond.code ⟨"EnclaveWarden", "step", "()V"⟩ prog_1_method_32_code 3 none ∈ WS := ws_tbl (show _ ∈ tables_1 from List.mem_append_right _ (List.mem_append_left _ (show _ ∈ tables_1_2 from List.mem_of_getElem? (i := 28) rfl))) (by decide +kernel)
theorem w_269 : Cond.methodLink "EnclaveWarden" 112 ⟨"EnclaveWarden", "leave", "(III)V"⟩ ∈ WS := ws_tbl (show _ ∈ tables_1 from List.mem_append_right _ (List.mem_append_left _ (show _ ∈ tables_1_2 from List.mem_of_getElem? (i := 29) (by decide +kernel)))) (by decide +kernel)
theorem w_271 : Cond.instanceMethod ⟨"EnclaveWarden", "leave", "(III)V"⟩ ∈ WS := ws_tbl (show _ ∈ tables_1 from List.mem_append_right _ (List.mem_append_left _ (show _ ∈ tables_1_2 from List.mem_of_getElem? (i := 31) (by decide +kernel)))) (by decide +kernel)
theorem w_272 : Cond.code ⟨"EnclaveWarden", "leave", "(III)V"⟩ prog_1_method_37_code 4 none ∈ WS := ws_tbl (show _ ∈ tables_1 from List.mem_append_right _ (List.mem_append_left _ (show _ ∈ tables_1_2 from List.mem_of_getElem? (i := 32) rfl))) (by decide +kernel)
theorem w_273 : Cond.methodLink "EnclaveWarden" 116 ⟨"EnclaveWarden", "runningThread", "()LEnclaveWarden$EnclaveThread;"⟩ ∈ WS := ws_tbl (show _ ∈ tables_1 from List.mem_append_right _ (List.mem_append_left _ (show _ ∈ tables_1_2 from List.mem_of_getElem? (i := 33) (by decide +kernel)))) (by decide +kernel)
theorem w_275 : Cond.instanceMethod ⟨"EnclaveWarden", "runningThread", "()LEnclaveWarden$EnclaveThread;"⟩ ∈ WS := ws_tbl (show _ ∈ tables_1 from List.mem_append_right _ (List.mem_append_left _ (show _ ∈ tables_1_2 from List.mem_of_getElem? (i := 35) (by decide +kernel)))) (by decide +kernel)
theorem w_276 : Cond.code ⟨"EnclaveWarden", "runningThread", "()LEnclaveWarden$EnclaveThread;"⟩ prog_1_method_31_code 1 (Option.some (.object "EnclaveWarden$EnclaveThread")) ∈ WS := ws_tbl (show _ ∈ tables_1 from List.mem_append_right _ (List.mem_append_left _ (show _ ∈ tables_1_2 from List.mem_of_getElem? (i := 36) rfl))) (by decide +kernel)
theorem w_277 : Cond.methodLink "EnclaveWarden" 120 ⟨"EnclaveWarden", "runnerMayUse", "(I)Z"⟩ ∈ WS := ws_tbl (show _ ∈ tables_1 from List.mem_append_right _ (List.mem_append_left _ (show _ ∈ tables_1_2 from List.mem_of_getElem? (i := 37) (by decide +kernel)))) (by decide +kernel)
theorem w_279 : Cond.instanceMethod ⟨"EnclaveWarden", "runnerMayUse", "(I)Z"⟩ ∈ WS := ws_tbl (show _ ∈ tables_1 from List.mem_append_right _ (List.mem_append_left _ (show _ ∈ tables_1_2 from List.mem_of_getElem? (i := 39) (by decide +kernel)))) (by decide +kernel)
theorem w_280 : Cond.code ⟨"EnclaveWarden", "runnerMayUse", "(I)Z"⟩ prog_1_method_30_code 2 (Option.some .boolean) ∈ WS := ws_tbl (show _ ∈ tables_1 from List.mem_append_right _ (List.mem_append_left _ (show _ ∈ tables_1_2 from List.mem_of_getElem? (i := 40) rfl))) (by decide +kernel)
theorem w_281 : Cond.methodLink "EnclaveWarden" 108 ⟨"EnclaveWarden", "enclaveMayUse", "(II)Z"⟩ ∈ WS := ws_tbl (show _ ∈ tables_1 from List.mem_append_right _ (List.mem_append_left _ (show _ ∈ tables_1_2 from List.mem_of_getElem? (i := 41) (by decide +kernel)))) (by decide +kernel)
theorem w_283 : Cond.instanceMethod ⟨"EnclaveWarden", "enclaveMayUse", "(II)Z"⟩ ∈ WS := ws_tbl (show _ ∈ tables_1 from List.mem_append_right _ (List.mem_append_left _ (show _ ∈ tables_1_2 from List.mem_of_getElem? (i := 43) (by decide +kernel)))) (by decide +kernel)
theorem w_284 : Cond.code ⟨"EnclaveWarden", "enclaveMayUse", "(II)Z"⟩ prog_1_method_29_code 4 (Option.some .boolean) ∈ WS := ws_tbl (show _ ∈ tables_1 from List.mem_append_right _ (List.mem_append_left _ (show _ ∈ tables_1_2 from List.mem_of_getElem? (i := 44) rfl))) (by decide +kernel)
theorem w_285 : Cond.methodLink "EnclaveWarden" 123 ⟨"EnclaveWarden", "fault", "(I)V"⟩ ∈ WS := ws_tbl (show _ ∈ tables_1 from List.mem_append_right _ (List.mem_append_left _ (show _ ∈ tables_1_2 from List.mem_of_getElem? (i := 45) (by decide +kernel)))) (by decide +kernel)
theorem w_287 : Cond.instanceMethod ⟨"EnclaveWarden", "fault", "(I)V"⟩ ∈ WS := ws_tbl (show _ ∈ tables_1 from List.mem_append_right _ (List.mem_append_left _ (show _ ∈ tables_1_2 from List.mem_of_getElem? (i := 47) (by decide +kernel)))) (by decide +kernel)
theorem w_288 : Cond.code ⟨"EnclaveWarden", "fault", "(I)V"⟩ prog_1_method_36_code 2 none ∈ WS := ws_tbl (show _ ∈ tables_1 from List.mem_append_right _ (List.mem_append_left _ (show _ ∈ tables_1_2 from List.mem_of_getElem? (i := 48) rfl))) (by decide +kernel)
theorem w_289 : Cond.methodLink "EnclaveWarden" 127 ⟨"EnclaveWarden", "obeyCall", "(LEnclaveWarden$Core;I)V"⟩ ∈ WS := ws_tbl (show _ ∈ tables_1 from List.mem_append_right _ (List.mem_append_left _ (show _ ∈ tables_1_2 from List.mem_of_getElem? (i := 49) (by decide +kernel)))) (by decide +kernel)
theorem w_291 : Cond.instanceMethod ⟨"EnclaveWarden", "obeyCall", "(LEnclaveWarden$Core;I)V"⟩ ∈ WS := ws_tbl (show _ ∈ tables_1 from List.mem_append_right _ (List.mem_append_left _ (show _ ∈ tables_1_2 from List.mem_of_getElem? (i := 51) (by decide +kernel)))) (by decide +kernel)
theorem w_292 : Cond.code ⟨"EnclaveWarden", "obeyCall", "(LEnclaveWarden$Core;I)V"⟩ prog_1_method_35_code 8 none ∈ WS := ws_tbl (show _ ∈ tables_1 from List.mem_append_right _ (List.mem_append_left _ (show _ ∈ tables_1_2 from List.mem_of_getElem? (i := 52) rfl))) (by decide +kernel)
theorem w_293 : Cond.methodLink "EnclaveWarden" 138 ⟨"EnclaveWarden", "enclaveCall", "(IIII)I"⟩ ∈ WS := ws_tbl (show _ ∈ tables_1 from List.mem_append_right _ (List.mem_append_left _ (show _ ∈ tables_1_2 from List.mem_of_getElem? (i := 53) (by decide +kernel)))) (by decide +kernel)
theorem w_295 : Cond.instanceMethod ⟨"EnclaveWarden", "enclaveCall", "(IIII)I"⟩ ∈ WS := ws_tbl (show _ ∈ tables_1 from List.mem_append_right _ (List.mem_append_left _ (show _ ∈ tables_1_2 from List.mem_of_getElem? (i := 55) (by decide +kernel)))) (by decide +kernel)
theorem w_296 : Cond.code ⟨"EnclaveWarden", "enclaveCall", "(IIII)I"⟩ prog_1_method_38_code 6 (Option.some .int) ∈ WS := ws_tbl (show _ ∈ tables_1 from List.mem_append_right _ (List.mem_append_left _ (show _ ∈ tables_1_2 from List.mem_of_getElem? (i := 56) rfl))) (by decide +kernel)
theorem w_297 : Cond.methodLink "EnclaveWarden" 100 ⟨"EnclaveWarden", "macOf", "(II)I"⟩ ∈ WS := ws_tbl (show _ ∈ tables_1 from List.mem_append_right _ (List.mem_append_left _ (show _ ∈ tables_1_2 from List.mem_of_getElem? (i := 57) (by decide +kernel)))) (by decide +kernel)
theorem w_299 : Cond.instanceMethod ⟨"EnclaveWarden", "macOf", "(II)I"⟩ ∈ WS := ws_tbl (show _ ∈ tables_1 from List.mem_append_right _ (List.mem_append_left _ (show _ ∈ tables_1_2 from List.mem_of_getElem? (i := 59) (by decide +kernel)))) (by decide +kernel)
theorem w_300 : Cond.code ⟨"EnclaveWarden", "macOf", "(II)I"⟩ prog_1_method_27_code 3 (Option.some .int) ∈ WS := ws_tbl (show _ ∈ tables_1 from List.mem_append_right _ (List.mem_append_left _ (show _ ∈ tables_1_2 from List.mem_of_getElem? (i := 60) rfl))) (by decide +kernel)
theorem w_301 : Cond.methodLink "EnclaveWarden" 105 ⟨"EnclaveWarden", "mix", "(II)I"⟩ ∈ WS := ws_tbl (show _ ∈ tables_1 from List.mem_append_right _ (List.mem_append_left _ (show _ ∈ tables_1_2 from List.mem_of_getElem? (i := 61) (by decide +kernel)))) (by decide +kernel)
theorem w_302 : Cond.methodLink "EnclaveWarden" 131 ⟨"EnclaveWarden", "obey", "(LEnclaveWarden$Core;I)V"⟩ ∈ WS := ws_tbl (show _ ∈ tables_1 from List.mem_append_right _ (List.mem_append_left _ (show _ ∈ tables_1_2 from List.mem_of_getElem? (i := 62) (by decide +kernel)))) (by decide +kernel)
theorem w_304 : Cond.instanceMethod ⟨"EnclaveWarden", "obey", "(LEnclaveWarden$Core;I)V"⟩ ∈ WS := ws_tbl (show _ ∈ tables_1 from List.mem_append_right _ (List.mem_append_left _ (show _ ∈ tables_1_2 from List.mem_of_getElem? (i := 64) (by decide +kernel)))) (by decide +kernel)
theorem w_305 : Cond.code ⟨"EnclaveWarden", "obey", "(LEnclaveWarden$Core;I)V"⟩ prog_1_method_33_code 8 none ∈ WS := ws_tbl (show _ ∈ tables_1 from List.mem_append_right _ (List.mem_append_left _ (show _ ∈ tables_1_2 from List.mem_of_getElem? (i := 65) rfl))) (by decide +kernel)
theorem w_306 : Cond.methodLink "EnclaveWarden" 134 ⟨"EnclaveWarden", "branch", "(LEnclaveWarden$Core;ZI)V"⟩ ∈ WS := ws_tbl (show _ ∈ tables_1 from List.mem_append_right _ (List.mem_append_left _ (show _ ∈ tables_1_2 from List.mem_of_getElem? (i := 66) (by decide +kernel)))) (by decide +kernel)
theorem w_307 : Cond.static ⟨"EnclaveWarden", "branch", "(LEnclaveWarden$Core;ZI)V"⟩ ∈ WS := ws_tbl (show _ ∈ tables_1 from List.mem_append_right _ (List.mem_append_left _ (show _ ∈ tables_1_2 from List.mem_of_getElem? (i := 67) (by decide +kernel)))) (by decide +kernel)
theorem w_308 : Cond.code ⟨"EnclaveWarden", "branch", "(LEnclaveWarden$Core;ZI)V"⟩ prog_1_method_34_code 3 none ∈ WS := ws_tbl (show _ ∈ tables_1 from List.mem_append_right _ (List.mem_append_left _ (show _ ∈ tables_1_2 from List.mem_of_getElem? (i := 68) rfl))) (by decide +kernel)
theorem w_358 : Cond.fieldLink "EnclaveWardenModel" 54 "EnclaveWardenModel" "secret" "I" ∈ WS := ws_tbl (show _ ∈ tables_1 from List.mem_append_right _ (List.mem_append_left _ (show _ ∈ tables_1_2 from List.mem_of_getElem? (i := 118) (by decide +kernel)))) (by decide +kernel)
theorem w_359 : Cond.fieldLink "EnclaveWardenModel" 7 "EnclaveWardenModel" "memory" "[I" ∈ WS := ws_tbl (show _ ∈ tables_1 from List.mem_append_right _ (List.mem_append_left _ (show _ ∈ tables_1_2 from List.mem_of_getElem? (i := 119) (by decide +kernel)))) (by decide +kernel)
theorem w_360 : Cond.fieldLink "EnclaveWardenModel" 13 "EnclaveWardenModel" "own" "[Z" ∈ WS := ws_tbl (show _ ∈ tables_1 from List.mem_append_right _ (List.mem_append_left _ (show _ ∈ tables_1_2 from List.mem_of_getElem? (i := 120) (by decide +kernel)))) (by decide +kernel)
theorem w_361 : Cond.fieldLink "EnclaveWardenModel" 17 "EnclaveWardenModel" "partner" "[I" ∈ WS := ws_tbl (show _ ∈ tables_1 from List.mem_append_right _ (List.mem_append_left _ (show _ ∈ tables_1_2 from List.mem_of_getElem? (i := 121) (by decide +kernel)))) (by decide +kernel)
theorem w_362 : Cond.fieldLink "EnclaveWardenModel" 20 "EnclaveWardenModel" "stateOf" "[I" ∈ WS := ws_tbl (show _ ∈ tables_1 from List.mem_append_right _ (List.mem_append_left _ (show _ ∈ tables_1_2 from List.mem_of_getElem? (i := 122) (by decide +kernel)))) (by decide +kernel)
theorem w_363 : Cond.fieldLink "EnclaveWardenModel" 23 "EnclaveWardenModel" "from" "[I" ∈ WS := ws_tbl (show _ ∈ tables_1 from List.mem_append_right _ (List.mem_append_left _ (show _ ∈ tables_1_2 from List.mem_of_getElem? (i := 123) (by decide +kernel)))) (by decide +kernel)
theorem w_364 : Cond.fieldLink "EnclaveWardenModel" 26 "EnclaveWardenModel" "size" "[I" ∈ WS := ws_tbl (show _ ∈ tables_1 from List.mem_append_right _ (List.mem_append_left _ (show _ ∈ tables_1_2 from List.mem_of_getElem? (i := 124) (by decide +kernel)))) (by decide +kernel)
theorem w_365 : Cond.fieldLink "EnclaveWardenModel" 29 "EnclaveWardenModel" "loads" "[I" ∈ WS := ws_tbl (show _ ∈ tables_1 from List.mem_append_right _ (List.mem_append_left _ (show _ ∈ tables_1_2 from List.mem_of_getElem? (i := 125) (by decide +kernel)))) (by decide +kernel)
theorem w_366 : Cond.fieldLink "EnclaveWardenModel" 32 "EnclaveWardenModel" "added" "[I" ∈ WS := ws_tbl (show _ ∈ tables_1 from List.mem_append_right _ (List.mem_append_left _ (show _ ∈ tables_1_2 from List.mem_of_getElem? (i := 126) (by decide +kernel)))) (by decide +kernel)
theorem w_367 : Cond.fieldLink "EnclaveWardenModel" 35 "EnclaveWardenModel" "count" "[I" ∈ WS := ws_tbl (show _ ∈ tables_1 from List.mem_append_right _ (List.mem_append_left _ (show _ ∈ tables_1_2 from List.mem_of_getElem? (i := 127) (by decide +kernel)))) (by decide +kernel)
theorem w_368 : Cond.fieldLink "EnclaveWardenModel" 38 "EnclaveWardenModel" "phase" "[I" ∈ WS := ws_tbl (show _ ∈ tables_1 from List.mem_append_right _ (List.mem_append_left _ (show _ ∈ tables_1_2 from List.mem_of_getElem? (i := 128) (by decide +kernel)))) (by decide +kernel)
theorem w_369 : Cond.fieldLink "EnclaveWardenModel" 41 "EnclaveWardenModel" "entry" "[I" ∈ WS := ws_tbl (show _ ∈ tables_1 from List.mem_append_right _ (List.mem_append_left _ (show _ ∈ tables_1_2 from List.mem_of_getElem? (i := 129) (by decide +kernel)))) (by decide +kernel)
theorem w_370 : Cond.fieldLink "EnclaveWardenModel" 44 "EnclaveWardenModel" "reg" "[I" ∈ WS := ws_tbl (show _ ∈ tables_1 from List.mem_append_right _ (List.mem_append_left _ (show _ ∈ tables_1_2 from List.mem_of_getElem? (i := 130) (by decide +kernel)))) (by decide +kernel)
theorem w_371 : Cond.fieldLink "EnclaveWardenModel" 47 "EnclaveWardenModel" "place" "[I" ∈ WS := ws_tbl (show _ ∈ tables_1 from List.mem_append_right _ (List.mem_append_left _ (show _ ∈ tables_1_2 from List.mem_of_getElem? (i := 131) (by decide +kernel)))) (by decide +kernel)
theorem w_372 : Cond.fieldLink "EnclaveWardenModel" 50 "EnclaveWardenModel" "who" "I" ∈ WS := ws_tbl (show _ ∈ tables_1 from List.mem_append_right _ (List.mem_append_left _ (show _ ∈ tables_1_2 from List.mem_of_getElem? (i := 132) (by decide +kernel)))) (by decide +kernel)
theorem w_373 : Cond.fieldLink "EnclaveWardenModel" 131 "EnclaveWardenModel" "stopped" "Z" ∈ WS := ws_tbl (show _ ∈ tables_1 from List.mem_append_right _ (List.mem_append_left _ (show _ ∈ tables_1_2 from List.mem_of_getElem? (i := 133) (by decide +kernel)))) (by decide +kernel)
theorem w_374 : Cond.fieldLink "EnclaveWardenModel" 138 "EnclaveWardenModel" "rhythm" "I" ∈ WS := ws_tbl (show _ ∈ tables_1 from List.mem_append_right _ (List.mem_append_left _ (show _ ∈ tables_1_2 from List.mem_of_getElem? (i := 134) (by decide +kernel)))) (by decide +kernel)
theorem w_375 : Cond.fieldLink "EnclaveWardenModel" 125 "EnclaveWardenModel" "ticks" "I" ∈ WS := ws_tbl (show _ ∈ tables_1 from List.mem_append_right _ (List.mem_append_left _ (show _ ∈ tables_1_2 from List.mem_of_getElem? (i := 135) (by decide +kernel)))) (by decide +kernel)
theorem w_376 : Cond.fieldLink "EnclaveWardenModel" 113 "EnclaveWardenModel" "exits" "I" ∈ WS := ws_tbl (show _ ∈ tables_1 from List.mem_append_right _ (List.mem_append_left _ (show _ ∈ tables_1_2 from List.mem_of_getElem? (i := 136) (by decide +kernel)))) (by decide +kernel)
theorem w_377 : Cond.fieldLink "EnclaveWardenModel" 116 "EnclaveWardenModel" "exitEnclave" "I" ∈ WS := ws_tbl (show _ ∈ tables_1 from List.mem_append_right _ (List.mem_append_left _ (show _ ∈ tables_1_2 from List.mem_of_getElem? (i := 137) (by decide +kernel)))) (by decide +kernel)
theorem w_378 : Cond.fieldLink "EnclaveWardenModel" 119 "EnclaveWardenModel" "exitKind" "I" ∈ WS := ws_tbl (show _ ∈ tables_1 from List.mem_append_right _ (List.mem_append_left _ (show _ ∈ tables_1_2 from List.mem_of_getElem? (i := 138) (by decide +kernel)))) (by decide +kernel)
theorem w_379 : Cond.fieldLink "EnclaveWardenModel" 122 "EnclaveWardenModel" "exitValue" "I" ∈ WS := ws_tbl (show _ ∈ tables_1 from List.mem_append_right _ (List.mem_append_left _ (show _ ∈ tables_1_2 from List.mem_of_getElem? (i := 139) (by decide +kernel)))) (by decide +kernel)
theorem w_380 : Cond.fieldLink "EnclaveWardenModel" 128 "EnclaveWardenModel" "exitTick" "I" ∈ WS := ws_tbl (show _ ∈ tables_1 from List.mem_append_right _ (List.mem_append_left _ (show _ ∈ tables_1_2 from List.mem_of_getElem? (i := 140) (by decide +kernel)))) (by decide +kernel)
theorem w_381 : Cond.lays "EnclaveWardenModel" "EnclaveWardenModel" "secret" "I" ∈ WS := ws_tbl (show _ ∈ tables_1 from List.mem_append_right _ (List.mem_append_left _ (show _ ∈ tables_1_2 from List.mem_of_getElem? (i := 141) (by decide +kernel)))) (by decide +kernel)
theorem w_383 : Cond.lays "EnclaveWardenModel" "EnclaveWardenModel" "memory" "[I" ∈ WS := ws_tbl (show _ ∈ tables_1 from List.mem_append_right _ (List.mem_append_left _ (show _ ∈ tables_1_2 from List.mem_of_getElem? (i := 143) (by decide +kernel)))) (by decide +kernel)
theorem w_385 : Cond.lays "EnclaveWardenModel" "EnclaveWardenModel" "own" "[Z" ∈ WS := ws_tbl (show _ ∈ tables_1 from List.mem_append_right _ (List.mem_append_left _ (show _ ∈ tables_1_2 from List.mem_of_getElem? (i := 145) (by decide +kernel)))) (by decide +kernel)
theorem w_387 : Cond.lays "EnclaveWardenModel" "EnclaveWardenModel" "partner" "[I" ∈ WS := ws_tbl (show _ ∈ tables_1 from List.mem_append_right _ (List.mem_append_left _ (show _ ∈ tables_1_2 from List.mem_of_getElem? (i := 147) (by decide +kernel)))) (by decide +kernel)
theorem w_389 : Cond.lays "EnclaveWardenModel" "EnclaveWardenModel" "stateOf" "[I" ∈ WS := ws_tbl (show _ ∈ tables_1 from List.mem_append_right _ (List.mem_append_left _ (show _ ∈ tables_1_2 from List.mem_of_getElem? (i := 149) (by decide +kernel)))) (by decide +kernel)
theorem w_391 : Cond.lays "EnclaveWardenModel" "EnclaveWardenModel" "from" "[I" ∈ WS := ws_tbl (show _ ∈ tables_1 from List.mem_append_right _ (List.mem_append_left _ (show _ ∈ tables_1_2 from List.mem_of_getElem? (i := 151) (by decide +kernel)))) (by decide +kernel)
theorem w_393 : Cond.lays "EnclaveWardenModel" "EnclaveWardenModel" "size" "[I" ∈ WS := ws_tbl (show _ ∈ tables_1 from List.mem_append_right _ (List.mem_append_left _ (show _ ∈ tables_1_2 from List.mem_of_getElem? (i := 153) (by decide +kernel)))) (by decide +kernel)
theorem w_395 : Cond.lays "EnclaveWardenModel" "EnclaveWardenModel" "loads" "[I" ∈ WS := ws_tbl (show _ ∈ tables_1 from List.mem_append_right _ (List.mem_append_left _ (show _ ∈ tables_1_2 from List.mem_of_getElem? (i := 155) (by decide +kernel)))) (by decide +kernel)
theorem w_397 : Cond.lays "EnclaveWardenModel" "EnclaveWardenModel" "added" "[I" ∈ WS := ws_tbl (show _ ∈ tables_1 from List.mem_append_right _ (List.mem_append_left _ (show _ ∈ tables_1_2 from List.mem_of_getElem? (i := 157) (by decide +kernel)))) (by decide +kernel)
theorem w_399 : Cond.lays "EnclaveWardenModel" "EnclaveWardenModel" "count" "[I" ∈ WS := ws_tbl (show _ ∈ tables_1 from List.mem_append_right _ (List.mem_append_left _ (show _ ∈ tables_1_2 from List.mem_of_getElem? (i := 159) (by decide +kernel)))) (by decide +kernel)
theorem w_401 : Cond.lays "EnclaveWardenModel" "EnclaveWardenModel" "phase" "[I" ∈ WS := ws_tbl (show _ ∈ tables_1 from List.mem_append_right _ (List.mem_append_left _ (show _ ∈ tables_1_2 from List.mem_of_getElem? (i := 161) (by decide +kernel)))) (by decide +kernel)
theorem w_403 : Cond.lays "EnclaveWardenModel" "EnclaveWardenModel" "entry" "[I" ∈ WS := ws_tbl (show _ ∈ tables_1 from List.mem_append_right _ (List.mem_append_left _ (show _ ∈ tables_1_2 from List.mem_of_getElem? (i := 163) (by decide +kernel)))) (by decide +kernel)
theorem w_405 : Cond.lays "EnclaveWardenModel" "EnclaveWardenModel" "reg" "[I" ∈ WS := ws_tbl (show _ ∈ tables_1 from List.mem_append_right _ (List.mem_append_left _ (show _ ∈ tables_1_2 from List.mem_of_getElem? (i := 165) (by decide +kernel)))) (by decide +kernel)
theorem w_407 : Cond.lays "EnclaveWardenModel" "EnclaveWardenModel" "place" "[I" ∈ WS := ws_tbl (show _ ∈ tables_1 from List.mem_append_right _ (List.mem_append_left _ (show _ ∈ tables_1_2 from List.mem_of_getElem? (i := 167) (by decide +kernel)))) (by decide +kernel)
theorem w_409 : Cond.lays "EnclaveWardenModel" "EnclaveWardenModel" "who" "I" ∈ WS := ws_tbl (show _ ∈ tables_1 from List.mem_append_right _ (List.mem_append_left _ (show _ ∈ tables_1_2 from List.mem_of_getElem? (i := 169) (by decide +kernel)))) (by decide +kernel)
theorem w_411 : Cond.lays "EnclaveWardenModel" "EnclaveWardenModel" "stopped" "Z" ∈ WS := ws_tbl (show _ ∈ tables_1 from List.mem_append_right _ (List.mem_append_left _ (show _ ∈ tables_1_2 from List.mem_of_getElem? (i := 171) (by decide +kernel)))) (by decide +kernel)
theorem w_413 : Cond.lays "EnclaveWardenModel" "EnclaveWardenModel" "rhythm" "I" ∈ WS := ws_tbl (show _ ∈ tables_1 from List.mem_append_right _ (List.mem_append_left _ (show _ ∈ tables_1_2 from List.mem_of_getElem? (i := 173) (by decide +kernel)))) (by decide +kernel)
theorem w_415 : Cond.lays "EnclaveWardenModel" "EnclaveWardenModel" "ticks" "I" ∈ WS := ws_tbl (show _ ∈ tables_1 from List.mem_append_right _ (List.mem_append_left _ (show _ ∈ tables_1_2 from List.mem_of_getElem? (i := 175) (by decide +kernel)))) (by decide +kernel)
theorem w_417 : Cond.lays "EnclaveWardenModel" "EnclaveWardenModel" "exits" "I" ∈ WS := ws_tbl (show _ ∈ tables_1 from List.mem_append_right _ (List.mem_append_left _ (show _ ∈ tables_1_2 from List.mem_of_getElem? (i := 177) (by decide +kernel)))) (by decide +kernel)
theorem w_419 : Cond.lays "EnclaveWardenModel" "EnclaveWardenModel" "exitEnclave" "I" ∈ WS := ws_tbl (show _ ∈ tables_1 from List.mem_append_right _ (List.mem_append_left _ (show _ ∈ tables_1_2 from List.mem_of_getElem? (i := 179) (by decide +kernel)))) (by decide +kernel)
theorem w_421 : Cond.lays "EnclaveWardenModel" "EnclaveWardenModel" "exitKind" "I" ∈ WS := ws_tbl (show _ ∈ tables_1 from List.mem_append_right _ (List.mem_append_left _ (show _ ∈ tables_1_2 from List.mem_of_getElem? (i := 181) (by decide +kernel)))) (by decide +kernel)
theorem w_423 : Cond.lays "EnclaveWardenModel" "EnclaveWardenModel" "exitValue" "I" ∈ WS := ws_tbl (show _ ∈ tables_1 from List.mem_append_right _ (List.mem_append_left _ (show _ ∈ tables_1_2 from List.mem_of_getElem? (i := 183) (by decide +kernel)))) (by decide +kernel)
theorem w_425 : Cond.lays "EnclaveWardenModel" "EnclaveWardenModel" "exitTick" "I" ∈ WS := ws_tbl (show _ ∈ tables_1 from List.mem_append_right _ (List.mem_append_left _ (show _ ∈ tables_1_2 from List.mem_of_getElem? (i := 185) (by decide +kernel)))) (by decide +kernel)
theorem w_433 : Cond.methodLink "EnclaveWardenModel" 141 ⟨"EnclaveWardenModel", "uses", "(II)Z"⟩ ∈ WS := ws_tbl (show _ ∈ tables_1 from List.mem_append_right _ (List.mem_append_left _ (show _ ∈ tables_1_2 from List.mem_of_getElem? (i := 193) (by decide +kernel)))) (by decide +kernel)
theorem w_435 : Cond.instanceMethod ⟨"EnclaveWardenModel", "uses", "(II)Z"⟩ ∈ WS := ws_tbl (show _ ∈ tables_1 from List.mem_append_right _ (List.mem_append_left _ (show _ ∈ tables_1_2 from List.mem_of_getElem? (i := 195) (by decide +kernel)))) (by decide +kernel)
theorem w_436 : Cond.code ⟨"EnclaveWardenModel", "uses", "(II)Z"⟩ prog_6_method_4_code 4 (Option.some .boolean) ∈ WS := ws_tbl (show _ ∈ tables_1 from List.mem_append_right _ (List.mem_append_left _ (show _ ∈ tables_1_2 from List.mem_of_getElem? (i := 196) rfl))) (by decide +kernel)
theorem w_437 : Cond.methodLink "EnclaveWardenModel" 57 ⟨"EnclaveWardenModel", "outside", "(II)Z"⟩ ∈ WS := ws_tbl (show _ ∈ tables_1 from List.mem_append_right _ (List.mem_append_left _ (show _ ∈ tables_1_2 from List.mem_of_getElem? (i := 197) (by decide +kernel)))) (by decide +kernel)
theorem w_438 : Cond.static ⟨"EnclaveWardenModel", "outside", "(II)Z"⟩ ∈ WS := ws_tbl (show _ ∈ tables_1 from List.mem_append_right _ (List.mem_append_left _ (show _ ∈ tables_1_2 from List.mem_of_getElem? (i := 198) (by decide +kernel)))) (by decide +kernel)
theorem w_439 : Cond.code ⟨"EnclaveWardenModel", "outside", "(II)Z"⟩ prog_6_method_2_code 2 (Option.some .boolean) ∈ WS := ws_tbl (show _ ∈ tables_1 from List.mem_append_right _ (List.mem_append_left _ (show _ ∈ tables_1_2 from List.mem_of_getElem? (i := 199) rfl))) (by decide +kernel)
theorem w_440 : Cond.methodLink "EnclaveWardenModel" 61 ⟨"EnclaveWardenModel", "kind", "(I)I"⟩ ∈ WS := ws_tbl (show _ ∈ tables_1 from List.mem_append_right _ (List.mem_append_left _ (show _ ∈ tables_1_2 from List.mem_of_getElem? (i := 200) (by decide +kernel)))) (by decide +kernel)
theorem w_442 : Cond.instanceMethod ⟨"EnclaveWardenModel", "kind", "(I)I"⟩ ∈ WS := ws_tbl (show _ ∈ tables_1 from List.mem_append_right _ (List.mem_append_left _ (show _ ∈ tables_1_2 from List.mem_of_getElem? (i := 202) (by decide +kernel)))) (by decide +kernel)
theorem w_443 : Cond.code ⟨"EnclaveWardenModel", "kind", "(I)I"⟩ prog_6_method_3_code 3 (Option.some .int) ∈ WS := ws_tbl (show _ ∈ tables_1 from List.mem_append_right _ (List.mem_append_left _ (show _ ∈ tables_1_2 from List.mem_of_getElem? (i := 203) rfl))) (by decide +kernel)
theorem w_476 : Cond.methodLink "EnclaveWardenModel" 157 ⟨"EnclaveWardenModel", "system", "(IIII)I"⟩ ∈ WS := ws_tbl (show _ ∈ tables_1 from List.mem_append_right _ (List.mem_append_left _ (show _ ∈ tables_1_2 from List.mem_of_getElem? (i := 236) (by decide +kernel)))) (by decide +kernel)
theorem w_478 : Cond.instanceMethod ⟨"EnclaveWardenModel", "system", "(IIII)I"⟩ ∈ WS := ws_tbl (show _ ∈ tables_1 from List.mem_append_right _ (List.mem_append_left _ (show _ ∈ tables_1_2 from List.mem_of_getElem? (i := 238) (by decide +kernel)))) (by decide +kernel)
theorem w_479 : Cond.code ⟨"EnclaveWardenModel", "system", "(IIII)I"⟩ prog_6_method_13_code 5 (Option.some .int) ∈ WS := ws_tbl (show _ ∈ tables_1 from List.mem_append_right _ (List.mem_append_left _ (show _ ∈ tables_1_2 from List.mem_of_getElem? (i := 239) rfl))) (by decide +kernel)
theorem w_480 : Cond.methodLink "EnclaveWardenModel" 70 ⟨"EnclaveWardenModel", "bad", "(IIII)Z"⟩ ∈ WS := ws_tbl (show _ ∈ tables_1 from List.mem_append_right _ (List.mem_append_right _ ((show _ ∈ tables_1_3 from List.mem_of_getElem? (i := 0) (by decide +kernel))))) (by decide +kernel)
theorem w_481 : Cond.static ⟨"EnclaveWardenModel", "bad", "(IIII)Z"⟩ ∈ WS := ws_tbl (show _ ∈ tables_1 from List.mem_append_right _ (List.mem_append_right _ ((show _ ∈ tables_1_3 from List.mem_of_getElem? (i := 1) (by decide +kernel))))) (by decide +kernel)
theorem w_482 : Cond.code ⟨"EnclaveWardenModel", "bad", "(IIII)Z"⟩ prog_6_method_9_code 4 (Option.some .boolean) ∈ WS := ws_tbl (show _ ∈ tables_1 from List.mem_append_right _ (List.mem_append_right _ ((show _ ∈ tables_1_3 from List.mem_of_getElem? (i := 2) rfl)))) (by decide +kernel)
theorem w_483 : Cond.methodLink "EnclaveWardenModel" 74 ⟨"EnclaveWardenModel", "wrongState", "(III)Z"⟩ ∈ WS := ws_tbl (show _ ∈ tables_1 from List.mem_append_right _ (List.mem_append_right _ ((show _ ∈ tables_1_3 from List.mem_of_getElem? (i := 3) (by decide +kernel))))) (by decide +kernel)
theorem w_485 : Cond.instanceMethod ⟨"EnclaveWardenModel", "wrongState", "(III)Z"⟩ ∈ WS := ws_tbl (show _ ∈ tables_1 from List.mem_append_right _ (List.mem_append_right _ ((show _ ∈ tables_1_3 from List.mem_of_getElem? (i := 5) (by decide +kernel))))) (by decide +kernel)
theorem w_486 : Cond.code ⟨"EnclaveWardenModel", "wrongState", "(III)Z"⟩ prog_6_method_10_code 4 (Option.some .boolean) ∈ WS := ws_tbl (show _ ∈ tables_1 from List.mem_append_right _ (List.mem_append_right _ ((show _ ∈ tables_1_3 from List.mem_of_getElem? (i := 6) rfl)))) (by decide +kernel)
theorem w_487 : Cond.methodLink "EnclaveWardenModel" 78 ⟨"EnclaveWardenModel", "taken", "(IIII)Z"⟩ ∈ WS := ws_tbl (show _ ∈ tables_1 from List.mem_append_right _ (List.mem_append_right _ ((show _ ∈ tables_1_3 from List.mem_of_getElem? (i := 7) (by decide +kernel))))) (by decide +kernel)
theorem w_489 : Cond.instanceMethod ⟨"EnclaveWardenModel", "taken", "(IIII)Z"⟩ ∈ WS := ws_tbl (show _ ∈ tables_1 from List.mem_append_right _ (List.mem_append_right _ ((show _ ∈ tables_1_3 from List.mem_of_getElem? (i := 9) (by decide +kernel))))) (by decide +kernel)
theorem w_490 : Cond.code ⟨"EnclaveWardenModel", "taken", "(IIII)Z"⟩ prog_6_method_11_code 6 (Option.some .boolean) ∈ WS := ws_tbl (show _ ∈ tables_1 from List.mem_append_right _ (List.mem_append_right _ ((show _ ∈ tables_1_3 from List.mem_of_getElem? (i := 10) rfl)))) (by decide +kernel)
theorem w_491 : Cond.methodLink "EnclaveWardenModel" 81 ⟨"EnclaveWardenModel", "full", "(II)Z"⟩ ∈ WS := ws_tbl (show _ ∈ tables_1 from List.mem_append_right _ (List.mem_append_right _ ((show _ ∈ tables_1_3 from List.mem_of_getElem? (i := 11) (by decide +kernel))))) (by decide +kernel)
theorem w_493 : Cond.instanceMethod ⟨"EnclaveWardenModel", "full", "(II)Z"⟩ ∈ WS := ws_tbl (show _ ∈ tables_1 from List.mem_append_right _ (List.mem_append_right _ ((show _ ∈ tables_1_3 from List.mem_of_getElem? (i := 13) (by decide +kernel))))) (by decide +kernel)
theorem w_494 : Cond.code ⟨"EnclaveWardenModel", "full", "(II)Z"⟩ prog_6_method_12_code 5 (Option.some .boolean) ∈ WS := ws_tbl (show _ ∈ tables_1 from List.mem_append_right _ (List.mem_append_right _ ((show _ ∈ tables_1_3 from List.mem_of_getElem? (i := 14) rfl)))) (by decide +kernel)
theorem w_495 : Cond.methodLink "EnclaveWardenModel" 84 ⟨"EnclaveWardenModel", "create", "(II)I"⟩ ∈ WS := ws_tbl (show _ ∈ tables_1 from List.mem_append_right _ (List.mem_append_right _ ((show _ ∈ tables_1_3 from List.mem_of_getElem? (i := 15) (by decide +kernel))))) (by decide +kernel)
theorem w_497 : Cond.instanceMethod ⟨"EnclaveWardenModel", "create", "(II)I"⟩ ∈ WS := ws_tbl (show _ ∈ tables_1 from List.mem_append_right _ (List.mem_append_right _ ((show _ ∈ tables_1_3 from List.mem_of_getElem? (i := 17) (by decide +kernel))))) (by decide +kernel)
theorem w_498 : Cond.code ⟨"EnclaveWardenModel", "create", "(II)I"⟩ prog_6_method_14_code 4 (Option.some .int) ∈ WS := ws_tbl (show _ ∈ tables_1 from List.mem_append_right _ (List.mem_append_right _ ((show _ ∈ tables_1_3 from List.mem_of_getElem? (i := 18) rfl)))) (by decide +kernel)
theorem w_499 : Cond.methodLink "EnclaveWardenModel" 98 ⟨"EnclaveWardenModel", "add", "(II)V"⟩ ∈ WS := ws_tbl (show _ ∈ tables_1 from List.mem_append_right _ (List.mem_append_right _ ((show _ ∈ tables_1_3 from List.mem_of_getElem? (i := 19) (by decide +kernel))))) (by decide +kernel)
theorem w_501 : Cond.instanceMethod ⟨"EnclaveWardenModel", "add", "(II)V"⟩ ∈ WS := ws_tbl (show _ ∈ tables_1 from List.mem_append_right _ (List.mem_append_right _ ((show _ ∈ tables_1_3 from List.mem_of_getElem? (i := 21) (by decide +kernel))))) (by decide +kernel)
theorem w_502 : Cond.code ⟨"EnclaveWardenModel", "add", "(II)V"⟩ prog_6_method_7_code 3 none ∈ WS := ws_tbl (show _ ∈ tables_1 from List.mem_append_right _ (List.mem_append_right _ ((show _ ∈ tables_1_3 from List.mem_of_getElem? (i := 22) rfl)))) (by decide +kernel)
theorem w_503 : Cond.methodLink "EnclaveWardenModel" 87 ⟨"EnclaveWardenModel", "thread", "(II)I"⟩ ∈ WS := ws_tbl (show _ ∈ tables_1 from List.mem_append_right _ (List.mem_append_right _ ((show _ ∈ tables_1_3 from List.mem_of_getElem? (i := 23) (by decide +kernel))))) (by decide +kernel)
theorem w_504 : Cond.instanceMethod ⟨"EnclaveWardenModel", "thread", "(II)I"⟩ ∈ WS := ws_tbl (show _ ∈ tables_1 from List.mem_append_right _ (List.mem_append_right _ ((show _ ∈ tables_1_3 from List.mem_of_getElem? (i := 24) (by decide +kernel))))) (by decide +kernel)
theorem w_505 : Cond.selects "EnclaveWardenModel" ⟨"EnclaveWardenModel", "thread", "(II)I"⟩ ⟨"EnclaveWardenModel", "thread", "(II)I"⟩ ∈ WS := ws_tbl (show _ ∈ tables_1 from List.mem_append_right _ (List.mem_append_right _ ((show _ ∈ tables_1_3 from List.mem_of_getElem? (i := 25) (by decide +kernel))))) (by decide +kernel)
theorem w_506 : Cond.code ⟨"EnclaveWardenModel", "thread", "(II)I"⟩ prog_6_method_41_code 3 (Option.some .int) ∈ WS := ws_tbl (show _ ∈ tables_1 from List.mem_append_right _ (List.mem_append_right _ ((show _ ∈ tables_1_3 from List.mem_of_getElem? (i := 26) rfl)))) (by decide +kernel)
theorem w_507 : Cond.methodLink "EnclaveWardenModel" 90 ⟨"EnclaveWardenModel", "append", "(III)I"⟩ ∈ WS := ws_tbl (show _ ∈ tables_1 from List.mem_append_right _ (List.mem_append_right _ ((show _ ∈ tables_1_3 from List.mem_of_getElem? (i := 27) (by decide +kernel))))) (by decide +kernel)
theorem w_509 : Cond.instanceMethod ⟨"EnclaveWardenModel", "append", "(III)I"⟩ ∈ WS := ws_tbl (show _ ∈ tables_1 from List.mem_append_right _ (List.mem_append_right _ ((show _ ∈ tables_1_3 from List.mem_of_getElem? (i := 29) (by decide +kernel))))) (by decide +kernel)
theorem w_510 : Cond.code ⟨"EnclaveWardenModel", "append", "(III)I"⟩ prog_6_method_15_code 4 (Option.some .int) ∈ WS := ws_tbl (show _ ∈ tables_1 from List.mem_append_right _ (List.mem_append_right _ ((show _ ∈ tables_1_3 from List.mem_of_getElem? (i := 30) rfl)))) (by decide +kernel)
theorem w_511 : Cond.methodLink "EnclaveWardenModel" 94 ⟨"EnclaveWardenModel", "perform", "(IIII)V"⟩ ∈ WS := ws_tbl (show _ ∈ tables_1 from List.mem_append_right _ (List.mem_append_right _ ((show _ ∈ tables_1_3 from List.mem_of_getElem? (i := 31) (by decide +kernel))))) (by decide +kernel)
theorem w_513 : Cond.instanceMethod ⟨"EnclaveWardenModel", "perform", "(IIII)V"⟩ ∈ WS := ws_tbl (show _ ∈ tables_1 from List.mem_append_right _ (List.mem_append_right _ ((show _ ∈ tables_1_3 from List.mem_of_getElem? (i := 33) (by decide +kernel))))) (by decide +kernel)
theorem w_514 : Cond.code ⟨"EnclaveWardenModel", "perform", "(IIII)V"⟩ prog_6_method_16_code 6 none ∈ WS := ws_tbl (show _ ∈ tables_1 from List.mem_append_right _ (List.mem_append_right _ ((show _ ∈ tables_1_3 from List.mem_of_getElem? (i := 34) rfl)))) (by decide +kernel)
theorem w_515 : Cond.methodLink "EnclaveWardenModel" 102 ⟨"EnclaveWardenModel", "load", "(III)V"⟩ ∈ WS := ws_tbl (show _ ∈ tables_1 from List.mem_append_right _ (List.mem_append_right _ ((show _ ∈ tables_1_3 from List.mem_of_getElem? (i := 35) (by decide +kernel))))) (by decide +kernel)
theorem w_517 : Cond.instanceMethod ⟨"EnclaveWardenModel", "load", "(III)V"⟩ ∈ WS := ws_tbl (show _ ∈ tables_1 from List.mem_append_right _ (List.mem_append_right _ ((show _ ∈ tables_1_3 from List.mem_of_getElem? (i := 37) (by decide +kernel))))) (by decide +kernel)
theorem w_518 : Cond.code ⟨"EnclaveWardenModel", "load", "(III)V"⟩ prog_6_method_17_code 5 none ∈ WS := ws_tbl (show _ ∈ tables_1 from List.mem_append_right _ (List.mem_append_right _ ((show _ ∈ tables_1_3 from List.mem_of_getElem? (i := 38) rfl)))) (by decide +kernel)
theorem w_519 : Cond.methodLink "EnclaveWardenModel" 106 ⟨"EnclaveWardenModel", "destroy", "(I)V"⟩ ∈ WS := ws_tbl (show _ ∈ tables_1 from List.mem_append_right _ (List.mem_append_right _ ((show _ ∈ tables_1_3 from List.mem_of_getElem? (i := 39) (by decide +kernel))))) (by decide +kernel)
theorem w_521 : Cond.instanceMethod ⟨"EnclaveWardenModel", "destroy", "(I)V"⟩ ∈ WS := ws_tbl (show _ ∈ tables_1 from List.mem_append_right _ (List.mem_append_right _ ((show _ ∈ tables_1_3 from List.mem_of_getElem? (i := 41) (by decide +kernel))))) (by decide +kernel)
theorem w_522 : Cond.code ⟨"EnclaveWardenModel", "destroy", "(I)V"⟩ prog_6_method_19_code 3 none ∈ WS := ws_tbl (show _ ∈ tables_1 from List.mem_append_right _ (List.mem_append_right _ ((show _ ∈ tables_1_3 from List.mem_of_getElem? (i := 42) rfl)))) (by decide +kernel)
theorem w_523 : Cond.methodLink "EnclaveWardenModel" 110 ⟨"EnclaveWardenModel", "wipe", "(I)V"⟩ ∈ WS := ws_tbl (show _ ∈ tables_1 from List.mem_append_right _ (List.mem_append_right _ ((show _ ∈ tables_1_3 from List.mem_of_getElem? (i := 43) (by decide +kernel))))) (by decide +kernel)
theorem w_525 : Cond.instanceMethod ⟨"EnclaveWardenModel", "wipe", "(I)V"⟩ ∈ WS := ws_tbl (show _ ∈ tables_1 from List.mem_append_right _ (List.mem_append_right _ ((show _ ∈ tables_1_3 from List.mem_of_getElem? (i := 45) (by decide +kernel))))) (by decide +kernel)
theorem w_526 : Cond.code ⟨"EnclaveWardenModel", "wipe", "(I)V"⟩ prog_6_method_18_code 3 none ∈ WS := ws_tbl (show _ ∈ tables_1 from List.mem_append_right _ (List.mem_append_right _ ((show _ ∈ tables_1_3 from List.mem_of_getElem? (i := 46) rfl)))) (by decide +kernel)
theorem w_531 : Cond.methodLink "EnclaveWardenModel" 167 ⟨"EnclaveWardenModel", "step", "()V"⟩ ∈ WS := ws_tbl (show _ ∈ tables_1 from List.mem_append_right _ (List.mem_append_right _ ((show _ ∈ tables_1_3 from List.mem_of_getElem? (i := 51) (by decide +kernel))))) (by decide +kernel)
theorem w_533 : Cond.instanceMethod ⟨"EnclaveWardenModel", "step", "()V"⟩ ∈ WS := ws_tbl (show _ ∈ tables_1 from List.mem_append_right _ (List.mem_append_right _ ((show _ ∈ tables_1_3 from List.mem_of_getElem? (i := 53) (by decide +kernel))))) (by decide +kernel)
theorem w_534 : Cond.code ⟨"EnclaveWardenModel", "step", "()V"⟩ prog_6_method_22_code 11 none ∈ WS := ws_tbl (show _ ∈ tables_1 from List.mem_append_right _ (List.mem_append_right _ ((show _ ∈ tables_1_3 from List.mem_of_getElem? (i := 54) rfl)))) (by decide +kernel)
theorem w_535 : Cond.methodLink "EnclaveWardenModel" 135 ⟨"EnclaveWardenModel", "leave", "(II)V"⟩ ∈ WS := ws_tbl (show _ ∈ tables_1 from List.mem_append_right _ (List.mem_append_right _ ((show _ ∈ tables_1_3 from List.mem_of_getElem? (i := 55) (by decide +kernel))))) (by decide +kernel)
theorem w_537 : Cond.instanceMethod ⟨"EnclaveWardenModel", "leave", "(II)V"⟩ ∈ WS := ws_tbl (show _ ∈ tables_1 from List.mem_append_right _ (List.mem_append_right _ ((show _ ∈ tables_1_3 from List.mem_of_getElem? (i := 57) (by decide +kernel))))) (by decide +kernel)
theorem w_538 : Cond.code ⟨"EnclaveWardenModel", "leave", "(II)V"⟩ prog_6_method_20_code 3 none ∈ WS := ws_tbl (show _ ∈ tables_1 from List.mem_append_right _ (List.mem_append_right _ ((show _ ∈ tables_1_3 from List.mem_of_getElem? (i := 58) rfl)))) (by decide +kernel)
theorem w_539 : Cond.methodLink "EnclaveWardenModel" 144 ⟨"EnclaveWardenModel", "fault", "(I)V"⟩ ∈ WS := ws_tbl (show _ ∈ tables_1 from List.mem_append_right _ (List.mem_append_right _ ((show _ ∈ tables_1_3 from List.mem_of_getElem? (i := 59) (by decide +kernel))))) (by decide +kernel)
theorem w_541 : Cond.instanceMethod ⟨"EnclaveWardenModel", "fault", "(I)V"⟩ ∈ WS := ws_tbl (show _ ∈ tables_1 from List.mem_append_right _ (List.mem_append_right _ ((show _ ∈ tables_1_3 from List.mem_of_getElem? (i := 61) (by decide +kernel))))) (by decide +kernel)
theorem w_542 : Cond.code ⟨"EnclaveWardenModel", "fault", "(I)V"⟩ prog_6_method_21_code 2 none ∈ WS := ws_tbl (show _ ∈ tables_1 from List.mem_append_right _ (List.mem_append_right _ ((show _ ∈ tables_1_3 from List.mem_of_getElem? (i := 62) rfl)))) (by decide +kernel)
theorem w_543 : Cond.methodLink "EnclaveWardenModel" 147 ⟨"EnclaveWardenModel", "put", "(II)V"⟩ ∈ WS := ws_tbl (show _ ∈ tables_1 from List.mem_append_right _ (List.mem_append_right _ ((show _ ∈ tables_1_3 from List.mem_of_getElem? (i := 63) (by decide +kernel))))) (by decide +kernel)
theorem w_545 : Cond.instanceMethod ⟨"EnclaveWardenModel", "put", "(II)V"⟩ ∈ WS := ws_tbl (show _ ∈ tables_1 from List.mem_append_right _ (List.mem_append_right _ ((show _ ∈ tables_1_3 from List.mem_of_getElem? (i := 65) (by decide +kernel))))) (by decide +kernel)
theorem w_546 : Cond.code ⟨"EnclaveWardenModel", "put", "(II)V"⟩ prog_6_method_23_code 3 none ∈ WS := ws_tbl (show _ ∈ tables_1 from List.mem_append_right _ (List.mem_append_right _ ((show _ ∈ tables_1_3 from List.mem_of_getElem? (i := 66) rfl)))) (by decide +kernel)
theorem w_547 : Cond.methodLink "EnclaveWardenModel" 150 ⟨"EnclaveWardenModel", "access", "(ZII)V"⟩ ∈ WS := ws_tbl (show _ ∈ tables_1 from List.mem_append_right _ (List.mem_append_right _ ((show _ ∈ tables_1_3 from List.mem_of_getElem? (i := 67) (by decide +kernel))))) (by decide +kernel)
theorem w_549 : Cond.instanceMethod ⟨"EnclaveWardenModel", "access", "(ZII)V"⟩ ∈ WS := ws_tbl (show _ ∈ tables_1 from List.mem_append_right _ (List.mem_append_right _ ((show _ ∈ tables_1_3 from List.mem_of_getElem? (i := 69) (by decide +kernel))))) (by decide +kernel)
theorem w_550 : Cond.code ⟨"EnclaveWardenModel", "access", "(ZII)V"⟩ prog_6_method_24_code 4 none ∈ WS := ws_tbl (show _ ∈ tables_1 from List.mem_append_right _ (List.mem_append_right _ ((show _ ∈ tables_1_3 from List.mem_of_getElem? (i := 70) rfl)))) (by decide +kernel)
theorem w_551 : Cond.methodLink "EnclaveWardenModel" 154 ⟨"EnclaveWardenModel", "ask", "(I)V"⟩ ∈ WS := ws_tbl (show _ ∈ tables_1 from List.mem_append_right _ (List.mem_append_right _ ((show _ ∈ tables_1_3 from List.mem_of_getElem? (i := 71) (by decide +kernel))))) (by decide +kernel)
theorem w_553 : Cond.instanceMethod ⟨"EnclaveWardenModel", "ask", "(I)V"⟩ ∈ WS := ws_tbl (show _ ∈ tables_1 from List.mem_append_right _ (List.mem_append_right _ ((show _ ∈ tables_1_3 from List.mem_of_getElem? (i := 73) (by decide +kernel))))) (by decide +kernel)
theorem w_554 : Cond.code ⟨"EnclaveWardenModel", "ask", "(I)V"⟩ prog_6_method_25_code 6 none ∈ WS := ws_tbl (show _ ∈ tables_1 from List.mem_append_right _ (List.mem_append_right _ ((show _ ∈ tables_1_3 from List.mem_of_getElem? (i := 74) rfl)))) (by decide +kernel)
theorem w_555 : Cond.methodLink "EnclaveWardenModel" 161 ⟨"EnclaveWardenModel", "measured", "(I)I"⟩ ∈ WS := ws_tbl (show _ ∈ tables_1 from List.mem_append_right _ (List.mem_append_right _ ((show _ ∈ tables_1_3 from List.mem_of_getElem? (i := 75) (by decide +kernel))))) (by decide +kernel)
theorem w_557 : Cond.instanceMethod ⟨"EnclaveWardenModel", "measured", "(I)I"⟩ ∈ WS := ws_tbl (show _ ∈ tables_1 from List.mem_append_right _ (List.mem_append_right _ ((show _ ∈ tables_1_3 from List.mem_of_getElem? (i := 77) (by decide +kernel))))) (by decide +kernel)
theorem w_558 : Cond.code ⟨"EnclaveWardenModel", "measured", "(I)I"⟩ prog_6_method_8_code 4 (Option.some .int) ∈ WS := ws_tbl (show _ ∈ tables_1 from List.mem_append_right _ (List.mem_append_right _ ((show _ ∈ tables_1_3 from List.mem_of_getElem? (i := 78) rfl)))) (by decide +kernel)
theorem w_559 : Cond.methodLink "EnclaveWardenModel" 66 ⟨"EnclaveWardenModel", "mix", "(II)I"⟩ ∈ WS := ws_tbl (show _ ∈ tables_1 from List.mem_append_right _ (List.mem_append_right _ ((show _ ∈ tables_1_3 from List.mem_of_getElem? (i := 79) (by decide +kernel))))) (by decide +kernel)
theorem w_560 : Cond.static ⟨"EnclaveWardenModel", "mix", "(II)I"⟩ ∈ WS := ws_tbl (show _ ∈ tables_1 from List.mem_append_right _ (List.mem_append_right _ ((show _ ∈ tables_1_3 from List.mem_of_getElem? (i := 80) (by decide +kernel))))) (by decide +kernel)
theorem w_561 : Cond.code ⟨"EnclaveWardenModel", "mix", "(II)I"⟩ prog_6_method_5_code 3 (Option.some .int) ∈ WS := ws_tbl (show _ ∈ tables_1 from List.mem_append_right _ (List.mem_append_right _ ((show _ ∈ tables_1_3 from List.mem_of_getElem? (i := 81) rfl)))) (by decide +kernel)
theorem w_562 : Cond.constant "EnclaveWardenModel" 65 (1390208809) ∈ WS := ws_tbl (show _ ∈ tables_1 from List.mem_append_right _ (List.mem_append_right _ ((show _ ∈ tables_1_3 from List.mem_of_getElem? (i := 82) (by decide +kernel))))) (by decide +kernel)
theorem w_563 : Cond.methodLink "EnclaveWardenModel" 164 ⟨"EnclaveWardenModel", "mac", "(II)I"⟩ ∈ WS := ws_tbl (show _ ∈ tables_1 from List.mem_append_right _ (List.mem_append_right _ ((show _ ∈ tables_1_3 from List.mem_of_getElem? (i := 83) (by decide +kernel))))) (by decide +kernel)
theorem w_565 : Cond.instanceMethod ⟨"EnclaveWardenModel", "mac", "(II)I"⟩ ∈ WS := ws_tbl (show _ ∈ tables_1 from List.mem_append_right _ (List.mem_append_right _ ((show _ ∈ tables_1_3 from List.mem_of_getElem? (i := 85) (by decide +kernel))))) (by decide +kernel)
theorem w_566 : Cond.code ⟨"EnclaveWardenModel", "mac", "(II)I"⟩ prog_6_method_6_code 4 (Option.some .int) ∈ WS := ws_tbl (show _ ∈ tables_1 from List.mem_append_right _ (List.mem_append_right _ ((show _ ∈ tables_1_3 from List.mem_of_getElem? (i := 86) rfl)))) (by decide +kernel)
theorem ws_W_systemMayUse : Cond.selects "EnclaveWarden" ⟨"EnclaveWarden", "systemMayUse", "(I)Z"⟩ ⟨"EnclaveWarden", "systemMayUse", "(I)Z"⟩ ∈ WS := ws_sel (List.mem_of_getElem? (i := 1) (by decide +kernel)) (by decide +kernel)
theorem ws_C_put : Cond.selects "EnclaveWarden$Core" ⟨"EnclaveWarden$Core", "put", "(II)V"⟩ ⟨"EnclaveWarden$Core", "put", "(II)V"⟩ ∈ WS := ws_sel (List.mem_of_getElem? (i := 2) (by decide +kernel)) (by decide +kernel)
theorem ws_C_get : Cond.selects "EnclaveWarden$Core" ⟨"EnclaveWarden$Core", "get", "(I)I"⟩ ⟨"EnclaveWarden$Core", "get", "(I)I"⟩ ∈ WS := ws_sel (List.mem_of_getElem? (i := 3) (by decide +kernel)) (by decide +kernel)
theorem ws_W_systemCall : Cond.selects "EnclaveWarden" ⟨"EnclaveWarden", "systemCall", "(IIII)I"⟩ ⟨"EnclaveWarden", "systemCall", "(IIII)I"⟩ ∈ WS := ws_sel (List.mem_of_getElem? (i := 4) (by decide +kernel)) (by decide +kernel)
theorem ws_W_step : Cond.selects "EnclaveWarden" ⟨"EnclaveWarden", "step", "()V"⟩ ⟨"EnclaveWarden", "step", "()V"⟩ ∈ WS := ws_sel (List.mem_of_getElem? (i := 25) (by decide +kernel)) (by decide +kernel)
theorem ws_W_macOf : Cond.selects "EnclaveWarden" ⟨"EnclaveWarden", "macOf", "(II)I"⟩ ⟨"EnclaveWarden", "macOf", "(II)I"⟩ ∈ WS := ws_sel (List.mem_of_getElem? (i := 33) (by decide +kernel)) (by decide +kernel)
theorem ws_W_enclaveMayUse : Cond.selects "EnclaveWarden" ⟨"EnclaveWarden", "enclaveMayUse", "(II)Z"⟩ ⟨"EnclaveWarden", "enclaveMayUse", "(II)Z"⟩ ∈ WS := ws_sel (List.mem_of_getElem? (i := 29) (by decide +kernel)) (by decide +kernel)
theorem ws_W_leave : Cond.selects "EnclaveWarden" ⟨"EnclaveWarden", "leave", "(III)V"⟩ ⟨"EnclaveWarden", "leave", "(III)V"⟩ ∈ WS := ws_sel (List.mem_of_getElem? (i := 26) (by decide +kernel)) (by decide +kernel)
theorem ws_W_runningThread : Cond.selects "EnclaveWarden" ⟨"EnclaveWarden", "runningThread", "()LEnclaveWarden$EnclaveThread;"⟩ ⟨"EnclaveWarden", "runningThread", "()LEnclaveWarden$EnclaveThread;"⟩ ∈ WS := ws_sel (List.mem_of_getElem? (i := 27) (by decide +kernel)) (by decide +kernel)
theorem ws_W_runnerMayUse : Cond.selects "EnclaveWarden" ⟨"EnclaveWarden", "runnerMayUse", "(I)Z"⟩ ⟨"EnclaveWarden", "runnerMayUse", "(I)Z"⟩ ∈ WS := ws_sel (List.mem_of_getElem? (i := 28) (by decide +kernel)) (by decide +kernel)
theorem ws_W_obey : Cond.selects "EnclaveWarden" ⟨"EnclaveWarden", "obey", "(LEnclaveWarden$Core;I)V"⟩ ⟨"EnclaveWarden", "obey", "(LEnclaveWarden$Core;I)V"⟩ ∈ WS := ws_sel (List.mem_of_getElem? (i := 34) (by decide +kernel)) (by decide +kernel)
theorem ws_W_obeyCall : Cond.selects "EnclaveWarden" ⟨"EnclaveWarden", "obeyCall", "(LEnclaveWarden$Core;I)V"⟩ ⟨"EnclaveWarden", "obeyCall", "(LEnclaveWarden$Core;I)V"⟩ ∈ WS := ws_sel (List.mem_of_getElem? (i := 31) (by decide +kernel)) (by decide +kernel)
theorem ws_W_fault : Cond.selects "EnclaveWarden" ⟨"EnclaveWarden", "fault", "(I)V"⟩ ⟨"EnclaveWarden", "fault", "(I)V"⟩ ∈ WS := ws_sel (List.mem_of_getElem? (i := 30) (by decide +kernel)) (by decide +kernel)
theorem ws_W_enclaveCall : Cond.selects "EnclaveWarden" ⟨"EnclaveWarden", "enclaveCall", "(IIII)I"⟩ ⟨"EnclaveWarden", "enclaveCall", "(IIII)I"⟩ ∈ WS := ws_sel (List.mem_of_getElem? (i := 32) (by decide +kernel)) (by decide +kernel)
theorem ws_W_create : Cond.selects "EnclaveWarden" ⟨"EnclaveWarden", "create", "(II)I"⟩ ⟨"EnclaveWarden", "create", "(II)I"⟩ ∈ WS := ws_sel (List.mem_of_getElem? (i := 5) (by decide +kernel)) (by decide +kernel)
theorem ws_W_load : Cond.selects "EnclaveWarden" ⟨"EnclaveWarden", "load", "(III)I"⟩ ⟨"EnclaveWarden", "load", "(III)I"⟩ ∈ WS := ws_sel (List.mem_of_getElem? (i := 9) (by decide +kernel)) (by decide +kernel)
theorem ws_W_addThread : Cond.selects "EnclaveWarden" ⟨"EnclaveWarden", "addThread", "(II)I"⟩ ⟨"EnclaveWarden", "addThread", "(II)I"⟩ ∈ WS := ws_sel (List.mem_of_getElem? (i := 10) (by decide +kernel)) (by decide +kernel)
theorem ws_W_seal : Cond.selects "EnclaveWarden" ⟨"EnclaveWarden", "seal", "(I)I"⟩ ⟨"EnclaveWarden", "seal", "(I)I"⟩ ∈ WS := ws_sel (List.mem_of_getElem? (i := 12) (by decide +kernel)) (by decide +kernel)
theorem ws_W_share : Cond.selects "EnclaveWarden" ⟨"EnclaveWarden", "share", "(II)I"⟩ ⟨"EnclaveWarden", "share", "(II)I"⟩ ∈ WS := ws_sel (List.mem_of_getElem? (i := 13) (by decide +kernel)) (by decide +kernel)
theorem ws_W_enter : Cond.selects "EnclaveWarden" ⟨"EnclaveWarden", "enter", "(III)I"⟩ ⟨"EnclaveWarden", "enter", "(III)I"⟩ ∈ WS := ws_sel (List.mem_of_getElem? (i := 15) (by decide +kernel)) (by decide +kernel)
theorem ws_W_resume : Cond.selects "EnclaveWarden" ⟨"EnclaveWarden", "resume", "(II)I"⟩ ⟨"EnclaveWarden", "resume", "(II)I"⟩ ∈ WS := ws_sel (List.mem_of_getElem? (i := 19) (by decide +kernel)) (by decide +kernel)
theorem ws_W_stop : Cond.selects "EnclaveWarden" ⟨"EnclaveWarden", "stop", "(I)I"⟩ ⟨"EnclaveWarden", "stop", "(I)I"⟩ ∈ WS := ws_sel (List.mem_of_getElem? (i := 20) (by decide +kernel)) (by decide +kernel)
theorem ws_W_destroy : Cond.selects "EnclaveWarden" ⟨"EnclaveWarden", "destroy", "(I)I"⟩ ⟨"EnclaveWarden", "destroy", "(I)I"⟩ ∈ WS := ws_sel (List.mem_of_getElem? (i := 21) (by decide +kernel)) (by decide +kernel)
theorem ws_W_claim : Cond.selects "EnclaveWarden" ⟨"EnclaveWarden", "claim", "(I)I"⟩ ⟨"EnclaveWarden", "claim", "(I)I"⟩ ∈ WS := ws_sel (List.mem_of_getElem? (i := 23) (by decide +kernel)) (by decide +kernel)
theorem ws_W_giveUp : Cond.selects "EnclaveWarden" ⟨"EnclaveWarden", "giveUp", "(I)I"⟩ ⟨"EnclaveWarden", "giveUp", "(I)I"⟩ ∈ WS := ws_sel (List.mem_of_getElem? (i := 24) (by decide +kernel)) (by decide +kernel)
theorem ws_W_allFree : Cond.selects "EnclaveWarden" ⟨"EnclaveWarden", "allFree", "(II)Z"⟩ ⟨"EnclaveWarden", "allFree", "(II)Z"⟩ ∈ WS := ws_sel (List.mem_of_getElem? (i := 6) (by decide +kernel)) (by decide +kernel)
theorem ws_W_leastAbsent : Cond.selects "EnclaveWarden" ⟨"EnclaveWarden", "leastAbsent", "()I"⟩ ⟨"EnclaveWarden", "leastAbsent", "()I"⟩ ∈ WS := ws_sel (List.mem_of_getElem? (i := 7) (by decide +kernel)) (by decide +kernel)
theorem ws_V_become : Cond.selects "EnclaveWarden$Enclave" ⟨"EnclaveWarden$Enclave", "become", "(I)V"⟩ ⟨"EnclaveWarden$Enclave", "become", "(I)V"⟩ ∈ WS := ws_sel (List.mem_of_getElem? (i := 0) (by decide +kernel)) (by decide +kernel)
theorem ws_V_add : Cond.selects "EnclaveWarden$Enclave" ⟨"EnclaveWarden$Enclave", "add", "(I)V"⟩ ⟨"EnclaveWarden$Enclave", "add", "(I)V"⟩ ∈ WS := ws_sel (List.mem_of_getElem? (i := 8) (by decide +kernel)) (by decide +kernel)
theorem ws_V_threadCount : Cond.selects "EnclaveWarden$Enclave" ⟨"EnclaveWarden$Enclave", "threadCount", "()I"⟩ ⟨"EnclaveWarden$Enclave", "threadCount", "()I"⟩ ∈ WS := ws_sel (List.mem_of_getElem? (i := 11) (by decide +kernel)) (by decide +kernel)
theorem ws_W_sharedWith : Cond.selects "EnclaveWarden" ⟨"EnclaveWarden", "sharedWith", "(I)I"⟩ ⟨"EnclaveWarden", "sharedWith", "(I)I"⟩ ∈ WS := ws_sel (List.mem_of_getElem? (i := 14) (by decide +kernel)) (by decide +kernel)
theorem ws_W_refusalToStart : Cond.selects "EnclaveWarden" ⟨"EnclaveWarden", "refusalToStart", "(III)I"⟩ ⟨"EnclaveWarden", "refusalToStart", "(III)I"⟩ ∈ WS := ws_sel (List.mem_of_getElem? (i := 16) (by decide +kernel)) (by decide +kernel)
theorem ws_C_start : Cond.selects "EnclaveWarden$Core" ⟨"EnclaveWarden$Core", "start", "(II)V"⟩ ⟨"EnclaveWarden$Core", "start", "(II)V"⟩ ∈ WS := ws_sel (List.mem_of_getElem? (i := 17) (by decide +kernel)) (by decide +kernel)
theorem ws_W_handOver : Cond.selects "EnclaveWarden" ⟨"EnclaveWarden", "handOver", "(II)V"⟩ ⟨"EnclaveWarden", "handOver", "(II)V"⟩ ∈ WS := ws_sel (List.mem_of_getElem? (i := 18) (by decide +kernel)) (by decide +kernel)
theorem ws_W_free : Cond.selects "EnclaveWarden" ⟨"EnclaveWarden", "free", "(I)V"⟩ ⟨"EnclaveWarden", "free", "(I)V"⟩ ∈ WS := ws_sel (List.mem_of_getElem? (i := 22) (by decide +kernel)) (by decide +kernel)
theorem ws_M_kind : Cond.selects "EnclaveWardenModel" ⟨"EnclaveWardenModel", "kind", "(I)I"⟩ ⟨"EnclaveWardenModel", "kind", "(I)I"⟩ ∈ WS := ws_sel (List.mem_of_getElem? (i := 36) (by decide +kernel)) (by decide +kernel)
theorem ws_M_wrongState : Cond.selects "EnclaveWardenModel" ⟨"EnclaveWardenModel", "wrongState", "(III)Z"⟩ ⟨"EnclaveWardenModel", "wrongState", "(III)Z"⟩ ∈ WS := ws_sel (List.mem_of_getElem? (i := 38) (by decide +kernel)) (by decide +kernel)
theorem ws_M_taken : Cond.selects "EnclaveWardenModel" ⟨"EnclaveWardenModel", "taken", "(IIII)Z"⟩ ⟨"EnclaveWardenModel", "taken", "(IIII)Z"⟩ ∈ WS := ws_sel (List.mem_of_getElem? (i := 39) (by decide +kernel)) (by decide +kernel)
theorem ws_M_full : Cond.selects "EnclaveWardenModel" ⟨"EnclaveWardenModel", "full", "(II)Z"⟩ ⟨"EnclaveWardenModel", "full", "(II)Z"⟩ ∈ WS := ws_sel (List.mem_of_getElem? (i := 40) (by decide +kernel)) (by decide +kernel)
theorem ws_M_perform : Cond.selects "EnclaveWardenModel" ⟨"EnclaveWardenModel", "perform", "(IIII)V"⟩ ⟨"EnclaveWardenModel", "perform", "(IIII)V"⟩ ∈ WS := ws_sel (List.mem_of_getElem? (i := 44) (by decide +kernel)) (by decide +kernel)
theorem ws_M_append : Cond.selects "EnclaveWardenModel" ⟨"EnclaveWardenModel", "append", "(III)I"⟩ ⟨"EnclaveWardenModel", "append", "(III)I"⟩ ∈ WS := ws_sel (List.mem_of_getElem? (i := 43) (by decide +kernel)) (by decide +kernel)
theorem ws_M_create : Cond.selects "EnclaveWardenModel" ⟨"EnclaveWardenModel", "create", "(II)I"⟩ ⟨"EnclaveWardenModel", "create", "(II)I"⟩ ∈ WS := ws_sel (List.mem_of_getElem? (i := 41) (by decide +kernel)) (by decide +kernel)
theorem ws_M_add : Cond.selects "EnclaveWardenModel" ⟨"EnclaveWardenModel", "add", "(II)V"⟩ ⟨"EnclaveWardenModel", "add", "(II)V"⟩ ∈ WS := ws_sel (List.mem_of_getElem? (i := 42) (by decide +kernel)) (by decide +kernel)
theorem ws_M_load : Cond.selects "EnclaveWardenModel" ⟨"EnclaveWardenModel", "load", "(III)V"⟩ ⟨"EnclaveWardenModel", "load", "(III)V"⟩ ∈ WS := ws_sel (List.mem_of_getElem? (i := 45) (by decide +kernel)) (by decide +kernel)
theorem ws_M_wipe : Cond.selects "EnclaveWardenModel" ⟨"EnclaveWardenModel", "wipe", "(I)V"⟩ ⟨"EnclaveWardenModel", "wipe", "(I)V"⟩ ∈ WS := ws_sel (List.mem_of_getElem? (i := 47) (by decide +kernel)) (by decide +kernel)
theorem ws_M_destroy : Cond.selects "EnclaveWardenModel" ⟨"EnclaveWardenModel", "destroy", "(I)V"⟩ ⟨"EnclaveWardenModel", "destroy", "(I)V"⟩ ∈ WS := ws_sel (List.mem_of_getElem? (i := 46) (by decide +kernel)) (by decide +kernel)
theorem ws_M_leave : Cond.selects "EnclaveWardenModel" ⟨"EnclaveWardenModel", "leave", "(II)V"⟩ ⟨"EnclaveWardenModel", "leave", "(II)V"⟩ ∈ WS := ws_sel (List.mem_of_getElem? (i := 49) (by decide +kernel)) (by decide +kernel)
theorem ws_M_uses : Cond.selects "EnclaveWardenModel" ⟨"EnclaveWardenModel", "uses", "(II)Z"⟩ ⟨"EnclaveWardenModel", "uses", "(II)Z"⟩ ∈ WS := ws_sel (List.mem_of_getElem? (i := 35) (by decide +kernel)) (by decide +kernel)
theorem ws_M_fault : Cond.selects "EnclaveWardenModel" ⟨"EnclaveWardenModel", "fault", "(I)V"⟩ ⟨"EnclaveWardenModel", "fault", "(I)V"⟩ ∈ WS := ws_sel (List.mem_of_getElem? (i := 50) (by decide +kernel)) (by decide +kernel)
theorem ws_M_ask : Cond.selects "EnclaveWardenModel" ⟨"EnclaveWardenModel", "ask", "(I)V"⟩ ⟨"EnclaveWardenModel", "ask", "(I)V"⟩ ∈ WS := ws_sel (List.mem_of_getElem? (i := 53) (by decide +kernel)) (by decide +kernel)
theorem ws_M_access : Cond.selects "EnclaveWardenModel" ⟨"EnclaveWardenModel", "access", "(ZII)V"⟩ ⟨"EnclaveWardenModel", "access", "(ZII)V"⟩ ∈ WS := ws_sel (List.mem_of_getElem? (i := 52) (by decide +kernel)) (by decide +kernel)
theorem ws_M_put : Cond.selects "EnclaveWardenModel" ⟨"EnclaveWardenModel", "put", "(II)V"⟩ ⟨"EnclaveWardenModel", "put", "(II)V"⟩ ∈ WS := ws_sel (List.mem_of_getElem? (i := 51) (by decide +kernel)) (by decide +kernel)
theorem ws_M_mac : Cond.selects "EnclaveWardenModel" ⟨"EnclaveWardenModel", "mac", "(II)I"⟩ ⟨"EnclaveWardenModel", "mac", "(II)I"⟩ ∈ WS := ws_sel (List.mem_of_getElem? (i := 55) (by decide +kernel)) (by decide +kernel)
theorem ws_M_measured : Cond.selects "EnclaveWardenModel" ⟨"EnclaveWardenModel", "measured", "(I)I"⟩ ⟨"EnclaveWardenModel", "measured", "(I)I"⟩ ∈ WS := ws_sel (List.mem_of_getElem? (i := 54) (by decide +kernel)) (by decide +kernel)
theorem ws_M_system : Cond.selects "EnclaveWardenModel" ⟨"EnclaveWardenModel", "system", "(IIII)I"⟩ ⟨"EnclaveWardenModel", "system", "(IIII)I"⟩ ∈ WS := ws_sel (List.mem_of_getElem? (i := 37) (by decide +kernel)) (by decide +kernel)
theorem ws_M_step : Cond.selects "EnclaveWardenModel" ⟨"EnclaveWardenModel", "step", "()V"⟩ ⟨"EnclaveWardenModel", "step", "()V"⟩ ∈ WS := ws_sel (List.mem_of_getElem? (i := 48) (by decide +kernel)) (by decide +kernel)
theorem uw_W {c0 : Cond} : ∀ x ∈ u_ws R_W T_W 10, x ∈ c0 :: WS := by
  intro x hx
  obtain ⟨k, hk, rfl⟩ := List.mem_map.mp hx
  have hk := List.mem_range.mp hk
  rcases (show k = 0 ∨ k = 1 ∨ k = 2 ∨ k = 3 ∨ k = 4 ∨ k = 5 ∨ k = 6 ∨ k = 7 ∨ k = 8 ∨ k = 9 by omega) with rfl | rfl | rfl | rfl | rfl | rfl | rfl | rfl | rfl | rfl
  · exact List.mem_cons_of_mem _ w_90
  · exact List.mem_cons_of_mem _ w_92
  · exact List.mem_cons_of_mem _ w_94
  · exact List.mem_cons_of_mem _ w_96
  · exact List.mem_cons_of_mem _ w_98
  · exact List.mem_cons_of_mem _ w_100
  · exact List.mem_cons_of_mem _ w_102
  · exact List.mem_cons_of_mem _ w_104
  · exact List.mem_cons_of_mem _ w_106
  · exact List.mem_cons_of_mem _ w_108
theorem uw_V {c0 : Cond} : ∀ x ∈ u_ws R_V T_V 4, x ∈ c0 :: WS := by
  intro x hx
  obtain ⟨k, hk, rfl⟩ := List.mem_map.mp hx
  have hk := List.mem_range.mp hk
  rcases (show k = 0 ∨ k = 1 ∨ k = 2 ∨ k = 3 by omega) with rfl | rfl | rfl | rfl
  · exact List.mem_cons_of_mem _ w_69
  · exact List.mem_cons_of_mem _ w_71
  · exact List.mem_cons_of_mem _ w_73
  · exact List.mem_cons_of_mem _ w_75
theorem uw_T {c0 : Cond} : ∀ x ∈ u_ws R_T T_T 3, x ∈ c0 :: WS := by
  intro x hx
  obtain ⟨k, hk, rfl⟩ := List.mem_map.mp hx
  have hk := List.mem_range.mp hk
  rcases (show k = 0 ∨ k = 1 ∨ k = 2 by omega) with rfl | rfl | rfl
  · exact List.mem_cons_of_mem _ w_50
  · exact List.mem_cons_of_mem _ w_52
  · exact List.mem_cons_of_mem _ w_54
theorem uw_C {c0 : Cond} : ∀ x ∈ u_ws R_C T_C 2, x ∈ c0 :: WS := by
  intro x hx
  obtain ⟨k, hk, rfl⟩ := List.mem_map.mp hx
  have hk := List.mem_range.mp hk
  rcases (show k = 0 ∨ k = 1 by omega) with rfl | rfl
  · exact List.mem_cons_of_mem _ w_37
  · exact List.mem_cons_of_mem _ w_39
theorem uw_M {c0 : Cond} : ∀ x ∈ u_ws R_M T_M 23, x ∈ c0 :: WS := by
  intro x hx
  obtain ⟨k, hk, rfl⟩ := List.mem_map.mp hx
  have hk := List.mem_range.mp hk
  rcases (show k = 0 ∨ k = 1 ∨ k = 2 ∨ k = 3 ∨ k = 4 ∨ k = 5 ∨ k = 6 ∨ k = 7 ∨ k = 8 ∨ k = 9 ∨ k = 10 ∨ k = 11 ∨ k = 12 ∨ k = 13 ∨ k = 14 ∨ k = 15 ∨ k = 16 ∨ k = 17 ∨ k = 18 ∨ k = 19 ∨ k = 20 ∨ k = 21 ∨ k = 22 by omega) with rfl | rfl | rfl | rfl | rfl | rfl | rfl | rfl | rfl | rfl | rfl | rfl | rfl | rfl | rfl | rfl | rfl | rfl | rfl | rfl | rfl | rfl | rfl
  · exact List.mem_cons_of_mem _ w_381
  · exact List.mem_cons_of_mem _ w_383
  · exact List.mem_cons_of_mem _ w_385
  · exact List.mem_cons_of_mem _ w_387
  · exact List.mem_cons_of_mem _ w_389
  · exact List.mem_cons_of_mem _ w_391
  · exact List.mem_cons_of_mem _ w_393
  · exact List.mem_cons_of_mem _ w_395
  · exact List.mem_cons_of_mem _ w_397
  · exact List.mem_cons_of_mem _ w_399
  · exact List.mem_cons_of_mem _ w_401
  · exact List.mem_cons_of_mem _ w_403
  · exact List.mem_cons_of_mem _ w_405
  · exact List.mem_cons_of_mem _ w_407
  · exact List.mem_cons_of_mem _ w_409
  · exact List.mem_cons_of_mem _ w_411
  · exact List.mem_cons_of_mem _ w_413
  · exact List.mem_cons_of_mem _ w_415
  · exact List.mem_cons_of_mem _ w_417
  · exact List.mem_cons_of_mem _ w_419
  · exact List.mem_cons_of_mem _ w_421
  · exact List.mem_cons_of_mem _ w_423
  · exact List.mem_cons_of_mem _ w_425
end
section
theorem d_W_init_0 : decode prog_1_method_1_code 0 = .ok (.aload_n 0, 1) := by decide +kernel
theorem d_W_init_1 : decode prog_1_method_1_code 1 = .ok (.invokespecial 1, 3) := by decide +kernel
theorem d_W_init_4 : decode prog_1_method_1_code 4 = .ok (.aload_n 0, 1) := by decide +kernel
theorem d_W_init_5 : decode prog_1_method_1_code 5 = .ok (.iload_n 1, 1) := by decide +kernel
theorem d_W_init_6 : decode prog_1_method_1_code 6 = .ok (.putfield 7, 3) := by decide +kernel
theorem d_W_init_9 : decode prog_1_method_1_code 9 = .ok (.aload_n 0, 1) := by decide +kernel
theorem d_W_init_10 : decode prog_1_method_1_code 10 = .ok (.sipush 256, 3) := by decide +kernel
theorem d_W_init_13 : decode prog_1_method_1_code 13 = .ok (.newarray .int, 2) := by decide +kernel
theorem d_W_init_15 : decode prog_1_method_1_code 15 = .ok (.putfield 13, 3) := by decide +kernel
theorem d_W_init_18 : decode prog_1_method_1_code 18 = .ok (.aload_n 0, 1) := by decide +kernel
theorem d_W_init_19 : decode prog_1_method_1_code 19 = .ok (.bipush 16, 2) := by decide +kernel
theorem d_W_init_21 : decode prog_1_method_1_code 21 = .ok (.newarray .int, 2) := by decide +kernel
theorem d_W_init_23 : decode prog_1_method_1_code 23 = .ok (.putfield 17, 3) := by decide +kernel
theorem d_W_init_26 : decode prog_1_method_1_code 26 = .ok (.iconst 0, 1) := by decide +kernel
theorem d_W_init_27 : decode prog_1_method_1_code 27 = .ok (.istore_n 2, 1) := by decide +kernel
theorem d_W_init_28 : decode prog_1_method_1_code 28 = .ok (.iload_n 2, 1) := by decide +kernel
theorem d_W_init_29 : decode prog_1_method_1_code 29 = .ok (.bipush 16, 2) := by decide +kernel
theorem d_W_init_31 : decode prog_1_method_1_code 31 = .ok (.if_icmp .ge 26, 3) := by decide +kernel
theorem d_W_init_34 : decode prog_1_method_1_code 34 = .ok (.aload_n 0, 1) := by decide +kernel
theorem d_W_init_35 : decode prog_1_method_1_code 35 = .ok (.getfield 17, 3) := by decide +kernel
theorem d_W_init_38 : decode prog_1_method_1_code 38 = .ok (.iload_n 2, 1) := by decide +kernel
theorem d_W_init_39 : decode prog_1_method_1_code 39 = .ok (.iload_n 2, 1) := by decide +kernel
theorem d_W_init_40 : decode prog_1_method_1_code 40 = .ok (.bipush 8, 2) := by decide +kernel
theorem d_W_init_42 : decode prog_1_method_1_code 42 = .ok (.if_icmp .ge 7, 3) := by decide +kernel
theorem d_W_init_45 : decode prog_1_method_1_code 45 = .ok (.iconst 1, 1) := by decide +kernel
theorem d_W_init_46 : decode prog_1_method_1_code 46 = .ok (.goto 4, 3) := by decide +kernel
theorem d_W_init_49 : decode prog_1_method_1_code 49 = .ok (.iconst 0, 1) := by decide +kernel
theorem d_W_init_50 : decode prog_1_method_1_code 50 = .ok (.iastore, 1) := by decide +kernel
theorem d_W_init_51 : decode prog_1_method_1_code 51 = .ok (.iinc 2 1, 3) := by decide +kernel
theorem d_W_init_54 : decode prog_1_method_1_code 54 = .ok (.goto (-26), 3) := by decide +kernel
theorem d_W_init_57 : decode prog_1_method_1_code 57 = .ok (.aload_n 0, 1) := by decide +kernel
theorem d_W_init_58 : decode prog_1_method_1_code 58 = .ok (.iconst 3, 1) := by decide +kernel
theorem d_W_init_59 : decode prog_1_method_1_code 59 = .ok (.anewarray 20, 3) := by decide +kernel
theorem d_W_init_62 : decode prog_1_method_1_code 62 = .ok (.putfield 22, 3) := by decide +kernel
theorem d_W_init_65 : decode prog_1_method_1_code 65 = .ok (.iconst 0, 1) := by decide +kernel
theorem d_W_init_66 : decode prog_1_method_1_code 66 = .ok (.istore_n 2, 1) := by decide +kernel
theorem d_W_init_67 : decode prog_1_method_1_code 67 = .ok (.iload_n 2, 1) := by decide +kernel
theorem d_W_init_68 : decode prog_1_method_1_code 68 = .ok (.iconst 3, 1) := by decide +kernel
theorem d_W_init_69 : decode prog_1_method_1_code 69 = .ok (.if_icmp .ge 22, 3) := by decide +kernel
theorem d_W_init_72 : decode prog_1_method_1_code 72 = .ok (.aload_n 0, 1) := by decide +kernel
theorem d_W_init_73 : decode prog_1_method_1_code 73 = .ok (.getfield 22, 3) := by decide +kernel
theorem d_W_init_76 : decode prog_1_method_1_code 76 = .ok (.iload_n 2, 1) := by decide +kernel
theorem d_W_init_77 : decode prog_1_method_1_code 77 = .ok (.new 20, 3) := by decide +kernel
theorem d_W_init_80 : decode prog_1_method_1_code 80 = .ok (.dup, 1) := by decide +kernel
theorem d_W_init_81 : decode prog_1_method_1_code 81 = .ok (.invokespecial 26, 3) := by decide +kernel
theorem d_W_init_84 : decode prog_1_method_1_code 84 = .ok (.aastore, 1) := by decide +kernel
theorem d_W_init_85 : decode prog_1_method_1_code 85 = .ok (.iinc 2 1, 3) := by decide +kernel
theorem d_W_init_88 : decode prog_1_method_1_code 88 = .ok (.goto (-21), 3) := by decide +kernel
theorem d_W_init_91 : decode prog_1_method_1_code 91 = .ok (.aload_n 0, 1) := by decide +kernel
theorem d_W_init_92 : decode prog_1_method_1_code 92 = .ok (.new 27, 3) := by decide +kernel
theorem d_W_init_95 : decode prog_1_method_1_code 95 = .ok (.dup, 1) := by decide +kernel
theorem d_W_init_96 : decode prog_1_method_1_code 96 = .ok (.invokespecial 29, 3) := by decide +kernel
theorem d_W_init_99 : decode prog_1_method_1_code 99 = .ok (.putfield 30, 3) := by decide +kernel
theorem d_W_init_102 : decode prog_1_method_1_code 102 = .ok (.aload_n 0, 1) := by decide +kernel
theorem d_W_init_103 : decode prog_1_method_1_code 103 = .ok (.iconst 5, 1) := by decide +kernel
theorem d_W_init_104 : decode prog_1_method_1_code 104 = .ok (.newarray .int, 2) := by decide +kernel
theorem d_W_init_106 : decode prog_1_method_1_code 106 = .ok (.putfield 34, 3) := by decide +kernel
theorem d_W_init_109 : decode prog_1_method_1_code 109 = .ok (.aload_n 0, 1) := by decide +kernel
theorem d_W_init_110 : decode prog_1_method_1_code 110 = .ok (.iconst 0, 1) := by decide +kernel
theorem d_W_init_111 : decode prog_1_method_1_code 111 = .ok (.putfield 37, 3) := by decide +kernel
theorem d_W_init_114 : decode prog_1_method_1_code 114 = .ok (.aload_n 0, 1) := by decide +kernel
theorem d_W_init_115 : decode prog_1_method_1_code 115 = .ok (.iconst (-1), 1) := by decide +kernel
theorem d_W_init_116 : decode prog_1_method_1_code 116 = .ok (.putfield 41, 3) := by decide +kernel
theorem d_W_init_119 : decode prog_1_method_1_code 119 = .ok (.aload_n 0, 1) := by decide +kernel
theorem d_W_init_120 : decode prog_1_method_1_code 120 = .ok (.iconst 0, 1) := by decide +kernel
theorem d_W_init_121 : decode prog_1_method_1_code 121 = .ok (.putfield 44, 3) := by decide +kernel
theorem d_W_init_124 : decode prog_1_method_1_code 124 = .ok (.aload_n 0, 1) := by decide +kernel
theorem d_W_init_125 : decode prog_1_method_1_code 125 = .ok (.iconst 0, 1) := by decide +kernel
theorem d_W_init_126 : decode prog_1_method_1_code 126 = .ok (.putfield 47, 3) := by decide +kernel
theorem d_W_init_129 : decode prog_1_method_1_code 129 = .ok (.return_, 1) := by decide +kernel
theorem d_W_poke_0 : decode prog_1_method_2_code 0 = .ok (.aload_n 0, 1) := by decide +kernel
theorem d_W_poke_1 : decode prog_1_method_2_code 1 = .ok (.iload_n 1, 1) := by decide +kernel
theorem d_W_poke_2 : decode prog_1_method_2_code 2 = .ok (.invokevirtual 50, 3) := by decide +kernel
theorem d_W_poke_5 : decode prog_1_method_2_code 5 = .ok (.ifCond .ne 5, 3) := by decide +kernel
theorem d_W_poke_8 : decode prog_1_method_2_code 8 = .ok (.iconst 0, 1) := by decide +kernel
theorem d_W_poke_9 : decode prog_1_method_2_code 9 = .ok (.ireturn, 1) := by decide +kernel
theorem d_W_poke_10 : decode prog_1_method_2_code 10 = .ok (.aload_n 0, 1) := by decide +kernel
theorem d_W_poke_11 : decode prog_1_method_2_code 11 = .ok (.getfield 13, 3) := by decide +kernel
theorem d_W_poke_14 : decode prog_1_method_2_code 14 = .ok (.iload_n 1, 1) := by decide +kernel
theorem d_W_poke_15 : decode prog_1_method_2_code 15 = .ok (.iload_n 2, 1) := by decide +kernel
theorem d_W_poke_16 : decode prog_1_method_2_code 16 = .ok (.iastore, 1) := by decide +kernel
theorem d_W_poke_17 : decode prog_1_method_2_code 17 = .ok (.iconst 1, 1) := by decide +kernel
theorem d_W_poke_18 : decode prog_1_method_2_code 18 = .ok (.ireturn, 1) := by decide +kernel
theorem d_W_peek_0 : decode prog_1_method_3_code 0 = .ok (.aload_n 0, 1) := by decide +kernel
theorem d_W_peek_1 : decode prog_1_method_3_code 1 = .ok (.iload_n 1, 1) := by decide +kernel
theorem d_W_peek_2 : decode prog_1_method_3_code 2 = .ok (.invokevirtual 50, 3) := by decide +kernel
theorem d_W_peek_5 : decode prog_1_method_3_code 5 = .ok (.ifCond .eq 12, 3) := by decide +kernel
theorem d_W_peek_8 : decode prog_1_method_3_code 8 = .ok (.aload_n 0, 1) := by decide +kernel
theorem d_W_peek_9 : decode prog_1_method_3_code 9 = .ok (.getfield 13, 3) := by decide +kernel
theorem d_W_peek_12 : decode prog_1_method_3_code 12 = .ok (.iload_n 1, 1) := by decide +kernel
theorem d_W_peek_13 : decode prog_1_method_3_code 13 = .ok (.iaload, 1) := by decide +kernel
theorem d_W_peek_14 : decode prog_1_method_3_code 14 = .ok (.goto 4, 3) := by decide +kernel
theorem d_W_peek_17 : decode prog_1_method_3_code 17 = .ok (.iconst 0, 1) := by decide +kernel
theorem d_W_peek_18 : decode prog_1_method_3_code 18 = .ok (.ireturn, 1) := by decide +kernel
theorem d_W_bare_0 : decode prog_1_method_4_code 0 = .ok (.iload_n 1, 1) := by decide +kernel
theorem d_W_bare_1 : decode prog_1_method_4_code 1 = .ok (.invokestatic 54, 3) := by decide +kernel
theorem d_W_bare_4 : decode prog_1_method_4_code 4 = .ok (.ifCond .eq 12, 3) := by decide +kernel
theorem d_W_bare_7 : decode prog_1_method_4_code 7 = .ok (.aload_n 0, 1) := by decide +kernel
theorem d_W_bare_8 : decode prog_1_method_4_code 8 = .ok (.getfield 13, 3) := by decide +kernel
theorem d_W_bare_11 : decode prog_1_method_4_code 11 = .ok (.iload_n 1, 1) := by decide +kernel
theorem d_W_bare_12 : decode prog_1_method_4_code 12 = .ok (.iaload, 1) := by decide +kernel
theorem d_W_bare_13 : decode prog_1_method_4_code 13 = .ok (.goto 4, 3) := by decide +kernel
theorem d_W_bare_16 : decode prog_1_method_4_code 16 = .ok (.iconst 0, 1) := by decide +kernel
theorem d_W_bare_17 : decode prog_1_method_4_code 17 = .ok (.ireturn, 1) := by decide +kernel
theorem d_W_give_0 : decode prog_1_method_5_code 0 = .ok (.iload_n 1, 1) := by decide +kernel
theorem d_W_give_1 : decode prog_1_method_5_code 1 = .ok (.iconst 1, 1) := by decide +kernel
theorem d_W_give_2 : decode prog_1_method_5_code 2 = .ok (.if_icmp .lt 17, 3) := by decide +kernel
theorem d_W_give_5 : decode prog_1_method_5_code 5 = .ok (.iload_n 1, 1) := by decide +kernel
theorem d_W_give_6 : decode prog_1_method_5_code 6 = .ok (.bipush 8, 2) := by decide +kernel
theorem d_W_give_8 : decode prog_1_method_5_code 8 = .ok (.if_icmp .ge 11, 3) := by decide +kernel
theorem d_W_give_11 : decode prog_1_method_5_code 11 = .ok (.aload_n 0, 1) := by decide +kernel
theorem d_W_give_12 : decode prog_1_method_5_code 12 = .ok (.getfield 41, 3) := by decide +kernel
theorem d_W_give_15 : decode prog_1_method_5_code 15 = .ok (.iconst (-1), 1) := by decide +kernel
theorem d_W_give_16 : decode prog_1_method_5_code 16 = .ok (.if_icmp .eq 5, 3) := by decide +kernel
theorem d_W_give_19 : decode prog_1_method_5_code 19 = .ok (.iconst 0, 1) := by decide +kernel
theorem d_W_give_20 : decode prog_1_method_5_code 20 = .ok (.ireturn, 1) := by decide +kernel
theorem d_W_give_21 : decode prog_1_method_5_code 21 = .ok (.aload_n 0, 1) := by decide +kernel
theorem d_W_give_22 : decode prog_1_method_5_code 22 = .ok (.getfield 30, 3) := by decide +kernel
theorem d_W_give_25 : decode prog_1_method_5_code 25 = .ok (.iload_n 1, 1) := by decide +kernel
theorem d_W_give_26 : decode prog_1_method_5_code 26 = .ok (.iload_n 2, 1) := by decide +kernel
theorem d_W_give_27 : decode prog_1_method_5_code 27 = .ok (.invokevirtual 57, 3) := by decide +kernel
theorem d_W_give_30 : decode prog_1_method_5_code 30 = .ok (.iconst 1, 1) := by decide +kernel
theorem d_W_give_31 : decode prog_1_method_5_code 31 = .ok (.ireturn, 1) := by decide +kernel
theorem d_W_register_0 : decode prog_1_method_6_code 0 = .ok (.aload_n 0, 1) := by decide +kernel
theorem d_W_register_1 : decode prog_1_method_6_code 1 = .ok (.getfield 30, 3) := by decide +kernel
theorem d_W_register_4 : decode prog_1_method_6_code 4 = .ok (.iload_n 1, 1) := by decide +kernel
theorem d_W_register_5 : decode prog_1_method_6_code 5 = .ok (.invokevirtual 61, 3) := by decide +kernel
theorem d_W_register_8 : decode prog_1_method_6_code 8 = .ok (.ireturn, 1) := by decide +kernel
theorem d_W_pc_0 : decode prog_1_method_7_code 0 = .ok (.aload_n 0, 1) := by decide +kernel
theorem d_W_pc_1 : decode prog_1_method_7_code 1 = .ok (.getfield 30, 3) := by decide +kernel
theorem d_W_pc_4 : decode prog_1_method_7_code 4 = .ok (.getfield 65, 3) := by decide +kernel
theorem d_W_pc_7 : decode prog_1_method_7_code 7 = .ok (.ireturn, 1) := by decide +kernel
theorem d_W_boot_0 : decode prog_1_method_8_code 0 = .ok (.aload_n 0, 1) := by decide +kernel
theorem d_W_boot_1 : decode prog_1_method_8_code 1 = .ok (.getfield 41, 3) := by decide +kernel
theorem d_W_boot_4 : decode prog_1_method_8_code 4 = .ok (.iconst (-1), 1) := by decide +kernel
theorem d_W_boot_5 : decode prog_1_method_8_code 5 = .ok (.if_icmp .eq 5, 3) := by decide +kernel
theorem d_W_boot_8 : decode prog_1_method_8_code 8 = .ok (.iconst 0, 1) := by decide +kernel
theorem d_W_boot_9 : decode prog_1_method_8_code 9 = .ok (.ireturn, 1) := by decide +kernel
theorem d_W_boot_10 : decode prog_1_method_8_code 10 = .ok (.aload_n 0, 1) := by decide +kernel
theorem d_W_boot_11 : decode prog_1_method_8_code 11 = .ok (.getfield 30, 3) := by decide +kernel
theorem d_W_boot_14 : decode prog_1_method_8_code 14 = .ok (.iload_n 1, 1) := by decide +kernel
theorem d_W_boot_15 : decode prog_1_method_8_code 15 = .ok (.putfield 65, 3) := by decide +kernel
theorem d_W_boot_18 : decode prog_1_method_8_code 18 = .ok (.aload_n 0, 1) := by decide +kernel
theorem d_W_boot_19 : decode prog_1_method_8_code 19 = .ok (.iconst 0, 1) := by decide +kernel
theorem d_W_boot_20 : decode prog_1_method_8_code 20 = .ok (.putfield 37, 3) := by decide +kernel
theorem d_W_boot_23 : decode prog_1_method_8_code 23 = .ok (.iconst 1, 1) := by decide +kernel
theorem d_W_boot_24 : decode prog_1_method_8_code 24 = .ok (.ireturn, 1) := by decide +kernel
theorem d_W_halted_0 : decode prog_1_method_9_code 0 = .ok (.aload_n 0, 1) := by decide +kernel
theorem d_W_halted_1 : decode prog_1_method_9_code 1 = .ok (.getfield 37, 3) := by decide +kernel
theorem d_W_halted_4 : decode prog_1_method_9_code 4 = .ok (.ireturn, 1) := by decide +kernel
theorem d_W_call_0 : decode prog_1_method_10_code 0 = .ok (.aload_n 0, 1) := by decide +kernel
theorem d_W_call_1 : decode prog_1_method_10_code 1 = .ok (.getfield 41, 3) := by decide +kernel
theorem d_W_call_4 : decode prog_1_method_10_code 4 = .ok (.iconst (-1), 1) := by decide +kernel
theorem d_W_call_5 : decode prog_1_method_10_code 5 = .ok (.if_icmp .ne 15, 3) := by decide +kernel
theorem d_W_call_8 : decode prog_1_method_10_code 8 = .ok (.aload_n 0, 1) := by decide +kernel
theorem d_W_call_9 : decode prog_1_method_10_code 9 = .ok (.iload_n 1, 1) := by decide +kernel
theorem d_W_call_10 : decode prog_1_method_10_code 10 = .ok (.iload_n 2, 1) := by decide +kernel
theorem d_W_call_11 : decode prog_1_method_10_code 11 = .ok (.iload_n 3, 1) := by decide +kernel
theorem d_W_call_12 : decode prog_1_method_10_code 12 = .ok (.iload 4, 2) := by decide +kernel
theorem d_W_call_14 : decode prog_1_method_10_code 14 = .ok (.invokevirtual 68, 3) := by decide +kernel
theorem d_W_call_17 : decode prog_1_method_10_code 17 = .ok (.goto 5, 3) := by decide +kernel
theorem d_W_call_20 : decode prog_1_method_10_code 20 = .ok (.bipush (-6), 2) := by decide +kernel
theorem d_W_call_22 : decode prog_1_method_10_code 22 = .ok (.ireturn, 1) := by decide +kernel
theorem d_W_run_0 : decode prog_1_method_11_code 0 = .ok (.iload_n 1, 1) := by decide +kernel
theorem d_W_run_1 : decode prog_1_method_11_code 1 = .ok (.ifCond .lt 10, 3) := by decide +kernel
theorem d_W_run_4 : decode prog_1_method_11_code 4 = .ok (.iload_n 1, 1) := by decide +kernel
theorem d_W_run_5 : decode prog_1_method_11_code 5 = .ok (.sipush 1000, 3) := by decide +kernel
theorem d_W_run_8 : decode prog_1_method_11_code 8 = .ok (.if_icmp .le 5, 3) := by decide +kernel
theorem d_W_run_11 : decode prog_1_method_11_code 11 = .ok (.iconst 0, 1) := by decide +kernel
theorem d_W_run_12 : decode prog_1_method_11_code 12 = .ok (.ireturn, 1) := by decide +kernel
theorem d_W_run_13 : decode prog_1_method_11_code 13 = .ok (.iconst 0, 1) := by decide +kernel
theorem d_W_run_14 : decode prog_1_method_11_code 14 = .ok (.istore_n 2, 1) := by decide +kernel
theorem d_W_run_15 : decode prog_1_method_11_code 15 = .ok (.iload_n 2, 1) := by decide +kernel
theorem d_W_run_16 : decode prog_1_method_11_code 16 = .ok (.iload_n 1, 1) := by decide +kernel
theorem d_W_run_17 : decode prog_1_method_11_code 17 = .ok (.if_icmp .ge 30, 3) := by decide +kernel
theorem d_W_run_20 : decode prog_1_method_11_code 20 = .ok (.aload_n 0, 1) := by decide +kernel
theorem d_W_run_21 : decode prog_1_method_11_code 21 = .ok (.getfield 37, 3) := by decide +kernel
theorem d_W_run_24 : decode prog_1_method_11_code 24 = .ok (.ifCond .eq 13, 3) := by decide +kernel
theorem d_W_run_27 : decode prog_1_method_11_code 27 = .ok (.aload_n 0, 1) := by decide +kernel
theorem d_W_run_28 : decode prog_1_method_11_code 28 = .ok (.getfield 41, 3) := by decide +kernel
theorem d_W_run_31 : decode prog_1_method_11_code 31 = .ok (.iconst (-1), 1) := by decide +kernel
theorem d_W_run_32 : decode prog_1_method_11_code 32 = .ok (.if_icmp .ne 5, 3) := by decide +kernel
theorem d_W_run_35 : decode prog_1_method_11_code 35 = .ok (.iload_n 2, 1) := by decide +kernel
theorem d_W_run_36 : decode prog_1_method_11_code 36 = .ok (.ireturn, 1) := by decide +kernel
theorem d_W_run_37 : decode prog_1_method_11_code 37 = .ok (.aload_n 0, 1) := by decide +kernel
theorem d_W_run_38 : decode prog_1_method_11_code 38 = .ok (.invokevirtual 72, 3) := by decide +kernel
theorem d_W_run_41 : decode prog_1_method_11_code 41 = .ok (.iinc 2 1, 3) := by decide +kernel
theorem d_W_run_44 : decode prog_1_method_11_code 44 = .ok (.goto (-29), 3) := by decide +kernel
theorem d_W_run_47 : decode prog_1_method_11_code 47 = .ok (.iload_n 1, 1) := by decide +kernel
theorem d_W_run_48 : decode prog_1_method_11_code 48 = .ok (.ireturn, 1) := by decide +kernel
theorem d_W_period_0 : decode prog_1_method_12_code 0 = .ok (.aload_n 0, 1) := by decide +kernel
theorem d_W_period_1 : decode prog_1_method_12_code 1 = .ok (.iload_n 1, 1) := by decide +kernel
theorem d_W_period_2 : decode prog_1_method_12_code 2 = .ok (.putfield 44, 3) := by decide +kernel
theorem d_W_period_5 : decode prog_1_method_12_code 5 = .ok (.return_, 1) := by decide +kernel
theorem d_W_tick_0 : decode prog_1_method_13_code 0 = .ok (.aload_n 0, 1) := by decide +kernel
theorem d_W_tick_1 : decode prog_1_method_13_code 1 = .ok (.getfield 47, 3) := by decide +kernel
theorem d_W_tick_4 : decode prog_1_method_13_code 4 = .ok (.ireturn, 1) := by decide +kernel
theorem d_W_running_0 : decode prog_1_method_14_code 0 = .ok (.aload_n 0, 1) := by decide +kernel
theorem d_W_running_1 : decode prog_1_method_14_code 1 = .ok (.getfield 41, 3) := by decide +kernel
theorem d_W_running_4 : decode prog_1_method_14_code 4 = .ok (.ireturn, 1) := by decide +kernel
theorem d_W_region_0 : decode prog_1_method_15_code 0 = .ok (.iload_n 1, 1) := by decide +kernel
theorem d_W_region_1 : decode prog_1_method_15_code 1 = .ok (.invokestatic 75, 3) := by decide +kernel
theorem d_W_region_4 : decode prog_1_method_15_code 4 = .ok (.ifCond .eq 12, 3) := by decide +kernel
theorem d_W_region_7 : decode prog_1_method_15_code 7 = .ok (.aload_n 0, 1) := by decide +kernel
theorem d_W_region_8 : decode prog_1_method_15_code 8 = .ok (.getfield 17, 3) := by decide +kernel
theorem d_W_region_11 : decode prog_1_method_15_code 11 = .ok (.iload_n 1, 1) := by decide +kernel
theorem d_W_region_12 : decode prog_1_method_15_code 12 = .ok (.iaload, 1) := by decide +kernel
theorem d_W_region_13 : decode prog_1_method_15_code 13 = .ok (.goto 4, 3) := by decide +kernel
theorem d_W_region_16 : decode prog_1_method_15_code 16 = .ok (.iconst (-1), 1) := by decide +kernel
theorem d_W_region_17 : decode prog_1_method_15_code 17 = .ok (.ireturn, 1) := by decide +kernel
theorem d_W_enclave_0 : decode prog_1_method_16_code 0 = .ok (.iload_n 1, 1) := by decide +kernel
theorem d_W_enclave_1 : decode prog_1_method_16_code 1 = .ok (.invokestatic 78, 3) := by decide +kernel
theorem d_W_enclave_4 : decode prog_1_method_16_code 4 = .ok (.ifCond .eq 15, 3) := by decide +kernel
theorem d_W_enclave_7 : decode prog_1_method_16_code 7 = .ok (.aload_n 0, 1) := by decide +kernel
theorem d_W_enclave_8 : decode prog_1_method_16_code 8 = .ok (.getfield 22, 3) := by decide +kernel
theorem d_W_enclave_11 : decode prog_1_method_16_code 11 = .ok (.iload_n 1, 1) := by decide +kernel
theorem d_W_enclave_12 : decode prog_1_method_16_code 12 = .ok (.aaload, 1) := by decide +kernel
theorem d_W_enclave_13 : decode prog_1_method_16_code 13 = .ok (.getfield 81, 3) := by decide +kernel
theorem d_W_enclave_16 : decode prog_1_method_16_code 16 = .ok (.goto 4, 3) := by decide +kernel
theorem d_W_enclave_19 : decode prog_1_method_16_code 19 = .ok (.iconst (-1), 1) := by decide +kernel
theorem d_W_enclave_20 : decode prog_1_method_16_code 20 = .ok (.ireturn, 1) := by decide +kernel
theorem d_W_thread_0 : decode prog_1_method_17_code 0 = .ok (.iload_n 1, 1) := by decide +kernel
theorem d_W_thread_1 : decode prog_1_method_17_code 1 = .ok (.invokestatic 78, 3) := by decide +kernel
theorem d_W_thread_4 : decode prog_1_method_17_code 4 = .ok (.ifCond .eq 27, 3) := by decide +kernel
theorem d_W_thread_7 : decode prog_1_method_17_code 7 = .ok (.iload_n 2, 1) := by decide +kernel
theorem d_W_thread_8 : decode prog_1_method_17_code 8 = .ok (.invokestatic 84, 3) := by decide +kernel
theorem d_W_thread_11 : decode prog_1_method_17_code 11 = .ok (.ifCond .eq 20, 3) := by decide +kernel
theorem d_W_thread_14 : decode prog_1_method_17_code 14 = .ok (.aload_n 0, 1) := by decide +kernel
theorem d_W_thread_15 : decode prog_1_method_17_code 15 = .ok (.getfield 22, 3) := by decide +kernel
theorem d_W_thread_18 : decode prog_1_method_17_code 18 = .ok (.iload_n 1, 1) := by decide +kernel
theorem d_W_thread_19 : decode prog_1_method_17_code 19 = .ok (.aaload, 1) := by decide +kernel
theorem d_W_thread_20 : decode prog_1_method_17_code 20 = .ok (.getfield 87, 3) := by decide +kernel
theorem d_W_thread_23 : decode prog_1_method_17_code 23 = .ok (.iload_n 2, 1) := by decide +kernel
theorem d_W_thread_24 : decode prog_1_method_17_code 24 = .ok (.aaload, 1) := by decide +kernel
theorem d_W_thread_25 : decode prog_1_method_17_code 25 = .ok (.getfield 91, 3) := by decide +kernel
theorem d_W_thread_28 : decode prog_1_method_17_code 28 = .ok (.goto 4, 3) := by decide +kernel
theorem d_W_thread_31 : decode prog_1_method_17_code 31 = .ok (.iconst 0, 1) := by decide +kernel
theorem d_W_thread_32 : decode prog_1_method_17_code 32 = .ok (.ireturn, 1) := by decide +kernel
theorem d_W_kept_0 : decode prog_1_method_18_code 0 = .ok (.iload_n 1, 1) := by decide +kernel
theorem d_W_kept_1 : decode prog_1_method_18_code 1 = .ok (.invokestatic 78, 3) := by decide +kernel
theorem d_W_kept_4 : decode prog_1_method_18_code 4 = .ok (.ifCond .eq 10, 3) := by decide +kernel
theorem d_W_kept_7 : decode prog_1_method_18_code 7 = .ok (.iload_n 2, 1) := by decide +kernel
theorem d_W_kept_8 : decode prog_1_method_18_code 8 = .ok (.invokestatic 84, 3) := by decide +kernel
theorem d_W_kept_11 : decode prog_1_method_18_code 11 = .ok (.ifCond .ne 5, 3) := by decide +kernel
theorem d_W_kept_14 : decode prog_1_method_18_code 14 = .ok (.iconst 0, 1) := by decide +kernel
theorem d_W_kept_15 : decode prog_1_method_18_code 15 = .ok (.ireturn, 1) := by decide +kernel
theorem d_W_kept_16 : decode prog_1_method_18_code 16 = .ok (.aload_n 0, 1) := by decide +kernel
theorem d_W_kept_17 : decode prog_1_method_18_code 17 = .ok (.getfield 22, 3) := by decide +kernel
theorem d_W_kept_20 : decode prog_1_method_18_code 20 = .ok (.iload_n 1, 1) := by decide +kernel
theorem d_W_kept_21 : decode prog_1_method_18_code 21 = .ok (.aaload, 1) := by decide +kernel
theorem d_W_kept_22 : decode prog_1_method_18_code 22 = .ok (.getfield 87, 3) := by decide +kernel
theorem d_W_kept_25 : decode prog_1_method_18_code 25 = .ok (.iload_n 2, 1) := by decide +kernel
theorem d_W_kept_26 : decode prog_1_method_18_code 26 = .ok (.aaload, 1) := by decide +kernel
theorem d_W_kept_27 : decode prog_1_method_18_code 27 = .ok (.astore 4, 2) := by decide +kernel
theorem d_W_kept_29 : decode prog_1_method_18_code 29 = .ok (.aload 4, 2) := by decide +kernel
theorem d_W_kept_31 : decode prog_1_method_18_code 31 = .ok (.getfield 91, 3) := by decide +kernel
theorem d_W_kept_34 : decode prog_1_method_18_code 34 = .ok (.iconst 2, 1) := by decide +kernel
theorem d_W_kept_35 : decode prog_1_method_18_code 35 = .ok (.if_icmp .eq 14, 3) := by decide +kernel
theorem d_W_kept_38 : decode prog_1_method_18_code 38 = .ok (.aload 4, 2) := by decide +kernel
theorem d_W_kept_40 : decode prog_1_method_18_code 40 = .ok (.getfield 91, 3) := by decide +kernel
theorem d_W_kept_43 : decode prog_1_method_18_code 43 = .ok (.iconst 3, 1) := by decide +kernel
theorem d_W_kept_44 : decode prog_1_method_18_code 44 = .ok (.if_icmp .eq 5, 3) := by decide +kernel
theorem d_W_kept_47 : decode prog_1_method_18_code 47 = .ok (.iconst 0, 1) := by decide +kernel
theorem d_W_kept_48 : decode prog_1_method_18_code 48 = .ok (.ireturn, 1) := by decide +kernel
theorem d_W_kept_49 : decode prog_1_method_18_code 49 = .ok (.iload_n 3, 1) := by decide +kernel
theorem d_W_kept_50 : decode prog_1_method_18_code 50 = .ok (.bipush 8, 2) := by decide +kernel
theorem d_W_kept_52 : decode prog_1_method_18_code 52 = .ok (.if_icmp .ne 14, 3) := by decide +kernel
theorem d_W_kept_55 : decode prog_1_method_18_code 55 = .ok (.aload 4, 2) := by decide +kernel
theorem d_W_kept_57 : decode prog_1_method_18_code 57 = .ok (.getfield 94, 3) := by decide +kernel
theorem d_W_kept_60 : decode prog_1_method_18_code 60 = .ok (.getfield 65, 3) := by decide +kernel
theorem d_W_kept_63 : decode prog_1_method_18_code 63 = .ok (.goto 12, 3) := by decide +kernel
theorem d_W_kept_66 : decode prog_1_method_18_code 66 = .ok (.aload 4, 2) := by decide +kernel
theorem d_W_kept_68 : decode prog_1_method_18_code 68 = .ok (.getfield 94, 3) := by decide +kernel
theorem d_W_kept_71 : decode prog_1_method_18_code 71 = .ok (.iload_n 3, 1) := by decide +kernel
theorem d_W_kept_72 : decode prog_1_method_18_code 72 = .ok (.invokevirtual 61, 3) := by decide +kernel
theorem d_W_kept_75 : decode prog_1_method_18_code 75 = .ok (.ireturn, 1) := by decide +kernel
theorem d_W_measure_0 : decode prog_1_method_19_code 0 = .ok (.iload_n 1, 1) := by decide +kernel
theorem d_W_measure_1 : decode prog_1_method_19_code 1 = .ok (.invokestatic 78, 3) := by decide +kernel
theorem d_W_measure_4 : decode prog_1_method_19_code 4 = .ok (.ifCond .eq 15, 3) := by decide +kernel
theorem d_W_measure_7 : decode prog_1_method_19_code 7 = .ok (.aload_n 0, 1) := by decide +kernel
theorem d_W_measure_8 : decode prog_1_method_19_code 8 = .ok (.getfield 22, 3) := by decide +kernel
theorem d_W_measure_11 : decode prog_1_method_19_code 11 = .ok (.iload_n 1, 1) := by decide +kernel
theorem d_W_measure_12 : decode prog_1_method_19_code 12 = .ok (.aaload, 1) := by decide +kernel
theorem d_W_measure_13 : decode prog_1_method_19_code 13 = .ok (.getfield 97, 3) := by decide +kernel
theorem d_W_measure_16 : decode prog_1_method_19_code 16 = .ok (.goto 4, 3) := by decide +kernel
theorem d_W_measure_19 : decode prog_1_method_19_code 19 = .ok (.iconst 0, 1) := by decide +kernel
theorem d_W_measure_20 : decode prog_1_method_19_code 20 = .ok (.ireturn, 1) := by decide +kernel
theorem d_W_vouch_0 : decode prog_1_method_20_code 0 = .ok (.aload_n 0, 1) := by decide +kernel
theorem d_W_vouch_1 : decode prog_1_method_20_code 1 = .ok (.iload_n 1, 1) := by decide +kernel
theorem d_W_vouch_2 : decode prog_1_method_20_code 2 = .ok (.iload_n 2, 1) := by decide +kernel
theorem d_W_vouch_3 : decode prog_1_method_20_code 3 = .ok (.invokevirtual 100, 3) := by decide +kernel
theorem d_W_vouch_6 : decode prog_1_method_20_code 6 = .ok (.iload_n 3, 1) := by decide +kernel
theorem d_W_vouch_7 : decode prog_1_method_20_code 7 = .ok (.if_icmp .ne 7, 3) := by decide +kernel
theorem d_W_vouch_10 : decode prog_1_method_20_code 10 = .ok (.iconst 1, 1) := by decide +kernel
theorem d_W_vouch_11 : decode prog_1_method_20_code 11 = .ok (.goto 4, 3) := by decide +kernel
theorem d_W_vouch_14 : decode prog_1_method_20_code 14 = .ok (.iconst 0, 1) := by decide +kernel
theorem d_W_vouch_15 : decode prog_1_method_20_code 15 = .ok (.ireturn, 1) := by decide +kernel
theorem d_W_exit_0 : decode prog_1_method_21_code 0 = .ok (.iload_n 1, 1) := by decide +kernel
theorem d_W_exit_1 : decode prog_1_method_21_code 1 = .ok (.ifCond .lt 21, 3) := by decide +kernel
theorem d_W_exit_4 : decode prog_1_method_21_code 4 = .ok (.iload_n 1, 1) := by decide +kernel
theorem d_W_exit_5 : decode prog_1_method_21_code 5 = .ok (.aload_n 0, 1) := by decide +kernel
theorem d_W_exit_6 : decode prog_1_method_21_code 6 = .ok (.getfield 34, 3) := by decide +kernel
theorem d_W_exit_9 : decode prog_1_method_21_code 9 = .ok (.arraylength, 1) := by decide +kernel
theorem d_W_exit_10 : decode prog_1_method_21_code 10 = .ok (.if_icmp .ge 12, 3) := by decide +kernel
theorem d_W_exit_13 : decode prog_1_method_21_code 13 = .ok (.aload_n 0, 1) := by decide +kernel
theorem d_W_exit_14 : decode prog_1_method_21_code 14 = .ok (.getfield 34, 3) := by decide +kernel
theorem d_W_exit_17 : decode prog_1_method_21_code 17 = .ok (.iload_n 1, 1) := by decide +kernel
theorem d_W_exit_18 : decode prog_1_method_21_code 18 = .ok (.iaload, 1) := by decide +kernel
theorem d_W_exit_19 : decode prog_1_method_21_code 19 = .ok (.goto 4, 3) := by decide +kernel
theorem d_W_exit_22 : decode prog_1_method_21_code 22 = .ok (.iconst 0, 1) := by decide +kernel
theorem d_W_exit_23 : decode prog_1_method_21_code 23 = .ok (.ireturn, 1) := by decide +kernel
theorem d_W_isAddress_0 : decode prog_1_method_22_code 0 = .ok (.iload_n 0, 1) := by decide +kernel
theorem d_W_isAddress_1 : decode prog_1_method_22_code 1 = .ok (.ifCond .lt 14, 3) := by decide +kernel
theorem d_W_isAddress_4 : decode prog_1_method_22_code 4 = .ok (.iload_n 0, 1) := by decide +kernel
theorem d_W_isAddress_5 : decode prog_1_method_22_code 5 = .ok (.sipush 256, 3) := by decide +kernel
theorem d_W_isAddress_8 : decode prog_1_method_22_code 8 = .ok (.if_icmp .ge 7, 3) := by decide +kernel
theorem d_W_isAddress_11 : decode prog_1_method_22_code 11 = .ok (.iconst 1, 1) := by decide +kernel
theorem d_W_isAddress_12 : decode prog_1_method_22_code 12 = .ok (.goto 4, 3) := by decide +kernel
theorem d_W_isAddress_15 : decode prog_1_method_22_code 15 = .ok (.iconst 0, 1) := by decide +kernel
theorem d_W_isAddress_16 : decode prog_1_method_22_code 16 = .ok (.ireturn, 1) := by decide +kernel
theorem d_W_isRegion_0 : decode prog_1_method_23_code 0 = .ok (.iload_n 0, 1) := by decide +kernel
theorem d_W_isRegion_1 : decode prog_1_method_23_code 1 = .ok (.ifCond .lt 13, 3) := by decide +kernel
theorem d_W_isRegion_4 : decode prog_1_method_23_code 4 = .ok (.iload_n 0, 1) := by decide +kernel
theorem d_W_isRegion_5 : decode prog_1_method_23_code 5 = .ok (.bipush 16, 2) := by decide +kernel
theorem d_W_isRegion_7 : decode prog_1_method_23_code 7 = .ok (.if_icmp .ge 7, 3) := by decide +kernel
theorem d_W_isRegion_10 : decode prog_1_method_23_code 10 = .ok (.iconst 1, 1) := by decide +kernel
theorem d_W_isRegion_11 : decode prog_1_method_23_code 11 = .ok (.goto 4, 3) := by decide +kernel
theorem d_W_isRegion_14 : decode prog_1_method_23_code 14 = .ok (.iconst 0, 1) := by decide +kernel
theorem d_W_isRegion_15 : decode prog_1_method_23_code 15 = .ok (.ireturn, 1) := by decide +kernel
theorem d_W_isEnclave_0 : decode prog_1_method_24_code 0 = .ok (.iload_n 0, 1) := by decide +kernel
theorem d_W_isEnclave_1 : decode prog_1_method_24_code 1 = .ok (.ifCond .lt 12, 3) := by decide +kernel
theorem d_W_isEnclave_4 : decode prog_1_method_24_code 4 = .ok (.iload_n 0, 1) := by decide +kernel
theorem d_W_isEnclave_5 : decode prog_1_method_24_code 5 = .ok (.iconst 3, 1) := by decide +kernel
theorem d_W_isEnclave_6 : decode prog_1_method_24_code 6 = .ok (.if_icmp .ge 7, 3) := by decide +kernel
theorem d_W_isEnclave_9 : decode prog_1_method_24_code 9 = .ok (.iconst 1, 1) := by decide +kernel
theorem d_W_isEnclave_10 : decode prog_1_method_24_code 10 = .ok (.goto 4, 3) := by decide +kernel
theorem d_W_isEnclave_13 : decode prog_1_method_24_code 13 = .ok (.iconst 0, 1) := by decide +kernel
theorem d_W_isEnclave_14 : decode prog_1_method_24_code 14 = .ok (.ireturn, 1) := by decide +kernel
theorem d_W_isThread_0 : decode prog_1_method_25_code 0 = .ok (.iload_n 0, 1) := by decide +kernel
theorem d_W_isThread_1 : decode prog_1_method_25_code 1 = .ok (.ifCond .lt 12, 3) := by decide +kernel
theorem d_W_isThread_4 : decode prog_1_method_25_code 4 = .ok (.iload_n 0, 1) := by decide +kernel
theorem d_W_isThread_5 : decode prog_1_method_25_code 5 = .ok (.iconst 2, 1) := by decide +kernel
theorem d_W_isThread_6 : decode prog_1_method_25_code 6 = .ok (.if_icmp .ge 7, 3) := by decide +kernel
theorem d_W_isThread_9 : decode prog_1_method_25_code 9 = .ok (.iconst 1, 1) := by decide +kernel
theorem d_W_isThread_10 : decode prog_1_method_25_code 10 = .ok (.goto 4, 3) := by decide +kernel
theorem d_W_isThread_13 : decode prog_1_method_25_code 13 = .ok (.iconst 0, 1) := by decide +kernel
theorem d_W_isThread_14 : decode prog_1_method_25_code 14 = .ok (.ireturn, 1) := by decide +kernel
theorem d_W_mix_0 : decode prog_1_method_26_code 0 = .ok (.iload_n 0, 1) := by decide +kernel
theorem d_W_mix_1 : decode prog_1_method_26_code 1 = .ok (.iload_n 1, 1) := by decide +kernel
theorem d_W_mix_2 : decode prog_1_method_26_code 2 = .ok (.ixor, 1) := by decide +kernel
theorem d_W_mix_3 : decode prog_1_method_26_code 3 = .ok (.ldc 104, 2) := by decide +kernel
theorem d_W_mix_5 : decode prog_1_method_26_code 5 = .ok (.imul, 1) := by decide +kernel
theorem d_W_mix_6 : decode prog_1_method_26_code 6 = .ok (.istore_n 2, 1) := by decide +kernel
theorem d_W_mix_7 : decode prog_1_method_26_code 7 = .ok (.iload_n 2, 1) := by decide +kernel
theorem d_W_mix_8 : decode prog_1_method_26_code 8 = .ok (.iload_n 2, 1) := by decide +kernel
theorem d_W_mix_9 : decode prog_1_method_26_code 9 = .ok (.bipush 15, 2) := by decide +kernel
theorem d_W_mix_11 : decode prog_1_method_26_code 11 = .ok (.iushr, 1) := by decide +kernel
theorem d_W_mix_12 : decode prog_1_method_26_code 12 = .ok (.ixor, 1) := by decide +kernel
theorem d_W_mix_13 : decode prog_1_method_26_code 13 = .ok (.ireturn, 1) := by decide +kernel
theorem d_W_macOf_0 : decode prog_1_method_27_code 0 = .ok (.aload_n 0, 1) := by decide +kernel
theorem d_W_macOf_1 : decode prog_1_method_27_code 1 = .ok (.getfield 7, 3) := by decide +kernel
theorem d_W_macOf_4 : decode prog_1_method_27_code 4 = .ok (.iload_n 1, 1) := by decide +kernel
theorem d_W_macOf_5 : decode prog_1_method_27_code 5 = .ok (.invokestatic 105, 3) := by decide +kernel
theorem d_W_macOf_8 : decode prog_1_method_27_code 8 = .ok (.iload_n 2, 1) := by decide +kernel
theorem d_W_macOf_9 : decode prog_1_method_27_code 9 = .ok (.invokestatic 105, 3) := by decide +kernel
theorem d_W_macOf_12 : decode prog_1_method_27_code 12 = .ok (.aload_n 0, 1) := by decide +kernel
theorem d_W_macOf_13 : decode prog_1_method_27_code 13 = .ok (.getfield 7, 3) := by decide +kernel
theorem d_W_macOf_16 : decode prog_1_method_27_code 16 = .ok (.invokestatic 105, 3) := by decide +kernel
theorem d_W_macOf_19 : decode prog_1_method_27_code 19 = .ok (.ireturn, 1) := by decide +kernel
theorem d_W_systemMayUse_0 : decode prog_1_method_28_code 0 = .ok (.iload_n 1, 1) := by decide +kernel
theorem d_W_systemMayUse_1 : decode prog_1_method_28_code 1 = .ok (.invokestatic 54, 3) := by decide +kernel
theorem d_W_systemMayUse_4 : decode prog_1_method_28_code 4 = .ok (.ifCond .ne 5, 3) := by decide +kernel
theorem d_W_systemMayUse_7 : decode prog_1_method_28_code 7 = .ok (.iconst 0, 1) := by decide +kernel
theorem d_W_systemMayUse_8 : decode prog_1_method_28_code 8 = .ok (.ireturn, 1) := by decide +kernel
theorem d_W_systemMayUse_9 : decode prog_1_method_28_code 9 = .ok (.aload_n 0, 1) := by decide +kernel
theorem d_W_systemMayUse_10 : decode prog_1_method_28_code 10 = .ok (.getfield 17, 3) := by decide +kernel
theorem d_W_systemMayUse_13 : decode prog_1_method_28_code 13 = .ok (.iload_n 1, 1) := by decide +kernel
theorem d_W_systemMayUse_14 : decode prog_1_method_28_code 14 = .ok (.bipush 16, 2) := by decide +kernel
theorem d_W_systemMayUse_16 : decode prog_1_method_28_code 16 = .ok (.idiv, 1) := by decide +kernel
theorem d_W_systemMayUse_17 : decode prog_1_method_28_code 17 = .ok (.iaload, 1) := by decide +kernel
theorem d_W_systemMayUse_18 : decode prog_1_method_28_code 18 = .ok (.istore_n 2, 1) := by decide +kernel
theorem d_W_systemMayUse_19 : decode prog_1_method_28_code 19 = .ok (.iload_n 2, 1) := by decide +kernel
theorem d_W_systemMayUse_20 : decode prog_1_method_28_code 20 = .ok (.iconst 1, 1) := by decide +kernel
theorem d_W_systemMayUse_21 : decode prog_1_method_28_code 21 = .ok (.if_icmp .eq 8, 3) := by decide +kernel
theorem d_W_systemMayUse_24 : decode prog_1_method_28_code 24 = .ok (.iload_n 2, 1) := by decide +kernel
theorem d_W_systemMayUse_25 : decode prog_1_method_28_code 25 = .ok (.iconst 5, 1) := by decide +kernel
theorem d_W_systemMayUse_26 : decode prog_1_method_28_code 26 = .ok (.if_icmp .lt 7, 3) := by decide +kernel
theorem d_W_systemMayUse_29 : decode prog_1_method_28_code 29 = .ok (.iconst 1, 1) := by decide +kernel
theorem d_W_systemMayUse_30 : decode prog_1_method_28_code 30 = .ok (.goto 4, 3) := by decide +kernel
theorem d_W_systemMayUse_33 : decode prog_1_method_28_code 33 = .ok (.iconst 0, 1) := by decide +kernel
theorem d_W_systemMayUse_34 : decode prog_1_method_28_code 34 = .ok (.ireturn, 1) := by decide +kernel
theorem d_W_enclaveMayUse_0 : decode prog_1_method_29_code 0 = .ok (.iload_n 2, 1) := by decide +kernel
theorem d_W_enclaveMayUse_1 : decode prog_1_method_29_code 1 = .ok (.invokestatic 54, 3) := by decide +kernel
theorem d_W_enclaveMayUse_4 : decode prog_1_method_29_code 4 = .ok (.ifCond .ne 5, 3) := by decide +kernel
theorem d_W_enclaveMayUse_7 : decode prog_1_method_29_code 7 = .ok (.iconst 0, 1) := by decide +kernel
theorem d_W_enclaveMayUse_8 : decode prog_1_method_29_code 8 = .ok (.ireturn, 1) := by decide +kernel
theorem d_W_enclaveMayUse_9 : decode prog_1_method_29_code 9 = .ok (.aload_n 0, 1) := by decide +kernel
theorem d_W_enclaveMayUse_10 : decode prog_1_method_29_code 10 = .ok (.getfield 17, 3) := by decide +kernel
theorem d_W_enclaveMayUse_13 : decode prog_1_method_29_code 13 = .ok (.iload_n 2, 1) := by decide +kernel
theorem d_W_enclaveMayUse_14 : decode prog_1_method_29_code 14 = .ok (.bipush 16, 2) := by decide +kernel
theorem d_W_enclaveMayUse_16 : decode prog_1_method_29_code 16 = .ok (.idiv, 1) := by decide +kernel
theorem d_W_enclaveMayUse_17 : decode prog_1_method_29_code 17 = .ok (.iaload, 1) := by decide +kernel
theorem d_W_enclaveMayUse_18 : decode prog_1_method_29_code 18 = .ok (.istore_n 3, 1) := by decide +kernel
theorem d_W_enclaveMayUse_19 : decode prog_1_method_29_code 19 = .ok (.iload_n 3, 1) := by decide +kernel
theorem d_W_enclaveMayUse_20 : decode prog_1_method_29_code 20 = .ok (.iconst 2, 1) := by decide +kernel
theorem d_W_enclaveMayUse_21 : decode prog_1_method_29_code 21 = .ok (.iload_n 1, 1) := by decide +kernel
theorem d_W_enclaveMayUse_22 : decode prog_1_method_29_code 22 = .ok (.iadd, 1) := by decide +kernel
theorem d_W_enclaveMayUse_23 : decode prog_1_method_29_code 23 = .ok (.if_icmp .eq 10, 3) := by decide +kernel
theorem d_W_enclaveMayUse_26 : decode prog_1_method_29_code 26 = .ok (.iload_n 3, 1) := by decide +kernel
theorem d_W_enclaveMayUse_27 : decode prog_1_method_29_code 27 = .ok (.iconst 5, 1) := by decide +kernel
theorem d_W_enclaveMayUse_28 : decode prog_1_method_29_code 28 = .ok (.iload_n 1, 1) := by decide +kernel
theorem d_W_enclaveMayUse_29 : decode prog_1_method_29_code 29 = .ok (.iadd, 1) := by decide +kernel
theorem d_W_enclaveMayUse_30 : decode prog_1_method_29_code 30 = .ok (.if_icmp .ne 7, 3) := by decide +kernel
theorem d_W_enclaveMayUse_33 : decode prog_1_method_29_code 33 = .ok (.iconst 1, 1) := by decide +kernel
theorem d_W_enclaveMayUse_34 : decode prog_1_method_29_code 34 = .ok (.goto 4, 3) := by decide +kernel
theorem d_W_enclaveMayUse_37 : decode prog_1_method_29_code 37 = .ok (.iconst 0, 1) := by decide +kernel
theorem d_W_enclaveMayUse_38 : decode prog_1_method_29_code 38 = .ok (.ireturn, 1) := by decide +kernel
theorem d_W_runnerMayUse_0 : decode prog_1_method_30_code 0 = .ok (.aload_n 0, 1) := by decide +kernel
theorem d_W_runnerMayUse_1 : decode prog_1_method_30_code 1 = .ok (.getfield 41, 3) := by decide +kernel
theorem d_W_runnerMayUse_4 : decode prog_1_method_30_code 4 = .ok (.iconst (-1), 1) := by decide +kernel
theorem d_W_runnerMayUse_5 : decode prog_1_method_30_code 5 = .ok (.if_icmp .ne 11, 3) := by decide +kernel
theorem d_W_runnerMayUse_8 : decode prog_1_method_30_code 8 = .ok (.aload_n 0, 1) := by decide +kernel
theorem d_W_runnerMayUse_9 : decode prog_1_method_30_code 9 = .ok (.iload_n 1, 1) := by decide +kernel
theorem d_W_runnerMayUse_10 : decode prog_1_method_30_code 10 = .ok (.invokevirtual 50, 3) := by decide +kernel
theorem d_W_runnerMayUse_13 : decode prog_1_method_30_code 13 = .ok (.goto 14, 3) := by decide +kernel
theorem d_W_runnerMayUse_16 : decode prog_1_method_30_code 16 = .ok (.aload_n 0, 1) := by decide +kernel
theorem d_W_runnerMayUse_17 : decode prog_1_method_30_code 17 = .ok (.aload_n 0, 1) := by decide +kernel
theorem d_W_runnerMayUse_18 : decode prog_1_method_30_code 18 = .ok (.getfield 41, 3) := by decide +kernel
theorem d_W_runnerMayUse_21 : decode prog_1_method_30_code 21 = .ok (.iconst 2, 1) := by decide +kernel
theorem d_W_runnerMayUse_22 : decode prog_1_method_30_code 22 = .ok (.idiv, 1) := by decide +kernel
theorem d_W_runnerMayUse_23 : decode prog_1_method_30_code 23 = .ok (.iload_n 1, 1) := by decide +kernel
theorem d_W_runnerMayUse_24 : decode prog_1_method_30_code 24 = .ok (.invokevirtual 108, 3) := by decide +kernel
theorem d_W_runnerMayUse_27 : decode prog_1_method_30_code 27 = .ok (.ireturn, 1) := by decide +kernel
theorem d_W_runningThread_0 : decode prog_1_method_31_code 0 = .ok (.aload_n 0, 1) := by decide +kernel
theorem d_W_runningThread_1 : decode prog_1_method_31_code 1 = .ok (.getfield 22, 3) := by decide +kernel
theorem d_W_runningThread_4 : decode prog_1_method_31_code 4 = .ok (.aload_n 0, 1) := by decide +kernel
theorem d_W_runningThread_5 : decode prog_1_method_31_code 5 = .ok (.getfield 41, 3) := by decide +kernel
theorem d_W_runningThread_8 : decode prog_1_method_31_code 8 = .ok (.iconst 2, 1) := by decide +kernel
theorem d_W_runningThread_9 : decode prog_1_method_31_code 9 = .ok (.idiv, 1) := by decide +kernel
theorem d_W_runningThread_10 : decode prog_1_method_31_code 10 = .ok (.aaload, 1) := by decide +kernel
theorem d_W_runningThread_11 : decode prog_1_method_31_code 11 = .ok (.getfield 87, 3) := by decide +kernel
theorem d_W_runningThread_14 : decode prog_1_method_31_code 14 = .ok (.aload_n 0, 1) := by decide +kernel
theorem d_W_runningThread_15 : decode prog_1_method_31_code 15 = .ok (.getfield 41, 3) := by decide +kernel
theorem d_W_runningThread_18 : decode prog_1_method_31_code 18 = .ok (.iconst 2, 1) := by decide +kernel
theorem d_W_runningThread_19 : decode prog_1_method_31_code 19 = .ok (.irem, 1) := by decide +kernel
theorem d_W_runningThread_20 : decode prog_1_method_31_code 20 = .ok (.aaload, 1) := by decide +kernel
theorem d_W_runningThread_21 : decode prog_1_method_31_code 21 = .ok (.areturn, 1) := by decide +kernel
theorem d_W_step_0 : decode prog_1_method_32_code 0 = .ok (.aload_n 0, 1) := by decide +kernel
theorem d_W_step_1 : decode prog_1_method_32_code 1 = .ok (.dup, 1) := by decide +kernel
theorem d_W_step_2 : decode prog_1_method_32_code 2 = .ok (.getfield 47, 3) := by decide +kernel
theorem d_W_step_5 : decode prog_1_method_32_code 5 = .ok (.iconst 1, 1) := by decide +kernel
theorem d_W_step_6 : decode prog_1_method_32_code 6 = .ok (.iadd, 1) := by decide +kernel
theorem d_W_step_7 : decode prog_1_method_32_code 7 = .ok (.putfield 47, 3) := by decide +kernel
theorem d_W_step_10 : decode prog_1_method_32_code 10 = .ok (.aload_n 0, 1) := by decide +kernel
theorem d_W_step_11 : decode prog_1_method_32_code 11 = .ok (.getfield 41, 3) := by decide +kernel
theorem d_W_step_14 : decode prog_1_method_32_code 14 = .ok (.iconst (-1), 1) := by decide +kernel
theorem d_W_step_15 : decode prog_1_method_32_code 15 = .ok (.if_icmp .eq 30, 3) := by decide +kernel
theorem d_W_step_18 : decode prog_1_method_32_code 18 = .ok (.aload_n 0, 1) := by decide +kernel
theorem d_W_step_19 : decode prog_1_method_32_code 19 = .ok (.getfield 44, 3) := by decide +kernel
theorem d_W_step_22 : decode prog_1_method_32_code 22 = .ok (.ifCond .le 23, 3) := by decide +kernel
theorem d_W_step_25 : decode prog_1_method_32_code 25 = .ok (.aload_n 0, 1) := by decide +kernel
theorem d_W_step_26 : decode prog_1_method_32_code 26 = .ok (.getfield 47, 3) := by decide +kernel
theorem d_W_step_29 : decode prog_1_method_32_code 29 = .ok (.aload_n 0, 1) := by decide +kernel
theorem d_W_step_30 : decode prog_1_method_32_code 30 = .ok (.getfield 44, 3) := by decide +kernel
theorem d_W_step_33 : decode prog_1_method_32_code 33 = .ok (.irem, 1) := by decide +kernel
theorem d_W_step_34 : decode prog_1_method_32_code 34 = .ok (.ifCond .ne 11, 3) := by decide +kernel
theorem d_W_step_37 : decode prog_1_method_32_code 37 = .ok (.aload_n 0, 1) := by decide +kernel
theorem d_W_step_38 : decode prog_1_method_32_code 38 = .ok (.iconst 3, 1) := by decide +kernel
theorem d_W_step_39 : decode prog_1_method_32_code 39 = .ok (.iconst 2, 1) := by decide +kernel
theorem d_W_step_40 : decode prog_1_method_32_code 40 = .ok (.iconst 0, 1) := by decide +kernel
theorem d_W_step_41 : decode prog_1_method_32_code 41 = .ok (.invokevirtual 112, 3) := by decide +kernel
theorem d_W_step_44 : decode prog_1_method_32_code 44 = .ok (.return_, 1) := by decide +kernel
theorem d_W_step_45 : decode prog_1_method_32_code 45 = .ok (.aload_n 0, 1) := by decide +kernel
theorem d_W_step_46 : decode prog_1_method_32_code 46 = .ok (.getfield 41, 3) := by decide +kernel
theorem d_W_step_49 : decode prog_1_method_32_code 49 = .ok (.iconst (-1), 1) := by decide +kernel
theorem d_W_step_50 : decode prog_1_method_32_code 50 = .ok (.if_icmp .ne 10, 3) := by decide +kernel
theorem d_W_step_53 : decode prog_1_method_32_code 53 = .ok (.aload_n 0, 1) := by decide +kernel
theorem d_W_step_54 : decode prog_1_method_32_code 54 = .ok (.getfield 30, 3) := by decide +kernel
theorem d_W_step_57 : decode prog_1_method_32_code 57 = .ok (.goto 10, 3) := by decide +kernel
theorem d_W_step_60 : decode prog_1_method_32_code 60 = .ok (.aload_n 0, 1) := by decide +kernel
theorem d_W_step_61 : decode prog_1_method_32_code 61 = .ok (.invokevirtual 116, 3) := by decide +kernel
theorem d_W_step_64 : decode prog_1_method_32_code 64 = .ok (.getfield 94, 3) := by decide +kernel
theorem d_W_step_67 : decode prog_1_method_32_code 67 = .ok (.astore_n 1, 1) := by decide +kernel
theorem d_W_step_68 : decode prog_1_method_32_code 68 = .ok (.aload_n 0, 1) := by decide +kernel
theorem d_W_step_69 : decode prog_1_method_32_code 69 = .ok (.aload_n 1, 1) := by decide +kernel
theorem d_W_step_70 : decode prog_1_method_32_code 70 = .ok (.getfield 65, 3) := by decide +kernel
theorem d_W_step_73 : decode prog_1_method_32_code 73 = .ok (.invokevirtual 120, 3) := by decide +kernel
theorem d_W_step_76 : decode prog_1_method_32_code 76 = .ok (.ifCond .ne 9, 3) := by decide +kernel
theorem d_W_step_79 : decode prog_1_method_32_code 79 = .ok (.aload_n 0, 1) := by decide +kernel
theorem d_W_step_80 : decode prog_1_method_32_code 80 = .ok (.iconst 3, 1) := by decide +kernel
theorem d_W_step_81 : decode prog_1_method_32_code 81 = .ok (.invokevirtual 123, 3) := by decide +kernel
theorem d_W_step_84 : decode prog_1_method_32_code 84 = .ok (.return_, 1) := by decide +kernel
theorem d_W_step_85 : decode prog_1_method_32_code 85 = .ok (.aload_n 0, 1) := by decide +kernel
theorem d_W_step_86 : decode prog_1_method_32_code 86 = .ok (.getfield 13, 3) := by decide +kernel
theorem d_W_step_89 : decode prog_1_method_32_code 89 = .ok (.aload_n 1, 1) := by decide +kernel
theorem d_W_step_90 : decode prog_1_method_32_code 90 = .ok (.getfield 65, 3) := by decide +kernel
theorem d_W_step_93 : decode prog_1_method_32_code 93 = .ok (.iaload, 1) := by decide +kernel
theorem d_W_step_94 : decode prog_1_method_32_code 94 = .ok (.istore_n 2, 1) := by decide +kernel
theorem d_W_step_95 : decode prog_1_method_32_code 95 = .ok (.iload_n 2, 1) := by decide +kernel
theorem d_W_step_96 : decode prog_1_method_32_code 96 = .ok (.bipush 15, 2) := by decide +kernel
theorem d_W_step_98 : decode prog_1_method_32_code 98 = .ok (.iand, 1) := by decide +kernel
theorem d_W_step_99 : decode prog_1_method_32_code 99 = .ok (.bipush 11, 2) := by decide +kernel
theorem d_W_step_101 : decode prog_1_method_32_code 101 = .ok (.if_icmp .ne 15, 3) := by decide +kernel
theorem d_W_step_104 : decode prog_1_method_32_code 104 = .ok (.aload_n 0, 1) := by decide +kernel
theorem d_W_step_105 : decode prog_1_method_32_code 105 = .ok (.aload_n 1, 1) := by decide +kernel
theorem d_W_step_106 : decode prog_1_method_32_code 106 = .ok (.iload_n 2, 1) := by decide +kernel
theorem d_W_step_107 : decode prog_1_method_32_code 107 = .ok (.bipush 16, 2) := by decide +kernel
theorem d_W_step_109 : decode prog_1_method_32_code 109 = .ok (.ishr, 1) := by decide +kernel
theorem d_W_step_110 : decode prog_1_method_32_code 110 = .ok (.invokevirtual 127, 3) := by decide +kernel
theorem d_W_step_113 : decode prog_1_method_32_code 113 = .ok (.goto 9, 3) := by decide +kernel
theorem d_W_step_116 : decode prog_1_method_32_code 116 = .ok (.aload_n 0, 1) := by decide +kernel
theorem d_W_step_117 : decode prog_1_method_32_code 117 = .ok (.aload_n 1, 1) := by decide +kernel
theorem d_W_step_118 : decode prog_1_method_32_code 118 = .ok (.iload_n 2, 1) := by decide +kernel
theorem d_W_step_119 : decode prog_1_method_32_code 119 = .ok (.invokevirtual 131, 3) := by decide +kernel
theorem d_W_step_122 : decode prog_1_method_32_code 122 = .ok (.return_, 1) := by decide +kernel
theorem d_W_obey_0 : decode prog_1_method_33_code 0 = .ok (.iload_n 2, 1) := by decide +kernel
theorem d_W_obey_1 : decode prog_1_method_33_code 1 = .ok (.bipush 15, 2) := by decide +kernel
theorem d_W_obey_3 : decode prog_1_method_33_code 3 = .ok (.iand, 1) := by decide +kernel
theorem d_W_obey_4 : decode prog_1_method_33_code 4 = .ok (.istore_n 3, 1) := by decide +kernel
theorem d_W_obey_5 : decode prog_1_method_33_code 5 = .ok (.iload_n 2, 1) := by decide +kernel
theorem d_W_obey_6 : decode prog_1_method_33_code 6 = .ok (.iconst 4, 1) := by decide +kernel
theorem d_W_obey_7 : decode prog_1_method_33_code 7 = .ok (.ishr, 1) := by decide +kernel
theorem d_W_obey_8 : decode prog_1_method_33_code 8 = .ok (.bipush 7, 2) := by decide +kernel
theorem d_W_obey_10 : decode prog_1_method_33_code 10 = .ok (.iand, 1) := by decide +kernel
theorem d_W_obey_11 : decode prog_1_method_33_code 11 = .ok (.istore 4, 2) := by decide +kernel
theorem d_W_obey_13 : decode prog_1_method_33_code 13 = .ok (.aload_n 1, 1) := by decide +kernel
theorem d_W_obey_14 : decode prog_1_method_33_code 14 = .ok (.iload_n 2, 1) := by decide +kernel
theorem d_W_obey_15 : decode prog_1_method_33_code 15 = .ok (.bipush 7, 2) := by decide +kernel
theorem d_W_obey_17 : decode prog_1_method_33_code 17 = .ok (.ishr, 1) := by decide +kernel
theorem d_W_obey_18 : decode prog_1_method_33_code 18 = .ok (.bipush 7, 2) := by decide +kernel
theorem d_W_obey_20 : decode prog_1_method_33_code 20 = .ok (.iand, 1) := by decide +kernel
theorem d_W_obey_21 : decode prog_1_method_33_code 21 = .ok (.invokevirtual 61, 3) := by decide +kernel
theorem d_W_obey_24 : decode prog_1_method_33_code 24 = .ok (.istore 5, 2) := by decide +kernel
theorem d_W_obey_26 : decode prog_1_method_33_code 26 = .ok (.aload_n 1, 1) := by decide +kernel
theorem d_W_obey_27 : decode prog_1_method_33_code 27 = .ok (.iload_n 2, 1) := by decide +kernel
theorem d_W_obey_28 : decode prog_1_method_33_code 28 = .ok (.bipush 10, 2) := by decide +kernel
theorem d_W_obey_30 : decode prog_1_method_33_code 30 = .ok (.ishr, 1) := by decide +kernel
theorem d_W_obey_31 : decode prog_1_method_33_code 31 = .ok (.bipush 7, 2) := by decide +kernel
theorem d_W_obey_33 : decode prog_1_method_33_code 33 = .ok (.iand, 1) := by decide +kernel
theorem d_W_obey_34 : decode prog_1_method_33_code 34 = .ok (.invokevirtual 61, 3) := by decide +kernel
theorem d_W_obey_37 : decode prog_1_method_33_code 37 = .ok (.istore 6, 2) := by decide +kernel
theorem d_W_obey_39 : decode prog_1_method_33_code 39 = .ok (.iload_n 2, 1) := by decide +kernel
theorem d_W_obey_40 : decode prog_1_method_33_code 40 = .ok (.bipush 16, 2) := by decide +kernel
theorem d_W_obey_42 : decode prog_1_method_33_code 42 = .ok (.ishr, 1) := by decide +kernel
theorem d_W_obey_43 : decode prog_1_method_33_code 43 = .ok (.istore 7, 2) := by decide +kernel
theorem d_W_obey_45 : decode prog_1_method_33_code 45 = .ok (.iload_n 3, 1) := by decide +kernel
theorem d_W_obey_46 : decode prog_1_method_33_code 46 = .ok (.iconst 1, 1) := by decide +kernel
theorem d_W_obey_47 : decode prog_1_method_33_code 47 = .ok (.if_icmp .lt 9, 3) := by decide +kernel
theorem d_W_obey_50 : decode prog_1_method_33_code 50 = .ok (.iload_n 3, 1) := by decide +kernel
theorem d_W_obey_51 : decode prog_1_method_33_code 51 = .ok (.bipush 10, 2) := by decide +kernel
theorem d_W_obey_53 : decode prog_1_method_33_code 53 = .ok (.if_icmp .le 9, 3) := by decide +kernel
theorem d_W_obey_56 : decode prog_1_method_33_code 56 = .ok (.aload_n 0, 1) := by decide +kernel
theorem d_W_obey_57 : decode prog_1_method_33_code 57 = .ok (.iconst 4, 1) := by decide +kernel
theorem d_W_obey_58 : decode prog_1_method_33_code 58 = .ok (.invokevirtual 123, 3) := by decide +kernel
theorem d_W_obey_61 : decode prog_1_method_33_code 61 = .ok (.return_, 1) := by decide +kernel
theorem d_W_obey_62 : decode prog_1_method_33_code 62 = .ok (.iload_n 3, 1) := by decide +kernel
theorem d_W_obey_63 : decode prog_1_method_33_code 63 = .ok (.bipush 7, 2) := by decide +kernel
theorem d_W_obey_65 : decode prog_1_method_33_code 65 = .ok (.if_icmp .eq 9, 3) := by decide +kernel
theorem d_W_obey_68 : decode prog_1_method_33_code 68 = .ok (.iload_n 3, 1) := by decide +kernel
theorem d_W_obey_69 : decode prog_1_method_33_code 69 = .ok (.bipush 8, 2) := by decide +kernel
theorem d_W_obey_71 : decode prog_1_method_33_code 71 = .ok (.if_icmp .ne 21, 3) := by decide +kernel
theorem d_W_obey_74 : decode prog_1_method_33_code 74 = .ok (.aload_n 0, 1) := by decide +kernel
theorem d_W_obey_75 : decode prog_1_method_33_code 75 = .ok (.iload 5, 2) := by decide +kernel
theorem d_W_obey_77 : decode prog_1_method_33_code 77 = .ok (.iload 7, 2) := by decide +kernel
theorem d_W_obey_79 : decode prog_1_method_33_code 79 = .ok (.iadd, 1) := by decide +kernel
theorem d_W_obey_80 : decode prog_1_method_33_code 80 = .ok (.invokevirtual 120, 3) := by decide +kernel
theorem d_W_obey_83 : decode prog_1_method_33_code 83 = .ok (.ifCond .ne 9, 3) := by decide +kernel
theorem d_W_obey_86 : decode prog_1_method_33_code 86 = .ok (.aload_n 0, 1) := by decide +kernel
theorem d_W_obey_87 : decode prog_1_method_33_code 87 = .ok (.iconst 3, 1) := by decide +kernel
theorem d_W_obey_88 : decode prog_1_method_33_code 88 = .ok (.invokevirtual 123, 3) := by decide +kernel
theorem d_W_obey_91 : decode prog_1_method_33_code 91 = .ok (.return_, 1) := by decide +kernel
theorem d_W_obey_92 : decode prog_1_method_33_code 92 = .ok (.aload_n 1, 1) := by decide +kernel
theorem d_W_obey_93 : decode prog_1_method_33_code 93 = .ok (.dup, 1) := by decide +kernel
theorem d_W_obey_94 : decode prog_1_method_33_code 94 = .ok (.getfield 65, 3) := by decide +kernel
theorem d_W_obey_97 : decode prog_1_method_33_code 97 = .ok (.iconst 1, 1) := by decide +kernel
theorem d_W_obey_98 : decode prog_1_method_33_code 98 = .ok (.iadd, 1) := by decide +kernel
theorem d_W_obey_99 : decode prog_1_method_33_code 99 = .ok (.putfield 65, 3) := by decide +kernel
theorem d_W_obey_102 : decode prog_1_method_33_code 102 = .ok (.iload_n 3, 1) := by decide +kernel
theorem d_W_obey_103 : decode prog_1_method_33_code 103 = .ok (.tableswitch 193 1 9 #[49, 60, 74, 88, 102, 116, 130, 149, 168], 49) := by decide +kernel
theorem d_W_obey_152 : decode prog_1_method_33_code 152 = .ok (.aload_n 1, 1) := by decide +kernel
theorem d_W_obey_153 : decode prog_1_method_33_code 153 = .ok (.iload 4, 2) := by decide +kernel
theorem d_W_obey_155 : decode prog_1_method_33_code 155 = .ok (.iload 7, 2) := by decide +kernel
theorem d_W_obey_157 : decode prog_1_method_33_code 157 = .ok (.invokevirtual 57, 3) := by decide +kernel
theorem d_W_obey_160 : decode prog_1_method_33_code 160 = .ok (.goto 158, 3) := by decide +kernel
theorem d_W_obey_163 : decode prog_1_method_33_code 163 = .ok (.aload_n 1, 1) := by decide +kernel
theorem d_W_obey_164 : decode prog_1_method_33_code 164 = .ok (.iload 4, 2) := by decide +kernel
theorem d_W_obey_166 : decode prog_1_method_33_code 166 = .ok (.iload 5, 2) := by decide +kernel
theorem d_W_obey_168 : decode prog_1_method_33_code 168 = .ok (.iload 7, 2) := by decide +kernel
theorem d_W_obey_170 : decode prog_1_method_33_code 170 = .ok (.iadd, 1) := by decide +kernel
theorem d_W_obey_171 : decode prog_1_method_33_code 171 = .ok (.invokevirtual 57, 3) := by decide +kernel
theorem d_W_obey_174 : decode prog_1_method_33_code 174 = .ok (.goto 144, 3) := by decide +kernel
theorem d_W_obey_177 : decode prog_1_method_33_code 177 = .ok (.aload_n 1, 1) := by decide +kernel
theorem d_W_obey_178 : decode prog_1_method_33_code 178 = .ok (.iload 4, 2) := by decide +kernel
theorem d_W_obey_180 : decode prog_1_method_33_code 180 = .ok (.iload 5, 2) := by decide +kernel
theorem d_W_obey_182 : decode prog_1_method_33_code 182 = .ok (.iload 6, 2) := by decide +kernel
theorem d_W_obey_184 : decode prog_1_method_33_code 184 = .ok (.iadd, 1) := by decide +kernel
theorem d_W_obey_185 : decode prog_1_method_33_code 185 = .ok (.invokevirtual 57, 3) := by decide +kernel
theorem d_W_obey_188 : decode prog_1_method_33_code 188 = .ok (.goto 130, 3) := by decide +kernel
theorem d_W_obey_191 : decode prog_1_method_33_code 191 = .ok (.aload_n 1, 1) := by decide +kernel
theorem d_W_obey_192 : decode prog_1_method_33_code 192 = .ok (.iload 4, 2) := by decide +kernel
theorem d_W_obey_194 : decode prog_1_method_33_code 194 = .ok (.iload 5, 2) := by decide +kernel
theorem d_W_obey_196 : decode prog_1_method_33_code 196 = .ok (.iload 6, 2) := by decide +kernel
theorem d_W_obey_198 : decode prog_1_method_33_code 198 = .ok (.isub, 1) := by decide +kernel
theorem d_W_obey_199 : decode prog_1_method_33_code 199 = .ok (.invokevirtual 57, 3) := by decide +kernel
theorem d_W_obey_202 : decode prog_1_method_33_code 202 = .ok (.goto 116, 3) := by decide +kernel
theorem d_W_obey_205 : decode prog_1_method_33_code 205 = .ok (.aload_n 1, 1) := by decide +kernel
theorem d_W_obey_206 : decode prog_1_method_33_code 206 = .ok (.iload 4, 2) := by decide +kernel
theorem d_W_obey_208 : decode prog_1_method_33_code 208 = .ok (.iload 5, 2) := by decide +kernel
theorem d_W_obey_210 : decode prog_1_method_33_code 210 = .ok (.iload 6, 2) := by decide +kernel
theorem d_W_obey_212 : decode prog_1_method_33_code 212 = .ok (.imul, 1) := by decide +kernel
theorem d_W_obey_213 : decode prog_1_method_33_code 213 = .ok (.invokevirtual 57, 3) := by decide +kernel
theorem d_W_obey_216 : decode prog_1_method_33_code 216 = .ok (.goto 102, 3) := by decide +kernel
theorem d_W_obey_219 : decode prog_1_method_33_code 219 = .ok (.aload_n 1, 1) := by decide +kernel
theorem d_W_obey_220 : decode prog_1_method_33_code 220 = .ok (.iload 4, 2) := by decide +kernel
theorem d_W_obey_222 : decode prog_1_method_33_code 222 = .ok (.iload 5, 2) := by decide +kernel
theorem d_W_obey_224 : decode prog_1_method_33_code 224 = .ok (.iload 6, 2) := by decide +kernel
theorem d_W_obey_226 : decode prog_1_method_33_code 226 = .ok (.ixor, 1) := by decide +kernel
theorem d_W_obey_227 : decode prog_1_method_33_code 227 = .ok (.invokevirtual 57, 3) := by decide +kernel
theorem d_W_obey_230 : decode prog_1_method_33_code 230 = .ok (.goto 88, 3) := by decide +kernel
theorem d_W_obey_233 : decode prog_1_method_33_code 233 = .ok (.aload_n 1, 1) := by decide +kernel
theorem d_W_obey_234 : decode prog_1_method_33_code 234 = .ok (.iload 4, 2) := by decide +kernel
theorem d_W_obey_236 : decode prog_1_method_33_code 236 = .ok (.aload_n 0, 1) := by decide +kernel
theorem d_W_obey_237 : decode prog_1_method_33_code 237 = .ok (.getfield 13, 3) := by decide +kernel
theorem d_W_obey_240 : decode prog_1_method_33_code 240 = .ok (.iload 5, 2) := by decide +kernel
theorem d_W_obey_242 : decode prog_1_method_33_code 242 = .ok (.iload 7, 2) := by decide +kernel
theorem d_W_obey_244 : decode prog_1_method_33_code 244 = .ok (.iadd, 1) := by decide +kernel
theorem d_W_obey_245 : decode prog_1_method_33_code 245 = .ok (.iaload, 1) := by decide +kernel
theorem d_W_obey_246 : decode prog_1_method_33_code 246 = .ok (.invokevirtual 57, 3) := by decide +kernel
theorem d_W_obey_249 : decode prog_1_method_33_code 249 = .ok (.goto 69, 3) := by decide +kernel
theorem d_W_obey_252 : decode prog_1_method_33_code 252 = .ok (.aload_n 0, 1) := by decide +kernel
theorem d_W_obey_253 : decode prog_1_method_33_code 253 = .ok (.getfield 13, 3) := by decide +kernel
theorem d_W_obey_256 : decode prog_1_method_33_code 256 = .ok (.iload 5, 2) := by decide +kernel
theorem d_W_obey_258 : decode prog_1_method_33_code 258 = .ok (.iload 7, 2) := by decide +kernel
theorem d_W_obey_260 : decode prog_1_method_33_code 260 = .ok (.iadd, 1) := by decide +kernel
theorem d_W_obey_261 : decode prog_1_method_33_code 261 = .ok (.aload_n 1, 1) := by decide +kernel
theorem d_W_obey_262 : decode prog_1_method_33_code 262 = .ok (.iload 4, 2) := by decide +kernel
theorem d_W_obey_264 : decode prog_1_method_33_code 264 = .ok (.invokevirtual 61, 3) := by decide +kernel
theorem d_W_obey_267 : decode prog_1_method_33_code 267 = .ok (.iastore, 1) := by decide +kernel
theorem d_W_obey_268 : decode prog_1_method_33_code 268 = .ok (.goto 50, 3) := by decide +kernel
theorem d_W_obey_271 : decode prog_1_method_33_code 271 = .ok (.aload_n 1, 1) := by decide +kernel
theorem d_W_obey_272 : decode prog_1_method_33_code 272 = .ok (.aload_n 1, 1) := by decide +kernel
theorem d_W_obey_273 : decode prog_1_method_33_code 273 = .ok (.iload 4, 2) := by decide +kernel
theorem d_W_obey_275 : decode prog_1_method_33_code 275 = .ok (.invokevirtual 61, 3) := by decide +kernel
theorem d_W_obey_278 : decode prog_1_method_33_code 278 = .ok (.iload 5, 2) := by decide +kernel
theorem d_W_obey_280 : decode prog_1_method_33_code 280 = .ok (.if_icmp .ne 7, 3) := by decide +kernel
theorem d_W_obey_283 : decode prog_1_method_33_code 283 = .ok (.iconst 1, 1) := by decide +kernel
theorem d_W_obey_284 : decode prog_1_method_33_code 284 = .ok (.goto 4, 3) := by decide +kernel
theorem d_W_obey_287 : decode prog_1_method_33_code 287 = .ok (.iconst 0, 1) := by decide +kernel
theorem d_W_obey_288 : decode prog_1_method_33_code 288 = .ok (.iload 7, 2) := by decide +kernel
theorem d_W_obey_290 : decode prog_1_method_33_code 290 = .ok (.invokestatic 134, 3) := by decide +kernel
theorem d_W_obey_293 : decode prog_1_method_33_code 293 = .ok (.goto 25, 3) := by decide +kernel
theorem d_W_obey_296 : decode prog_1_method_33_code 296 = .ok (.aload_n 1, 1) := by decide +kernel
theorem d_W_obey_297 : decode prog_1_method_33_code 297 = .ok (.aload_n 1, 1) := by decide +kernel
theorem d_W_obey_298 : decode prog_1_method_33_code 298 = .ok (.iload 4, 2) := by decide +kernel
theorem d_W_obey_300 : decode prog_1_method_33_code 300 = .ok (.invokevirtual 61, 3) := by decide +kernel
theorem d_W_obey_303 : decode prog_1_method_33_code 303 = .ok (.iload 5, 2) := by decide +kernel
theorem d_W_obey_305 : decode prog_1_method_33_code 305 = .ok (.if_icmp .ge 7, 3) := by decide +kernel
theorem d_W_obey_308 : decode prog_1_method_33_code 308 = .ok (.iconst 1, 1) := by decide +kernel
theorem d_W_obey_309 : decode prog_1_method_33_code 309 = .ok (.goto 4, 3) := by decide +kernel
theorem d_W_obey_312 : decode prog_1_method_33_code 312 = .ok (.iconst 0, 1) := by decide +kernel
theorem d_W_obey_313 : decode prog_1_method_33_code 313 = .ok (.iload 7, 2) := by decide +kernel
theorem d_W_obey_315 : decode prog_1_method_33_code 315 = .ok (.invokestatic 134, 3) := by decide +kernel
theorem d_W_obey_318 : decode prog_1_method_33_code 318 = .ok (.return_, 1) := by decide +kernel
theorem d_W_branch_0 : decode prog_1_method_34_code 0 = .ok (.iload_n 1, 1) := by decide +kernel
theorem d_W_branch_1 : decode prog_1_method_34_code 1 = .ok (.ifCond .eq 13, 3) := by decide +kernel
theorem d_W_branch_4 : decode prog_1_method_34_code 4 = .ok (.aload_n 0, 1) := by decide +kernel
theorem d_W_branch_5 : decode prog_1_method_34_code 5 = .ok (.dup, 1) := by decide +kernel
theorem d_W_branch_6 : decode prog_1_method_34_code 6 = .ok (.getfield 65, 3) := by decide +kernel
theorem d_W_branch_9 : decode prog_1_method_34_code 9 = .ok (.iload_n 2, 1) := by decide +kernel
theorem d_W_branch_10 : decode prog_1_method_34_code 10 = .ok (.iadd, 1) := by decide +kernel
theorem d_W_branch_11 : decode prog_1_method_34_code 11 = .ok (.putfield 65, 3) := by decide +kernel
theorem d_W_branch_14 : decode prog_1_method_34_code 14 = .ok (.return_, 1) := by decide +kernel
theorem d_W_obeyCall_0 : decode prog_1_method_35_code 0 = .ok (.aload_n 1, 1) := by decide +kernel
theorem d_W_obeyCall_1 : decode prog_1_method_35_code 1 = .ok (.iconst 1, 1) := by decide +kernel
theorem d_W_obeyCall_2 : decode prog_1_method_35_code 2 = .ok (.invokevirtual 61, 3) := by decide +kernel
theorem d_W_obeyCall_5 : decode prog_1_method_35_code 5 = .ok (.istore_n 3, 1) := by decide +kernel
theorem d_W_obeyCall_6 : decode prog_1_method_35_code 6 = .ok (.aload_n 1, 1) := by decide +kernel
theorem d_W_obeyCall_7 : decode prog_1_method_35_code 7 = .ok (.iconst 2, 1) := by decide +kernel
theorem d_W_obeyCall_8 : decode prog_1_method_35_code 8 = .ok (.invokevirtual 61, 3) := by decide +kernel
theorem d_W_obeyCall_11 : decode prog_1_method_35_code 11 = .ok (.istore 4, 2) := by decide +kernel
theorem d_W_obeyCall_13 : decode prog_1_method_35_code 13 = .ok (.aload_n 1, 1) := by decide +kernel
theorem d_W_obeyCall_14 : decode prog_1_method_35_code 14 = .ok (.iconst 3, 1) := by decide +kernel
theorem d_W_obeyCall_15 : decode prog_1_method_35_code 15 = .ok (.invokevirtual 61, 3) := by decide +kernel
theorem d_W_obeyCall_18 : decode prog_1_method_35_code 18 = .ok (.istore 5, 2) := by decide +kernel
theorem d_W_obeyCall_20 : decode prog_1_method_35_code 20 = .ok (.aload_n 0, 1) := by decide +kernel
theorem d_W_obeyCall_21 : decode prog_1_method_35_code 21 = .ok (.getfield 41, 3) := by decide +kernel
theorem d_W_obeyCall_24 : decode prog_1_method_35_code 24 = .ok (.istore 6, 2) := by decide +kernel
theorem d_W_obeyCall_26 : decode prog_1_method_35_code 26 = .ok (.aload_n 1, 1) := by decide +kernel
theorem d_W_obeyCall_27 : decode prog_1_method_35_code 27 = .ok (.dup, 1) := by decide +kernel
theorem d_W_obeyCall_28 : decode prog_1_method_35_code 28 = .ok (.getfield 65, 3) := by decide +kernel
theorem d_W_obeyCall_31 : decode prog_1_method_35_code 31 = .ok (.iconst 1, 1) := by decide +kernel
theorem d_W_obeyCall_32 : decode prog_1_method_35_code 32 = .ok (.iadd, 1) := by decide +kernel
theorem d_W_obeyCall_33 : decode prog_1_method_35_code 33 = .ok (.putfield 65, 3) := by decide +kernel
theorem d_W_obeyCall_36 : decode prog_1_method_35_code 36 = .ok (.iload 6, 2) := by decide +kernel
theorem d_W_obeyCall_38 : decode prog_1_method_35_code 38 = .ok (.iconst (-1), 1) := by decide +kernel
theorem d_W_obeyCall_39 : decode prog_1_method_35_code 39 = .ok (.if_icmp .ne 16, 3) := by decide +kernel
theorem d_W_obeyCall_42 : decode prog_1_method_35_code 42 = .ok (.aload_n 0, 1) := by decide +kernel
theorem d_W_obeyCall_43 : decode prog_1_method_35_code 43 = .ok (.iload_n 2, 1) := by decide +kernel
theorem d_W_obeyCall_44 : decode prog_1_method_35_code 44 = .ok (.iload_n 3, 1) := by decide +kernel
theorem d_W_obeyCall_45 : decode prog_1_method_35_code 45 = .ok (.iload 4, 2) := by decide +kernel
theorem d_W_obeyCall_47 : decode prog_1_method_35_code 47 = .ok (.iload 5, 2) := by decide +kernel
theorem d_W_obeyCall_49 : decode prog_1_method_35_code 49 = .ok (.invokevirtual 68, 3) := by decide +kernel
theorem d_W_obeyCall_52 : decode prog_1_method_35_code 52 = .ok (.goto 13, 3) := by decide +kernel
theorem d_W_obeyCall_55 : decode prog_1_method_35_code 55 = .ok (.aload_n 0, 1) := by decide +kernel
theorem d_W_obeyCall_56 : decode prog_1_method_35_code 56 = .ok (.iload_n 2, 1) := by decide +kernel
theorem d_W_obeyCall_57 : decode prog_1_method_35_code 57 = .ok (.iload_n 3, 1) := by decide +kernel
theorem d_W_obeyCall_58 : decode prog_1_method_35_code 58 = .ok (.iload 4, 2) := by decide +kernel
theorem d_W_obeyCall_60 : decode prog_1_method_35_code 60 = .ok (.iload 5, 2) := by decide +kernel
theorem d_W_obeyCall_62 : decode prog_1_method_35_code 62 = .ok (.invokevirtual 138, 3) := by decide +kernel
theorem d_W_obeyCall_65 : decode prog_1_method_35_code 65 = .ok (.istore 7, 2) := by decide +kernel
theorem d_W_obeyCall_67 : decode prog_1_method_35_code 67 = .ok (.aload_n 0, 1) := by decide +kernel
theorem d_W_obeyCall_68 : decode prog_1_method_35_code 68 = .ok (.getfield 41, 3) := by decide +kernel
theorem d_W_obeyCall_71 : decode prog_1_method_35_code 71 = .ok (.iload 6, 2) := by decide +kernel
theorem d_W_obeyCall_73 : decode prog_1_method_35_code 73 = .ok (.if_icmp .ne 10, 3) := by decide +kernel
theorem d_W_obeyCall_76 : decode prog_1_method_35_code 76 = .ok (.aload_n 1, 1) := by decide +kernel
theorem d_W_obeyCall_77 : decode prog_1_method_35_code 77 = .ok (.iconst 1, 1) := by decide +kernel
theorem d_W_obeyCall_78 : decode prog_1_method_35_code 78 = .ok (.iload 7, 2) := by decide +kernel
theorem d_W_obeyCall_80 : decode prog_1_method_35_code 80 = .ok (.invokevirtual 57, 3) := by decide +kernel
theorem d_W_obeyCall_83 : decode prog_1_method_35_code 83 = .ok (.return_, 1) := by decide +kernel
theorem d_W_fault_0 : decode prog_1_method_36_code 0 = .ok (.aload_n 0, 1) := by decide +kernel
theorem d_W_fault_1 : decode prog_1_method_36_code 1 = .ok (.getfield 41, 3) := by decide +kernel
theorem d_W_fault_4 : decode prog_1_method_36_code 4 = .ok (.iconst (-1), 1) := by decide +kernel
theorem d_W_fault_5 : decode prog_1_method_36_code 5 = .ok (.if_icmp .ne 11, 3) := by decide +kernel
theorem d_W_fault_8 : decode prog_1_method_36_code 8 = .ok (.aload_n 0, 1) := by decide +kernel
theorem d_W_fault_9 : decode prog_1_method_36_code 9 = .ok (.iconst 1, 1) := by decide +kernel
theorem d_W_fault_10 : decode prog_1_method_36_code 10 = .ok (.putfield 37, 3) := by decide +kernel
theorem d_W_fault_13 : decode prog_1_method_36_code 13 = .ok (.goto 10, 3) := by decide +kernel
theorem d_W_fault_16 : decode prog_1_method_36_code 16 = .ok (.aload_n 0, 1) := by decide +kernel
theorem d_W_fault_17 : decode prog_1_method_36_code 17 = .ok (.iconst 1, 1) := by decide +kernel
theorem d_W_fault_18 : decode prog_1_method_36_code 18 = .ok (.iload_n 1, 1) := by decide +kernel
theorem d_W_fault_19 : decode prog_1_method_36_code 19 = .ok (.iconst 0, 1) := by decide +kernel
theorem d_W_fault_20 : decode prog_1_method_36_code 20 = .ok (.invokevirtual 112, 3) := by decide +kernel
theorem d_W_fault_23 : decode prog_1_method_36_code 23 = .ok (.return_, 1) := by decide +kernel
theorem d_W_leave_0 : decode prog_1_method_37_code 0 = .ok (.aload_n 0, 1) := by decide +kernel
theorem d_W_leave_1 : decode prog_1_method_37_code 1 = .ok (.invokevirtual 116, 3) := by decide +kernel
theorem d_W_leave_4 : decode prog_1_method_37_code 4 = .ok (.iload_n 1, 1) := by decide +kernel
theorem d_W_leave_5 : decode prog_1_method_37_code 5 = .ok (.putfield 91, 3) := by decide +kernel
theorem d_W_leave_8 : decode prog_1_method_37_code 8 = .ok (.aload_n 0, 1) := by decide +kernel
theorem d_W_leave_9 : decode prog_1_method_37_code 9 = .ok (.getfield 34, 3) := by decide +kernel
theorem d_W_leave_12 : decode prog_1_method_37_code 12 = .ok (.iconst 0, 1) := by decide +kernel
theorem d_W_leave_13 : decode prog_1_method_37_code 13 = .ok (.dup2, 1) := by decide +kernel
theorem d_W_leave_14 : decode prog_1_method_37_code 14 = .ok (.iaload, 1) := by decide +kernel
theorem d_W_leave_15 : decode prog_1_method_37_code 15 = .ok (.iconst 1, 1) := by decide +kernel
theorem d_W_leave_16 : decode prog_1_method_37_code 16 = .ok (.iadd, 1) := by decide +kernel
theorem d_W_leave_17 : decode prog_1_method_37_code 17 = .ok (.iastore, 1) := by decide +kernel
theorem d_W_leave_18 : decode prog_1_method_37_code 18 = .ok (.aload_n 0, 1) := by decide +kernel
theorem d_W_leave_19 : decode prog_1_method_37_code 19 = .ok (.getfield 34, 3) := by decide +kernel
theorem d_W_leave_22 : decode prog_1_method_37_code 22 = .ok (.iconst 1, 1) := by decide +kernel
theorem d_W_leave_23 : decode prog_1_method_37_code 23 = .ok (.aload_n 0, 1) := by decide +kernel
theorem d_W_leave_24 : decode prog_1_method_37_code 24 = .ok (.getfield 41, 3) := by decide +kernel
theorem d_W_leave_27 : decode prog_1_method_37_code 27 = .ok (.iconst 2, 1) := by decide +kernel
theorem d_W_leave_28 : decode prog_1_method_37_code 28 = .ok (.idiv, 1) := by decide +kernel
theorem d_W_leave_29 : decode prog_1_method_37_code 29 = .ok (.iastore, 1) := by decide +kernel
theorem d_W_leave_30 : decode prog_1_method_37_code 30 = .ok (.aload_n 0, 1) := by decide +kernel
theorem d_W_leave_31 : decode prog_1_method_37_code 31 = .ok (.getfield 34, 3) := by decide +kernel
theorem d_W_leave_34 : decode prog_1_method_37_code 34 = .ok (.iconst 2, 1) := by decide +kernel
theorem d_W_leave_35 : decode prog_1_method_37_code 35 = .ok (.iload_n 2, 1) := by decide +kernel
theorem d_W_leave_36 : decode prog_1_method_37_code 36 = .ok (.iastore, 1) := by decide +kernel
theorem d_W_leave_37 : decode prog_1_method_37_code 37 = .ok (.aload_n 0, 1) := by decide +kernel
theorem d_W_leave_38 : decode prog_1_method_37_code 38 = .ok (.getfield 34, 3) := by decide +kernel
theorem d_W_leave_41 : decode prog_1_method_37_code 41 = .ok (.iconst 3, 1) := by decide +kernel
theorem d_W_leave_42 : decode prog_1_method_37_code 42 = .ok (.iload_n 3, 1) := by decide +kernel
theorem d_W_leave_43 : decode prog_1_method_37_code 43 = .ok (.iastore, 1) := by decide +kernel
theorem d_W_leave_44 : decode prog_1_method_37_code 44 = .ok (.aload_n 0, 1) := by decide +kernel
theorem d_W_leave_45 : decode prog_1_method_37_code 45 = .ok (.getfield 34, 3) := by decide +kernel
theorem d_W_leave_48 : decode prog_1_method_37_code 48 = .ok (.iconst 4, 1) := by decide +kernel
theorem d_W_leave_49 : decode prog_1_method_37_code 49 = .ok (.aload_n 0, 1) := by decide +kernel
theorem d_W_leave_50 : decode prog_1_method_37_code 50 = .ok (.getfield 47, 3) := by decide +kernel
theorem d_W_leave_53 : decode prog_1_method_37_code 53 = .ok (.iastore, 1) := by decide +kernel
theorem d_W_leave_54 : decode prog_1_method_37_code 54 = .ok (.aload_n 0, 1) := by decide +kernel
theorem d_W_leave_55 : decode prog_1_method_37_code 55 = .ok (.iconst (-1), 1) := by decide +kernel
theorem d_W_leave_56 : decode prog_1_method_37_code 56 = .ok (.putfield 41, 3) := by decide +kernel
theorem d_W_leave_59 : decode prog_1_method_37_code 59 = .ok (.aload_n 0, 1) := by decide +kernel
theorem d_W_leave_60 : decode prog_1_method_37_code 60 = .ok (.getfield 30, 3) := by decide +kernel
theorem d_W_leave_63 : decode prog_1_method_37_code 63 = .ok (.iconst 1, 1) := by decide +kernel
theorem d_W_leave_64 : decode prog_1_method_37_code 64 = .ok (.iload_n 2, 1) := by decide +kernel
theorem d_W_leave_65 : decode prog_1_method_37_code 65 = .ok (.invokevirtual 57, 3) := by decide +kernel
theorem d_W_leave_68 : decode prog_1_method_37_code 68 = .ok (.aload_n 0, 1) := by decide +kernel
theorem d_W_leave_69 : decode prog_1_method_37_code 69 = .ok (.getfield 30, 3) := by decide +kernel
theorem d_W_leave_72 : decode prog_1_method_37_code 72 = .ok (.iconst 2, 1) := by decide +kernel
theorem d_W_leave_73 : decode prog_1_method_37_code 73 = .ok (.iload_n 3, 1) := by decide +kernel
theorem d_W_leave_74 : decode prog_1_method_37_code 74 = .ok (.invokevirtual 57, 3) := by decide +kernel
theorem d_W_leave_77 : decode prog_1_method_37_code 77 = .ok (.return_, 1) := by decide +kernel
theorem d_W_enclaveCall_0 : decode prog_1_method_38_code 0 = .ok (.aload_n 0, 1) := by decide +kernel
theorem d_W_enclaveCall_1 : decode prog_1_method_38_code 1 = .ok (.getfield 22, 3) := by decide +kernel
theorem d_W_enclaveCall_4 : decode prog_1_method_38_code 4 = .ok (.aload_n 0, 1) := by decide +kernel
theorem d_W_enclaveCall_5 : decode prog_1_method_38_code 5 = .ok (.getfield 41, 3) := by decide +kernel
theorem d_W_enclaveCall_8 : decode prog_1_method_38_code 8 = .ok (.iconst 2, 1) := by decide +kernel
theorem d_W_enclaveCall_9 : decode prog_1_method_38_code 9 = .ok (.idiv, 1) := by decide +kernel
theorem d_W_enclaveCall_10 : decode prog_1_method_38_code 10 = .ok (.aaload, 1) := by decide +kernel
theorem d_W_enclaveCall_11 : decode prog_1_method_38_code 11 = .ok (.getfield 97, 3) := by decide +kernel
theorem d_W_enclaveCall_14 : decode prog_1_method_38_code 14 = .ok (.istore 5, 2) := by decide +kernel
theorem d_W_enclaveCall_16 : decode prog_1_method_38_code 16 = .ok (.iload_n 1, 1) := by decide +kernel
theorem d_W_enclaveCall_17 : decode prog_1_method_38_code 17 = .ok (.tableswitch 80 16 19 #[31, 40, 48, 63], 31) := by decide +kernel
theorem d_W_enclaveCall_48 : decode prog_1_method_38_code 48 = .ok (.aload_n 0, 1) := by decide +kernel
theorem d_W_enclaveCall_49 : decode prog_1_method_38_code 49 = .ok (.iconst 1, 1) := by decide +kernel
theorem d_W_enclaveCall_50 : decode prog_1_method_38_code 50 = .ok (.iconst 1, 1) := by decide +kernel
theorem d_W_enclaveCall_51 : decode prog_1_method_38_code 51 = .ok (.iload_n 2, 1) := by decide +kernel
theorem d_W_enclaveCall_52 : decode prog_1_method_38_code 52 = .ok (.invokevirtual 112, 3) := by decide +kernel
theorem d_W_enclaveCall_55 : decode prog_1_method_38_code 55 = .ok (.iconst 0, 1) := by decide +kernel
theorem d_W_enclaveCall_56 : decode prog_1_method_38_code 56 = .ok (.ireturn, 1) := by decide +kernel
theorem d_W_enclaveCall_57 : decode prog_1_method_38_code 57 = .ok (.aload_n 0, 1) := by decide +kernel
theorem d_W_enclaveCall_58 : decode prog_1_method_38_code 58 = .ok (.iload 5, 2) := by decide +kernel
theorem d_W_enclaveCall_60 : decode prog_1_method_38_code 60 = .ok (.iload_n 2, 1) := by decide +kernel
theorem d_W_enclaveCall_61 : decode prog_1_method_38_code 61 = .ok (.invokevirtual 100, 3) := by decide +kernel
theorem d_W_enclaveCall_64 : decode prog_1_method_38_code 64 = .ok (.ireturn, 1) := by decide +kernel
theorem d_W_enclaveCall_65 : decode prog_1_method_38_code 65 = .ok (.aload_n 0, 1) := by decide +kernel
theorem d_W_enclaveCall_66 : decode prog_1_method_38_code 66 = .ok (.getfield 7, 3) := by decide +kernel
theorem d_W_enclaveCall_69 : decode prog_1_method_38_code 69 = .ok (.iload 5, 2) := by decide +kernel
theorem d_W_enclaveCall_71 : decode prog_1_method_38_code 71 = .ok (.invokestatic 105, 3) := by decide +kernel
theorem d_W_enclaveCall_74 : decode prog_1_method_38_code 74 = .ok (.bipush 18, 2) := by decide +kernel
theorem d_W_enclaveCall_76 : decode prog_1_method_38_code 76 = .ok (.invokestatic 105, 3) := by decide +kernel
theorem d_W_enclaveCall_79 : decode prog_1_method_38_code 79 = .ok (.ireturn, 1) := by decide +kernel
theorem d_W_enclaveCall_80 : decode prog_1_method_38_code 80 = .ok (.aload_n 0, 1) := by decide +kernel
theorem d_W_enclaveCall_81 : decode prog_1_method_38_code 81 = .ok (.iload_n 2, 1) := by decide +kernel
theorem d_W_enclaveCall_82 : decode prog_1_method_38_code 82 = .ok (.iload_n 3, 1) := by decide +kernel
theorem d_W_enclaveCall_83 : decode prog_1_method_38_code 83 = .ok (.invokevirtual 100, 3) := by decide +kernel
theorem d_W_enclaveCall_86 : decode prog_1_method_38_code 86 = .ok (.iload 4, 2) := by decide +kernel
theorem d_W_enclaveCall_88 : decode prog_1_method_38_code 88 = .ok (.if_icmp .ne 7, 3) := by decide +kernel
theorem d_W_enclaveCall_91 : decode prog_1_method_38_code 91 = .ok (.iconst 1, 1) := by decide +kernel
end
section
theorem d_W_enclaveCall_92 : decode prog_1_method_38_code 92 = .ok (.goto 4, 3) := by decide +kernel
theorem d_W_enclaveCall_95 : decode prog_1_method_38_code 95 = .ok (.iconst 0, 1) := by decide +kernel
theorem d_W_enclaveCall_96 : decode prog_1_method_38_code 96 = .ok (.ireturn, 1) := by decide +kernel
theorem d_W_enclaveCall_97 : decode prog_1_method_38_code 97 = .ok (.iconst (-1), 1) := by decide +kernel
theorem d_W_enclaveCall_98 : decode prog_1_method_38_code 98 = .ok (.ireturn, 1) := by decide +kernel
theorem d_W_systemCall_0 : decode prog_1_method_39_code 0 = .ok (.iload_n 1, 1) := by decide +kernel
theorem d_W_systemCall_1 : decode prog_1_method_39_code 1 = .ok (.tableswitch 135 1 11 #[59, 66, 75, 82, 88, 95, 104, 111, 117, 123, 129], 59) := by decide +kernel
theorem d_W_systemCall_60 : decode prog_1_method_39_code 60 = .ok (.aload_n 0, 1) := by decide +kernel
theorem d_W_systemCall_61 : decode prog_1_method_39_code 61 = .ok (.iload_n 2, 1) := by decide +kernel
theorem d_W_systemCall_62 : decode prog_1_method_39_code 62 = .ok (.iload_n 3, 1) := by decide +kernel
theorem d_W_systemCall_63 : decode prog_1_method_39_code 63 = .ok (.invokevirtual 141, 3) := by decide +kernel
theorem d_W_systemCall_66 : decode prog_1_method_39_code 66 = .ok (.ireturn, 1) := by decide +kernel
theorem d_W_systemCall_67 : decode prog_1_method_39_code 67 = .ok (.aload_n 0, 1) := by decide +kernel
theorem d_W_systemCall_68 : decode prog_1_method_39_code 68 = .ok (.iload_n 2, 1) := by decide +kernel
theorem d_W_systemCall_69 : decode prog_1_method_39_code 69 = .ok (.iload_n 3, 1) := by decide +kernel
theorem d_W_systemCall_70 : decode prog_1_method_39_code 70 = .ok (.iload 4, 2) := by decide +kernel
theorem d_W_systemCall_72 : decode prog_1_method_39_code 72 = .ok (.invokevirtual 144, 3) := by decide +kernel
theorem d_W_systemCall_75 : decode prog_1_method_39_code 75 = .ok (.ireturn, 1) := by decide +kernel
theorem d_W_systemCall_76 : decode prog_1_method_39_code 76 = .ok (.aload_n 0, 1) := by decide +kernel
theorem d_W_systemCall_77 : decode prog_1_method_39_code 77 = .ok (.iload_n 2, 1) := by decide +kernel
theorem d_W_systemCall_78 : decode prog_1_method_39_code 78 = .ok (.iload_n 3, 1) := by decide +kernel
theorem d_W_systemCall_79 : decode prog_1_method_39_code 79 = .ok (.invokevirtual 148, 3) := by decide +kernel
theorem d_W_systemCall_82 : decode prog_1_method_39_code 82 = .ok (.ireturn, 1) := by decide +kernel
theorem d_W_systemCall_83 : decode prog_1_method_39_code 83 = .ok (.aload_n 0, 1) := by decide +kernel
theorem d_W_systemCall_84 : decode prog_1_method_39_code 84 = .ok (.iload_n 2, 1) := by decide +kernel
theorem d_W_systemCall_85 : decode prog_1_method_39_code 85 = .ok (.invokevirtual 151, 3) := by decide +kernel
theorem d_W_systemCall_88 : decode prog_1_method_39_code 88 = .ok (.ireturn, 1) := by decide +kernel
theorem d_W_systemCall_89 : decode prog_1_method_39_code 89 = .ok (.aload_n 0, 1) := by decide +kernel
theorem d_W_systemCall_90 : decode prog_1_method_39_code 90 = .ok (.iload_n 2, 1) := by decide +kernel
theorem d_W_systemCall_91 : decode prog_1_method_39_code 91 = .ok (.iload_n 3, 1) := by decide +kernel
theorem d_W_systemCall_92 : decode prog_1_method_39_code 92 = .ok (.invokevirtual 154, 3) := by decide +kernel
theorem d_W_systemCall_95 : decode prog_1_method_39_code 95 = .ok (.ireturn, 1) := by decide +kernel
theorem d_W_systemCall_96 : decode prog_1_method_39_code 96 = .ok (.aload_n 0, 1) := by decide +kernel
theorem d_W_systemCall_97 : decode prog_1_method_39_code 97 = .ok (.iload_n 2, 1) := by decide +kernel
theorem d_W_systemCall_98 : decode prog_1_method_39_code 98 = .ok (.iload_n 3, 1) := by decide +kernel
theorem d_W_systemCall_99 : decode prog_1_method_39_code 99 = .ok (.iload 4, 2) := by decide +kernel
theorem d_W_systemCall_101 : decode prog_1_method_39_code 101 = .ok (.invokevirtual 157, 3) := by decide +kernel
theorem d_W_systemCall_104 : decode prog_1_method_39_code 104 = .ok (.ireturn, 1) := by decide +kernel
theorem d_W_systemCall_105 : decode prog_1_method_39_code 105 = .ok (.aload_n 0, 1) := by decide +kernel
theorem d_W_systemCall_106 : decode prog_1_method_39_code 106 = .ok (.iload_n 2, 1) := by decide +kernel
theorem d_W_systemCall_107 : decode prog_1_method_39_code 107 = .ok (.iload_n 3, 1) := by decide +kernel
theorem d_W_systemCall_108 : decode prog_1_method_39_code 108 = .ok (.invokevirtual 160, 3) := by decide +kernel
theorem d_W_systemCall_111 : decode prog_1_method_39_code 111 = .ok (.ireturn, 1) := by decide +kernel
theorem d_W_systemCall_112 : decode prog_1_method_39_code 112 = .ok (.aload_n 0, 1) := by decide +kernel
theorem d_W_systemCall_113 : decode prog_1_method_39_code 113 = .ok (.iload_n 2, 1) := by decide +kernel
theorem d_W_systemCall_114 : decode prog_1_method_39_code 114 = .ok (.invokevirtual 163, 3) := by decide +kernel
theorem d_W_systemCall_117 : decode prog_1_method_39_code 117 = .ok (.ireturn, 1) := by decide +kernel
theorem d_W_systemCall_118 : decode prog_1_method_39_code 118 = .ok (.aload_n 0, 1) := by decide +kernel
theorem d_W_systemCall_119 : decode prog_1_method_39_code 119 = .ok (.iload_n 2, 1) := by decide +kernel
theorem d_W_systemCall_120 : decode prog_1_method_39_code 120 = .ok (.invokevirtual 166, 3) := by decide +kernel
theorem d_W_systemCall_123 : decode prog_1_method_39_code 123 = .ok (.ireturn, 1) := by decide +kernel
theorem d_W_systemCall_124 : decode prog_1_method_39_code 124 = .ok (.aload_n 0, 1) := by decide +kernel
theorem d_W_systemCall_125 : decode prog_1_method_39_code 125 = .ok (.iload_n 2, 1) := by decide +kernel
theorem d_W_systemCall_126 : decode prog_1_method_39_code 126 = .ok (.invokevirtual 169, 3) := by decide +kernel
theorem d_W_systemCall_129 : decode prog_1_method_39_code 129 = .ok (.ireturn, 1) := by decide +kernel
theorem d_W_systemCall_130 : decode prog_1_method_39_code 130 = .ok (.aload_n 0, 1) := by decide +kernel
theorem d_W_systemCall_131 : decode prog_1_method_39_code 131 = .ok (.iload_n 2, 1) := by decide +kernel
theorem d_W_systemCall_132 : decode prog_1_method_39_code 132 = .ok (.invokevirtual 172, 3) := by decide +kernel
theorem d_W_systemCall_135 : decode prog_1_method_39_code 135 = .ok (.ireturn, 1) := by decide +kernel
theorem d_W_systemCall_136 : decode prog_1_method_39_code 136 = .ok (.iconst (-1), 1) := by decide +kernel
theorem d_W_systemCall_137 : decode prog_1_method_39_code 137 = .ok (.ireturn, 1) := by decide +kernel
theorem d_W_create_0 : decode prog_1_method_40_code 0 = .ok (.iload_n 1, 1) := by decide +kernel
theorem d_W_create_1 : decode prog_1_method_40_code 1 = .ok (.invokestatic 75, 3) := by decide +kernel
theorem d_W_create_4 : decode prog_1_method_40_code 4 = .ok (.ifCond .eq 24, 3) := by decide +kernel
theorem d_W_create_7 : decode prog_1_method_40_code 7 = .ok (.iload_n 2, 1) := by decide +kernel
theorem d_W_create_8 : decode prog_1_method_40_code 8 = .ok (.iconst 1, 1) := by decide +kernel
theorem d_W_create_9 : decode prog_1_method_40_code 9 = .ok (.if_icmp .eq 13, 3) := by decide +kernel
theorem d_W_create_12 : decode prog_1_method_40_code 12 = .ok (.iload_n 2, 1) := by decide +kernel
theorem d_W_create_13 : decode prog_1_method_40_code 13 = .ok (.iconst 2, 1) := by decide +kernel
theorem d_W_create_14 : decode prog_1_method_40_code 14 = .ok (.if_icmp .eq 8, 3) := by decide +kernel
theorem d_W_create_17 : decode prog_1_method_40_code 17 = .ok (.iload_n 2, 1) := by decide +kernel
theorem d_W_create_18 : decode prog_1_method_40_code 18 = .ok (.iconst 4, 1) := by decide +kernel
theorem d_W_create_19 : decode prog_1_method_40_code 19 = .ok (.if_icmp .ne 9, 3) := by decide +kernel
theorem d_W_create_22 : decode prog_1_method_40_code 22 = .ok (.iload_n 1, 1) := by decide +kernel
theorem d_W_create_23 : decode prog_1_method_40_code 23 = .ok (.iload_n 2, 1) := by decide +kernel
theorem d_W_create_24 : decode prog_1_method_40_code 24 = .ok (.irem, 1) := by decide +kernel
theorem d_W_create_25 : decode prog_1_method_40_code 25 = .ok (.ifCond .eq 6, 3) := by decide +kernel
theorem d_W_create_28 : decode prog_1_method_40_code 28 = .ok (.bipush (-2), 2) := by decide +kernel
theorem d_W_create_30 : decode prog_1_method_40_code 30 = .ok (.ireturn, 1) := by decide +kernel
theorem d_W_create_31 : decode prog_1_method_40_code 31 = .ok (.aload_n 0, 1) := by decide +kernel
theorem d_W_create_32 : decode prog_1_method_40_code 32 = .ok (.iload_n 1, 1) := by decide +kernel
theorem d_W_create_33 : decode prog_1_method_40_code 33 = .ok (.iload_n 2, 1) := by decide +kernel
theorem d_W_create_34 : decode prog_1_method_40_code 34 = .ok (.invokevirtual 175, 3) := by decide +kernel
theorem d_W_create_37 : decode prog_1_method_40_code 37 = .ok (.ifCond .ne 6, 3) := by decide +kernel
theorem d_W_create_40 : decode prog_1_method_40_code 40 = .ok (.bipush (-4), 2) := by decide +kernel
theorem d_W_create_42 : decode prog_1_method_40_code 42 = .ok (.ireturn, 1) := by decide +kernel
theorem d_W_create_43 : decode prog_1_method_40_code 43 = .ok (.aload_n 0, 1) := by decide +kernel
theorem d_W_create_44 : decode prog_1_method_40_code 44 = .ok (.invokevirtual 178, 3) := by decide +kernel
theorem d_W_create_47 : decode prog_1_method_40_code 47 = .ok (.istore_n 3, 1) := by decide +kernel
theorem d_W_create_48 : decode prog_1_method_40_code 48 = .ok (.iload_n 3, 1) := by decide +kernel
theorem d_W_create_49 : decode prog_1_method_40_code 49 = .ok (.iconst 3, 1) := by decide +kernel
theorem d_W_create_50 : decode prog_1_method_40_code 50 = .ok (.if_icmp .ne 6, 3) := by decide +kernel
theorem d_W_create_53 : decode prog_1_method_40_code 53 = .ok (.bipush (-5), 2) := by decide +kernel
theorem d_W_create_55 : decode prog_1_method_40_code 55 = .ok (.ireturn, 1) := by decide +kernel
theorem d_W_create_56 : decode prog_1_method_40_code 56 = .ok (.iconst 0, 1) := by decide +kernel
theorem d_W_create_57 : decode prog_1_method_40_code 57 = .ok (.istore 4, 2) := by decide +kernel
theorem d_W_create_59 : decode prog_1_method_40_code 59 = .ok (.iload 4, 2) := by decide +kernel
theorem d_W_create_61 : decode prog_1_method_40_code 61 = .ok (.iload_n 2, 1) := by decide +kernel
theorem d_W_create_62 : decode prog_1_method_40_code 62 = .ok (.if_icmp .ge 21, 3) := by decide +kernel
theorem d_W_create_65 : decode prog_1_method_40_code 65 = .ok (.aload_n 0, 1) := by decide +kernel
theorem d_W_create_66 : decode prog_1_method_40_code 66 = .ok (.getfield 17, 3) := by decide +kernel
theorem d_W_create_69 : decode prog_1_method_40_code 69 = .ok (.iload_n 1, 1) := by decide +kernel
theorem d_W_create_70 : decode prog_1_method_40_code 70 = .ok (.iload 4, 2) := by decide +kernel
theorem d_W_create_72 : decode prog_1_method_40_code 72 = .ok (.iadd, 1) := by decide +kernel
theorem d_W_create_73 : decode prog_1_method_40_code 73 = .ok (.iconst 2, 1) := by decide +kernel
theorem d_W_create_74 : decode prog_1_method_40_code 74 = .ok (.iload_n 3, 1) := by decide +kernel
theorem d_W_create_75 : decode prog_1_method_40_code 75 = .ok (.iadd, 1) := by decide +kernel
theorem d_W_create_76 : decode prog_1_method_40_code 76 = .ok (.iastore, 1) := by decide +kernel
theorem d_W_create_77 : decode prog_1_method_40_code 77 = .ok (.iinc 4 1, 3) := by decide +kernel
theorem d_W_create_80 : decode prog_1_method_40_code 80 = .ok (.goto (-21), 3) := by decide +kernel
theorem d_W_create_83 : decode prog_1_method_40_code 83 = .ok (.aload_n 0, 1) := by decide +kernel
theorem d_W_create_84 : decode prog_1_method_40_code 84 = .ok (.getfield 22, 3) := by decide +kernel
theorem d_W_create_87 : decode prog_1_method_40_code 87 = .ok (.iload_n 3, 1) := by decide +kernel
theorem d_W_create_88 : decode prog_1_method_40_code 88 = .ok (.aaload, 1) := by decide +kernel
theorem d_W_create_89 : decode prog_1_method_40_code 89 = .ok (.astore 4, 2) := by decide +kernel
theorem d_W_create_91 : decode prog_1_method_40_code 91 = .ok (.aload 4, 2) := by decide +kernel
theorem d_W_create_93 : decode prog_1_method_40_code 93 = .ok (.iconst 1, 1) := by decide +kernel
theorem d_W_create_94 : decode prog_1_method_40_code 94 = .ok (.invokevirtual 182, 3) := by decide +kernel
theorem d_W_create_97 : decode prog_1_method_40_code 97 = .ok (.aload 4, 2) := by decide +kernel
theorem d_W_create_99 : decode prog_1_method_40_code 99 = .ok (.iconst 1, 1) := by decide +kernel
theorem d_W_create_100 : decode prog_1_method_40_code 100 = .ok (.invokevirtual 185, 3) := by decide +kernel
theorem d_W_create_103 : decode prog_1_method_40_code 103 = .ok (.aload 4, 2) := by decide +kernel
theorem d_W_create_105 : decode prog_1_method_40_code 105 = .ok (.iload_n 1, 1) := by decide +kernel
theorem d_W_create_106 : decode prog_1_method_40_code 106 = .ok (.invokevirtual 185, 3) := by decide +kernel
theorem d_W_create_109 : decode prog_1_method_40_code 109 = .ok (.aload 4, 2) := by decide +kernel
theorem d_W_create_111 : decode prog_1_method_40_code 111 = .ok (.iload_n 2, 1) := by decide +kernel
theorem d_W_create_112 : decode prog_1_method_40_code 112 = .ok (.invokevirtual 185, 3) := by decide +kernel
theorem d_W_create_115 : decode prog_1_method_40_code 115 = .ok (.iload_n 3, 1) := by decide +kernel
theorem d_W_create_116 : decode prog_1_method_40_code 116 = .ok (.ireturn, 1) := by decide +kernel
theorem d_W_allFree_0 : decode prog_1_method_41_code 0 = .ok (.iconst 0, 1) := by decide +kernel
theorem d_W_allFree_1 : decode prog_1_method_41_code 1 = .ok (.istore_n 3, 1) := by decide +kernel
theorem d_W_allFree_2 : decode prog_1_method_41_code 2 = .ok (.iload_n 3, 1) := by decide +kernel
theorem d_W_allFree_3 : decode prog_1_method_41_code 3 = .ok (.iload_n 2, 1) := by decide +kernel
theorem d_W_allFree_4 : decode prog_1_method_41_code 4 = .ok (.if_icmp .ge 22, 3) := by decide +kernel
theorem d_W_allFree_7 : decode prog_1_method_41_code 7 = .ok (.aload_n 0, 1) := by decide +kernel
theorem d_W_allFree_8 : decode prog_1_method_41_code 8 = .ok (.getfield 17, 3) := by decide +kernel
theorem d_W_allFree_11 : decode prog_1_method_41_code 11 = .ok (.iload_n 1, 1) := by decide +kernel
theorem d_W_allFree_12 : decode prog_1_method_41_code 12 = .ok (.iload_n 3, 1) := by decide +kernel
theorem d_W_allFree_13 : decode prog_1_method_41_code 13 = .ok (.iadd, 1) := by decide +kernel
theorem d_W_allFree_14 : decode prog_1_method_41_code 14 = .ok (.iaload, 1) := by decide +kernel
theorem d_W_allFree_15 : decode prog_1_method_41_code 15 = .ok (.ifCond .eq 5, 3) := by decide +kernel
theorem d_W_allFree_18 : decode prog_1_method_41_code 18 = .ok (.iconst 0, 1) := by decide +kernel
theorem d_W_allFree_19 : decode prog_1_method_41_code 19 = .ok (.ireturn, 1) := by decide +kernel
theorem d_W_allFree_20 : decode prog_1_method_41_code 20 = .ok (.iinc 3 1, 3) := by decide +kernel
theorem d_W_allFree_23 : decode prog_1_method_41_code 23 = .ok (.goto (-21), 3) := by decide +kernel
theorem d_W_allFree_26 : decode prog_1_method_41_code 26 = .ok (.iconst 1, 1) := by decide +kernel
theorem d_W_allFree_27 : decode prog_1_method_41_code 27 = .ok (.ireturn, 1) := by decide +kernel
theorem d_W_leastAbsent_0 : decode prog_1_method_42_code 0 = .ok (.iconst 0, 1) := by decide +kernel
theorem d_W_leastAbsent_1 : decode prog_1_method_42_code 1 = .ok (.istore_n 1, 1) := by decide +kernel
theorem d_W_leastAbsent_2 : decode prog_1_method_42_code 2 = .ok (.iload_n 1, 1) := by decide +kernel
theorem d_W_leastAbsent_3 : decode prog_1_method_42_code 3 = .ok (.iconst 3, 1) := by decide +kernel
theorem d_W_leastAbsent_4 : decode prog_1_method_42_code 4 = .ok (.if_icmp .ge 23, 3) := by decide +kernel
theorem d_W_leastAbsent_7 : decode prog_1_method_42_code 7 = .ok (.aload_n 0, 1) := by decide +kernel
theorem d_W_leastAbsent_8 : decode prog_1_method_42_code 8 = .ok (.getfield 22, 3) := by decide +kernel
theorem d_W_leastAbsent_11 : decode prog_1_method_42_code 11 = .ok (.iload_n 1, 1) := by decide +kernel
theorem d_W_leastAbsent_12 : decode prog_1_method_42_code 12 = .ok (.aaload, 1) := by decide +kernel
theorem d_W_leastAbsent_13 : decode prog_1_method_42_code 13 = .ok (.getfield 81, 3) := by decide +kernel
theorem d_W_leastAbsent_16 : decode prog_1_method_42_code 16 = .ok (.ifCond .ne 5, 3) := by decide +kernel
theorem d_W_leastAbsent_19 : decode prog_1_method_42_code 19 = .ok (.iload_n 1, 1) := by decide +kernel
theorem d_W_leastAbsent_20 : decode prog_1_method_42_code 20 = .ok (.ireturn, 1) := by decide +kernel
theorem d_W_leastAbsent_21 : decode prog_1_method_42_code 21 = .ok (.iinc 1 1, 3) := by decide +kernel
theorem d_W_leastAbsent_24 : decode prog_1_method_42_code 24 = .ok (.goto (-22), 3) := by decide +kernel
theorem d_W_leastAbsent_27 : decode prog_1_method_42_code 27 = .ok (.iconst 3, 1) := by decide +kernel
theorem d_W_leastAbsent_28 : decode prog_1_method_42_code 28 = .ok (.ireturn, 1) := by decide +kernel
theorem d_W_load_0 : decode prog_1_method_43_code 0 = .ok (.iload_n 1, 1) := by decide +kernel
theorem d_W_load_1 : decode prog_1_method_43_code 1 = .ok (.invokestatic 78, 3) := by decide +kernel
theorem d_W_load_4 : decode prog_1_method_43_code 4 = .ok (.ifCond .eq 17, 3) := by decide +kernel
theorem d_W_load_7 : decode prog_1_method_43_code 7 = .ok (.iload_n 2, 1) := by decide +kernel
theorem d_W_load_8 : decode prog_1_method_43_code 8 = .ok (.invokestatic 75, 3) := by decide +kernel
theorem d_W_load_11 : decode prog_1_method_43_code 11 = .ok (.ifCond .eq 10, 3) := by decide +kernel
theorem d_W_load_14 : decode prog_1_method_43_code 14 = .ok (.iload_n 3, 1) := by decide +kernel
theorem d_W_load_15 : decode prog_1_method_43_code 15 = .ok (.invokestatic 75, 3) := by decide +kernel
theorem d_W_load_18 : decode prog_1_method_43_code 18 = .ok (.ifCond .ne 6, 3) := by decide +kernel
theorem d_W_load_21 : decode prog_1_method_43_code 21 = .ok (.bipush (-2), 2) := by decide +kernel
theorem d_W_load_23 : decode prog_1_method_43_code 23 = .ok (.ireturn, 1) := by decide +kernel
theorem d_W_load_24 : decode prog_1_method_43_code 24 = .ok (.aload_n 0, 1) := by decide +kernel
theorem d_W_load_25 : decode prog_1_method_43_code 25 = .ok (.getfield 22, 3) := by decide +kernel
theorem d_W_load_28 : decode prog_1_method_43_code 28 = .ok (.iload_n 1, 1) := by decide +kernel
theorem d_W_load_29 : decode prog_1_method_43_code 29 = .ok (.aaload, 1) := by decide +kernel
theorem d_W_load_30 : decode prog_1_method_43_code 30 = .ok (.astore 4, 2) := by decide +kernel
theorem d_W_load_32 : decode prog_1_method_43_code 32 = .ok (.aload 4, 2) := by decide +kernel
theorem d_W_load_34 : decode prog_1_method_43_code 34 = .ok (.getfield 81, 3) := by decide +kernel
theorem d_W_load_37 : decode prog_1_method_43_code 37 = .ok (.iconst 1, 1) := by decide +kernel
theorem d_W_load_38 : decode prog_1_method_43_code 38 = .ok (.if_icmp .eq 6, 3) := by decide +kernel
theorem d_W_load_41 : decode prog_1_method_43_code 41 = .ok (.bipush (-3), 2) := by decide +kernel
theorem d_W_load_43 : decode prog_1_method_43_code 43 = .ok (.ireturn, 1) := by decide +kernel
theorem d_W_load_44 : decode prog_1_method_43_code 44 = .ok (.aload_n 0, 1) := by decide +kernel
theorem d_W_load_45 : decode prog_1_method_43_code 45 = .ok (.getfield 17, 3) := by decide +kernel
theorem d_W_load_48 : decode prog_1_method_43_code 48 = .ok (.iload_n 2, 1) := by decide +kernel
theorem d_W_load_49 : decode prog_1_method_43_code 49 = .ok (.iaload, 1) := by decide +kernel
theorem d_W_load_50 : decode prog_1_method_43_code 50 = .ok (.iconst 2, 1) := by decide +kernel
theorem d_W_load_51 : decode prog_1_method_43_code 51 = .ok (.iload_n 1, 1) := by decide +kernel
theorem d_W_load_52 : decode prog_1_method_43_code 52 = .ok (.iadd, 1) := by decide +kernel
theorem d_W_load_53 : decode prog_1_method_43_code 53 = .ok (.if_icmp .ne 13, 3) := by decide +kernel
theorem d_W_load_56 : decode prog_1_method_43_code 56 = .ok (.aload_n 0, 1) := by decide +kernel
theorem d_W_load_57 : decode prog_1_method_43_code 57 = .ok (.getfield 17, 3) := by decide +kernel
theorem d_W_load_60 : decode prog_1_method_43_code 60 = .ok (.iload_n 3, 1) := by decide +kernel
theorem d_W_load_61 : decode prog_1_method_43_code 61 = .ok (.iaload, 1) := by decide +kernel
theorem d_W_load_62 : decode prog_1_method_43_code 62 = .ok (.iconst 1, 1) := by decide +kernel
theorem d_W_load_63 : decode prog_1_method_43_code 63 = .ok (.if_icmp .eq 6, 3) := by decide +kernel
theorem d_W_load_66 : decode prog_1_method_43_code 66 = .ok (.bipush (-4), 2) := by decide +kernel
theorem d_W_load_68 : decode prog_1_method_43_code 68 = .ok (.ireturn, 1) := by decide +kernel
theorem d_W_load_69 : decode prog_1_method_43_code 69 = .ok (.aload 4, 2) := by decide +kernel
theorem d_W_load_71 : decode prog_1_method_43_code 71 = .ok (.getfield 188, 3) := by decide +kernel
theorem d_W_load_74 : decode prog_1_method_43_code 74 = .ok (.bipush 8, 2) := by decide +kernel
theorem d_W_load_76 : decode prog_1_method_43_code 76 = .ok (.if_icmp .lt 6, 3) := by decide +kernel
theorem d_W_load_79 : decode prog_1_method_43_code 79 = .ok (.bipush (-5), 2) := by decide +kernel
theorem d_W_load_81 : decode prog_1_method_43_code 81 = .ok (.ireturn, 1) := by decide +kernel
theorem d_W_load_82 : decode prog_1_method_43_code 82 = .ok (.aload 4, 2) := by decide +kernel
theorem d_W_load_84 : decode prog_1_method_43_code 84 = .ok (.dup, 1) := by decide +kernel
theorem d_W_load_85 : decode prog_1_method_43_code 85 = .ok (.getfield 188, 3) := by decide +kernel
theorem d_W_load_88 : decode prog_1_method_43_code 88 = .ok (.iconst 1, 1) := by decide +kernel
theorem d_W_load_89 : decode prog_1_method_43_code 89 = .ok (.iadd, 1) := by decide +kernel
theorem d_W_load_90 : decode prog_1_method_43_code 90 = .ok (.putfield 188, 3) := by decide +kernel
theorem d_W_load_93 : decode prog_1_method_43_code 93 = .ok (.aload 4, 2) := by decide +kernel
theorem d_W_load_95 : decode prog_1_method_43_code 95 = .ok (.iconst 2, 1) := by decide +kernel
theorem d_W_load_96 : decode prog_1_method_43_code 96 = .ok (.invokevirtual 185, 3) := by decide +kernel
theorem d_W_load_99 : decode prog_1_method_43_code 99 = .ok (.aload 4, 2) := by decide +kernel
theorem d_W_load_101 : decode prog_1_method_43_code 101 = .ok (.iload_n 2, 1) := by decide +kernel
theorem d_W_load_102 : decode prog_1_method_43_code 102 = .ok (.invokevirtual 185, 3) := by decide +kernel
theorem d_W_load_105 : decode prog_1_method_43_code 105 = .ok (.iconst 0, 1) := by decide +kernel
theorem d_W_load_106 : decode prog_1_method_43_code 106 = .ok (.istore 5, 2) := by decide +kernel
theorem d_W_load_108 : decode prog_1_method_43_code 108 = .ok (.iload 5, 2) := by decide +kernel
theorem d_W_load_110 : decode prog_1_method_43_code 110 = .ok (.bipush 16, 2) := by decide +kernel
theorem d_W_load_112 : decode prog_1_method_43_code 112 = .ok (.if_icmp .ge 44, 3) := by decide +kernel
theorem d_W_load_115 : decode prog_1_method_43_code 115 = .ok (.aload_n 0, 1) := by decide +kernel
theorem d_W_load_116 : decode prog_1_method_43_code 116 = .ok (.getfield 13, 3) := by decide +kernel
theorem d_W_load_119 : decode prog_1_method_43_code 119 = .ok (.iload_n 3, 1) := by decide +kernel
theorem d_W_load_120 : decode prog_1_method_43_code 120 = .ok (.bipush 16, 2) := by decide +kernel
theorem d_W_load_122 : decode prog_1_method_43_code 122 = .ok (.imul, 1) := by decide +kernel
theorem d_W_load_123 : decode prog_1_method_43_code 123 = .ok (.iload 5, 2) := by decide +kernel
theorem d_W_load_125 : decode prog_1_method_43_code 125 = .ok (.iadd, 1) := by decide +kernel
theorem d_W_load_126 : decode prog_1_method_43_code 126 = .ok (.iaload, 1) := by decide +kernel
theorem d_W_load_127 : decode prog_1_method_43_code 127 = .ok (.istore 6, 2) := by decide +kernel
theorem d_W_load_129 : decode prog_1_method_43_code 129 = .ok (.aload_n 0, 1) := by decide +kernel
theorem d_W_load_130 : decode prog_1_method_43_code 130 = .ok (.getfield 13, 3) := by decide +kernel
theorem d_W_load_133 : decode prog_1_method_43_code 133 = .ok (.iload_n 2, 1) := by decide +kernel
theorem d_W_load_134 : decode prog_1_method_43_code 134 = .ok (.bipush 16, 2) := by decide +kernel
theorem d_W_load_136 : decode prog_1_method_43_code 136 = .ok (.imul, 1) := by decide +kernel
theorem d_W_load_137 : decode prog_1_method_43_code 137 = .ok (.iload 5, 2) := by decide +kernel
theorem d_W_load_139 : decode prog_1_method_43_code 139 = .ok (.iadd, 1) := by decide +kernel
theorem d_W_load_140 : decode prog_1_method_43_code 140 = .ok (.iload 6, 2) := by decide +kernel
theorem d_W_load_142 : decode prog_1_method_43_code 142 = .ok (.iastore, 1) := by decide +kernel
theorem d_W_load_143 : decode prog_1_method_43_code 143 = .ok (.aload 4, 2) := by decide +kernel
theorem d_W_load_145 : decode prog_1_method_43_code 145 = .ok (.iload 6, 2) := by decide +kernel
theorem d_W_load_147 : decode prog_1_method_43_code 147 = .ok (.invokevirtual 185, 3) := by decide +kernel
theorem d_W_load_150 : decode prog_1_method_43_code 150 = .ok (.iinc 5 1, 3) := by decide +kernel
theorem d_W_load_153 : decode prog_1_method_43_code 153 = .ok (.goto (-45), 3) := by decide +kernel
theorem d_W_load_156 : decode prog_1_method_43_code 156 = .ok (.iconst 0, 1) := by decide +kernel
theorem d_W_load_157 : decode prog_1_method_43_code 157 = .ok (.ireturn, 1) := by decide +kernel
theorem d_W_addThread_0 : decode prog_1_method_44_code 0 = .ok (.iload_n 1, 1) := by decide +kernel
theorem d_W_addThread_1 : decode prog_1_method_44_code 1 = .ok (.invokestatic 78, 3) := by decide +kernel
theorem d_W_addThread_4 : decode prog_1_method_44_code 4 = .ok (.ifCond .eq 10, 3) := by decide +kernel
theorem d_W_addThread_7 : decode prog_1_method_44_code 7 = .ok (.iload_n 2, 1) := by decide +kernel
theorem d_W_addThread_8 : decode prog_1_method_44_code 8 = .ok (.invokestatic 54, 3) := by decide +kernel
theorem d_W_addThread_11 : decode prog_1_method_44_code 11 = .ok (.ifCond .ne 6, 3) := by decide +kernel
theorem d_W_addThread_14 : decode prog_1_method_44_code 14 = .ok (.bipush (-2), 2) := by decide +kernel
theorem d_W_addThread_16 : decode prog_1_method_44_code 16 = .ok (.ireturn, 1) := by decide +kernel
theorem d_W_addThread_17 : decode prog_1_method_44_code 17 = .ok (.aload_n 0, 1) := by decide +kernel
theorem d_W_addThread_18 : decode prog_1_method_44_code 18 = .ok (.getfield 22, 3) := by decide +kernel
theorem d_W_addThread_21 : decode prog_1_method_44_code 21 = .ok (.iload_n 1, 1) := by decide +kernel
theorem d_W_addThread_22 : decode prog_1_method_44_code 22 = .ok (.aaload, 1) := by decide +kernel
theorem d_W_addThread_23 : decode prog_1_method_44_code 23 = .ok (.astore_n 3, 1) := by decide +kernel
theorem d_W_addThread_24 : decode prog_1_method_44_code 24 = .ok (.aload_n 3, 1) := by decide +kernel
theorem d_W_addThread_25 : decode prog_1_method_44_code 25 = .ok (.getfield 81, 3) := by decide +kernel
theorem d_W_addThread_28 : decode prog_1_method_44_code 28 = .ok (.iconst 1, 1) := by decide +kernel
theorem d_W_addThread_29 : decode prog_1_method_44_code 29 = .ok (.if_icmp .eq 6, 3) := by decide +kernel
theorem d_W_addThread_32 : decode prog_1_method_44_code 32 = .ok (.bipush (-3), 2) := by decide +kernel
theorem d_W_addThread_34 : decode prog_1_method_44_code 34 = .ok (.ireturn, 1) := by decide +kernel
theorem d_W_addThread_35 : decode prog_1_method_44_code 35 = .ok (.aload_n 0, 1) := by decide +kernel
theorem d_W_addThread_36 : decode prog_1_method_44_code 36 = .ok (.getfield 17, 3) := by decide +kernel
theorem d_W_addThread_39 : decode prog_1_method_44_code 39 = .ok (.iload_n 2, 1) := by decide +kernel
theorem d_W_addThread_40 : decode prog_1_method_44_code 40 = .ok (.bipush 16, 2) := by decide +kernel
theorem d_W_addThread_42 : decode prog_1_method_44_code 42 = .ok (.idiv, 1) := by decide +kernel
theorem d_W_addThread_43 : decode prog_1_method_44_code 43 = .ok (.iaload, 1) := by decide +kernel
theorem d_W_addThread_44 : decode prog_1_method_44_code 44 = .ok (.iconst 2, 1) := by decide +kernel
theorem d_W_addThread_45 : decode prog_1_method_44_code 45 = .ok (.iload_n 1, 1) := by decide +kernel
theorem d_W_addThread_46 : decode prog_1_method_44_code 46 = .ok (.iadd, 1) := by decide +kernel
theorem d_W_addThread_47 : decode prog_1_method_44_code 47 = .ok (.if_icmp .eq 6, 3) := by decide +kernel
theorem d_W_addThread_50 : decode prog_1_method_44_code 50 = .ok (.bipush (-4), 2) := by decide +kernel
theorem d_W_addThread_52 : decode prog_1_method_44_code 52 = .ok (.ireturn, 1) := by decide +kernel
theorem d_W_addThread_53 : decode prog_1_method_44_code 53 = .ok (.aload_n 3, 1) := by decide +kernel
theorem d_W_addThread_54 : decode prog_1_method_44_code 54 = .ok (.invokevirtual 191, 3) := by decide +kernel
theorem d_W_addThread_57 : decode prog_1_method_44_code 57 = .ok (.istore 4, 2) := by decide +kernel
theorem d_W_addThread_59 : decode prog_1_method_44_code 59 = .ok (.iload 4, 2) := by decide +kernel
theorem d_W_addThread_61 : decode prog_1_method_44_code 61 = .ok (.iconst 2, 1) := by decide +kernel
theorem d_W_addThread_62 : decode prog_1_method_44_code 62 = .ok (.if_icmp .lt 6, 3) := by decide +kernel
theorem d_W_addThread_65 : decode prog_1_method_44_code 65 = .ok (.bipush (-5), 2) := by decide +kernel
theorem d_W_addThread_67 : decode prog_1_method_44_code 67 = .ok (.ireturn, 1) := by decide +kernel
theorem d_W_addThread_68 : decode prog_1_method_44_code 68 = .ok (.aload_n 3, 1) := by decide +kernel
theorem d_W_addThread_69 : decode prog_1_method_44_code 69 = .ok (.getfield 87, 3) := by decide +kernel
theorem d_W_addThread_72 : decode prog_1_method_44_code 72 = .ok (.iload 4, 2) := by decide +kernel
theorem d_W_addThread_74 : decode prog_1_method_44_code 74 = .ok (.aaload, 1) := by decide +kernel
theorem d_W_addThread_75 : decode prog_1_method_44_code 75 = .ok (.iconst 1, 1) := by decide +kernel
theorem d_W_addThread_76 : decode prog_1_method_44_code 76 = .ok (.putfield 91, 3) := by decide +kernel
theorem d_W_addThread_79 : decode prog_1_method_44_code 79 = .ok (.aload_n 3, 1) := by decide +kernel
theorem d_W_addThread_80 : decode prog_1_method_44_code 80 = .ok (.getfield 87, 3) := by decide +kernel
theorem d_W_addThread_83 : decode prog_1_method_44_code 83 = .ok (.iload 4, 2) := by decide +kernel
theorem d_W_addThread_85 : decode prog_1_method_44_code 85 = .ok (.aaload, 1) := by decide +kernel
theorem d_W_addThread_86 : decode prog_1_method_44_code 86 = .ok (.iload_n 2, 1) := by decide +kernel
theorem d_W_addThread_87 : decode prog_1_method_44_code 87 = .ok (.putfield 194, 3) := by decide +kernel
theorem d_W_addThread_90 : decode prog_1_method_44_code 90 = .ok (.aload_n 3, 1) := by decide +kernel
theorem d_W_addThread_91 : decode prog_1_method_44_code 91 = .ok (.iconst 3, 1) := by decide +kernel
theorem d_W_addThread_92 : decode prog_1_method_44_code 92 = .ok (.invokevirtual 185, 3) := by decide +kernel
theorem d_W_addThread_95 : decode prog_1_method_44_code 95 = .ok (.aload_n 3, 1) := by decide +kernel
theorem d_W_addThread_96 : decode prog_1_method_44_code 96 = .ok (.iload_n 2, 1) := by decide +kernel
theorem d_W_addThread_97 : decode prog_1_method_44_code 97 = .ok (.invokevirtual 185, 3) := by decide +kernel
theorem d_W_addThread_100 : decode prog_1_method_44_code 100 = .ok (.iload 4, 2) := by decide +kernel
theorem d_W_addThread_102 : decode prog_1_method_44_code 102 = .ok (.ireturn, 1) := by decide +kernel
theorem d_W_seal_0 : decode prog_1_method_45_code 0 = .ok (.iload_n 1, 1) := by decide +kernel
theorem d_W_seal_1 : decode prog_1_method_45_code 1 = .ok (.invokestatic 78, 3) := by decide +kernel
theorem d_W_seal_4 : decode prog_1_method_45_code 4 = .ok (.ifCond .ne 6, 3) := by decide +kernel
theorem d_W_seal_7 : decode prog_1_method_45_code 7 = .ok (.bipush (-2), 2) := by decide +kernel
theorem d_W_seal_9 : decode prog_1_method_45_code 9 = .ok (.ireturn, 1) := by decide +kernel
theorem d_W_seal_10 : decode prog_1_method_45_code 10 = .ok (.aload_n 0, 1) := by decide +kernel
theorem d_W_seal_11 : decode prog_1_method_45_code 11 = .ok (.getfield 22, 3) := by decide +kernel
theorem d_W_seal_14 : decode prog_1_method_45_code 14 = .ok (.iload_n 1, 1) := by decide +kernel
theorem d_W_seal_15 : decode prog_1_method_45_code 15 = .ok (.aaload, 1) := by decide +kernel
theorem d_W_seal_16 : decode prog_1_method_45_code 16 = .ok (.astore_n 2, 1) := by decide +kernel
theorem d_W_seal_17 : decode prog_1_method_45_code 17 = .ok (.aload_n 2, 1) := by decide +kernel
theorem d_W_seal_18 : decode prog_1_method_45_code 18 = .ok (.getfield 81, 3) := by decide +kernel
theorem d_W_seal_21 : decode prog_1_method_45_code 21 = .ok (.iconst 1, 1) := by decide +kernel
theorem d_W_seal_22 : decode prog_1_method_45_code 22 = .ok (.if_icmp .ne 10, 3) := by decide +kernel
theorem d_W_seal_25 : decode prog_1_method_45_code 25 = .ok (.aload_n 2, 1) := by decide +kernel
theorem d_W_seal_26 : decode prog_1_method_45_code 26 = .ok (.invokevirtual 191, 3) := by decide +kernel
theorem d_W_seal_29 : decode prog_1_method_45_code 29 = .ok (.ifCond .ne 6, 3) := by decide +kernel
theorem d_W_seal_32 : decode prog_1_method_45_code 32 = .ok (.bipush (-3), 2) := by decide +kernel
theorem d_W_seal_34 : decode prog_1_method_45_code 34 = .ok (.ireturn, 1) := by decide +kernel
theorem d_W_seal_35 : decode prog_1_method_45_code 35 = .ok (.aload_n 2, 1) := by decide +kernel
theorem d_W_seal_36 : decode prog_1_method_45_code 36 = .ok (.iconst 2, 1) := by decide +kernel
theorem d_W_seal_37 : decode prog_1_method_45_code 37 = .ok (.putfield 81, 3) := by decide +kernel
theorem d_W_seal_40 : decode prog_1_method_45_code 40 = .ok (.aload_n 2, 1) := by decide +kernel
theorem d_W_seal_41 : decode prog_1_method_45_code 41 = .ok (.iconst 4, 1) := by decide +kernel
theorem d_W_seal_42 : decode prog_1_method_45_code 42 = .ok (.invokevirtual 185, 3) := by decide +kernel
theorem d_W_seal_45 : decode prog_1_method_45_code 45 = .ok (.iconst 0, 1) := by decide +kernel
theorem d_W_seal_46 : decode prog_1_method_45_code 46 = .ok (.ireturn, 1) := by decide +kernel
theorem d_W_share_0 : decode prog_1_method_46_code 0 = .ok (.iload_n 1, 1) := by decide +kernel
theorem d_W_share_1 : decode prog_1_method_46_code 1 = .ok (.invokestatic 78, 3) := by decide +kernel
theorem d_W_share_4 : decode prog_1_method_46_code 4 = .ok (.ifCond .eq 10, 3) := by decide +kernel
theorem d_W_share_7 : decode prog_1_method_46_code 7 = .ok (.iload_n 2, 1) := by decide +kernel
theorem d_W_share_8 : decode prog_1_method_46_code 8 = .ok (.invokestatic 75, 3) := by decide +kernel
theorem d_W_share_11 : decode prog_1_method_46_code 11 = .ok (.ifCond .ne 6, 3) := by decide +kernel
theorem d_W_share_14 : decode prog_1_method_46_code 14 = .ok (.bipush (-2), 2) := by decide +kernel
theorem d_W_share_16 : decode prog_1_method_46_code 16 = .ok (.ireturn, 1) := by decide +kernel
theorem d_W_share_17 : decode prog_1_method_46_code 17 = .ok (.aload_n 0, 1) := by decide +kernel
theorem d_W_share_18 : decode prog_1_method_46_code 18 = .ok (.getfield 22, 3) := by decide +kernel
theorem d_W_share_21 : decode prog_1_method_46_code 21 = .ok (.iload_n 1, 1) := by decide +kernel
theorem d_W_share_22 : decode prog_1_method_46_code 22 = .ok (.aaload, 1) := by decide +kernel
theorem d_W_share_23 : decode prog_1_method_46_code 23 = .ok (.getfield 81, 3) := by decide +kernel
theorem d_W_share_26 : decode prog_1_method_46_code 26 = .ok (.ifCond .ne 6, 3) := by decide +kernel
theorem d_W_share_29 : decode prog_1_method_46_code 29 = .ok (.bipush (-3), 2) := by decide +kernel
theorem d_W_share_31 : decode prog_1_method_46_code 31 = .ok (.ireturn, 1) := by decide +kernel
theorem d_W_share_32 : decode prog_1_method_46_code 32 = .ok (.aload_n 0, 1) := by decide +kernel
theorem d_W_share_33 : decode prog_1_method_46_code 33 = .ok (.getfield 17, 3) := by decide +kernel
theorem d_W_share_36 : decode prog_1_method_46_code 36 = .ok (.iload_n 2, 1) := by decide +kernel
theorem d_W_share_37 : decode prog_1_method_46_code 37 = .ok (.iaload, 1) := by decide +kernel
theorem d_W_share_38 : decode prog_1_method_46_code 38 = .ok (.iconst 1, 1) := by decide +kernel
theorem d_W_share_39 : decode prog_1_method_46_code 39 = .ok (.if_icmp .eq 6, 3) := by decide +kernel
theorem d_W_share_42 : decode prog_1_method_46_code 42 = .ok (.bipush (-4), 2) := by decide +kernel
theorem d_W_share_44 : decode prog_1_method_46_code 44 = .ok (.ireturn, 1) := by decide +kernel
theorem d_W_share_45 : decode prog_1_method_46_code 45 = .ok (.aload_n 0, 1) := by decide +kernel
theorem d_W_share_46 : decode prog_1_method_46_code 46 = .ok (.iload_n 1, 1) := by decide +kernel
theorem d_W_share_47 : decode prog_1_method_46_code 47 = .ok (.invokevirtual 197, 3) := by decide +kernel
theorem d_W_share_50 : decode prog_1_method_46_code 50 = .ok (.iconst 2, 1) := by decide +kernel
theorem d_W_share_51 : decode prog_1_method_46_code 51 = .ok (.if_icmp .lt 6, 3) := by decide +kernel
theorem d_W_share_54 : decode prog_1_method_46_code 54 = .ok (.bipush (-5), 2) := by decide +kernel
theorem d_W_share_56 : decode prog_1_method_46_code 56 = .ok (.ireturn, 1) := by decide +kernel
theorem d_W_share_57 : decode prog_1_method_46_code 57 = .ok (.aload_n 0, 1) := by decide +kernel
theorem d_W_share_58 : decode prog_1_method_46_code 58 = .ok (.getfield 17, 3) := by decide +kernel
theorem d_W_share_61 : decode prog_1_method_46_code 61 = .ok (.iload_n 2, 1) := by decide +kernel
theorem d_W_share_62 : decode prog_1_method_46_code 62 = .ok (.iconst 5, 1) := by decide +kernel
theorem d_W_share_63 : decode prog_1_method_46_code 63 = .ok (.iload_n 1, 1) := by decide +kernel
theorem d_W_share_64 : decode prog_1_method_46_code 64 = .ok (.iadd, 1) := by decide +kernel
theorem d_W_share_65 : decode prog_1_method_46_code 65 = .ok (.iastore, 1) := by decide +kernel
theorem d_W_share_66 : decode prog_1_method_46_code 66 = .ok (.iconst 0, 1) := by decide +kernel
theorem d_W_share_67 : decode prog_1_method_46_code 67 = .ok (.ireturn, 1) := by decide +kernel
theorem d_W_sharedWith_0 : decode prog_1_method_47_code 0 = .ok (.iconst 0, 1) := by decide +kernel
theorem d_W_sharedWith_1 : decode prog_1_method_47_code 1 = .ok (.istore_n 2, 1) := by decide +kernel
theorem d_W_sharedWith_2 : decode prog_1_method_47_code 2 = .ok (.iconst 0, 1) := by decide +kernel
theorem d_W_sharedWith_3 : decode prog_1_method_47_code 3 = .ok (.istore_n 3, 1) := by decide +kernel
theorem d_W_sharedWith_4 : decode prog_1_method_47_code 4 = .ok (.iload_n 3, 1) := by decide +kernel
theorem d_W_sharedWith_5 : decode prog_1_method_47_code 5 = .ok (.bipush 16, 2) := by decide +kernel
theorem d_W_sharedWith_7 : decode prog_1_method_47_code 7 = .ok (.if_icmp .ge 24, 3) := by decide +kernel
theorem d_W_sharedWith_10 : decode prog_1_method_47_code 10 = .ok (.aload_n 0, 1) := by decide +kernel
theorem d_W_sharedWith_11 : decode prog_1_method_47_code 11 = .ok (.getfield 17, 3) := by decide +kernel
theorem d_W_sharedWith_14 : decode prog_1_method_47_code 14 = .ok (.iload_n 3, 1) := by decide +kernel
theorem d_W_sharedWith_15 : decode prog_1_method_47_code 15 = .ok (.iaload, 1) := by decide +kernel
theorem d_W_sharedWith_16 : decode prog_1_method_47_code 16 = .ok (.iconst 5, 1) := by decide +kernel
theorem d_W_sharedWith_17 : decode prog_1_method_47_code 17 = .ok (.iload_n 1, 1) := by decide +kernel
theorem d_W_sharedWith_18 : decode prog_1_method_47_code 18 = .ok (.iadd, 1) := by decide +kernel
theorem d_W_sharedWith_19 : decode prog_1_method_47_code 19 = .ok (.if_icmp .ne 6, 3) := by decide +kernel
theorem d_W_sharedWith_22 : decode prog_1_method_47_code 22 = .ok (.iinc 2 1, 3) := by decide +kernel
theorem d_W_sharedWith_25 : decode prog_1_method_47_code 25 = .ok (.iinc 3 1, 3) := by decide +kernel
theorem d_W_sharedWith_28 : decode prog_1_method_47_code 28 = .ok (.goto (-24), 3) := by decide +kernel
theorem d_W_sharedWith_31 : decode prog_1_method_47_code 31 = .ok (.iload_n 2, 1) := by decide +kernel
theorem d_W_sharedWith_32 : decode prog_1_method_47_code 32 = .ok (.ireturn, 1) := by decide +kernel
theorem d_W_enter_0 : decode prog_1_method_48_code 0 = .ok (.aload_n 0, 1) := by decide +kernel
theorem d_W_enter_1 : decode prog_1_method_48_code 1 = .ok (.iload_n 1, 1) := by decide +kernel
theorem d_W_enter_2 : decode prog_1_method_48_code 2 = .ok (.iload_n 2, 1) := by decide +kernel
theorem d_W_enter_3 : decode prog_1_method_48_code 3 = .ok (.iconst 1, 1) := by decide +kernel
theorem d_W_enter_4 : decode prog_1_method_48_code 4 = .ok (.invokevirtual 200, 3) := by decide +kernel
theorem d_W_enter_7 : decode prog_1_method_48_code 7 = .ok (.istore 4, 2) := by decide +kernel
theorem d_W_enter_9 : decode prog_1_method_48_code 9 = .ok (.iload 4, 2) := by decide +kernel
theorem d_W_enter_11 : decode prog_1_method_48_code 11 = .ok (.ifCond .ne 36, 3) := by decide +kernel
theorem d_W_enter_14 : decode prog_1_method_48_code 14 = .ok (.aload_n 0, 1) := by decide +kernel
theorem d_W_enter_15 : decode prog_1_method_48_code 15 = .ok (.getfield 22, 3) := by decide +kernel
theorem d_W_enter_18 : decode prog_1_method_48_code 18 = .ok (.iload_n 1, 1) := by decide +kernel
theorem d_W_enter_19 : decode prog_1_method_48_code 19 = .ok (.aaload, 1) := by decide +kernel
theorem d_W_enter_20 : decode prog_1_method_48_code 20 = .ok (.getfield 87, 3) := by decide +kernel
theorem d_W_enter_23 : decode prog_1_method_48_code 23 = .ok (.iload_n 2, 1) := by decide +kernel
theorem d_W_enter_24 : decode prog_1_method_48_code 24 = .ok (.aaload, 1) := by decide +kernel
theorem d_W_enter_25 : decode prog_1_method_48_code 25 = .ok (.astore 5, 2) := by decide +kernel
theorem d_W_enter_27 : decode prog_1_method_48_code 27 = .ok (.aload 5, 2) := by decide +kernel
theorem d_W_enter_29 : decode prog_1_method_48_code 29 = .ok (.getfield 94, 3) := by decide +kernel
theorem d_W_enter_32 : decode prog_1_method_48_code 32 = .ok (.aload 5, 2) := by decide +kernel
theorem d_W_enter_34 : decode prog_1_method_48_code 34 = .ok (.getfield 194, 3) := by decide +kernel
theorem d_W_enter_37 : decode prog_1_method_48_code 37 = .ok (.iload_n 3, 1) := by decide +kernel
theorem d_W_enter_38 : decode prog_1_method_48_code 38 = .ok (.invokevirtual 203, 3) := by decide +kernel
theorem d_W_enter_41 : decode prog_1_method_48_code 41 = .ok (.aload_n 0, 1) := by decide +kernel
theorem d_W_enter_42 : decode prog_1_method_48_code 42 = .ok (.iload_n 1, 1) := by decide +kernel
theorem d_W_enter_43 : decode prog_1_method_48_code 43 = .ok (.iload_n 2, 1) := by decide +kernel
theorem d_W_enter_44 : decode prog_1_method_48_code 44 = .ok (.invokevirtual 206, 3) := by decide +kernel
theorem d_W_enter_47 : decode prog_1_method_48_code 47 = .ok (.iload 4, 2) := by decide +kernel
theorem d_W_enter_49 : decode prog_1_method_48_code 49 = .ok (.ireturn, 1) := by decide +kernel
theorem d_W_resume_0 : decode prog_1_method_49_code 0 = .ok (.aload_n 0, 1) := by decide +kernel
theorem d_W_resume_1 : decode prog_1_method_49_code 1 = .ok (.iload_n 1, 1) := by decide +kernel
theorem d_W_resume_2 : decode prog_1_method_49_code 2 = .ok (.iload_n 2, 1) := by decide +kernel
theorem d_W_resume_3 : decode prog_1_method_49_code 3 = .ok (.iconst 3, 1) := by decide +kernel
theorem d_W_resume_4 : decode prog_1_method_49_code 4 = .ok (.invokevirtual 200, 3) := by decide +kernel
theorem d_W_resume_7 : decode prog_1_method_49_code 7 = .ok (.istore_n 3, 1) := by decide +kernel
theorem d_W_resume_8 : decode prog_1_method_49_code 8 = .ok (.iload_n 3, 1) := by decide +kernel
theorem d_W_resume_9 : decode prog_1_method_49_code 9 = .ok (.ifCond .ne 9, 3) := by decide +kernel
theorem d_W_resume_12 : decode prog_1_method_49_code 12 = .ok (.aload_n 0, 1) := by decide +kernel
theorem d_W_resume_13 : decode prog_1_method_49_code 13 = .ok (.iload_n 1, 1) := by decide +kernel
theorem d_W_resume_14 : decode prog_1_method_49_code 14 = .ok (.iload_n 2, 1) := by decide +kernel
theorem d_W_resume_15 : decode prog_1_method_49_code 15 = .ok (.invokevirtual 206, 3) := by decide +kernel
theorem d_W_resume_18 : decode prog_1_method_49_code 18 = .ok (.iload_n 3, 1) := by decide +kernel
theorem d_W_resume_19 : decode prog_1_method_49_code 19 = .ok (.ireturn, 1) := by decide +kernel
theorem d_W_refusalToStart_0 : decode prog_1_method_50_code 0 = .ok (.iload_n 1, 1) := by decide +kernel
theorem d_W_refusalToStart_1 : decode prog_1_method_50_code 1 = .ok (.invokestatic 78, 3) := by decide +kernel
theorem d_W_refusalToStart_4 : decode prog_1_method_50_code 4 = .ok (.ifCond .eq 10, 3) := by decide +kernel
theorem d_W_refusalToStart_7 : decode prog_1_method_50_code 7 = .ok (.iload_n 2, 1) := by decide +kernel
theorem d_W_refusalToStart_8 : decode prog_1_method_50_code 8 = .ok (.invokestatic 84, 3) := by decide +kernel
theorem d_W_refusalToStart_11 : decode prog_1_method_50_code 11 = .ok (.ifCond .ne 6, 3) := by decide +kernel
theorem d_W_refusalToStart_14 : decode prog_1_method_50_code 14 = .ok (.bipush (-2), 2) := by decide +kernel
theorem d_W_refusalToStart_16 : decode prog_1_method_50_code 16 = .ok (.ireturn, 1) := by decide +kernel
theorem d_W_refusalToStart_17 : decode prog_1_method_50_code 17 = .ok (.aload_n 0, 1) := by decide +kernel
theorem d_W_refusalToStart_18 : decode prog_1_method_50_code 18 = .ok (.getfield 22, 3) := by decide +kernel
theorem d_W_refusalToStart_21 : decode prog_1_method_50_code 21 = .ok (.iload_n 1, 1) := by decide +kernel
theorem d_W_refusalToStart_22 : decode prog_1_method_50_code 22 = .ok (.aaload, 1) := by decide +kernel
theorem d_W_refusalToStart_23 : decode prog_1_method_50_code 23 = .ok (.astore 4, 2) := by decide +kernel
theorem d_W_refusalToStart_25 : decode prog_1_method_50_code 25 = .ok (.aload 4, 2) := by decide +kernel
theorem d_W_refusalToStart_27 : decode prog_1_method_50_code 27 = .ok (.getfield 81, 3) := by decide +kernel
theorem d_W_refusalToStart_30 : decode prog_1_method_50_code 30 = .ok (.iconst 2, 1) := by decide +kernel
theorem d_W_refusalToStart_31 : decode prog_1_method_50_code 31 = .ok (.if_icmp .ne 21, 3) := by decide +kernel
theorem d_W_refusalToStart_34 : decode prog_1_method_50_code 34 = .ok (.aload 4, 2) := by decide +kernel
theorem d_W_refusalToStart_36 : decode prog_1_method_50_code 36 = .ok (.getfield 87, 3) := by decide +kernel
theorem d_W_refusalToStart_39 : decode prog_1_method_50_code 39 = .ok (.iload_n 2, 1) := by decide +kernel
theorem d_W_refusalToStart_40 : decode prog_1_method_50_code 40 = .ok (.aaload, 1) := by decide +kernel
theorem d_W_refusalToStart_41 : decode prog_1_method_50_code 41 = .ok (.getfield 91, 3) := by decide +kernel
theorem d_W_refusalToStart_44 : decode prog_1_method_50_code 44 = .ok (.iload_n 3, 1) := by decide +kernel
theorem d_W_refusalToStart_45 : decode prog_1_method_50_code 45 = .ok (.if_icmp .ne 7, 3) := by decide +kernel
theorem d_W_refusalToStart_48 : decode prog_1_method_50_code 48 = .ok (.iconst 0, 1) := by decide +kernel
theorem d_W_refusalToStart_49 : decode prog_1_method_50_code 49 = .ok (.goto 5, 3) := by decide +kernel
theorem d_W_refusalToStart_52 : decode prog_1_method_50_code 52 = .ok (.bipush (-3), 2) := by decide +kernel
theorem d_W_refusalToStart_54 : decode prog_1_method_50_code 54 = .ok (.ireturn, 1) := by decide +kernel
theorem d_W_handOver_0 : decode prog_1_method_51_code 0 = .ok (.aload_n 0, 1) := by decide +kernel
theorem d_W_handOver_1 : decode prog_1_method_51_code 1 = .ok (.getfield 22, 3) := by decide +kernel
theorem d_W_handOver_4 : decode prog_1_method_51_code 4 = .ok (.iload_n 1, 1) := by decide +kernel
theorem d_W_handOver_5 : decode prog_1_method_51_code 5 = .ok (.aaload, 1) := by decide +kernel
theorem d_W_handOver_6 : decode prog_1_method_51_code 6 = .ok (.getfield 87, 3) := by decide +kernel
theorem d_W_handOver_9 : decode prog_1_method_51_code 9 = .ok (.iload_n 2, 1) := by decide +kernel
theorem d_W_handOver_10 : decode prog_1_method_51_code 10 = .ok (.aaload, 1) := by decide +kernel
theorem d_W_handOver_11 : decode prog_1_method_51_code 11 = .ok (.iconst 2, 1) := by decide +kernel
theorem d_W_handOver_12 : decode prog_1_method_51_code 12 = .ok (.putfield 91, 3) := by decide +kernel
theorem d_W_handOver_15 : decode prog_1_method_51_code 15 = .ok (.aload_n 0, 1) := by decide +kernel
theorem d_W_handOver_16 : decode prog_1_method_51_code 16 = .ok (.iload_n 1, 1) := by decide +kernel
theorem d_W_handOver_17 : decode prog_1_method_51_code 17 = .ok (.iconst 2, 1) := by decide +kernel
theorem d_W_handOver_18 : decode prog_1_method_51_code 18 = .ok (.imul, 1) := by decide +kernel
theorem d_W_handOver_19 : decode prog_1_method_51_code 19 = .ok (.iload_n 2, 1) := by decide +kernel
theorem d_W_handOver_20 : decode prog_1_method_51_code 20 = .ok (.iadd, 1) := by decide +kernel
theorem d_W_handOver_21 : decode prog_1_method_51_code 21 = .ok (.putfield 41, 3) := by decide +kernel
theorem d_W_handOver_24 : decode prog_1_method_51_code 24 = .ok (.return_, 1) := by decide +kernel
theorem d_W_stop_0 : decode prog_1_method_52_code 0 = .ok (.iload_n 1, 1) := by decide +kernel
theorem d_W_stop_1 : decode prog_1_method_52_code 1 = .ok (.invokestatic 78, 3) := by decide +kernel
theorem d_W_stop_4 : decode prog_1_method_52_code 4 = .ok (.ifCond .ne 6, 3) := by decide +kernel
theorem d_W_stop_7 : decode prog_1_method_52_code 7 = .ok (.bipush (-2), 2) := by decide +kernel
theorem d_W_stop_9 : decode prog_1_method_52_code 9 = .ok (.ireturn, 1) := by decide +kernel
theorem d_W_stop_10 : decode prog_1_method_52_code 10 = .ok (.aload_n 0, 1) := by decide +kernel
theorem d_W_stop_11 : decode prog_1_method_52_code 11 = .ok (.getfield 22, 3) := by decide +kernel
theorem d_W_stop_14 : decode prog_1_method_52_code 14 = .ok (.iload_n 1, 1) := by decide +kernel
theorem d_W_stop_15 : decode prog_1_method_52_code 15 = .ok (.aaload, 1) := by decide +kernel
theorem d_W_stop_16 : decode prog_1_method_52_code 16 = .ok (.getfield 81, 3) := by decide +kernel
theorem d_W_stop_19 : decode prog_1_method_52_code 19 = .ok (.iconst 2, 1) := by decide +kernel
theorem d_W_stop_20 : decode prog_1_method_52_code 20 = .ok (.if_icmp .eq 6, 3) := by decide +kernel
theorem d_W_stop_23 : decode prog_1_method_52_code 23 = .ok (.bipush (-3), 2) := by decide +kernel
theorem d_W_stop_25 : decode prog_1_method_52_code 25 = .ok (.ireturn, 1) := by decide +kernel
theorem d_W_stop_26 : decode prog_1_method_52_code 26 = .ok (.aload_n 0, 1) := by decide +kernel
theorem d_W_stop_27 : decode prog_1_method_52_code 27 = .ok (.getfield 22, 3) := by decide +kernel
theorem d_W_stop_30 : decode prog_1_method_52_code 30 = .ok (.iload_n 1, 1) := by decide +kernel
theorem d_W_stop_31 : decode prog_1_method_52_code 31 = .ok (.aaload, 1) := by decide +kernel
theorem d_W_stop_32 : decode prog_1_method_52_code 32 = .ok (.iconst 3, 1) := by decide +kernel
theorem d_W_stop_33 : decode prog_1_method_52_code 33 = .ok (.putfield 81, 3) := by decide +kernel
theorem d_W_stop_36 : decode prog_1_method_52_code 36 = .ok (.iconst 0, 1) := by decide +kernel
theorem d_W_stop_37 : decode prog_1_method_52_code 37 = .ok (.ireturn, 1) := by decide +kernel
theorem d_W_destroy_0 : decode prog_1_method_53_code 0 = .ok (.iload_n 1, 1) := by decide +kernel
theorem d_W_destroy_1 : decode prog_1_method_53_code 1 = .ok (.invokestatic 78, 3) := by decide +kernel
theorem d_W_destroy_4 : decode prog_1_method_53_code 4 = .ok (.ifCond .ne 6, 3) := by decide +kernel
theorem d_W_destroy_7 : decode prog_1_method_53_code 7 = .ok (.bipush (-2), 2) := by decide +kernel
theorem d_W_destroy_9 : decode prog_1_method_53_code 9 = .ok (.ireturn, 1) := by decide +kernel
theorem d_W_destroy_10 : decode prog_1_method_53_code 10 = .ok (.aload_n 0, 1) := by decide +kernel
theorem d_W_destroy_11 : decode prog_1_method_53_code 11 = .ok (.getfield 22, 3) := by decide +kernel
theorem d_W_destroy_14 : decode prog_1_method_53_code 14 = .ok (.iload_n 1, 1) := by decide +kernel
theorem d_W_destroy_15 : decode prog_1_method_53_code 15 = .ok (.aaload, 1) := by decide +kernel
theorem d_W_destroy_16 : decode prog_1_method_53_code 16 = .ok (.getfield 81, 3) := by decide +kernel
theorem d_W_destroy_19 : decode prog_1_method_53_code 19 = .ok (.istore_n 2, 1) := by decide +kernel
theorem d_W_destroy_20 : decode prog_1_method_53_code 20 = .ok (.iload_n 2, 1) := by decide +kernel
theorem d_W_destroy_21 : decode prog_1_method_53_code 21 = .ok (.ifCond .eq 8, 3) := by decide +kernel
theorem d_W_destroy_24 : decode prog_1_method_53_code 24 = .ok (.iload_n 2, 1) := by decide +kernel
theorem d_W_destroy_25 : decode prog_1_method_53_code 25 = .ok (.iconst 2, 1) := by decide +kernel
theorem d_W_destroy_26 : decode prog_1_method_53_code 26 = .ok (.if_icmp .ne 6, 3) := by decide +kernel
theorem d_W_destroy_29 : decode prog_1_method_53_code 29 = .ok (.bipush (-3), 2) := by decide +kernel
theorem d_W_destroy_31 : decode prog_1_method_53_code 31 = .ok (.ireturn, 1) := by decide +kernel
theorem d_W_destroy_32 : decode prog_1_method_53_code 32 = .ok (.iconst 0, 1) := by decide +kernel
theorem d_W_destroy_33 : decode prog_1_method_53_code 33 = .ok (.istore_n 3, 1) := by decide +kernel
theorem d_W_destroy_34 : decode prog_1_method_53_code 34 = .ok (.iload_n 3, 1) := by decide +kernel
theorem d_W_destroy_35 : decode prog_1_method_53_code 35 = .ok (.bipush 16, 2) := by decide +kernel
theorem d_W_destroy_37 : decode prog_1_method_53_code 37 = .ok (.if_icmp .ge 48, 3) := by decide +kernel
theorem d_W_destroy_40 : decode prog_1_method_53_code 40 = .ok (.aload_n 0, 1) := by decide +kernel
theorem d_W_destroy_41 : decode prog_1_method_53_code 41 = .ok (.getfield 17, 3) := by decide +kernel
theorem d_W_destroy_44 : decode prog_1_method_53_code 44 = .ok (.iload_n 3, 1) := by decide +kernel
theorem d_W_destroy_45 : decode prog_1_method_53_code 45 = .ok (.iaload, 1) := by decide +kernel
theorem d_W_destroy_46 : decode prog_1_method_53_code 46 = .ok (.iconst 2, 1) := by decide +kernel
theorem d_W_destroy_47 : decode prog_1_method_53_code 47 = .ok (.iload_n 1, 1) := by decide +kernel
theorem d_W_destroy_48 : decode prog_1_method_53_code 48 = .ok (.iadd, 1) := by decide +kernel
theorem d_W_destroy_49 : decode prog_1_method_53_code 49 = .ok (.if_icmp .ne 11, 3) := by decide +kernel
theorem d_W_destroy_52 : decode prog_1_method_53_code 52 = .ok (.aload_n 0, 1) := by decide +kernel
theorem d_W_destroy_53 : decode prog_1_method_53_code 53 = .ok (.iload_n 3, 1) := by decide +kernel
theorem d_W_destroy_54 : decode prog_1_method_53_code 54 = .ok (.invokevirtual 209, 3) := by decide +kernel
theorem d_W_destroy_57 : decode prog_1_method_53_code 57 = .ok (.goto 22, 3) := by decide +kernel
theorem d_W_destroy_60 : decode prog_1_method_53_code 60 = .ok (.aload_n 0, 1) := by decide +kernel
theorem d_W_destroy_61 : decode prog_1_method_53_code 61 = .ok (.getfield 17, 3) := by decide +kernel
theorem d_W_destroy_64 : decode prog_1_method_53_code 64 = .ok (.iload_n 3, 1) := by decide +kernel
theorem d_W_destroy_65 : decode prog_1_method_53_code 65 = .ok (.iaload, 1) := by decide +kernel
theorem d_W_destroy_66 : decode prog_1_method_53_code 66 = .ok (.iconst 5, 1) := by decide +kernel
theorem d_W_destroy_67 : decode prog_1_method_53_code 67 = .ok (.iload_n 1, 1) := by decide +kernel
theorem d_W_destroy_68 : decode prog_1_method_53_code 68 = .ok (.iadd, 1) := by decide +kernel
theorem d_W_destroy_69 : decode prog_1_method_53_code 69 = .ok (.if_icmp .ne 10, 3) := by decide +kernel
theorem d_W_destroy_72 : decode prog_1_method_53_code 72 = .ok (.aload_n 0, 1) := by decide +kernel
theorem d_W_destroy_73 : decode prog_1_method_53_code 73 = .ok (.getfield 17, 3) := by decide +kernel
theorem d_W_destroy_76 : decode prog_1_method_53_code 76 = .ok (.iload_n 3, 1) := by decide +kernel
theorem d_W_destroy_77 : decode prog_1_method_53_code 77 = .ok (.iconst 1, 1) := by decide +kernel
theorem d_W_destroy_78 : decode prog_1_method_53_code 78 = .ok (.iastore, 1) := by decide +kernel
theorem d_W_destroy_79 : decode prog_1_method_53_code 79 = .ok (.iinc 3 1, 3) := by decide +kernel
theorem d_W_destroy_82 : decode prog_1_method_53_code 82 = .ok (.goto (-48), 3) := by decide +kernel
theorem d_W_destroy_85 : decode prog_1_method_53_code 85 = .ok (.aload_n 0, 1) := by decide +kernel
theorem d_W_destroy_86 : decode prog_1_method_53_code 86 = .ok (.getfield 22, 3) := by decide +kernel
theorem d_W_destroy_89 : decode prog_1_method_53_code 89 = .ok (.iload_n 1, 1) := by decide +kernel
theorem d_W_destroy_90 : decode prog_1_method_53_code 90 = .ok (.aaload, 1) := by decide +kernel
theorem d_W_destroy_91 : decode prog_1_method_53_code 91 = .ok (.iconst 0, 1) := by decide +kernel
theorem d_W_destroy_92 : decode prog_1_method_53_code 92 = .ok (.invokevirtual 182, 3) := by decide +kernel
theorem d_W_destroy_95 : decode prog_1_method_53_code 95 = .ok (.iconst 0, 1) := by decide +kernel
theorem d_W_destroy_96 : decode prog_1_method_53_code 96 = .ok (.ireturn, 1) := by decide +kernel
theorem d_W_claim_0 : decode prog_1_method_54_code 0 = .ok (.iload_n 1, 1) := by decide +kernel
theorem d_W_claim_1 : decode prog_1_method_54_code 1 = .ok (.invokestatic 75, 3) := by decide +kernel
theorem d_W_claim_4 : decode prog_1_method_54_code 4 = .ok (.ifCond .ne 6, 3) := by decide +kernel
theorem d_W_claim_7 : decode prog_1_method_54_code 7 = .ok (.bipush (-2), 2) := by decide +kernel
theorem d_W_claim_9 : decode prog_1_method_54_code 9 = .ok (.ireturn, 1) := by decide +kernel
theorem d_W_claim_10 : decode prog_1_method_54_code 10 = .ok (.aload_n 0, 1) := by decide +kernel
theorem d_W_claim_11 : decode prog_1_method_54_code 11 = .ok (.getfield 17, 3) := by decide +kernel
theorem d_W_claim_14 : decode prog_1_method_54_code 14 = .ok (.iload_n 1, 1) := by decide +kernel
theorem d_W_claim_15 : decode prog_1_method_54_code 15 = .ok (.iaload, 1) := by decide +kernel
theorem d_W_claim_16 : decode prog_1_method_54_code 16 = .ok (.ifCond .eq 6, 3) := by decide +kernel
theorem d_W_claim_19 : decode prog_1_method_54_code 19 = .ok (.bipush (-4), 2) := by decide +kernel
theorem d_W_claim_21 : decode prog_1_method_54_code 21 = .ok (.ireturn, 1) := by decide +kernel
theorem d_W_claim_22 : decode prog_1_method_54_code 22 = .ok (.aload_n 0, 1) := by decide +kernel
theorem d_W_claim_23 : decode prog_1_method_54_code 23 = .ok (.getfield 17, 3) := by decide +kernel
theorem d_W_claim_26 : decode prog_1_method_54_code 26 = .ok (.iload_n 1, 1) := by decide +kernel
theorem d_W_claim_27 : decode prog_1_method_54_code 27 = .ok (.iconst 1, 1) := by decide +kernel
theorem d_W_claim_28 : decode prog_1_method_54_code 28 = .ok (.iastore, 1) := by decide +kernel
theorem d_W_claim_29 : decode prog_1_method_54_code 29 = .ok (.iconst 0, 1) := by decide +kernel
theorem d_W_claim_30 : decode prog_1_method_54_code 30 = .ok (.ireturn, 1) := by decide +kernel
theorem d_W_giveUp_0 : decode prog_1_method_55_code 0 = .ok (.iload_n 1, 1) := by decide +kernel
theorem d_W_giveUp_1 : decode prog_1_method_55_code 1 = .ok (.invokestatic 75, 3) := by decide +kernel
theorem d_W_giveUp_4 : decode prog_1_method_55_code 4 = .ok (.ifCond .ne 6, 3) := by decide +kernel
theorem d_W_giveUp_7 : decode prog_1_method_55_code 7 = .ok (.bipush (-2), 2) := by decide +kernel
theorem d_W_giveUp_9 : decode prog_1_method_55_code 9 = .ok (.ireturn, 1) := by decide +kernel
theorem d_W_giveUp_10 : decode prog_1_method_55_code 10 = .ok (.aload_n 0, 1) := by decide +kernel
theorem d_W_giveUp_11 : decode prog_1_method_55_code 11 = .ok (.getfield 17, 3) := by decide +kernel
theorem d_W_giveUp_14 : decode prog_1_method_55_code 14 = .ok (.iload_n 1, 1) := by decide +kernel
theorem d_W_giveUp_15 : decode prog_1_method_55_code 15 = .ok (.iaload, 1) := by decide +kernel
theorem d_W_giveUp_16 : decode prog_1_method_55_code 16 = .ok (.iconst 1, 1) := by decide +kernel
theorem d_W_giveUp_17 : decode prog_1_method_55_code 17 = .ok (.if_icmp .eq 6, 3) := by decide +kernel
theorem d_W_giveUp_20 : decode prog_1_method_55_code 20 = .ok (.bipush (-4), 2) := by decide +kernel
theorem d_W_giveUp_22 : decode prog_1_method_55_code 22 = .ok (.ireturn, 1) := by decide +kernel
theorem d_W_giveUp_23 : decode prog_1_method_55_code 23 = .ok (.aload_n 0, 1) := by decide +kernel
theorem d_W_giveUp_24 : decode prog_1_method_55_code 24 = .ok (.iload_n 1, 1) := by decide +kernel
theorem d_W_giveUp_25 : decode prog_1_method_55_code 25 = .ok (.invokevirtual 209, 3) := by decide +kernel
theorem d_W_giveUp_28 : decode prog_1_method_55_code 28 = .ok (.iconst 0, 1) := by decide +kernel
theorem d_W_giveUp_29 : decode prog_1_method_55_code 29 = .ok (.ireturn, 1) := by decide +kernel
theorem d_W_free_0 : decode prog_1_method_56_code 0 = .ok (.iconst 0, 1) := by decide +kernel
theorem d_W_free_1 : decode prog_1_method_56_code 1 = .ok (.istore_n 2, 1) := by decide +kernel
theorem d_W_free_2 : decode prog_1_method_56_code 2 = .ok (.iload_n 2, 1) := by decide +kernel
theorem d_W_free_3 : decode prog_1_method_56_code 3 = .ok (.bipush 16, 2) := by decide +kernel
theorem d_W_free_5 : decode prog_1_method_56_code 5 = .ok (.if_icmp .ge 21, 3) := by decide +kernel
theorem d_W_free_8 : decode prog_1_method_56_code 8 = .ok (.aload_n 0, 1) := by decide +kernel
theorem d_W_free_9 : decode prog_1_method_56_code 9 = .ok (.getfield 13, 3) := by decide +kernel
theorem d_W_free_12 : decode prog_1_method_56_code 12 = .ok (.iload_n 1, 1) := by decide +kernel
theorem d_W_free_13 : decode prog_1_method_56_code 13 = .ok (.bipush 16, 2) := by decide +kernel
theorem d_W_free_15 : decode prog_1_method_56_code 15 = .ok (.imul, 1) := by decide +kernel
theorem d_W_free_16 : decode prog_1_method_56_code 16 = .ok (.iload_n 2, 1) := by decide +kernel
theorem d_W_free_17 : decode prog_1_method_56_code 17 = .ok (.iadd, 1) := by decide +kernel
theorem d_W_free_18 : decode prog_1_method_56_code 18 = .ok (.iconst 0, 1) := by decide +kernel
theorem d_W_free_19 : decode prog_1_method_56_code 19 = .ok (.iastore, 1) := by decide +kernel
theorem d_W_free_20 : decode prog_1_method_56_code 20 = .ok (.iinc 2 1, 3) := by decide +kernel
theorem d_W_free_23 : decode prog_1_method_56_code 23 = .ok (.goto (-21), 3) := by decide +kernel
theorem d_W_free_26 : decode prog_1_method_56_code 26 = .ok (.aload_n 0, 1) := by decide +kernel
theorem d_W_free_27 : decode prog_1_method_56_code 27 = .ok (.getfield 17, 3) := by decide +kernel
theorem d_W_free_30 : decode prog_1_method_56_code 30 = .ok (.iload_n 1, 1) := by decide +kernel
theorem d_W_free_31 : decode prog_1_method_56_code 31 = .ok (.iconst 0, 1) := by decide +kernel
theorem d_W_free_32 : decode prog_1_method_56_code 32 = .ok (.iastore, 1) := by decide +kernel
theorem d_W_free_33 : decode prog_1_method_56_code 33 = .ok (.return_, 1) := by decide +kernel
theorem d_C_init_0 : decode prog_2_method_1_code 0 = .ok (.aload_n 0, 1) := by decide +kernel
theorem d_C_init_1 : decode prog_2_method_1_code 1 = .ok (.invokespecial 3, 3) := by decide +kernel
theorem d_C_init_4 : decode prog_2_method_1_code 4 = .ok (.aload_n 0, 1) := by decide +kernel
theorem d_C_init_5 : decode prog_2_method_1_code 5 = .ok (.bipush 8, 2) := by decide +kernel
theorem d_C_init_7 : decode prog_2_method_1_code 7 = .ok (.newarray .int, 2) := by decide +kernel
theorem d_C_init_9 : decode prog_2_method_1_code 9 = .ok (.putfield 9, 3) := by decide +kernel
theorem d_C_init_12 : decode prog_2_method_1_code 12 = .ok (.aload_n 0, 1) := by decide +kernel
theorem d_C_init_13 : decode prog_2_method_1_code 13 = .ok (.iconst 0, 1) := by decide +kernel
theorem d_C_init_14 : decode prog_2_method_1_code 14 = .ok (.putfield 15, 3) := by decide +kernel
theorem d_C_init_17 : decode prog_2_method_1_code 17 = .ok (.return_, 1) := by decide +kernel
theorem d_C_get_0 : decode prog_2_method_2_code 0 = .ok (.iload_n 1, 1) := by decide +kernel
theorem d_C_get_1 : decode prog_2_method_2_code 1 = .ok (.ifCond .lt 18, 3) := by decide +kernel
theorem d_C_get_4 : decode prog_2_method_2_code 4 = .ok (.iload_n 1, 1) := by decide +kernel
theorem d_C_get_5 : decode prog_2_method_2_code 5 = .ok (.bipush 8, 2) := by decide +kernel
theorem d_C_get_7 : decode prog_2_method_2_code 7 = .ok (.if_icmp .ge 12, 3) := by decide +kernel
theorem d_C_get_10 : decode prog_2_method_2_code 10 = .ok (.aload_n 0, 1) := by decide +kernel
theorem d_C_get_11 : decode prog_2_method_2_code 11 = .ok (.getfield 9, 3) := by decide +kernel
theorem d_C_get_14 : decode prog_2_method_2_code 14 = .ok (.iload_n 1, 1) := by decide +kernel
theorem d_C_get_15 : decode prog_2_method_2_code 15 = .ok (.iaload, 1) := by decide +kernel
theorem d_C_get_16 : decode prog_2_method_2_code 16 = .ok (.goto 4, 3) := by decide +kernel
theorem d_C_get_19 : decode prog_2_method_2_code 19 = .ok (.iconst 0, 1) := by decide +kernel
theorem d_C_get_20 : decode prog_2_method_2_code 20 = .ok (.ireturn, 1) := by decide +kernel
theorem d_C_put_0 : decode prog_2_method_3_code 0 = .ok (.iload_n 1, 1) := by decide +kernel
theorem d_C_put_1 : decode prog_2_method_3_code 1 = .ok (.ifCond .le 16, 3) := by decide +kernel
theorem d_C_put_4 : decode prog_2_method_3_code 4 = .ok (.iload_n 1, 1) := by decide +kernel
theorem d_C_put_5 : decode prog_2_method_3_code 5 = .ok (.bipush 8, 2) := by decide +kernel
theorem d_C_put_7 : decode prog_2_method_3_code 7 = .ok (.if_icmp .ge 10, 3) := by decide +kernel
theorem d_C_put_10 : decode prog_2_method_3_code 10 = .ok (.aload_n 0, 1) := by decide +kernel
theorem d_C_put_11 : decode prog_2_method_3_code 11 = .ok (.getfield 9, 3) := by decide +kernel
theorem d_C_put_14 : decode prog_2_method_3_code 14 = .ok (.iload_n 1, 1) := by decide +kernel
theorem d_C_put_15 : decode prog_2_method_3_code 15 = .ok (.iload_n 2, 1) := by decide +kernel
theorem d_C_put_16 : decode prog_2_method_3_code 16 = .ok (.iastore, 1) := by decide +kernel
theorem d_C_put_17 : decode prog_2_method_3_code 17 = .ok (.return_, 1) := by decide +kernel
theorem d_C_start_0 : decode prog_2_method_4_code 0 = .ok (.iconst 0, 1) := by decide +kernel
theorem d_C_start_1 : decode prog_2_method_4_code 1 = .ok (.istore_n 3, 1) := by decide +kernel
theorem d_C_start_2 : decode prog_2_method_4_code 2 = .ok (.iload_n 3, 1) := by decide +kernel
theorem d_C_start_3 : decode prog_2_method_4_code 3 = .ok (.bipush 8, 2) := by decide +kernel
theorem d_C_start_5 : decode prog_2_method_4_code 5 = .ok (.if_icmp .ge 15, 3) := by decide +kernel
theorem d_C_start_8 : decode prog_2_method_4_code 8 = .ok (.aload_n 0, 1) := by decide +kernel
theorem d_C_start_9 : decode prog_2_method_4_code 9 = .ok (.iload_n 3, 1) := by decide +kernel
theorem d_C_start_10 : decode prog_2_method_4_code 10 = .ok (.iconst 0, 1) := by decide +kernel
theorem d_C_start_11 : decode prog_2_method_4_code 11 = .ok (.invokevirtual 19, 3) := by decide +kernel
theorem d_C_start_14 : decode prog_2_method_4_code 14 = .ok (.iinc 3 1, 3) := by decide +kernel
theorem d_C_start_17 : decode prog_2_method_4_code 17 = .ok (.goto (-15), 3) := by decide +kernel
theorem d_C_start_20 : decode prog_2_method_4_code 20 = .ok (.aload_n 0, 1) := by decide +kernel
theorem d_C_start_21 : decode prog_2_method_4_code 21 = .ok (.iconst 1, 1) := by decide +kernel
theorem d_C_start_22 : decode prog_2_method_4_code 22 = .ok (.iload_n 2, 1) := by decide +kernel
theorem d_C_start_23 : decode prog_2_method_4_code 23 = .ok (.invokevirtual 19, 3) := by decide +kernel
theorem d_C_start_26 : decode prog_2_method_4_code 26 = .ok (.aload_n 0, 1) := by decide +kernel
theorem d_C_start_27 : decode prog_2_method_4_code 27 = .ok (.iload_n 1, 1) := by decide +kernel
theorem d_C_start_28 : decode prog_2_method_4_code 28 = .ok (.putfield 15, 3) := by decide +kernel
theorem d_C_start_31 : decode prog_2_method_4_code 31 = .ok (.return_, 1) := by decide +kernel
theorem d_V_init_0 : decode prog_3_method_1_code 0 = .ok (.aload_n 0, 1) := by decide +kernel
theorem d_V_init_1 : decode prog_3_method_1_code 1 = .ok (.invokespecial 3, 3) := by decide +kernel
theorem d_V_init_4 : decode prog_3_method_1_code 4 = .ok (.aload_n 0, 1) := by decide +kernel
theorem d_V_init_5 : decode prog_3_method_1_code 5 = .ok (.iconst 2, 1) := by decide +kernel
theorem d_V_init_6 : decode prog_3_method_1_code 6 = .ok (.anewarray 9, 3) := by decide +kernel
theorem d_V_init_9 : decode prog_3_method_1_code 9 = .ok (.putfield 11, 3) := by decide +kernel
theorem d_V_init_12 : decode prog_3_method_1_code 12 = .ok (.iconst 0, 1) := by decide +kernel
theorem d_V_init_13 : decode prog_3_method_1_code 13 = .ok (.istore_n 1, 1) := by decide +kernel
theorem d_V_init_14 : decode prog_3_method_1_code 14 = .ok (.iload_n 1, 1) := by decide +kernel
theorem d_V_init_15 : decode prog_3_method_1_code 15 = .ok (.iconst 2, 1) := by decide +kernel
theorem d_V_init_16 : decode prog_3_method_1_code 16 = .ok (.if_icmp .ge 22, 3) := by decide +kernel
theorem d_V_init_19 : decode prog_3_method_1_code 19 = .ok (.aload_n 0, 1) := by decide +kernel
theorem d_V_init_20 : decode prog_3_method_1_code 20 = .ok (.getfield 11, 3) := by decide +kernel
theorem d_V_init_23 : decode prog_3_method_1_code 23 = .ok (.iload_n 1, 1) := by decide +kernel
theorem d_V_init_24 : decode prog_3_method_1_code 24 = .ok (.new 9, 3) := by decide +kernel
theorem d_V_init_27 : decode prog_3_method_1_code 27 = .ok (.dup, 1) := by decide +kernel
theorem d_V_init_28 : decode prog_3_method_1_code 28 = .ok (.invokespecial 17, 3) := by decide +kernel
theorem d_V_init_31 : decode prog_3_method_1_code 31 = .ok (.aastore, 1) := by decide +kernel
theorem d_V_init_32 : decode prog_3_method_1_code 32 = .ok (.iinc 1 1, 3) := by decide +kernel
theorem d_V_init_35 : decode prog_3_method_1_code 35 = .ok (.goto (-21), 3) := by decide +kernel
theorem d_V_init_38 : decode prog_3_method_1_code 38 = .ok (.aload_n 0, 1) := by decide +kernel
theorem d_V_init_39 : decode prog_3_method_1_code 39 = .ok (.iconst 0, 1) := by decide +kernel
theorem d_V_init_40 : decode prog_3_method_1_code 40 = .ok (.invokevirtual 18, 3) := by decide +kernel
theorem d_V_init_43 : decode prog_3_method_1_code 43 = .ok (.return_, 1) := by decide +kernel
theorem d_V_become_0 : decode prog_3_method_2_code 0 = .ok (.aload_n 0, 1) := by decide +kernel
theorem d_V_become_1 : decode prog_3_method_2_code 1 = .ok (.iload_n 1, 1) := by decide +kernel
theorem d_V_become_2 : decode prog_3_method_2_code 2 = .ok (.putfield 22, 3) := by decide +kernel
theorem d_V_become_5 : decode prog_3_method_2_code 5 = .ok (.aload_n 0, 1) := by decide +kernel
theorem d_V_become_6 : decode prog_3_method_2_code 6 = .ok (.iconst 0, 1) := by decide +kernel
theorem d_V_become_7 : decode prog_3_method_2_code 7 = .ok (.putfield 26, 3) := by decide +kernel
theorem d_V_become_10 : decode prog_3_method_2_code 10 = .ok (.aload_n 0, 1) := by decide +kernel
theorem d_V_become_11 : decode prog_3_method_2_code 11 = .ok (.iconst 0, 1) := by decide +kernel
theorem d_V_become_12 : decode prog_3_method_2_code 12 = .ok (.putfield 29, 3) := by decide +kernel
theorem d_V_become_15 : decode prog_3_method_2_code 15 = .ok (.iconst 0, 1) := by decide +kernel
theorem d_V_become_16 : decode prog_3_method_2_code 16 = .ok (.istore_n 2, 1) := by decide +kernel
theorem d_V_become_17 : decode prog_3_method_2_code 17 = .ok (.iload_n 2, 1) := by decide +kernel
theorem d_V_become_18 : decode prog_3_method_2_code 18 = .ok (.iconst 2, 1) := by decide +kernel
theorem d_V_become_19 : decode prog_3_method_2_code 19 = .ok (.if_icmp .ge 19, 3) := by decide +kernel
theorem d_V_become_22 : decode prog_3_method_2_code 22 = .ok (.aload_n 0, 1) := by decide +kernel
theorem d_V_become_23 : decode prog_3_method_2_code 23 = .ok (.getfield 11, 3) := by decide +kernel
theorem d_V_become_26 : decode prog_3_method_2_code 26 = .ok (.iload_n 2, 1) := by decide +kernel
theorem d_V_become_27 : decode prog_3_method_2_code 27 = .ok (.aaload, 1) := by decide +kernel
theorem d_V_become_28 : decode prog_3_method_2_code 28 = .ok (.iconst 0, 1) := by decide +kernel
theorem d_V_become_29 : decode prog_3_method_2_code 29 = .ok (.putfield 32, 3) := by decide +kernel
theorem d_V_become_32 : decode prog_3_method_2_code 32 = .ok (.iinc 2 1, 3) := by decide +kernel
theorem d_V_become_35 : decode prog_3_method_2_code 35 = .ok (.goto (-18), 3) := by decide +kernel
theorem d_V_become_38 : decode prog_3_method_2_code 38 = .ok (.return_, 1) := by decide +kernel
theorem d_V_add_0 : decode prog_3_method_3_code 0 = .ok (.aload_n 0, 1) := by decide +kernel
theorem d_V_add_1 : decode prog_3_method_3_code 1 = .ok (.aload_n 0, 1) := by decide +kernel
theorem d_V_add_2 : decode prog_3_method_3_code 2 = .ok (.getfield 26, 3) := by decide +kernel
theorem d_V_add_5 : decode prog_3_method_3_code 5 = .ok (.iload_n 1, 1) := by decide +kernel
theorem d_V_add_6 : decode prog_3_method_3_code 6 = .ok (.invokestatic 33, 3) := by decide +kernel
theorem d_V_add_9 : decode prog_3_method_3_code 9 = .ok (.putfield 26, 3) := by decide +kernel
theorem d_V_add_12 : decode prog_3_method_3_code 12 = .ok (.return_, 1) := by decide +kernel
theorem d_V_threadCount_0 : decode prog_3_method_4_code 0 = .ok (.iconst 0, 1) := by decide +kernel
theorem d_V_threadCount_1 : decode prog_3_method_4_code 1 = .ok (.istore_n 1, 1) := by decide +kernel
theorem d_V_threadCount_2 : decode prog_3_method_4_code 2 = .ok (.iconst 0, 1) := by decide +kernel
theorem d_V_threadCount_3 : decode prog_3_method_4_code 3 = .ok (.istore_n 2, 1) := by decide +kernel
theorem d_V_threadCount_4 : decode prog_3_method_4_code 4 = .ok (.iload_n 2, 1) := by decide +kernel
theorem d_V_threadCount_5 : decode prog_3_method_4_code 5 = .ok (.iconst 2, 1) := by decide +kernel
theorem d_V_threadCount_6 : decode prog_3_method_4_code 6 = .ok (.if_icmp .ge 24, 3) := by decide +kernel
theorem d_V_threadCount_9 : decode prog_3_method_4_code 9 = .ok (.aload_n 0, 1) := by decide +kernel
theorem d_V_threadCount_10 : decode prog_3_method_4_code 10 = .ok (.getfield 11, 3) := by decide +kernel
theorem d_V_threadCount_13 : decode prog_3_method_4_code 13 = .ok (.iload_n 2, 1) := by decide +kernel
theorem d_V_threadCount_14 : decode prog_3_method_4_code 14 = .ok (.aaload, 1) := by decide +kernel
theorem d_V_threadCount_15 : decode prog_3_method_4_code 15 = .ok (.getfield 32, 3) := by decide +kernel
theorem d_V_threadCount_18 : decode prog_3_method_4_code 18 = .ok (.ifCond .eq 6, 3) := by decide +kernel
theorem d_V_threadCount_21 : decode prog_3_method_4_code 21 = .ok (.iinc 1 1, 3) := by decide +kernel
theorem d_V_threadCount_24 : decode prog_3_method_4_code 24 = .ok (.iinc 2 1, 3) := by decide +kernel
theorem d_V_threadCount_27 : decode prog_3_method_4_code 27 = .ok (.goto (-23), 3) := by decide +kernel
theorem d_V_threadCount_30 : decode prog_3_method_4_code 30 = .ok (.iload_n 1, 1) := by decide +kernel
theorem d_V_threadCount_31 : decode prog_3_method_4_code 31 = .ok (.ireturn, 1) := by decide +kernel
theorem d_T_init_0 : decode prog_4_method_1_code 0 = .ok (.aload_n 0, 1) := by decide +kernel
theorem d_T_init_1 : decode prog_4_method_1_code 1 = .ok (.invokespecial 3, 3) := by decide +kernel
theorem d_T_init_4 : decode prog_4_method_1_code 4 = .ok (.aload_n 0, 1) := by decide +kernel
theorem d_T_init_5 : decode prog_4_method_1_code 5 = .ok (.new 9, 3) := by decide +kernel
theorem d_T_init_8 : decode prog_4_method_1_code 8 = .ok (.dup, 1) := by decide +kernel
theorem d_T_init_9 : decode prog_4_method_1_code 9 = .ok (.invokespecial 11, 3) := by decide +kernel
theorem d_T_init_12 : decode prog_4_method_1_code 12 = .ok (.putfield 12, 3) := by decide +kernel
theorem d_T_init_15 : decode prog_4_method_1_code 15 = .ok (.aload_n 0, 1) := by decide +kernel
theorem d_T_init_16 : decode prog_4_method_1_code 16 = .ok (.iconst 0, 1) := by decide +kernel
theorem d_T_init_17 : decode prog_4_method_1_code 17 = .ok (.putfield 18, 3) := by decide +kernel
theorem d_T_init_20 : decode prog_4_method_1_code 20 = .ok (.aload_n 0, 1) := by decide +kernel
theorem d_T_init_21 : decode prog_4_method_1_code 21 = .ok (.iconst 0, 1) := by decide +kernel
theorem d_T_init_22 : decode prog_4_method_1_code 22 = .ok (.putfield 22, 3) := by decide +kernel
theorem d_T_init_25 : decode prog_4_method_1_code 25 = .ok (.return_, 1) := by decide +kernel
end
section
abbrev tyE (dI : Nat → ClassId) : List (ClassId × FieldType) := [(dI 0, .int), (dI 1, .boolean), (dI 2, .object "EnclaveWarden$Enclave"), (dI 3, .object "EnclaveWarden$EnclaveThread")]
abbrev tyM (dI : Nat → ClassId) : List (ClassId × FieldType) := tyE dI
def wE (dI : Nat → ClassId) (ad : Nat → Nat) (s : eS) : va_W := [(ad 0, .inr (0, [.int (s 9 0), .ref (ad 1), .ref (ad 2), .ref (ad 3), .ref (ad 23), .ref (ad 4), .int (s 9 1), .int (s 9 2), .int (s 9 3), .int (s 9 4)])),
  (ad 1, .inl (dI 0, 256, .inl (s 0))),
  (ad 2, .inl (dI 0, 16, .inl (s 1))),
  (ad 3, .inl (dI 2, 3, .inr (.inr (.inr (.inr (fun j => some (ad (5 + j)))))))),
  (ad 4, .inl (dI 0, 5, .inl (s 2))),
  (ad 5, .inr (1, [.ref (ad 8), .int (s 3 0), .int (s 4 0), .int (s 5 0)])),
  (ad 6, .inr (1, [.ref (ad 9), .int (s 3 1), .int (s 4 1), .int (s 5 1)])),
  (ad 7, .inr (1, [.ref (ad 10), .int (s 3 2), .int (s 4 2), .int (s 5 2)])),
  (ad 8, .inl (dI 3, 2, .inr (.inr (.inr (.inr (fun j => some (ad (11 + (2 * 0 + j))))))))),
  (ad 9, .inl (dI 3, 2, .inr (.inr (.inr (.inr (fun j => some (ad (11 + (2 * 1 + j))))))))),
  (ad 10, .inl (dI 3, 2, .inr (.inr (.inr (.inr (fun j => some (ad (11 + (2 * 2 + j))))))))),
  (ad 11, .inr (2, [.ref (ad 17), .int (s 6 0), .int (s 7 0)])),
  (ad 12, .inr (2, [.ref (ad 18), .int (s 6 1), .int (s 7 1)])),
  (ad 13, .inr (2, [.ref (ad 19), .int (s 6 2), .int (s 7 2)])),
  (ad 14, .inr (2, [.ref (ad 20), .int (s 6 3), .int (s 7 3)])),
  (ad 15, .inr (2, [.ref (ad 21), .int (s 6 4), .int (s 7 4)])),
  (ad 16, .inr (2, [.ref (ad 22), .int (s 6 5), .int (s 7 5)])),
  (ad 17, .inr (3, [.ref (ad 24), .int (s 8 0)])),
  (ad 18, .inr (3, [.ref (ad 25), .int (s 8 1)])),
  (ad 19, .inr (3, [.ref (ad 26), .int (s 8 2)])),
  (ad 20, .inr (3, [.ref (ad 27), .int (s 8 3)])),
  (ad 21, .inr (3, [.ref (ad 28), .int (s 8 4)])),
  (ad 22, .inr (3, [.ref (ad 29), .int (s 8 5)])),
  (ad 23, .inr (3, [.ref (ad 30), .int (s 8 6)])),
  (ad 24, .inl (dI 0, 8, .inl (s 10))),
  (ad 25, .inl (dI 0, 8, .inl (s 11))),
  (ad 26, .inl (dI 0, 8, .inl (s 12))),
  (ad 27, .inl (dI 0, 8, .inl (s 13))),
  (ad 28, .inl (dI 0, 8, .inl (s 14))),
  (ad 29, .inl (dI 0, 8, .inl (s 15))),
  (ad 30, .inl (dI 0, 8, .inl (s 16)))]
theorem he_E_Main {dI : Nat → ClassId} {ad : Nat → Nat} {s : eS} : (wE dI ad s)[0]? = some (ad 0, .inr (0, [.int (s 9 0), .ref (ad 1), .ref (ad 2), .ref (ad 3), .ref (ad 23), .ref (ad 4), .int (s 9 1), .int (s 9 2), .int (s 9 3), .int (s 9 4)])) := rfl
theorem he_E_MEM {dI : Nat → ClassId} {ad : Nat → Nat} {s : eS} : (wE dI ad s)[1]? = some (ad 1, .inl (dI 0, 256, .inl (s 0))) := rfl
theorem he_E_KIN {dI : Nat → ClassId} {ad : Nat → Nat} {s : eS} : (wE dI ad s)[2]? = some (ad 2, .inl (dI 0, 16, .inl (s 1))) := rfl
theorem he_E_ENA {dI : Nat → ClassId} {ad : Nat → Nat} {s : eS} : (wE dI ad s)[3]? = some (ad 3, .inl (dI 2, 3, .inr (.inr (.inr (.inr (fun j => some (ad (5 + j)))))))) := rfl
theorem he_E_EXI {dI : Nat → ClassId} {ad : Nat → Nat} {s : eS} : (wE dI ad s)[4]? = some (ad 4, .inl (dI 0, 5, .inl (s 2))) := rfl
theorem he_E_Enc {dI : Nat → ClassId} {ad : Nat → Nat} {s : eS} {n : Nat} (hb : n < 3) : (wE dI ad s)[(5 + n)]? = some (ad (5 + n), .inr (1, [.ref (ad (8 + n)), .int (s 3 n), .int (s 4 n), .int (s 5 n)])) := by
  rcases (show n = 0 ∨ n = 1 ∨ n = 2 by omega) with rfl | rfl | rfl <;> rfl
theorem he_E_TA {dI : Nat → ClassId} {ad : Nat → Nat} {s : eS} {n : Nat} (hb : n < 3) : (wE dI ad s)[(8 + n)]? = some (ad (8 + n), .inl (dI 3, 2, .inr (.inr (.inr (.inr (fun j => some (ad (11 + (2 * n + j))))))))) := by
  rcases (show n = 0 ∨ n = 1 ∨ n = 2 by omega) with rfl | rfl | rfl <;> rfl
theorem he_E_Thr {dI : Nat → ClassId} {ad : Nat → Nat} {s : eS} {n : Nat} (hb : n < 6) : (wE dI ad s)[(11 + n)]? = some (ad (11 + n), .inr (2, [.ref (ad (17 + n)), .int (s 6 n), .int (s 7 n)])) := by
  rcases (show n = 0 ∨ n = 1 ∨ n = 2 ∨ n = 3 ∨ n = 4 ∨ n = 5 by omega) with rfl | rfl | rfl | rfl | rfl | rfl <;> rfl
theorem he_E_Core {dI : Nat → ClassId} {ad : Nat → Nat} {s : eS} {n : Nat} (hb : n < 7) : (wE dI ad s)[(17 + n)]? = some (ad (17 + n), .inr (3, [.ref (ad (24 + n)), .int (s 8 n)])) := by
  rcases (show n = 0 ∨ n = 1 ∨ n = 2 ∨ n = 3 ∨ n = 4 ∨ n = 5 ∨ n = 6 by omega) with rfl | rfl | rfl | rfl | rfl | rfl | rfl <;> rfl
theorem he_E_RG {dI : Nat → ClassId} {ad : Nat → Nat} {s : eS} {n : Nat} (hb : n < 7) : (wE dI ad s)[(24 + n)]? = some (ad (24 + n), .inl (dI 0, 8, .inl (s (10 + n)))) := by
  rcases (show n = 0 ∨ n = 1 ∨ n = 2 ∨ n = 3 ∨ n = 4 ∨ n = 5 ∨ n = 6 by omega) with rfl | rfl | rfl | rfl | rfl | rfl | rfl <;> rfl
theorem hs_W_secret {dI : Nat → ClassId} {ad : Nat → Nat} {s : eS} {v : Int32} : (wE dI ad s).set 0 (ad 0, .inr (0, ([.int (s 9 0), .ref (ad 1), .ref (ad 2), .ref (ad 3), .ref (ad 23), .ref (ad 4), .int (s 9 1), .int (s 9 2), .int (s 9 3), .int (s 9 4)] : List Value).set 0 (.int v))) = wE dI ad (wr s 9 0 v) := rfl
theorem hs_W_halted {dI : Nat → ClassId} {ad : Nat → Nat} {s : eS} {v : Int32} : (wE dI ad s).set 0 (ad 0, .inr (0, ([.int (s 9 0), .ref (ad 1), .ref (ad 2), .ref (ad 3), .ref (ad 23), .ref (ad 4), .int (s 9 1), .int (s 9 2), .int (s 9 3), .int (s 9 4)] : List Value).set 6 (.int v))) = wE dI ad (wr s 9 1 v) := rfl
theorem hs_W_running {dI : Nat → ClassId} {ad : Nat → Nat} {s : eS} {v : Int32} : (wE dI ad s).set 0 (ad 0, .inr (0, ([.int (s 9 0), .ref (ad 1), .ref (ad 2), .ref (ad 3), .ref (ad 23), .ref (ad 4), .int (s 9 1), .int (s 9 2), .int (s 9 3), .int (s 9 4)] : List Value).set 7 (.int v))) = wE dI ad (wr s 9 2 v) := rfl
theorem hs_W_period {dI : Nat → ClassId} {ad : Nat → Nat} {s : eS} {v : Int32} : (wE dI ad s).set 0 (ad 0, .inr (0, ([.int (s 9 0), .ref (ad 1), .ref (ad 2), .ref (ad 3), .ref (ad 23), .ref (ad 4), .int (s 9 1), .int (s 9 2), .int (s 9 3), .int (s 9 4)] : List Value).set 8 (.int v))) = wE dI ad (wr s 9 3 v) := rfl
theorem hs_W_tick {dI : Nat → ClassId} {ad : Nat → Nat} {s : eS} {v : Int32} : (wE dI ad s).set 0 (ad 0, .inr (0, ([.int (s 9 0), .ref (ad 1), .ref (ad 2), .ref (ad 3), .ref (ad 23), .ref (ad 4), .int (s 9 1), .int (s 9 2), .int (s 9 3), .int (s 9 4)] : List Value).set 9 (.int v))) = wE dI ad (wr s 9 4 v) := rfl
theorem hs_V_state {dI : Nat → ClassId} {ad : Nat → Nat} {s : eS} {n : Nat} (hb : n < 3) {v : Int32} : (wE dI ad s).set (5 + n) (ad (5 + n), .inr (1, ([.ref (ad (8 + n)), .int (s 3 n), .int (s 4 n), .int (s 5 n)] : List Value).set 1 (.int v))) = wE dI ad (wr s 3 n v) := by
  rcases (show n = 0 ∨ n = 1 ∨ n = 2 by omega) with rfl | rfl | rfl <;> rfl
theorem hs_V_measure {dI : Nat → ClassId} {ad : Nat → Nat} {s : eS} {n : Nat} (hb : n < 3) {v : Int32} : (wE dI ad s).set (5 + n) (ad (5 + n), .inr (1, ([.ref (ad (8 + n)), .int (s 3 n), .int (s 4 n), .int (s 5 n)] : List Value).set 2 (.int v))) = wE dI ad (wr s 4 n v) := by
  rcases (show n = 0 ∨ n = 1 ∨ n = 2 by omega) with rfl | rfl | rfl <;> rfl
theorem hs_V_loads {dI : Nat → ClassId} {ad : Nat → Nat} {s : eS} {n : Nat} (hb : n < 3) {v : Int32} : (wE dI ad s).set (5 + n) (ad (5 + n), .inr (1, ([.ref (ad (8 + n)), .int (s 3 n), .int (s 4 n), .int (s 5 n)] : List Value).set 3 (.int v))) = wE dI ad (wr s 5 n v) := by
  rcases (show n = 0 ∨ n = 1 ∨ n = 2 by omega) with rfl | rfl | rfl <;> rfl
theorem hs_T_state {dI : Nat → ClassId} {ad : Nat → Nat} {s : eS} {n : Nat} (hb : n < 6) {v : Int32} : (wE dI ad s).set (11 + n) (ad (11 + n), .inr (2, ([.ref (ad (17 + n)), .int (s 6 n), .int (s 7 n)] : List Value).set 1 (.int v))) = wE dI ad (wr s 6 n v) := by
  rcases (show n = 0 ∨ n = 1 ∨ n = 2 ∨ n = 3 ∨ n = 4 ∨ n = 5 by omega) with rfl | rfl | rfl | rfl | rfl | rfl <;> rfl
theorem hs_T_entry {dI : Nat → ClassId} {ad : Nat → Nat} {s : eS} {n : Nat} (hb : n < 6) {v : Int32} : (wE dI ad s).set (11 + n) (ad (11 + n), .inr (2, ([.ref (ad (17 + n)), .int (s 6 n), .int (s 7 n)] : List Value).set 2 (.int v))) = wE dI ad (wr s 7 n v) := by
  rcases (show n = 0 ∨ n = 1 ∨ n = 2 ∨ n = 3 ∨ n = 4 ∨ n = 5 by omega) with rfl | rfl | rfl | rfl | rfl | rfl <;> rfl
theorem hs_C_pc {dI : Nat → ClassId} {ad : Nat → Nat} {s : eS} {n : Nat} (hb : n < 7) {v : Int32} : (wE dI ad s).set (17 + n) (ad (17 + n), .inr (3, ([.ref (ad (24 + n)), .int (s 8 n)] : List Value).set 1 (.int v))) = wE dI ad (wr s 8 n v) := by
  rcases (show n = 0 ∨ n = 1 ∨ n = 2 ∨ n = 3 ∨ n = 4 ∨ n = 5 ∨ n = 6 by omega) with rfl | rfl | rfl | rfl | rfl | rfl | rfl <;> rfl
theorem hs_E_MEM {dI : Nat → ClassId} {ad : Nat → Nat} {s : eS} {i : Nat} {x : Int32} : (wE dI ad s).set 1 (ad 1, .inl (dI 0, 256, .inl (upd (s 0) i x))) = wE dI ad (wr s 0 i x) := rfl
theorem hs_E_KIN {dI : Nat → ClassId} {ad : Nat → Nat} {s : eS} {i : Nat} {x : Int32} : (wE dI ad s).set 2 (ad 2, .inl (dI 0, 16, .inl (upd (s 1) i x))) = wE dI ad (wr s 1 i x) := rfl
theorem hs_E_EXI {dI : Nat → ClassId} {ad : Nat → Nat} {s : eS} {i : Nat} {x : Int32} : (wE dI ad s).set 4 (ad 4, .inl (dI 0, 5, .inl (upd (s 2) i x))) = wE dI ad (wr s 2 i x) := rfl
theorem hs_E_RG {dI : Nat → ClassId} {ad : Nat → Nat} {s : eS} {n : Nat} (hb : n < 7) {i : Nat} {x : Int32} : (wE dI ad s).set (24 + n) (ad (24 + n), .inl (dI 0, 8, .inl (upd (s (10 + n)) i x))) = wE dI ad (wr s (10 + n) i x) := by
  rcases (show n = 0 ∨ n = 1 ∨ n = 2 ∨ n = 3 ∨ n = 4 ∨ n = 5 ∨ n = 6 by omega) with rfl | rfl | rfl | rfl | rfl | rfl | rfl <;> rfl
section WES
variable {p : Program} {l : Launch} {e : Env} {R : Room} {s0 : State} {m : MethodId} {args : Array Value} {below : List Frame} {meth : Method} {c : Code} {D : va_G} {A : Nat → Prop} {cc : ByteArray} {nL : Nat} {ret : Option FieldType} {c0 : Cond} {own : String} {nc ns : Nat} {ρ : Type} {Q : ρ → eS → State → Prop} {res : Option (ρ × eS)} {ls : Array Slot} {rest : List Value} {s : eS} {dI : Nat → ClassId} {ad : Nat → Nat}
theorem gg_get_W_secret (X : CX p s0 m args meth c D vwCl (tyE dI) nwE A cc nL ret (c0 :: WS) own) (pc : Nat) {index : Nat} (hlink : Cond.fieldLink own index "EnclaveWarden" "secret" "I" ∈ (c0 :: WS) ∨ ∃ host, Cond.fieldLinkNest own index "EnclaveWarden" "secret" "I" host ∈ nwE) (d : decode cc pc = .ok (.getfield index, 3)) (kk : GG p l e R s0 m args below meth c D vwCl (tyE dI) A (wE dI ad) nc ns Q res (F0 m (pc + 3) ls (.int (s 9 0) :: rest)) s) : GG p l e R s0 m args below meth c D vwCl (tyE dI) A (wE dI ad) nc ns Q res (F0 m pc ls (.ref (ad 0) :: rest)) s := gg_get X pc (k := 0) uw_W (he_E_Main) rfl (by decide) rfl hlink d kk
theorem gg_get_W_memory (X : CX p s0 m args meth c D vwCl (tyE dI) nwE A cc nL ret (c0 :: WS) own) (pc : Nat) {index : Nat} (hlink : Cond.fieldLink own index "EnclaveWarden" "memory" "[I" ∈ (c0 :: WS) ∨ ∃ host, Cond.fieldLinkNest own index "EnclaveWarden" "memory" "[I" host ∈ nwE) (d : decode cc pc = .ok (.getfield index, 3)) (kk : GG p l e R s0 m args below meth c D vwCl (tyE dI) A (wE dI ad) nc ns Q res (F0 m (pc + 3) ls (.ref (ad 1) :: rest)) s) : GG p l e R s0 m args below meth c D vwCl (tyE dI) A (wE dI ad) nc ns Q res (F0 m pc ls (.ref (ad 0) :: rest)) s := gg_get X pc (k := 1) uw_W (he_E_Main) rfl (by decide) rfl hlink d kk
theorem gg_get_W_kinds (X : CX p s0 m args meth c D vwCl (tyE dI) nwE A cc nL ret (c0 :: WS) own) (pc : Nat) {index : Nat} (hlink : Cond.fieldLink own index "EnclaveWarden" "kinds" "[I" ∈ (c0 :: WS) ∨ ∃ host, Cond.fieldLinkNest own index "EnclaveWarden" "kinds" "[I" host ∈ nwE) (d : decode cc pc = .ok (.getfield index, 3)) (kk : GG p l e R s0 m args below meth c D vwCl (tyE dI) A (wE dI ad) nc ns Q res (F0 m (pc + 3) ls (.ref (ad 2) :: rest)) s) : GG p l e R s0 m args below meth c D vwCl (tyE dI) A (wE dI ad) nc ns Q res (F0 m pc ls (.ref (ad 0) :: rest)) s := gg_get X pc (k := 2) uw_W (he_E_Main) rfl (by decide) rfl hlink d kk
theorem gg_get_W_enclaves (X : CX p s0 m args meth c D vwCl (tyE dI) nwE A cc nL ret (c0 :: WS) own) (pc : Nat) {index : Nat} (hlink : Cond.fieldLink own index "EnclaveWarden" "enclaves" "[LEnclaveWarden$Enclave;" ∈ (c0 :: WS) ∨ ∃ host, Cond.fieldLinkNest own index "EnclaveWarden" "enclaves" "[LEnclaveWarden$Enclave;" host ∈ nwE) (d : decode cc pc = .ok (.getfield index, 3)) (kk : GG p l e R s0 m args below meth c D vwCl (tyE dI) A (wE dI ad) nc ns Q res (F0 m (pc + 3) ls (.ref (ad 3) :: rest)) s) : GG p l e R s0 m args below meth c D vwCl (tyE dI) A (wE dI ad) nc ns Q res (F0 m pc ls (.ref (ad 0) :: rest)) s := gg_get X pc (k := 3) uw_W (he_E_Main) rfl (by decide) rfl hlink d kk
theorem gg_get_W_system (X : CX p s0 m args meth c D vwCl (tyE dI) nwE A cc nL ret (c0 :: WS) own) (pc : Nat) {index : Nat} (hlink : Cond.fieldLink own index "EnclaveWarden" "system" "LEnclaveWarden$Core;" ∈ (c0 :: WS) ∨ ∃ host, Cond.fieldLinkNest own index "EnclaveWarden" "system" "LEnclaveWarden$Core;" host ∈ nwE) (d : decode cc pc = .ok (.getfield index, 3)) (kk : GG p l e R s0 m args below meth c D vwCl (tyE dI) A (wE dI ad) nc ns Q res (F0 m (pc + 3) ls (.ref (ad (17 + 6)) :: rest)) s) : GG p l e R s0 m args below meth c D vwCl (tyE dI) A (wE dI ad) nc ns Q res (F0 m pc ls (.ref (ad 0) :: rest)) s := gg_get X pc (k := 4) uw_W (he_E_Main) rfl (by decide) rfl hlink d kk
theorem gg_get_W_exits (X : CX p s0 m args meth c D vwCl (tyE dI) nwE A cc nL ret (c0 :: WS) own) (pc : Nat) {index : Nat} (hlink : Cond.fieldLink own index "EnclaveWarden" "exits" "[I" ∈ (c0 :: WS) ∨ ∃ host, Cond.fieldLinkNest own index "EnclaveWarden" "exits" "[I" host ∈ nwE) (d : decode cc pc = .ok (.getfield index, 3)) (kk : GG p l e R s0 m args below meth c D vwCl (tyE dI) A (wE dI ad) nc ns Q res (F0 m (pc + 3) ls (.ref (ad 4) :: rest)) s) : GG p l e R s0 m args below meth c D vwCl (tyE dI) A (wE dI ad) nc ns Q res (F0 m pc ls (.ref (ad 0) :: rest)) s := gg_get X pc (k := 5) uw_W (he_E_Main) rfl (by decide) rfl hlink d kk
theorem gg_get_W_halted (X : CX p s0 m args meth c D vwCl (tyE dI) nwE A cc nL ret (c0 :: WS) own) (pc : Nat) {index : Nat} (hlink : Cond.fieldLink own index "EnclaveWarden" "halted" "Z" ∈ (c0 :: WS) ∨ ∃ host, Cond.fieldLinkNest own index "EnclaveWarden" "halted" "Z" host ∈ nwE) (d : decode cc pc = .ok (.getfield index, 3)) (kk : GG p l e R s0 m args below meth c D vwCl (tyE dI) A (wE dI ad) nc ns Q res (F0 m (pc + 3) ls (.int (s 9 1) :: rest)) s) : GG p l e R s0 m args below meth c D vwCl (tyE dI) A (wE dI ad) nc ns Q res (F0 m pc ls (.ref (ad 0) :: rest)) s := gg_get X pc (k := 6) uw_W (he_E_Main) rfl (by decide) rfl hlink d kk
theorem gg_put_W_halted (X : CX p s0 m args meth c D vwCl (tyE dI) nwE A cc nL ret (c0 :: WS) own) (pc : Nat) {index : Nat} {v : Int32} {K : eS → Option (ρ × eS)} (hlink : Cond.fieldLink own index "EnclaveWarden" "halted" "Z" ∈ (c0 :: WS) ∨ ∃ host, Cond.fieldLinkNest own index "EnclaveWarden" "halted" "Z" host ∈ nwE) (hn : narrow .boolean (.int v) = .int v) (hf : fits .boolean (.int v) = true) (d : decode cc pc = .ok (.putfield index, 3)) (kk : ∀ s1, GG p l e R s0 m args below meth c D vwCl (tyE dI) A (wE dI ad) nc ns Q (K s1) (F0 m (pc + 3) ls rest) s1) : GG p l e R s0 m args below meth c D vwCl (tyE dI) A (wE dI ad) nc ns Q (nm (wr s 9 1 v) K) (F0 m pc ls (.int v :: .ref (ad 0) :: rest)) s := gg_put X pc (k := 6) (ty := .boolean) uw_W ty_W tyok_W nm_W (he_E_Main) rfl (by decide) rfl (by decide +kernel) (Nat.le_of_ble_eq_true rfl) hlink (hs_W_halted) hn hf d kk
theorem gg_get_W_running (X : CX p s0 m args meth c D vwCl (tyE dI) nwE A cc nL ret (c0 :: WS) own) (pc : Nat) {index : Nat} (hlink : Cond.fieldLink own index "EnclaveWarden" "running" "I" ∈ (c0 :: WS) ∨ ∃ host, Cond.fieldLinkNest own index "EnclaveWarden" "running" "I" host ∈ nwE) (d : decode cc pc = .ok (.getfield index, 3)) (kk : GG p l e R s0 m args below meth c D vwCl (tyE dI) A (wE dI ad) nc ns Q res (F0 m (pc + 3) ls (.int (s 9 2) :: rest)) s) : GG p l e R s0 m args below meth c D vwCl (tyE dI) A (wE dI ad) nc ns Q res (F0 m pc ls (.ref (ad 0) :: rest)) s := gg_get X pc (k := 7) uw_W (he_E_Main) rfl (by decide) rfl hlink d kk
theorem gg_put_W_running (X : CX p s0 m args meth c D vwCl (tyE dI) nwE A cc nL ret (c0 :: WS) own) (pc : Nat) {index : Nat} {v : Int32} {K : eS → Option (ρ × eS)} (hlink : Cond.fieldLink own index "EnclaveWarden" "running" "I" ∈ (c0 :: WS) ∨ ∃ host, Cond.fieldLinkNest own index "EnclaveWarden" "running" "I" host ∈ nwE) (d : decode cc pc = .ok (.putfield index, 3)) (kk : ∀ s1, GG p l e R s0 m args below meth c D vwCl (tyE dI) A (wE dI ad) nc ns Q (K s1) (F0 m (pc + 3) ls rest) s1) : GG p l e R s0 m args below meth c D vwCl (tyE dI) A (wE dI ad) nc ns Q (nm (wr s 9 2 v) K) (F0 m pc ls (.int v :: .ref (ad 0) :: rest)) s := gg_put X pc (k := 7) (ty := .int) uw_W ty_W tyok_W nm_W (he_E_Main) rfl (by decide) rfl (by decide +kernel) (Nat.le_of_ble_eq_true rfl) hlink (hs_W_running) rfl rfl d kk
theorem gg_get_W_period (X : CX p s0 m args meth c D vwCl (tyE dI) nwE A cc nL ret (c0 :: WS) own) (pc : Nat) {index : Nat} (hlink : Cond.fieldLink own index "EnclaveWarden" "period" "I" ∈ (c0 :: WS) ∨ ∃ host, Cond.fieldLinkNest own index "EnclaveWarden" "period" "I" host ∈ nwE) (d : decode cc pc = .ok (.getfield index, 3)) (kk : GG p l e R s0 m args below meth c D vwCl (tyE dI) A (wE dI ad) nc ns Q res (F0 m (pc + 3) ls (.int (s 9 3) :: rest)) s) : GG p l e R s0 m args below meth c D vwCl (tyE dI) A (wE dI ad) nc ns Q res (F0 m pc ls (.ref (ad 0) :: rest)) s := gg_get X pc (k := 8) uw_W (he_E_Main) rfl (by decide) rfl hlink d kk
theorem gg_put_W_period (X : CX p s0 m args meth c D vwCl (tyE dI) nwE A cc nL ret (c0 :: WS) own) (pc : Nat) {index : Nat} {v : Int32} {K : eS → Option (ρ × eS)} (hlink : Cond.fieldLink own index "EnclaveWarden" "period" "I" ∈ (c0 :: WS) ∨ ∃ host, Cond.fieldLinkNest own index "EnclaveWarden" "period" "I" host ∈ nwE) (d : decode cc pc = .ok (.putfield index, 3)) (kk : ∀ s1, GG p l e R s0 m args below meth c D vwCl (tyE dI) A (wE dI ad) nc ns Q (K s1) (F0 m (pc + 3) ls rest) s1) : GG p l e R s0 m args below meth c D vwCl (tyE dI) A (wE dI ad) nc ns Q (nm (wr s 9 3 v) K) (F0 m pc ls (.int v :: .ref (ad 0) :: rest)) s := gg_put X pc (k := 8) (ty := .int) uw_W ty_W tyok_W nm_W (he_E_Main) rfl (by decide) rfl (by decide +kernel) (Nat.le_of_ble_eq_true rfl) hlink (hs_W_period) rfl rfl d kk
theorem gg_get_W_tick (X : CX p s0 m args meth c D vwCl (tyE dI) nwE A cc nL ret (c0 :: WS) own) (pc : Nat) {index : Nat} (hlink : Cond.fieldLink own index "EnclaveWarden" "tick" "I" ∈ (c0 :: WS) ∨ ∃ host, Cond.fieldLinkNest own index "EnclaveWarden" "tick" "I" host ∈ nwE) (d : decode cc pc = .ok (.getfield index, 3)) (kk : GG p l e R s0 m args below meth c D vwCl (tyE dI) A (wE dI ad) nc ns Q res (F0 m (pc + 3) ls (.int (s 9 4) :: rest)) s) : GG p l e R s0 m args below meth c D vwCl (tyE dI) A (wE dI ad) nc ns Q res (F0 m pc ls (.ref (ad 0) :: rest)) s := gg_get X pc (k := 9) uw_W (he_E_Main) rfl (by decide) rfl hlink d kk
theorem gg_put_W_tick (X : CX p s0 m args meth c D vwCl (tyE dI) nwE A cc nL ret (c0 :: WS) own) (pc : Nat) {index : Nat} {v : Int32} {K : eS → Option (ρ × eS)} (hlink : Cond.fieldLink own index "EnclaveWarden" "tick" "I" ∈ (c0 :: WS) ∨ ∃ host, Cond.fieldLinkNest own index "EnclaveWarden" "tick" "I" host ∈ nwE) (d : decode cc pc = .ok (.putfield index, 3)) (kk : ∀ s1, GG p l e R s0 m args below meth c D vwCl (tyE dI) A (wE dI ad) nc ns Q (K s1) (F0 m (pc + 3) ls rest) s1) : GG p l e R s0 m args below meth c D vwCl (tyE dI) A (wE dI ad) nc ns Q (nm (wr s 9 4 v) K) (F0 m pc ls (.int v :: .ref (ad 0) :: rest)) s := gg_put X pc (k := 9) (ty := .int) uw_W ty_W tyok_W nm_W (he_E_Main) rfl (by decide) rfl (by decide +kernel) (Nat.le_of_ble_eq_true rfl) hlink (hs_W_tick) rfl rfl d kk
theorem gg_get_V_threads (X : CX p s0 m args meth c D vwCl (tyE dI) nwE A cc nL ret (c0 :: WS) own) (pc : Nat) {n : Nat} (hb : n < 3) {index : Nat} (hlink : Cond.fieldLink own index "EnclaveWarden$Enclave" "threads" "[LEnclaveWarden$EnclaveThread;" ∈ (c0 :: WS) ∨ ∃ host, Cond.fieldLinkNest own index "EnclaveWarden$Enclave" "threads" "[LEnclaveWarden$EnclaveThread;" host ∈ nwE) (d : decode cc pc = .ok (.getfield index, 3)) (kk : GG p l e R s0 m args below meth c D vwCl (tyE dI) A (wE dI ad) nc ns Q res (F0 m (pc + 3) ls (.ref (ad (8 + n)) :: rest)) s) : GG p l e R s0 m args below meth c D vwCl (tyE dI) A (wE dI ad) nc ns Q res (F0 m pc ls (.ref (ad (5 + n)) :: rest)) s := gg_get X pc (k := 0) uw_V (he_E_Enc hb) rfl (by decide) rfl hlink d kk
theorem gg_get_V_state (X : CX p s0 m args meth c D vwCl (tyE dI) nwE A cc nL ret (c0 :: WS) own) (pc : Nat) {n : Nat} (hb : n < 3) {index : Nat} (hlink : Cond.fieldLink own index "EnclaveWarden$Enclave" "state" "I" ∈ (c0 :: WS) ∨ ∃ host, Cond.fieldLinkNest own index "EnclaveWarden$Enclave" "state" "I" host ∈ nwE) (d : decode cc pc = .ok (.getfield index, 3)) (kk : GG p l e R s0 m args below meth c D vwCl (tyE dI) A (wE dI ad) nc ns Q res (F0 m (pc + 3) ls (.int (s 3 n) :: rest)) s) : GG p l e R s0 m args below meth c D vwCl (tyE dI) A (wE dI ad) nc ns Q res (F0 m pc ls (.ref (ad (5 + n)) :: rest)) s := gg_get X pc (k := 1) uw_V (he_E_Enc hb) rfl (by decide) rfl hlink d kk
theorem gg_put_V_state (X : CX p s0 m args meth c D vwCl (tyE dI) nwE A cc nL ret (c0 :: WS) own) (pc : Nat) {n : Nat} (hb : n < 3) {index : Nat} {v : Int32} {K : eS → Option (ρ × eS)} (hlink : Cond.fieldLink own index "EnclaveWarden$Enclave" "state" "I" ∈ (c0 :: WS) ∨ ∃ host, Cond.fieldLinkNest own index "EnclaveWarden$Enclave" "state" "I" host ∈ nwE) (d : decode cc pc = .ok (.putfield index, 3)) (kk : ∀ s1, GG p l e R s0 m args below meth c D vwCl (tyE dI) A (wE dI ad) nc ns Q (K s1) (F0 m (pc + 3) ls rest) s1) : GG p l e R s0 m args below meth c D vwCl (tyE dI) A (wE dI ad) nc ns Q (nm (wr s 3 n v) K) (F0 m pc ls (.int v :: .ref (ad (5 + n)) :: rest)) s := gg_put X pc (k := 1) (ty := .int) uw_V ty_V tyok_V nm_V (he_E_Enc hb) rfl (by decide) rfl (by decide +kernel) (Nat.le_of_ble_eq_true rfl) hlink (hs_V_state hb) rfl rfl d kk
theorem gg_get_V_measure (X : CX p s0 m args meth c D vwCl (tyE dI) nwE A cc nL ret (c0 :: WS) own) (pc : Nat) {n : Nat} (hb : n < 3) {index : Nat} (hlink : Cond.fieldLink own index "EnclaveWarden$Enclave" "measure" "I" ∈ (c0 :: WS) ∨ ∃ host, Cond.fieldLinkNest own index "EnclaveWarden$Enclave" "measure" "I" host ∈ nwE) (d : decode cc pc = .ok (.getfield index, 3)) (kk : GG p l e R s0 m args below meth c D vwCl (tyE dI) A (wE dI ad) nc ns Q res (F0 m (pc + 3) ls (.int (s 4 n) :: rest)) s) : GG p l e R s0 m args below meth c D vwCl (tyE dI) A (wE dI ad) nc ns Q res (F0 m pc ls (.ref (ad (5 + n)) :: rest)) s := gg_get X pc (k := 2) uw_V (he_E_Enc hb) rfl (by decide) rfl hlink d kk
theorem gg_put_V_measure (X : CX p s0 m args meth c D vwCl (tyE dI) nwE A cc nL ret (c0 :: WS) own) (pc : Nat) {n : Nat} (hb : n < 3) {index : Nat} {v : Int32} {K : eS → Option (ρ × eS)} (hlink : Cond.fieldLink own index "EnclaveWarden$Enclave" "measure" "I" ∈ (c0 :: WS) ∨ ∃ host, Cond.fieldLinkNest own index "EnclaveWarden$Enclave" "measure" "I" host ∈ nwE) (d : decode cc pc = .ok (.putfield index, 3)) (kk : ∀ s1, GG p l e R s0 m args below meth c D vwCl (tyE dI) A (wE dI ad) nc ns Q (K s1) (F0 m (pc + 3) ls rest) s1) : GG p l e R s0 m args below meth c D vwCl (tyE dI) A (wE dI ad) nc ns Q (nm (wr s 4 n v) K) (F0 m pc ls (.int v :: .ref (ad (5 + n)) :: rest)) s := gg_put X pc (k := 2) (ty := .int) uw_V ty_V tyok_V nm_V (he_E_Enc hb) rfl (by decide) rfl (by decide +kernel) (Nat.le_of_ble_eq_true rfl) hlink (hs_V_measure hb) rfl rfl d kk
theorem gg_get_V_loads (X : CX p s0 m args meth c D vwCl (tyE dI) nwE A cc nL ret (c0 :: WS) own) (pc : Nat) {n : Nat} (hb : n < 3) {index : Nat} (hlink : Cond.fieldLink own index "EnclaveWarden$Enclave" "loads" "I" ∈ (c0 :: WS) ∨ ∃ host, Cond.fieldLinkNest own index "EnclaveWarden$Enclave" "loads" "I" host ∈ nwE) (d : decode cc pc = .ok (.getfield index, 3)) (kk : GG p l e R s0 m args below meth c D vwCl (tyE dI) A (wE dI ad) nc ns Q res (F0 m (pc + 3) ls (.int (s 5 n) :: rest)) s) : GG p l e R s0 m args below meth c D vwCl (tyE dI) A (wE dI ad) nc ns Q res (F0 m pc ls (.ref (ad (5 + n)) :: rest)) s := gg_get X pc (k := 3) uw_V (he_E_Enc hb) rfl (by decide) rfl hlink d kk
theorem gg_put_V_loads (X : CX p s0 m args meth c D vwCl (tyE dI) nwE A cc nL ret (c0 :: WS) own) (pc : Nat) {n : Nat} (hb : n < 3) {index : Nat} {v : Int32} {K : eS → Option (ρ × eS)} (hlink : Cond.fieldLink own index "EnclaveWarden$Enclave" "loads" "I" ∈ (c0 :: WS) ∨ ∃ host, Cond.fieldLinkNest own index "EnclaveWarden$Enclave" "loads" "I" host ∈ nwE) (d : decode cc pc = .ok (.putfield index, 3)) (kk : ∀ s1, GG p l e R s0 m args below meth c D vwCl (tyE dI) A (wE dI ad) nc ns Q (K s1) (F0 m (pc + 3) ls rest) s1) : GG p l e R s0 m args below meth c D vwCl (tyE dI) A (wE dI ad) nc ns Q (nm (wr s 5 n v) K) (F0 m pc ls (.int v :: .ref (ad (5 + n)) :: rest)) s := gg_put X pc (k := 3) (ty := .int) uw_V ty_V tyok_V nm_V (he_E_Enc hb) rfl (by decide) rfl (by decide +kernel) (Nat.le_of_ble_eq_true rfl) hlink (hs_V_loads hb) rfl rfl d kk
theorem gg_get_T_core (X : CX p s0 m args meth c D vwCl (tyE dI) nwE A cc nL ret (c0 :: WS) own) (pc : Nat) {n : Nat} (hb : n < 6) {index : Nat} (hlink : Cond.fieldLink own index "EnclaveWarden$EnclaveThread" "core" "LEnclaveWarden$Core;" ∈ (c0 :: WS) ∨ ∃ host, Cond.fieldLinkNest own index "EnclaveWarden$EnclaveThread" "core" "LEnclaveWarden$Core;" host ∈ nwE) (d : decode cc pc = .ok (.getfield index, 3)) (kk : GG p l e R s0 m args below meth c D vwCl (tyE dI) A (wE dI ad) nc ns Q res (F0 m (pc + 3) ls (.ref (ad (17 + n)) :: rest)) s) : GG p l e R s0 m args below meth c D vwCl (tyE dI) A (wE dI ad) nc ns Q res (F0 m pc ls (.ref (ad (11 + n)) :: rest)) s := gg_get X pc (k := 0) uw_T (he_E_Thr hb) rfl (by decide) rfl hlink d kk
theorem gg_get_T_state (X : CX p s0 m args meth c D vwCl (tyE dI) nwE A cc nL ret (c0 :: WS) own) (pc : Nat) {n : Nat} (hb : n < 6) {index : Nat} (hlink : Cond.fieldLink own index "EnclaveWarden$EnclaveThread" "state" "I" ∈ (c0 :: WS) ∨ ∃ host, Cond.fieldLinkNest own index "EnclaveWarden$EnclaveThread" "state" "I" host ∈ nwE) (d : decode cc pc = .ok (.getfield index, 3)) (kk : GG p l e R s0 m args below meth c D vwCl (tyE dI) A (wE dI ad) nc ns Q res (F0 m (pc + 3) ls (.int (s 6 n) :: rest)) s) : GG p l e R s0 m args below meth c D vwCl (tyE dI) A (wE dI ad) nc ns Q res (F0 m pc ls (.ref (ad (11 + n)) :: rest)) s := gg_get X pc (k := 1) uw_T (he_E_Thr hb) rfl (by decide) rfl hlink d kk
theorem gg_put_T_state (X : CX p s0 m args meth c D vwCl (tyE dI) nwE A cc nL ret (c0 :: WS) own) (pc : Nat) {n : Nat} (hb : n < 6) {index : Nat} {v : Int32} {K : eS → Option (ρ × eS)} (hlink : Cond.fieldLink own index "EnclaveWarden$EnclaveThread" "state" "I" ∈ (c0 :: WS) ∨ ∃ host, Cond.fieldLinkNest own index "EnclaveWarden$EnclaveThread" "state" "I" host ∈ nwE) (d : decode cc pc = .ok (.putfield index, 3)) (kk : ∀ s1, GG p l e R s0 m args below meth c D vwCl (tyE dI) A (wE dI ad) nc ns Q (K s1) (F0 m (pc + 3) ls rest) s1) : GG p l e R s0 m args below meth c D vwCl (tyE dI) A (wE dI ad) nc ns Q (nm (wr s 6 n v) K) (F0 m pc ls (.int v :: .ref (ad (11 + n)) :: rest)) s := gg_put X pc (k := 1) (ty := .int) uw_T ty_T tyok_T nm_T (he_E_Thr hb) rfl (by decide) rfl (by decide +kernel) (Nat.le_of_ble_eq_true rfl) hlink (hs_T_state hb) rfl rfl d kk
theorem gg_get_T_entry (X : CX p s0 m args meth c D vwCl (tyE dI) nwE A cc nL ret (c0 :: WS) own) (pc : Nat) {n : Nat} (hb : n < 6) {index : Nat} (hlink : Cond.fieldLink own index "EnclaveWarden$EnclaveThread" "entry" "I" ∈ (c0 :: WS) ∨ ∃ host, Cond.fieldLinkNest own index "EnclaveWarden$EnclaveThread" "entry" "I" host ∈ nwE) (d : decode cc pc = .ok (.getfield index, 3)) (kk : GG p l e R s0 m args below meth c D vwCl (tyE dI) A (wE dI ad) nc ns Q res (F0 m (pc + 3) ls (.int (s 7 n) :: rest)) s) : GG p l e R s0 m args below meth c D vwCl (tyE dI) A (wE dI ad) nc ns Q res (F0 m pc ls (.ref (ad (11 + n)) :: rest)) s := gg_get X pc (k := 2) uw_T (he_E_Thr hb) rfl (by decide) rfl hlink d kk
theorem gg_put_T_entry (X : CX p s0 m args meth c D vwCl (tyE dI) nwE A cc nL ret (c0 :: WS) own) (pc : Nat) {n : Nat} (hb : n < 6) {index : Nat} {v : Int32} {K : eS → Option (ρ × eS)} (hlink : Cond.fieldLink own index "EnclaveWarden$EnclaveThread" "entry" "I" ∈ (c0 :: WS) ∨ ∃ host, Cond.fieldLinkNest own index "EnclaveWarden$EnclaveThread" "entry" "I" host ∈ nwE) (d : decode cc pc = .ok (.putfield index, 3)) (kk : ∀ s1, GG p l e R s0 m args below meth c D vwCl (tyE dI) A (wE dI ad) nc ns Q (K s1) (F0 m (pc + 3) ls rest) s1) : GG p l e R s0 m args below meth c D vwCl (tyE dI) A (wE dI ad) nc ns Q (nm (wr s 7 n v) K) (F0 m pc ls (.int v :: .ref (ad (11 + n)) :: rest)) s := gg_put X pc (k := 2) (ty := .int) uw_T ty_T tyok_T nm_T (he_E_Thr hb) rfl (by decide) rfl (by decide +kernel) (Nat.le_of_ble_eq_true rfl) hlink (hs_T_entry hb) rfl rfl d kk
theorem gg_get_C_registers (X : CX p s0 m args meth c D vwCl (tyE dI) nwE A cc nL ret (c0 :: WS) own) (pc : Nat) {n : Nat} (hb : n < 7) {index : Nat} (hlink : Cond.fieldLink own index "EnclaveWarden$Core" "registers" "[I" ∈ (c0 :: WS) ∨ ∃ host, Cond.fieldLinkNest own index "EnclaveWarden$Core" "registers" "[I" host ∈ nwE) (d : decode cc pc = .ok (.getfield index, 3)) (kk : GG p l e R s0 m args below meth c D vwCl (tyE dI) A (wE dI ad) nc ns Q res (F0 m (pc + 3) ls (.ref (ad (24 + n)) :: rest)) s) : GG p l e R s0 m args below meth c D vwCl (tyE dI) A (wE dI ad) nc ns Q res (F0 m pc ls (.ref (ad (17 + n)) :: rest)) s := gg_get X pc (k := 0) uw_C (he_E_Core hb) rfl (by decide) rfl hlink d kk
theorem gg_get_C_pc (X : CX p s0 m args meth c D vwCl (tyE dI) nwE A cc nL ret (c0 :: WS) own) (pc : Nat) {n : Nat} (hb : n < 7) {index : Nat} (hlink : Cond.fieldLink own index "EnclaveWarden$Core" "pc" "I" ∈ (c0 :: WS) ∨ ∃ host, Cond.fieldLinkNest own index "EnclaveWarden$Core" "pc" "I" host ∈ nwE) (d : decode cc pc = .ok (.getfield index, 3)) (kk : GG p l e R s0 m args below meth c D vwCl (tyE dI) A (wE dI ad) nc ns Q res (F0 m (pc + 3) ls (.int (s 8 n) :: rest)) s) : GG p l e R s0 m args below meth c D vwCl (tyE dI) A (wE dI ad) nc ns Q res (F0 m pc ls (.ref (ad (17 + n)) :: rest)) s := gg_get X pc (k := 1) uw_C (he_E_Core hb) rfl (by decide) rfl hlink d kk
theorem gg_put_C_pc (X : CX p s0 m args meth c D vwCl (tyE dI) nwE A cc nL ret (c0 :: WS) own) (pc : Nat) {n : Nat} (hb : n < 7) {index : Nat} {v : Int32} {K : eS → Option (ρ × eS)} (hlink : Cond.fieldLink own index "EnclaveWarden$Core" "pc" "I" ∈ (c0 :: WS) ∨ ∃ host, Cond.fieldLinkNest own index "EnclaveWarden$Core" "pc" "I" host ∈ nwE) (d : decode cc pc = .ok (.putfield index, 3)) (kk : ∀ s1, GG p l e R s0 m args below meth c D vwCl (tyE dI) A (wE dI ad) nc ns Q (K s1) (F0 m (pc + 3) ls rest) s1) : GG p l e R s0 m args below meth c D vwCl (tyE dI) A (wE dI ad) nc ns Q (nm (wr s 8 n v) K) (F0 m pc ls (.int v :: .ref (ad (17 + n)) :: rest)) s := gg_put X pc (k := 1) (ty := .int) uw_C ty_C tyok_C nm_C (he_E_Core hb) rfl (by decide) rfl (by decide +kernel) (Nat.le_of_ble_eq_true rfl) hlink (hs_C_pc hb) rfl rfl d kk
theorem gg_ald_MEM (X : CX p s0 m args meth c D vwCl (tyE dI) nwE A cc nL ret (c0 :: WS) own) (pc : Nat) {i : Int32} (d : decode cc pc = .ok (.iaload, 1)) (kk : GG p l e R s0 m args below meth c D vwCl (tyE dI) A (wE dI ad) nc ns Q res (F0 m (pc + 1) ls (.int (s 0 i.toNatClampNeg) :: rest)) s) : GG p l e R s0 m args below meth c D vwCl (tyE dI) A (wE dI ad) nc ns Q (ix i 256 res) (F0 m pc ls (.int i :: .ref (ad 1) :: rest)) s := gg_iald X pc (t0 := 0) (he_E_MEM) rfl d kk
theorem gg_ast_MEM (X : CX p s0 m args meth c D vwCl (tyE dI) nwE A cc nL ret (c0 :: WS) own) (pc : Nat) {i x : Int32} {K : eS → Option (ρ × eS)} (d : decode cc pc = .ok (.iastore, 1)) (kk : ∀ s1, GG p l e R s0 m args below meth c D vwCl (tyE dI) A (wE dI ad) nc ns Q (K s1) (F0 m (pc + 1) ls rest) s1) : GG p l e R s0 m args below meth c D vwCl (tyE dI) A (wE dI ad) nc ns Q (ix i 256 (nm (wr s 0 i.toNatClampNeg x) K)) (F0 m pc ls (.int x :: .int i :: .ref (ad 1) :: rest)) s := gg_iast X pc (t0 := 0) (he_E_MEM) rfl (hs_E_MEM) d kk
theorem gg_ald_KIN (X : CX p s0 m args meth c D vwCl (tyE dI) nwE A cc nL ret (c0 :: WS) own) (pc : Nat) {i : Int32} (d : decode cc pc = .ok (.iaload, 1)) (kk : GG p l e R s0 m args below meth c D vwCl (tyE dI) A (wE dI ad) nc ns Q res (F0 m (pc + 1) ls (.int (s 1 i.toNatClampNeg) :: rest)) s) : GG p l e R s0 m args below meth c D vwCl (tyE dI) A (wE dI ad) nc ns Q (ix i 16 res) (F0 m pc ls (.int i :: .ref (ad 2) :: rest)) s := gg_iald X pc (t0 := 0) (he_E_KIN) rfl d kk
theorem gg_ast_KIN (X : CX p s0 m args meth c D vwCl (tyE dI) nwE A cc nL ret (c0 :: WS) own) (pc : Nat) {i x : Int32} {K : eS → Option (ρ × eS)} (d : decode cc pc = .ok (.iastore, 1)) (kk : ∀ s1, GG p l e R s0 m args below meth c D vwCl (tyE dI) A (wE dI ad) nc ns Q (K s1) (F0 m (pc + 1) ls rest) s1) : GG p l e R s0 m args below meth c D vwCl (tyE dI) A (wE dI ad) nc ns Q (ix i 16 (nm (wr s 1 i.toNatClampNeg x) K)) (F0 m pc ls (.int x :: .int i :: .ref (ad 2) :: rest)) s := gg_iast X pc (t0 := 0) (he_E_KIN) rfl (hs_E_KIN) d kk
theorem gg_ald_EXI (X : CX p s0 m args meth c D vwCl (tyE dI) nwE A cc nL ret (c0 :: WS) own) (pc : Nat) {i : Int32} (d : decode cc pc = .ok (.iaload, 1)) (kk : GG p l e R s0 m args below meth c D vwCl (tyE dI) A (wE dI ad) nc ns Q res (F0 m (pc + 1) ls (.int (s 2 i.toNatClampNeg) :: rest)) s) : GG p l e R s0 m args below meth c D vwCl (tyE dI) A (wE dI ad) nc ns Q (ix i 5 res) (F0 m pc ls (.int i :: .ref (ad 4) :: rest)) s := gg_iald X pc (t0 := 0) (he_E_EXI) rfl d kk
theorem gg_ast_EXI (X : CX p s0 m args meth c D vwCl (tyE dI) nwE A cc nL ret (c0 :: WS) own) (pc : Nat) {i x : Int32} {K : eS → Option (ρ × eS)} (d : decode cc pc = .ok (.iastore, 1)) (kk : ∀ s1, GG p l e R s0 m args below meth c D vwCl (tyE dI) A (wE dI ad) nc ns Q (K s1) (F0 m (pc + 1) ls rest) s1) : GG p l e R s0 m args below meth c D vwCl (tyE dI) A (wE dI ad) nc ns Q (ix i 5 (nm (wr s 2 i.toNatClampNeg x) K)) (F0 m pc ls (.int x :: .int i :: .ref (ad 4) :: rest)) s := gg_iast X pc (t0 := 0) (he_E_EXI) rfl (hs_E_EXI) d kk
theorem gg_len_EXI (X : CX p s0 m args meth c D vwCl (tyE dI) nwE A cc nL ret (c0 :: WS) own) (pc : Nat) (d : decode cc pc = .ok (.arraylength, 1)) (kk : GG p l e R s0 m args below meth c D vwCl (tyE dI) A (wE dI ad) nc ns Q res (F0 m (pc + 1) ls (.int (5 : Int32) :: rest)) s) : GG p l e R s0 m args below meth c D vwCl (tyE dI) A (wE dI ad) nc ns Q res (F0 m pc ls (.ref (ad 4) :: rest)) s := gg_alen X pc (t0 := 0) (5 : Int32) (he_E_EXI) rfl rfl d kk
theorem gg_ald_RG (X : CX p s0 m args meth c D vwCl (tyE dI) nwE A cc nL ret (c0 :: WS) own) (pc : Nat) {n : Nat} (hb : n < 7) {i : Int32} (d : decode cc pc = .ok (.iaload, 1)) (kk : GG p l e R s0 m args below meth c D vwCl (tyE dI) A (wE dI ad) nc ns Q res (F0 m (pc + 1) ls (.int (s (10 + n) i.toNatClampNeg) :: rest)) s) : GG p l e R s0 m args below meth c D vwCl (tyE dI) A (wE dI ad) nc ns Q (ix i 8 res) (F0 m pc ls (.int i :: .ref (ad (24 + n)) :: rest)) s := gg_iald X pc (t0 := 0) (he_E_RG hb) rfl d kk
theorem gg_ast_RG (X : CX p s0 m args meth c D vwCl (tyE dI) nwE A cc nL ret (c0 :: WS) own) (pc : Nat) {n : Nat} (hb : n < 7) {i x : Int32} {K : eS → Option (ρ × eS)} (d : decode cc pc = .ok (.iastore, 1)) (kk : ∀ s1, GG p l e R s0 m args below meth c D vwCl (tyE dI) A (wE dI ad) nc ns Q (K s1) (F0 m (pc + 1) ls rest) s1) : GG p l e R s0 m args below meth c D vwCl (tyE dI) A (wE dI ad) nc ns Q (ix i 8 (nm (wr s (10 + n) i.toNatClampNeg x) K)) (F0 m pc ls (.int x :: .int i :: .ref (ad (24 + n)) :: rest)) s := gg_iast X pc (t0 := 0) (he_E_RG hb) rfl (hs_E_RG hb) d kk
theorem gg_ald_ENA (X : CX p s0 m args meth c D vwCl (tyE dI) nwE A cc nL ret (c0 :: WS) own) (pc : Nat) {i : Int32} (d : decode cc pc = .ok (.aaload, 1)) (kk : vp_in i 3 → GG p l e R s0 m args below meth c D vwCl (tyE dI) A (wE dI ad) nc ns Q res (F0 m (pc + 1) ls (.ref (ad (5 + i.toNatClampNeg)) :: rest)) s) : GG p l e R s0 m args below meth c D vwCl (tyE dI) A (wE dI ad) nc ns Q (ix i 3 res) (F0 m pc ls (.int i :: .ref (ad 3) :: rest)) s := gg_aald X pc (t0 := 2) (he_E_ENA) rfl d kk
theorem gg_ald_TA (X : CX p s0 m args meth c D vwCl (tyE dI) nwE A cc nL ret (c0 :: WS) own) (pc : Nat) {n : Nat} (hb : n < 3) {i : Int32} (d : decode cc pc = .ok (.aaload, 1)) (kk : vp_in i 2 → GG p l e R s0 m args below meth c D vwCl (tyE dI) A (wE dI ad) nc ns Q res (F0 m (pc + 1) ls (.ref (ad (11 + (2 * n + i.toNatClampNeg))) :: rest)) s) : GG p l e R s0 m args below meth c D vwCl (tyE dI) A (wE dI ad) nc ns Q (ix i 2 res) (F0 m pc ls (.int i :: .ref (ad (8 + n)) :: rest)) s := gg_aald X pc (t0 := 3) (he_E_TA hb) rfl d kk
end WES
theorem bd_runningThread {s s' : eS} {n : Nat} (h : f_W_runningThread s = some (n, s')) : n < 6 := by
  unfold f_W_runningThread at h
  unfold ix at h
  split at h
  · cases h
  · rename_i h1
    split at h
    · cases h
    · rename_i h2
      cases h
      have q1 := Nat.not_le.mp (fun q => h1 (Or.inr q))
      have q2 := Nat.not_le.mp (fun q => h2 (Or.inr q))
      omega
end
section
set_option maxHeartbeats 4000000 in
set_option maxRecDepth 100000 in
theorem t_W_isAddress_15 {p : Program} {l : Launch} {e : Env} {s0 : State} {m : MethodId} {args : Array Value} {below : List Frame} {meth : Method} {c : Code} {D : va_G} {A : Nat → Prop} {dI : Nat → ClassId} {ad : Nat → Nat} (X : CX p s0 m args meth c D vwCl (tyE dI) nwE A prog_1_method_22_code 1 (some .boolean) (Cond.code y_W_isAddress prog_1_method_22_code 1 (some .boolean) :: WS) R_W)  (s : eS) (ls : Array Slot)  (hl : lv_has ls 1 []) : GG p l e rm_W_isAddress s0 m args below meth c D vwCl (tyE dI) A (wE dI ad) 0 0 (QM below args s0 D vwCl (tyE dI) A (wE dI ad) rvI) (f_W_isAddress_15 s) (F0 m 15 ls []) s := by
  unfold f_W_isAddress_15
  refine gg_iconst X 15 (0 : Int32) d_W_isAddress_15 (by decide) ?_
  exact gg_zretk X 16 rfl d_W_isAddress_16
set_option maxHeartbeats 4000000 in
set_option maxRecDepth 100000 in
theorem t_W_isAddress {p : Program} {l : Launch} {e : Env} {s0 : State} {m : MethodId} {args : Array Value} {below : List Frame} {meth : Method} {c : Code} {D : va_G} {A : Nat → Prop} {dI : Nat → ClassId} {ad : Nat → Nat} (X : CX p s0 m args meth c D vwCl (tyE dI) nwE A prog_1_method_22_code 1 (some .boolean) (Cond.code y_W_isAddress prog_1_method_22_code 1 (some .boolean) :: WS) R_W) (a0 : Int32) (s : eS) (ls : Array Slot)  (hl : lv_has ls 1 [(0, .int a0)]) : GG p l e rm_W_isAddress s0 m args below meth c D vwCl (tyE dI) A (wE dI ad) 0 0 (QM below args s0 D vwCl (tyE dI) A (wE dI ad) rvI) (f_W_isAddress a0 s) (F0 m 0 ls []) s := by
  unfold f_W_isAddress
  refine gg_iload_n X 0 d_W_isAddress_0 rfl (lv_at hl 0 rfl) ?_
  refine gg_if_lt X 1 15 d_W_isAddress_1 rfl (fun _ => ?_) (fun _ => ?_)
  · exact t_W_isAddress_15 X s _  (lv_sub hl [] rfl)
  · refine gg_iload_n X 4 d_W_isAddress_4 rfl (lv_at hl 0 rfl) ?_
    refine gg_sipush X 5 (256 : Int32) d_W_isAddress_5 (by decide) ?_
    refine gg_icmp_ge X 8 15 d_W_isAddress_8 rfl (fun _ => ?_) (fun _ => ?_)
    · exact t_W_isAddress_15 X s _  (lv_sub hl [] rfl)
    · refine gg_iconst X 11 (1 : Int32) d_W_isAddress_11 (by decide) ?_
      refine gg_goto X 12 16 d_W_isAddress_12 rfl ?_
      exact gg_zretk X 16 rfl d_W_isAddress_16
theorem M_W_isAddress (l : Launch) (D : va_G) (dI : Nat → ClassId) (ad : Nat → Nat) (s : eS) (a0 : Int32)  {r : Int32} {s' : eS} (h : f_W_isAddress a0 s = some (r, s')) (sz : Nat) : Met l y_W_isAddress (Cond.code y_W_isAddress prog_1_method_22_code 1 (some .boolean) :: WS) rm_W_isAddress (Px (wE dI ad) D vwCl (tyE dI) nwE sz s [.int a0]) (Qx rvI (wE dI ad) D vwCl (tyE dI) (va_A ((wE dI ad) s) sz) r s') 0 0 (va_A ((wE dI ad) s) sz) :=
  met_of [.int a0] (by decide) rfl rfl (Nat.le_of_ble_eq_true rfl) h (fun p e s0 m args below meth c A ls X hl => t_W_isAddress X a0 s ls  hl)
set_option maxHeartbeats 4000000 in
set_option maxRecDepth 100000 in
theorem t_W_systemMayUse_29 {p : Program} {l : Launch} {e : Env} {s0 : State} {m : MethodId} {args : Array Value} {below : List Frame} {meth : Method} {c : Code} {D : va_G} {A : Nat → Prop} {dI : Nat → ClassId} {ad : Nat → Nat} (X : CX p s0 m args meth c D vwCl (tyE dI) nwE A prog_1_method_28_code 3 (some .boolean) (Cond.code y_W_systemMayUse prog_1_method_28_code 3 (some .boolean) :: WS) R_W)  (s : eS) (ls : Array Slot)  (hl : lv_has ls 3 []) : GG p l e rm_W_systemMayUse s0 m args below meth c D vwCl (tyE dI) A (wE dI ad) 0 0 (QM below args s0 D vwCl (tyE dI) A (wE dI ad) rvI) (f_W_systemMayUse_29 s) (F0 m 29 ls []) s := by
  unfold f_W_systemMayUse_29
  refine gg_iconst X 29 (1 : Int32) d_W_systemMayUse_29 (by decide) ?_
  refine gg_goto X 30 34 d_W_systemMayUse_30 rfl ?_
  exact gg_zretk X 34 rfl d_W_systemMayUse_34
set_option maxHeartbeats 4000000 in
set_option maxRecDepth 100000 in
theorem t_W_systemMayUse {p : Program} {l : Launch} {e : Env} {s0 : State} {m : MethodId} {args : Array Value} {below : List Frame} {meth : Method} {c : Code} {D : va_G} {A : Nat → Prop} {dI : Nat → ClassId} {ad : Nat → Nat} (X : CX p s0 m args meth c D vwCl (tyE dI) nwE A prog_1_method_28_code 3 (some .boolean) (Cond.code y_W_systemMayUse prog_1_method_28_code 3 (some .boolean) :: WS) R_W) (a1 : Int32) (s : eS) (ls : Array Slot)  (hl : lv_has ls 3 [(0, .ref (ad 0)), (1, .int a1)]) : GG p l e rm_W_systemMayUse s0 m args below meth c D vwCl (tyE dI) A (wE dI ad) 0 0 (QM below args s0 D vwCl (tyE dI) A (wE dI ad) rvI) (f_W_systemMayUse a1 s) (F0 m 0 ls []) s := by
  unfold f_W_systemMayUse
  refine gg_iload_n X 0 d_W_systemMayUse_0 rfl (lv_at hl 1 rfl) ?_
  refine gg_callS X 1 nwOk_E [.int a1] [] (fun _ _ h sz => M_W_isAddress l D dI ad _ a1  h sz) (cwS 1 X.1.2.2.2.2 (gwS w_119 w_120 w_1 w_121) rfl rfl rfl (by decide +kernel) ⟨by decide, by decide⟩) rfl hl.1 rfl (Nat.le_of_ble_eq_true rfl) ⟨Nat.zero_le _, Nat.zero_le _⟩ d_W_systemMayUse_1 (fun r1 s2 ho3 => ?_)
  refine gg_show_i ?_
  refine gg_if_ne X 4 9 d_W_systemMayUse_4 rfl (fun _ => ?_) (fun _ => ?_)
  · refine gg_aload_n X 9 d_W_systemMayUse_9 rfl (lv_at hl 0 rfl) ?_
    refine gg_get_W_kinds X 10 (Or.inl (List.mem_cons_of_mem _ w_82)) d_W_systemMayUse_10 ?_
    refine gg_iload_n X 13 d_W_systemMayUse_13 rfl (lv_at hl 1 rfl) ?_
    refine gg_bipush X 14 (16 : Int32) d_W_systemMayUse_14 (by decide) ?_
    refine gg_idivk X 16 d_W_systemMayUse_16 (by decide) ?_
    refine gg_ald_KIN X 17 d_W_systemMayUse_17 ?_
    refine gg_istore_n X 18 (fun v4 => [(2, .int v4), (0, .ref (ad 0)), (1, .int a1)]) d_W_systemMayUse_18 rfl hl (by decide) (fun _ => rfl) (fun v4 ls hl => ?_)
    refine gg_iload_n X 19 d_W_systemMayUse_19 rfl (lv_at hl 0 rfl) ?_
    refine gg_iconst X 20 (1 : Int32) d_W_systemMayUse_20 (by decide) ?_
    refine gg_icmp_eq X 21 29 d_W_systemMayUse_21 rfl (fun _ => ?_) (fun _ => ?_)
    · exact t_W_systemMayUse_29 X s2 _  (lv_sub hl [] rfl)
    · refine gg_iload_n X 24 d_W_systemMayUse_24 rfl (lv_at hl 0 rfl) ?_
      refine gg_iconst X 25 (5 : Int32) d_W_systemMayUse_25 (by decide) ?_
      refine gg_icmp_lt X 26 33 d_W_systemMayUse_26 rfl (fun _ => ?_) (fun _ => ?_)
      · refine gg_iconst X 33 (0 : Int32) d_W_systemMayUse_33 (by decide) ?_
        exact gg_zretk X 34 rfl d_W_systemMayUse_34
      · exact t_W_systemMayUse_29 X s2 _  (lv_sub hl [] rfl)
  · refine gg_iconst X 7 (0 : Int32) d_W_systemMayUse_7 (by decide) ?_
    exact gg_zretk X 8 rfl d_W_systemMayUse_8
theorem M_W_systemMayUse (l : Launch) (D : va_G) (dI : Nat → ClassId) (ad : Nat → Nat) (s : eS) (a1 : Int32)  {r : Int32} {s' : eS} (h : f_W_systemMayUse a1 s = some (r, s')) (sz : Nat) : Met l y_W_systemMayUse (Cond.code y_W_systemMayUse prog_1_method_28_code 3 (some .boolean) :: WS) rm_W_systemMayUse (Px (wE dI ad) D vwCl (tyE dI) nwE sz s [.ref (ad 0), .int a1]) (Qx rvI (wE dI ad) D vwCl (tyE dI) (va_A ((wE dI ad) s) sz) r s') 0 0 (va_A ((wE dI ad) s) sz) :=
  met_of [.ref (ad 0), .int a1] (by decide) rfl rfl (Nat.le_of_ble_eq_true rfl) h (fun p e s0 m args below meth c A ls X hl => t_W_systemMayUse X a1 s ls  hl)
set_option maxHeartbeats 4000000 in
set_option maxRecDepth 100000 in
theorem t_W_poke {p : Program} {l : Launch} {e : Env} {s0 : State} {m : MethodId} {args : Array Value} {below : List Frame} {meth : Method} {c : Code} {D : va_G} {A : Nat → Prop} {dI : Nat → ClassId} {ad : Nat → Nat} (X : CX p s0 m args meth c D vwCl (tyE dI) nwE A prog_1_method_2_code 3 (some .boolean) (Cond.code y_W_poke prog_1_method_2_code 3 (some .boolean) :: WS) R_W) (a1 : Int32) (a2 : Int32) (s : eS) (ls : Array Slot)  (hl : lv_has ls 3 [(0, .ref (ad 0)), (1, .int a1), (2, .int a2)]) : GG p l e rm_W_poke s0 m args below meth c D vwCl (tyE dI) A (wE dI ad) 0 0 (QM below args s0 D vwCl (tyE dI) A (wE dI ad) rvI) (f_W_poke a1 a2 s) (F0 m 0 ls []) s := by
  unfold f_W_poke
  refine gg_aload_n X 0 d_W_poke_0 rfl (lv_at hl 0 rfl) ?_
  refine gg_iload_n X 1 d_W_poke_1 rfl (lv_at hl 1 rfl) ?_
  refine gg_callV X 2 nwOk_E [.int a1] [] (fun _ _ h sz => M_W_systemMayUse l D dI ad _ a1  h sz) (cwV 1 X.1.2.2.2.2 (gwV w_115 w_117 ws_W_systemMayUse w_1 w_118) rfl rfl rfl (by decide +kernel) ⟨by decide, by decide⟩) (he_E_Main) rfl rfl hl.1 rfl (Nat.le_of_ble_eq_true rfl) ⟨Nat.zero_le _, Nat.zero_le _⟩ d_W_poke_2 (fun r1 s2 ho3 => ?_)
  refine gg_show_i ?_
  refine gg_if_ne X 5 10 d_W_poke_5 rfl (fun _ => ?_) (fun _ => ?_)
  · refine gg_aload_n X 10 d_W_poke_10 rfl (lv_at hl 0 rfl) ?_
    refine gg_get_W_memory X 11 (Or.inl (List.mem_cons_of_mem _ w_81)) d_W_poke_11 ?_
    refine gg_iload_n X 14 d_W_poke_14 rfl (lv_at hl 1 rfl) ?_
    refine gg_iload_n X 15 d_W_poke_15 rfl (lv_at hl 2 rfl) ?_
    refine gg_ast_MEM X 16 d_W_poke_16 (fun s4 => ?_)
    refine gg_iconst X 17 (1 : Int32) d_W_poke_17 (by decide) ?_
    exact gg_zretk X 18 rfl d_W_poke_18
  · refine gg_iconst X 8 (0 : Int32) d_W_poke_8 (by decide) ?_
    exact gg_zretk X 9 rfl d_W_poke_9
theorem M_W_poke (l : Launch) (D : va_G) (dI : Nat → ClassId) (ad : Nat → Nat) (s : eS) (a1 : Int32) (a2 : Int32)  {r : Int32} {s' : eS} (h : f_W_poke a1 a2 s = some (r, s')) (sz : Nat) : Met l y_W_poke (Cond.code y_W_poke prog_1_method_2_code 3 (some .boolean) :: WS) rm_W_poke (Px (wE dI ad) D vwCl (tyE dI) nwE sz s [.ref (ad 0), .int a1, .int a2]) (Qx rvI (wE dI ad) D vwCl (tyE dI) (va_A ((wE dI ad) s) sz) r s') 0 0 (va_A ((wE dI ad) s) sz) :=
  met_of [.ref (ad 0), .int a1, .int a2] (by decide) rfl rfl (Nat.le_of_ble_eq_true rfl) h (fun p e s0 m args below meth c A ls X hl => t_W_poke X a1 a2 s ls  hl)
set_option maxHeartbeats 4000000 in
set_option maxRecDepth 100000 in
theorem t_W_peek {p : Program} {l : Launch} {e : Env} {s0 : State} {m : MethodId} {args : Array Value} {below : List Frame} {meth : Method} {c : Code} {D : va_G} {A : Nat → Prop} {dI : Nat → ClassId} {ad : Nat → Nat} (X : CX p s0 m args meth c D vwCl (tyE dI) nwE A prog_1_method_3_code 2 (some .int) (Cond.code y_W_peek prog_1_method_3_code 2 (some .int) :: WS) R_W) (a1 : Int32) (s : eS) (ls : Array Slot)  (hl : lv_has ls 2 [(0, .ref (ad 0)), (1, .int a1)]) : GG p l e rm_W_peek s0 m args below meth c D vwCl (tyE dI) A (wE dI ad) 0 0 (QM below args s0 D vwCl (tyE dI) A (wE dI ad) rvI) (f_W_peek a1 s) (F0 m 0 ls []) s := by
  unfold f_W_peek
  refine gg_aload_n X 0 d_W_peek_0 rfl (lv_at hl 0 rfl) ?_
  refine gg_iload_n X 1 d_W_peek_1 rfl (lv_at hl 1 rfl) ?_
  refine gg_callV X 2 nwOk_E [.int a1] [] (fun _ _ h sz => M_W_systemMayUse l D dI ad _ a1  h sz) (cwV 1 X.1.2.2.2.2 (gwV w_115 w_117 ws_W_systemMayUse w_1 w_118) rfl rfl rfl (by decide +kernel) ⟨by decide, by decide⟩) (he_E_Main) rfl rfl hl.1 rfl (Nat.le_of_ble_eq_true rfl) ⟨Nat.zero_le _, Nat.zero_le _⟩ d_W_peek_2 (fun r1 s2 ho3 => ?_)
  refine gg_show_i ?_
  refine gg_if_eq X 5 17 d_W_peek_5 rfl (fun _ => ?_) (fun _ => ?_)
  · refine gg_iconst X 17 (0 : Int32) d_W_peek_17 (by decide) ?_
    exact gg_iret X 18 d_W_peek_18
  · refine gg_aload_n X 8 d_W_peek_8 rfl (lv_at hl 0 rfl) ?_
    refine gg_get_W_memory X 9 (Or.inl (List.mem_cons_of_mem _ w_81)) d_W_peek_9 ?_
    refine gg_iload_n X 12 d_W_peek_12 rfl (lv_at hl 1 rfl) ?_
    refine gg_ald_MEM X 13 d_W_peek_13 ?_
    refine gg_goto X 14 18 d_W_peek_14 rfl ?_
    exact gg_iret X 18 d_W_peek_18
theorem M_W_peek (l : Launch) (D : va_G) (dI : Nat → ClassId) (ad : Nat → Nat) (s : eS) (a1 : Int32)  {r : Int32} {s' : eS} (h : f_W_peek a1 s = some (r, s')) (sz : Nat) : Met l y_W_peek (Cond.code y_W_peek prog_1_method_3_code 2 (some .int) :: WS) rm_W_peek (Px (wE dI ad) D vwCl (tyE dI) nwE sz s [.ref (ad 0), .int a1]) (Qx rvI (wE dI ad) D vwCl (tyE dI) (va_A ((wE dI ad) s) sz) r s') 0 0 (va_A ((wE dI ad) s) sz) :=
  met_of [.ref (ad 0), .int a1] (by decide) rfl rfl (Nat.le_of_ble_eq_true rfl) h (fun p e s0 m args below meth c A ls X hl => t_W_peek X a1 s ls  hl)
set_option maxHeartbeats 4000000 in
set_option maxRecDepth 100000 in
theorem t_W_bare {p : Program} {l : Launch} {e : Env} {s0 : State} {m : MethodId} {args : Array Value} {below : List Frame} {meth : Method} {c : Code} {D : va_G} {A : Nat → Prop} {dI : Nat → ClassId} {ad : Nat → Nat} (X : CX p s0 m args meth c D vwCl (tyE dI) nwE A prog_1_method_4_code 2 (some .int) (Cond.code y_W_bare prog_1_method_4_code 2 (some .int) :: WS) R_W) (a1 : Int32) (s : eS) (ls : Array Slot)  (hl : lv_has ls 2 [(0, .ref (ad 0)), (1, .int a1)]) : GG p l e rm_W_bare s0 m args below meth c D vwCl (tyE dI) A (wE dI ad) 0 0 (QM below args s0 D vwCl (tyE dI) A (wE dI ad) rvI) (f_W_bare a1 s) (F0 m 0 ls []) s := by
  unfold f_W_bare
  refine gg_iload_n X 0 d_W_bare_0 rfl (lv_at hl 1 rfl) ?_
  refine gg_callS X 1 nwOk_E [.int a1] [] (fun _ _ h sz => M_W_isAddress l D dI ad _ a1  h sz) (cwS 1 X.1.2.2.2.2 (gwS w_119 w_120 w_1 w_121) rfl rfl rfl (by decide +kernel) ⟨by decide, by decide⟩) rfl hl.1 rfl (Nat.le_of_ble_eq_true rfl) ⟨Nat.zero_le _, Nat.zero_le _⟩ d_W_bare_1 (fun r1 s2 ho3 => ?_)
  refine gg_show_i ?_
  refine gg_if_eq X 4 16 d_W_bare_4 rfl (fun _ => ?_) (fun _ => ?_)
  · refine gg_iconst X 16 (0 : Int32) d_W_bare_16 (by decide) ?_
    exact gg_iret X 17 d_W_bare_17
  · refine gg_aload_n X 7 d_W_bare_7 rfl (lv_at hl 0 rfl) ?_
    refine gg_get_W_memory X 8 (Or.inl (List.mem_cons_of_mem _ w_81)) d_W_bare_8 ?_
    refine gg_iload_n X 11 d_W_bare_11 rfl (lv_at hl 1 rfl) ?_
    refine gg_ald_MEM X 12 d_W_bare_12 ?_
    refine gg_goto X 13 17 d_W_bare_13 rfl ?_
    exact gg_iret X 17 d_W_bare_17
theorem M_W_bare (l : Launch) (D : va_G) (dI : Nat → ClassId) (ad : Nat → Nat) (s : eS) (a1 : Int32)  {r : Int32} {s' : eS} (h : f_W_bare a1 s = some (r, s')) (sz : Nat) : Met l y_W_bare (Cond.code y_W_bare prog_1_method_4_code 2 (some .int) :: WS) rm_W_bare (Px (wE dI ad) D vwCl (tyE dI) nwE sz s [.ref (ad 0), .int a1]) (Qx rvI (wE dI ad) D vwCl (tyE dI) (va_A ((wE dI ad) s) sz) r s') 0 0 (va_A ((wE dI ad) s) sz) :=
  met_of [.ref (ad 0), .int a1] (by decide) rfl rfl (Nat.le_of_ble_eq_true rfl) h (fun p e s0 m args below meth c A ls X hl => t_W_bare X a1 s ls  hl)
set_option maxHeartbeats 4000000 in
set_option maxRecDepth 100000 in
theorem t_C_put {p : Program} {l : Launch} {e : Env} {s0 : State} {m : MethodId} {args : Array Value} {below : List Frame} {meth : Method} {c : Code} {D : va_G} {A : Nat → Prop} {dI : Nat → ClassId} {ad : Nat → Nat} (X : CX p s0 m args meth c D vwCl (tyE dI) nwE A prog_2_method_3_code 3 none (Cond.code y_C_put prog_2_method_3_code 3 none :: WS) R_C) (n0 : Nat) (a1 : Int32) (a2 : Int32) (s : eS) (ls : Array Slot) (hb0 : n0 < 7) (hl : lv_has ls 3 [(0, .ref (ad (17 + n0))), (1, .int a1), (2, .int a2)]) : GG p l e rm_C_put s0 m args below meth c D vwCl (tyE dI) A (wE dI ad) 0 0 (QM below args s0 D vwCl (tyE dI) A (wE dI ad) rvV) (f_C_put n0 a1 a2 s) (F0 m 0 ls []) s := by
  unfold f_C_put
  refine gg_iload_n X 0 d_C_put_0 rfl (lv_at hl 1 rfl) ?_
  refine gg_if_le X 1 17 d_C_put_1 rfl (fun _ => ?_) (fun _ => ?_)
  · exact gg_vret X 17 d_C_put_17
  · refine gg_iload_n X 4 d_C_put_4 rfl (lv_at hl 1 rfl) ?_
    refine gg_bipush X 5 (8 : Int32) d_C_put_5 (by decide) ?_
    refine gg_icmp_ge X 7 17 d_C_put_7 rfl (fun _ => ?_) (fun _ => ?_)
    · exact gg_vret X 17 d_C_put_17
    · refine gg_aload_n X 10 d_C_put_10 rfl (lv_at hl 0 rfl) ?_
      refine gg_get_C_registers X 11 hb0 (Or.inl (List.mem_cons_of_mem _ w_34)) d_C_put_11 ?_
      refine gg_iload_n X 14 d_C_put_14 rfl (lv_at hl 1 rfl) ?_
      refine gg_iload_n X 15 d_C_put_15 rfl (lv_at hl 2 rfl) ?_
      refine gg_ast_RG X 16 hb0 d_C_put_16 (fun s1 => ?_)
      exact gg_vret X 17 d_C_put_17
theorem M_C_put (l : Launch) (D : va_G) (dI : Nat → ClassId) (ad : Nat → Nat) (s : eS) (n0 : Nat) (a1 : Int32) (a2 : Int32) (hb0 : n0 < 7) {r : Unit} {s' : eS} (h : f_C_put n0 a1 a2 s = some (r, s')) (sz : Nat) : Met l y_C_put (Cond.code y_C_put prog_2_method_3_code 3 none :: WS) rm_C_put (Px (wE dI ad) D vwCl (tyE dI) nwE sz s [.ref (ad (17 + n0)), .int a1, .int a2]) (Qx rvV (wE dI ad) D vwCl (tyE dI) (va_A ((wE dI ad) s) sz) r s') 0 0 (va_A ((wE dI ad) s) sz) :=
  met_of [.ref (ad (17 + n0)), .int a1, .int a2] (by decide) rfl rfl (Nat.le_of_ble_eq_true rfl) h (fun p e s0 m args below meth c A ls X hl => t_C_put X n0 a1 a2 s ls hb0 hl)
set_option maxHeartbeats 4000000 in
set_option maxRecDepth 100000 in
theorem t_W_give_19 {p : Program} {l : Launch} {e : Env} {s0 : State} {m : MethodId} {args : Array Value} {below : List Frame} {meth : Method} {c : Code} {D : va_G} {A : Nat → Prop} {dI : Nat → ClassId} {ad : Nat → Nat} (X : CX p s0 m args meth c D vwCl (tyE dI) nwE A prog_1_method_5_code 3 (some .boolean) (Cond.code y_W_give prog_1_method_5_code 3 (some .boolean) :: WS) R_W)  (s : eS) (ls : Array Slot)  (hl : lv_has ls 3 []) : GG p l e rm_W_give s0 m args below meth c D vwCl (tyE dI) A (wE dI ad) 0 0 (QM below args s0 D vwCl (tyE dI) A (wE dI ad) rvI) (f_W_give_19 s) (F0 m 19 ls []) s := by
  unfold f_W_give_19
  refine gg_iconst X 19 (0 : Int32) d_W_give_19 (by decide) ?_
  exact gg_zretk X 20 rfl d_W_give_20
set_option maxHeartbeats 4000000 in
set_option maxRecDepth 100000 in
theorem t_W_give {p : Program} {l : Launch} {e : Env} {s0 : State} {m : MethodId} {args : Array Value} {below : List Frame} {meth : Method} {c : Code} {D : va_G} {A : Nat → Prop} {dI : Nat → ClassId} {ad : Nat → Nat} (X : CX p s0 m args meth c D vwCl (tyE dI) nwE A prog_1_method_5_code 3 (some .boolean) (Cond.code y_W_give prog_1_method_5_code 3 (some .boolean) :: WS) R_W) (a1 : Int32) (a2 : Int32) (s : eS) (ls : Array Slot)  (hl : lv_has ls 3 [(0, .ref (ad 0)), (1, .int a1), (2, .int a2)]) : GG p l e rm_W_give s0 m args below meth c D vwCl (tyE dI) A (wE dI ad) 0 0 (QM below args s0 D vwCl (tyE dI) A (wE dI ad) rvI) (f_W_give a1 a2 s) (F0 m 0 ls []) s := by
  unfold f_W_give
  refine gg_iload_n X 0 d_W_give_0 rfl (lv_at hl 1 rfl) ?_
  refine gg_iconst X 1 (1 : Int32) d_W_give_1 (by decide) ?_
  refine gg_icmp_lt X 2 19 d_W_give_2 rfl (fun _ => ?_) (fun _ => ?_)
  · exact t_W_give_19 X s _  (lv_sub hl [] rfl)
  · refine gg_iload_n X 5 d_W_give_5 rfl (lv_at hl 1 rfl) ?_
    refine gg_bipush X 6 (8 : Int32) d_W_give_6 (by decide) ?_
    refine gg_icmp_ge X 8 19 d_W_give_8 rfl (fun _ => ?_) (fun _ => ?_)
    · exact t_W_give_19 X s _  (lv_sub hl [] rfl)
    · refine gg_aload_n X 11 d_W_give_11 rfl (lv_at hl 0 rfl) ?_
      refine gg_get_W_running X 12 (Or.inl (List.mem_cons_of_mem _ w_87)) d_W_give_12 ?_
      refine gg_iconst X 15 (-1 : Int32) d_W_give_15 (by decide) ?_
      refine gg_icmp_eq X 16 21 d_W_give_16 rfl (fun _ => ?_) (fun _ => ?_)
      · refine gg_aload_n X 21 d_W_give_21 rfl (lv_at hl 0 rfl) ?_
        refine gg_get_W_system X 22 (Or.inl (List.mem_cons_of_mem _ w_84)) d_W_give_22 ?_
        refine gg_iload_n X 25 d_W_give_25 rfl (lv_at hl 1 rfl) ?_
        refine gg_iload_n X 26 d_W_give_26 rfl (lv_at hl 2 rfl) ?_
        refine gg_callVN X 27 nwOk_E [.int a1, .int a2] [] (fun _ _ h sz => M_C_put l D dI ad _ 6 a1 a2 (by decide) h sz) (⟨va_cnB 2 X.1.2.2.2.2 (gwB w_137) rfl rfl rfl (X.2.2.2.2.2 _ nw_13) (X.1.2.2.2.2 _ (List.mem_cons_of_mem _ w_4)) (by decide +kernel) ⟨by decide, by decide⟩, X.1.2.2.2.2 _ (List.mem_cons_of_mem _ w_136), X.1.2.2.2.2 _ (List.mem_cons_of_mem _ ws_C_put)⟩) (he_E_Core (by decide)) rfl rfl hl.1 rfl (Nat.le_of_ble_eq_true rfl) ⟨Nat.zero_le _, Nat.zero_le _⟩ d_W_give_27 (fun r1 s2 ho3 => ?_)
        refine gg_show_v ?_
        refine gg_iconst X 30 (1 : Int32) d_W_give_30 (by decide) ?_
        exact gg_zretk X 31 rfl d_W_give_31
      · exact t_W_give_19 X s _  (lv_sub hl [] rfl)
theorem M_W_give (l : Launch) (D : va_G) (dI : Nat → ClassId) (ad : Nat → Nat) (s : eS) (a1 : Int32) (a2 : Int32)  {r : Int32} {s' : eS} (h : f_W_give a1 a2 s = some (r, s')) (sz : Nat) : Met l y_W_give (Cond.code y_W_give prog_1_method_5_code 3 (some .boolean) :: WS) rm_W_give (Px (wE dI ad) D vwCl (tyE dI) nwE sz s [.ref (ad 0), .int a1, .int a2]) (Qx rvI (wE dI ad) D vwCl (tyE dI) (va_A ((wE dI ad) s) sz) r s') 0 0 (va_A ((wE dI ad) s) sz) :=
  met_of [.ref (ad 0), .int a1, .int a2] (by decide) rfl rfl (Nat.le_of_ble_eq_true rfl) h (fun p e s0 m args below meth c A ls X hl => t_W_give X a1 a2 s ls  hl)
set_option maxHeartbeats 4000000 in
set_option maxRecDepth 100000 in
theorem t_C_get_19 {p : Program} {l : Launch} {e : Env} {s0 : State} {m : MethodId} {args : Array Value} {below : List Frame} {meth : Method} {c : Code} {D : va_G} {A : Nat → Prop} {dI : Nat → ClassId} {ad : Nat → Nat} (X : CX p s0 m args meth c D vwCl (tyE dI) nwE A prog_2_method_2_code 2 (some .int) (Cond.code y_C_get prog_2_method_2_code 2 (some .int) :: WS) R_C)  (s : eS) (ls : Array Slot)  (hl : lv_has ls 2 []) : GG p l e rm_C_get s0 m args below meth c D vwCl (tyE dI) A (wE dI ad) 0 0 (QM below args s0 D vwCl (tyE dI) A (wE dI ad) rvI) (f_C_get_19 s) (F0 m 19 ls []) s := by
  unfold f_C_get_19
  refine gg_iconst X 19 (0 : Int32) d_C_get_19 (by decide) ?_
  exact gg_iret X 20 d_C_get_20
set_option maxHeartbeats 4000000 in
set_option maxRecDepth 100000 in
theorem t_C_get {p : Program} {l : Launch} {e : Env} {s0 : State} {m : MethodId} {args : Array Value} {below : List Frame} {meth : Method} {c : Code} {D : va_G} {A : Nat → Prop} {dI : Nat → ClassId} {ad : Nat → Nat} (X : CX p s0 m args meth c D vwCl (tyE dI) nwE A prog_2_method_2_code 2 (some .int) (Cond.code y_C_get prog_2_method_2_code 2 (some .int) :: WS) R_C) (n0 : Nat) (a1 : Int32) (s : eS) (ls : Array Slot) (hb0 : n0 < 7) (hl : lv_has ls 2 [(0, .ref (ad (17 + n0))), (1, .int a1)]) : GG p l e rm_C_get s0 m args below meth c D vwCl (tyE dI) A (wE dI ad) 0 0 (QM below args s0 D vwCl (tyE dI) A (wE dI ad) rvI) (f_C_get n0 a1 s) (F0 m 0 ls []) s := by
  unfold f_C_get
  refine gg_iload_n X 0 d_C_get_0 rfl (lv_at hl 1 rfl) ?_
  refine gg_if_lt X 1 19 d_C_get_1 rfl (fun _ => ?_) (fun _ => ?_)
  · exact t_C_get_19 X s _  (lv_sub hl [] rfl)
  · refine gg_iload_n X 4 d_C_get_4 rfl (lv_at hl 1 rfl) ?_
    refine gg_bipush X 5 (8 : Int32) d_C_get_5 (by decide) ?_
    refine gg_icmp_ge X 7 19 d_C_get_7 rfl (fun _ => ?_) (fun _ => ?_)
    · exact t_C_get_19 X s _  (lv_sub hl [] rfl)
    · refine gg_aload_n X 10 d_C_get_10 rfl (lv_at hl 0 rfl) ?_
      refine gg_get_C_registers X 11 hb0 (Or.inl (List.mem_cons_of_mem _ w_34)) d_C_get_11 ?_
      refine gg_iload_n X 14 d_C_get_14 rfl (lv_at hl 1 rfl) ?_
      refine gg_ald_RG X 15 hb0 d_C_get_15 ?_
      refine gg_goto X 16 20 d_C_get_16 rfl ?_
      exact gg_iret X 20 d_C_get_20
theorem M_C_get (l : Launch) (D : va_G) (dI : Nat → ClassId) (ad : Nat → Nat) (s : eS) (n0 : Nat) (a1 : Int32) (hb0 : n0 < 7) {r : Int32} {s' : eS} (h : f_C_get n0 a1 s = some (r, s')) (sz : Nat) : Met l y_C_get (Cond.code y_C_get prog_2_method_2_code 2 (some .int) :: WS) rm_C_get (Px (wE dI ad) D vwCl (tyE dI) nwE sz s [.ref (ad (17 + n0)), .int a1]) (Qx rvI (wE dI ad) D vwCl (tyE dI) (va_A ((wE dI ad) s) sz) r s') 0 0 (va_A ((wE dI ad) s) sz) :=
  met_of [.ref (ad (17 + n0)), .int a1] (by decide) rfl rfl (Nat.le_of_ble_eq_true rfl) h (fun p e s0 m args below meth c A ls X hl => t_C_get X n0 a1 s ls hb0 hl)
set_option maxHeartbeats 4000000 in
set_option maxRecDepth 100000 in
theorem t_W_register {p : Program} {l : Launch} {e : Env} {s0 : State} {m : MethodId} {args : Array Value} {below : List Frame} {meth : Method} {c : Code} {D : va_G} {A : Nat → Prop} {dI : Nat → ClassId} {ad : Nat → Nat} (X : CX p s0 m args meth c D vwCl (tyE dI) nwE A prog_1_method_6_code 2 (some .int) (Cond.code y_W_register prog_1_method_6_code 2 (some .int) :: WS) R_W) (a1 : Int32) (s : eS) (ls : Array Slot)  (hl : lv_has ls 2 [(0, .ref (ad 0)), (1, .int a1)]) : GG p l e rm_W_register s0 m args below meth c D vwCl (tyE dI) A (wE dI ad) 0 0 (QM below args s0 D vwCl (tyE dI) A (wE dI ad) rvI) (f_W_register a1 s) (F0 m 0 ls []) s := by
  unfold f_W_register
  refine gg_aload_n X 0 d_W_register_0 rfl (lv_at hl 0 rfl) ?_
  refine gg_get_W_system X 1 (Or.inl (List.mem_cons_of_mem _ w_84)) d_W_register_1 ?_
  refine gg_iload_n X 4 d_W_register_4 rfl (lv_at hl 1 rfl) ?_
  refine gg_callVN X 5 nwOk_E [.int a1] [] (fun _ _ h sz => M_C_get l D dI ad _ 6 a1 (by decide) h sz) (⟨va_cnB 1 X.1.2.2.2.2 (gwB w_145) rfl rfl rfl (X.2.2.2.2.2 _ nw_14) (X.1.2.2.2.2 _ (List.mem_cons_of_mem _ w_4)) (by decide +kernel) ⟨by decide, by decide⟩, X.1.2.2.2.2 _ (List.mem_cons_of_mem _ w_144), X.1.2.2.2.2 _ (List.mem_cons_of_mem _ ws_C_get)⟩) (he_E_Core (by decide)) rfl rfl hl.1 rfl (Nat.le_of_ble_eq_true rfl) ⟨Nat.zero_le _, Nat.zero_le _⟩ d_W_register_5 (fun r1 s2 ho3 => ?_)
  refine gg_show_i ?_
  exact gg_iret X 8 d_W_register_8
theorem M_W_register (l : Launch) (D : va_G) (dI : Nat → ClassId) (ad : Nat → Nat) (s : eS) (a1 : Int32)  {r : Int32} {s' : eS} (h : f_W_register a1 s = some (r, s')) (sz : Nat) : Met l y_W_register (Cond.code y_W_register prog_1_method_6_code 2 (some .int) :: WS) rm_W_register (Px (wE dI ad) D vwCl (tyE dI) nwE sz s [.ref (ad 0), .int a1]) (Qx rvI (wE dI ad) D vwCl (tyE dI) (va_A ((wE dI ad) s) sz) r s') 0 0 (va_A ((wE dI ad) s) sz) :=
  met_of [.ref (ad 0), .int a1] (by decide) rfl rfl (Nat.le_of_ble_eq_true rfl) h (fun p e s0 m args below meth c A ls X hl => t_W_register X a1 s ls  hl)
set_option maxHeartbeats 4000000 in
set_option maxRecDepth 100000 in
theorem t_W_pc {p : Program} {l : Launch} {e : Env} {s0 : State} {m : MethodId} {args : Array Value} {below : List Frame} {meth : Method} {c : Code} {D : va_G} {A : Nat → Prop} {dI : Nat → ClassId} {ad : Nat → Nat} (X : CX p s0 m args meth c D vwCl (tyE dI) nwE A prog_1_method_7_code 1 (some .int) (Cond.code y_W_pc prog_1_method_7_code 1 (some .int) :: WS) R_W)  (s : eS) (ls : Array Slot)  (hl : lv_has ls 1 [(0, .ref (ad 0))]) : GG p l e rm_W_pc s0 m args below meth c D vwCl (tyE dI) A (wE dI ad) 0 0 (QM below args s0 D vwCl (tyE dI) A (wE dI ad) rvI) (f_W_pc s) (F0 m 0 ls []) s := by
  unfold f_W_pc
  refine gg_aload_n X 0 d_W_pc_0 rfl (lv_at hl 0 rfl) ?_
  refine gg_get_W_system X 1 (Or.inl (List.mem_cons_of_mem _ w_84)) d_W_pc_1 ?_
  refine gg_get_C_pc X 4 (by decide) (Or.inr ⟨_, nw_3⟩) d_W_pc_4 ?_
  exact gg_iret X 7 d_W_pc_7
theorem M_W_pc (l : Launch) (D : va_G) (dI : Nat → ClassId) (ad : Nat → Nat) (s : eS)   {r : Int32} {s' : eS} (h : f_W_pc s = some (r, s')) (sz : Nat) : Met l y_W_pc (Cond.code y_W_pc prog_1_method_7_code 1 (some .int) :: WS) rm_W_pc (Px (wE dI ad) D vwCl (tyE dI) nwE sz s [.ref (ad 0)]) (Qx rvI (wE dI ad) D vwCl (tyE dI) (va_A ((wE dI ad) s) sz) r s') 0 0 (va_A ((wE dI ad) s) sz) :=
  met_of [.ref (ad 0)] (by decide) rfl rfl (Nat.le_of_ble_eq_true rfl) h (fun p e s0 m args below meth c A ls X hl => t_W_pc X s ls  hl)
set_option maxHeartbeats 4000000 in
set_option maxRecDepth 100000 in
theorem t_W_boot {p : Program} {l : Launch} {e : Env} {s0 : State} {m : MethodId} {args : Array Value} {below : List Frame} {meth : Method} {c : Code} {D : va_G} {A : Nat → Prop} {dI : Nat → ClassId} {ad : Nat → Nat} (X : CX p s0 m args meth c D vwCl (tyE dI) nwE A prog_1_method_8_code 2 (some .boolean) (Cond.code y_W_boot prog_1_method_8_code 2 (some .boolean) :: WS) R_W) (a1 : Int32) (s : eS) (ls : Array Slot)  (hl : lv_has ls 2 [(0, .ref (ad 0)), (1, .int a1)]) : GG p l e rm_W_boot s0 m args below meth c D vwCl (tyE dI) A (wE dI ad) 0 0 (QM below args s0 D vwCl (tyE dI) A (wE dI ad) rvI) (f_W_boot a1 s) (F0 m 0 ls []) s := by
  unfold f_W_boot
  refine gg_aload_n X 0 d_W_boot_0 rfl (lv_at hl 0 rfl) ?_
  refine gg_get_W_running X 1 (Or.inl (List.mem_cons_of_mem _ w_87)) d_W_boot_1 ?_
  refine gg_iconst X 4 (-1 : Int32) d_W_boot_4 (by decide) ?_
  refine gg_icmp_eq X 5 10 d_W_boot_5 rfl (fun _ => ?_) (fun _ => ?_)
  · refine gg_aload_n X 10 d_W_boot_10 rfl (lv_at hl 0 rfl) ?_
    refine gg_get_W_system X 11 (Or.inl (List.mem_cons_of_mem _ w_84)) d_W_boot_11 ?_
    refine gg_iload_n X 14 d_W_boot_14 rfl (lv_at hl 1 rfl) ?_
    refine gg_put_C_pc X 15 (by decide) (Or.inr ⟨_, nw_3⟩) d_W_boot_15 (fun s1 => ?_)
    refine gg_aload_n X 18 d_W_boot_18 rfl (lv_at hl 0 rfl) ?_
    refine gg_iconst X 19 (0 : Int32) d_W_boot_19 (by decide) ?_
    refine gg_put_W_halted X 20 (Or.inl (List.mem_cons_of_mem _ w_86)) rfl rfl d_W_boot_20 (fun s2 => ?_)
    refine gg_iconst X 23 (1 : Int32) d_W_boot_23 (by decide) ?_
    exact gg_zretk X 24 rfl d_W_boot_24
  · refine gg_iconst X 8 (0 : Int32) d_W_boot_8 (by decide) ?_
    exact gg_zretk X 9 rfl d_W_boot_9
theorem M_W_boot (l : Launch) (D : va_G) (dI : Nat → ClassId) (ad : Nat → Nat) (s : eS) (a1 : Int32)  {r : Int32} {s' : eS} (h : f_W_boot a1 s = some (r, s')) (sz : Nat) : Met l y_W_boot (Cond.code y_W_boot prog_1_method_8_code 2 (some .boolean) :: WS) rm_W_boot (Px (wE dI ad) D vwCl (tyE dI) nwE sz s [.ref (ad 0), .int a1]) (Qx rvI (wE dI ad) D vwCl (tyE dI) (va_A ((wE dI ad) s) sz) r s') 0 0 (va_A ((wE dI ad) s) sz) :=
  met_of [.ref (ad 0), .int a1] (by decide) rfl rfl (Nat.le_of_ble_eq_true rfl) h (fun p e s0 m args below meth c A ls X hl => t_W_boot X a1 s ls  hl)
set_option maxHeartbeats 4000000 in
set_option maxRecDepth 100000 in
theorem t_W_halted {p : Program} {l : Launch} {e : Env} {s0 : State} {m : MethodId} {args : Array Value} {below : List Frame} {meth : Method} {c : Code} {D : va_G} {A : Nat → Prop} {dI : Nat → ClassId} {ad : Nat → Nat} (X : CX p s0 m args meth c D vwCl (tyE dI) nwE A prog_1_method_9_code 1 (some .boolean) (Cond.code y_W_halted prog_1_method_9_code 1 (some .boolean) :: WS) R_W)  (s : eS) (ls : Array Slot)  (hl : lv_has ls 1 [(0, .ref (ad 0))]) : GG p l e rm_W_halted s0 m args below meth c D vwCl (tyE dI) A (wE dI ad) 0 0 (QM below args s0 D vwCl (tyE dI) A (wE dI ad) rvI) (f_W_halted s) (F0 m 0 ls []) s := by
  unfold f_W_halted
  refine gg_aload_n X 0 d_W_halted_0 rfl (lv_at hl 0 rfl) ?_
  refine gg_get_W_halted X 1 (Or.inl (List.mem_cons_of_mem _ w_86)) d_W_halted_1 ?_
  exact gg_zret X 4 d_W_halted_4
theorem M_W_halted (l : Launch) (D : va_G) (dI : Nat → ClassId) (ad : Nat → Nat) (s : eS)   {r : Int32} {s' : eS} (h : f_W_halted s = some (r, s')) (sz : Nat) : Met l y_W_halted (Cond.code y_W_halted prog_1_method_9_code 1 (some .boolean) :: WS) rm_W_halted (Px (wE dI ad) D vwCl (tyE dI) nwE sz s [.ref (ad 0)]) (Qx rvI (wE dI ad) D vwCl (tyE dI) (va_A ((wE dI ad) s) sz) r s') 0 0 (va_A ((wE dI ad) s) sz) :=
  met_of [.ref (ad 0)] (by decide) rfl rfl (Nat.le_of_ble_eq_true rfl) h (fun p e s0 m args below meth c A ls X hl => t_W_halted X s ls  hl)
set_option maxHeartbeats 4000000 in
set_option maxRecDepth 100000 in
theorem t_W_isRegion_14 {p : Program} {l : Launch} {e : Env} {s0 : State} {m : MethodId} {args : Array Value} {below : List Frame} {meth : Method} {c : Code} {D : va_G} {A : Nat → Prop} {dI : Nat → ClassId} {ad : Nat → Nat} (X : CX p s0 m args meth c D vwCl (tyE dI) nwE A prog_1_method_23_code 1 (some .boolean) (Cond.code y_W_isRegion prog_1_method_23_code 1 (some .boolean) :: WS) R_W)  (s : eS) (ls : Array Slot)  (hl : lv_has ls 1 []) : GG p l e rm_W_isRegion s0 m args below meth c D vwCl (tyE dI) A (wE dI ad) 0 0 (QM below args s0 D vwCl (tyE dI) A (wE dI ad) rvI) (f_W_isRegion_14 s) (F0 m 14 ls []) s := by
  unfold f_W_isRegion_14
  refine gg_iconst X 14 (0 : Int32) d_W_isRegion_14 (by decide) ?_
  exact gg_zretk X 15 rfl d_W_isRegion_15
set_option maxHeartbeats 4000000 in
set_option maxRecDepth 100000 in
theorem t_W_isRegion {p : Program} {l : Launch} {e : Env} {s0 : State} {m : MethodId} {args : Array Value} {below : List Frame} {meth : Method} {c : Code} {D : va_G} {A : Nat → Prop} {dI : Nat → ClassId} {ad : Nat → Nat} (X : CX p s0 m args meth c D vwCl (tyE dI) nwE A prog_1_method_23_code 1 (some .boolean) (Cond.code y_W_isRegion prog_1_method_23_code 1 (some .boolean) :: WS) R_W) (a0 : Int32) (s : eS) (ls : Array Slot)  (hl : lv_has ls 1 [(0, .int a0)]) : GG p l e rm_W_isRegion s0 m args below meth c D vwCl (tyE dI) A (wE dI ad) 0 0 (QM below args s0 D vwCl (tyE dI) A (wE dI ad) rvI) (f_W_isRegion a0 s) (F0 m 0 ls []) s := by
  unfold f_W_isRegion
  refine gg_iload_n X 0 d_W_isRegion_0 rfl (lv_at hl 0 rfl) ?_
  refine gg_if_lt X 1 14 d_W_isRegion_1 rfl (fun _ => ?_) (fun _ => ?_)
  · exact t_W_isRegion_14 X s _  (lv_sub hl [] rfl)
  · refine gg_iload_n X 4 d_W_isRegion_4 rfl (lv_at hl 0 rfl) ?_
    refine gg_bipush X 5 (16 : Int32) d_W_isRegion_5 (by decide) ?_
    refine gg_icmp_ge X 7 14 d_W_isRegion_7 rfl (fun _ => ?_) (fun _ => ?_)
    · exact t_W_isRegion_14 X s _  (lv_sub hl [] rfl)
    · refine gg_iconst X 10 (1 : Int32) d_W_isRegion_10 (by decide) ?_
      refine gg_goto X 11 15 d_W_isRegion_11 rfl ?_
      exact gg_zretk X 15 rfl d_W_isRegion_15
theorem M_W_isRegion (l : Launch) (D : va_G) (dI : Nat → ClassId) (ad : Nat → Nat) (s : eS) (a0 : Int32)  {r : Int32} {s' : eS} (h : f_W_isRegion a0 s = some (r, s')) (sz : Nat) : Met l y_W_isRegion (Cond.code y_W_isRegion prog_1_method_23_code 1 (some .boolean) :: WS) rm_W_isRegion (Px (wE dI ad) D vwCl (tyE dI) nwE sz s [.int a0]) (Qx rvI (wE dI ad) D vwCl (tyE dI) (va_A ((wE dI ad) s) sz) r s') 0 0 (va_A ((wE dI ad) s) sz) :=
  met_of [.int a0] (by decide) rfl rfl (Nat.le_of_ble_eq_true rfl) h (fun p e s0 m args below meth c A ls X hl => t_W_isRegion X a0 s ls  hl)
set_option maxHeartbeats 4000000 in
set_option maxRecDepth 100000 in
theorem t_W_allFree_2 {p : Program} {l : Launch} {e : Env} {s0 : State} {m : MethodId} {args : Array Value} {below : List Frame} {meth : Method} {c : Code} {D : va_G} {A : Nat → Prop} {dI : Nat → ClassId} {ad : Nat → Nat} (X : CX p s0 m args meth c D vwCl (tyE dI) nwE A prog_1_method_41_code 4 (some .boolean) (Cond.code y_W_allFree prog_1_method_41_code 4 (some .boolean) :: WS) R_W) : ∀ (fl : Nat) (x1 : Int32) (x2 : Int32) (x3 : Int32) (s : eS) (ls : Array Slot), lv_has ls 4 [(0, .ref (ad 0)), (1, .int x1), (2, .int x2), (3, .int x3)] → GG p l e rm_W_allFree s0 m args below meth c D vwCl (tyE dI) A (wE dI ad) 0 0 (QM below args s0 D vwCl (tyE dI) A (wE dI ad) rvI) (f_W_allFree_2 fl x1 x2 x3 s) (F0 m 2 ls []) s := by
  intro fl
  induction fl with
  | zero =>
    intro x1 x2 x3 s ls hl
    rw [f_W_allFree_2]
    exact gg_none
  | succ fl ih =>
    intro x1 x2 x3 s ls hl
    rw [f_W_allFree_2]
    refine gg_iload_n X 2 d_W_allFree_2 rfl (lv_at hl 3 rfl) ?_
    refine gg_iload_n X 3 d_W_allFree_3 rfl (lv_at hl 2 rfl) ?_
    refine gg_icmp_ge X 4 26 d_W_allFree_4 rfl (fun _ => ?_) (fun _ => ?_)
    · refine gg_iconst X 26 (1 : Int32) d_W_allFree_26 (by decide) ?_
      exact gg_zretk X 27 rfl d_W_allFree_27
    · refine gg_aload_n X 7 d_W_allFree_7 rfl (lv_at hl 0 rfl) ?_
      refine gg_get_W_kinds X 8 (Or.inl (List.mem_cons_of_mem _ w_82)) d_W_allFree_8 ?_
      refine gg_iload_n X 11 d_W_allFree_11 rfl (lv_at hl 1 rfl) ?_
      refine gg_iload_n X 12 d_W_allFree_12 rfl (lv_at hl 3 rfl) ?_
      refine gg_iadd X 13 d_W_allFree_13 ?_
      refine gg_ald_KIN X 14 d_W_allFree_14 ?_
      refine gg_if_eq X 15 20 d_W_allFree_15 rfl (fun _ => ?_) (fun _ => ?_)
      · refine gg_iinc X 20 (k := 3) (1 : Int32) (fun v1 => [(3, .int v1), (0, .ref (ad 0)), (1, .int x1), (2, .int x2)]) d_W_allFree_20 hl rfl (by decide) (by decide) (fun _ => rfl) (fun v1 ls hl => ?_)
        refine gg_goto X 23 2 d_W_allFree_23 rfl ?_
        exact ih x1 x2 v1 s _  (lv_sub hl [1, 2, 3, 0] rfl)
      · refine gg_iconst X 18 (0 : Int32) d_W_allFree_18 (by decide) ?_
        exact gg_zretk X 19 rfl d_W_allFree_19
set_option maxHeartbeats 4000000 in
set_option maxRecDepth 100000 in
theorem t_W_allFree {p : Program} {l : Launch} {e : Env} {s0 : State} {m : MethodId} {args : Array Value} {below : List Frame} {meth : Method} {c : Code} {D : va_G} {A : Nat → Prop} {dI : Nat → ClassId} {ad : Nat → Nat} (X : CX p s0 m args meth c D vwCl (tyE dI) nwE A prog_1_method_41_code 4 (some .boolean) (Cond.code y_W_allFree prog_1_method_41_code 4 (some .boolean) :: WS) R_W) (a1 : Int32) (a2 : Int32) (s : eS) (ls : Array Slot)  (hl : lv_has ls 4 [(0, .ref (ad 0)), (1, .int a1), (2, .int a2)]) : GG p l e rm_W_allFree s0 m args below meth c D vwCl (tyE dI) A (wE dI ad) 0 0 (QM below args s0 D vwCl (tyE dI) A (wE dI ad) rvI) (f_W_allFree a1 a2 s) (F0 m 0 ls []) s := by
  unfold f_W_allFree
  refine gg_iconst X 0 (0 : Int32) d_W_allFree_0 (by decide) ?_
  refine gg_istore_n X 1 (fun v1 => [(3, .int v1), (0, .ref (ad 0)), (1, .int a1), (2, .int a2)]) d_W_allFree_1 rfl hl (by decide) (fun _ => rfl) (fun v1 ls hl => ?_)
  exact t_W_allFree_2 X fu a1 a2 v1 s _  (lv_sub hl [1, 2, 3, 0] rfl)
theorem M_W_allFree (l : Launch) (D : va_G) (dI : Nat → ClassId) (ad : Nat → Nat) (s : eS) (a1 : Int32) (a2 : Int32)  {r : Int32} {s' : eS} (h : f_W_allFree a1 a2 s = some (r, s')) (sz : Nat) : Met l y_W_allFree (Cond.code y_W_allFree prog_1_method_41_code 4 (some .boolean) :: WS) rm_W_allFree (Px (wE dI ad) D vwCl (tyE dI) nwE sz s [.ref (ad 0), .int a1, .int a2]) (Qx rvI (wE dI ad) D vwCl (tyE dI) (va_A ((wE dI ad) s) sz) r s') 0 0 (va_A ((wE dI ad) s) sz) :=
  met_of [.ref (ad 0), .int a1, .int a2] (by decide) rfl rfl (Nat.le_of_ble_eq_true rfl) h (fun p e s0 m args below meth c A ls X hl => t_W_allFree X a1 a2 s ls  hl)
set_option maxHeartbeats 4000000 in
set_option maxRecDepth 100000 in
theorem t_W_leastAbsent_2 {p : Program} {l : Launch} {e : Env} {s0 : State} {m : MethodId} {args : Array Value} {below : List Frame} {meth : Method} {c : Code} {D : va_G} {A : Nat → Prop} {dI : Nat → ClassId} {ad : Nat → Nat} (X : CX p s0 m args meth c D vwCl (tyE dI) nwE A prog_1_method_42_code 2 (some .int) (Cond.code y_W_leastAbsent prog_1_method_42_code 2 (some .int) :: WS) R_W) : ∀ (fl : Nat) (x1 : Int32) (s : eS) (ls : Array Slot), lv_has ls 2 [(0, .ref (ad 0)), (1, .int x1)] → GG p l e rm_W_leastAbsent s0 m args below meth c D vwCl (tyE dI) A (wE dI ad) 0 0 (QM below args s0 D vwCl (tyE dI) A (wE dI ad) rvI) (f_W_leastAbsent_2 fl x1 s) (F0 m 2 ls []) s := by
  intro fl
  induction fl with
  | zero =>
    intro x1 s ls hl
    rw [f_W_leastAbsent_2]
    exact gg_none
  | succ fl ih =>
    intro x1 s ls hl
    rw [f_W_leastAbsent_2]
    refine gg_iload_n X 2 d_W_leastAbsent_2 rfl (lv_at hl 1 rfl) ?_
    refine gg_iconst X 3 (3 : Int32) d_W_leastAbsent_3 (by decide) ?_
    refine gg_icmp_ge X 4 27 d_W_leastAbsent_4 rfl (fun _ => ?_) (fun _ => ?_)
    · refine gg_iconst X 27 (3 : Int32) d_W_leastAbsent_27 (by decide) ?_
      exact gg_iret X 28 d_W_leastAbsent_28
    · refine gg_aload_n X 7 d_W_leastAbsent_7 rfl (lv_at hl 0 rfl) ?_
      refine gg_get_W_enclaves X 8 (Or.inl (List.mem_cons_of_mem _ w_83)) d_W_leastAbsent_8 ?_
      refine gg_iload_n X 11 d_W_leastAbsent_11 rfl (lv_at hl 1 rfl) ?_
      refine gg_ald_ENA X 12 d_W_leastAbsent_12 (fun hi1 => ?_)
      refine gg_get_V_state X 13 (ixb hi1) (Or.inr ⟨_, nw_9⟩) d_W_leastAbsent_13 ?_
      refine gg_if_ne X 16 21 d_W_leastAbsent_16 rfl (fun _ => ?_) (fun _ => ?_)
      · refine gg_iinc X 21 (k := 1) (1 : Int32) (fun v2 => [(1, .int v2), (0, .ref (ad 0))]) d_W_leastAbsent_21 hl rfl (by decide) (by decide) (fun _ => rfl) (fun v2 ls hl => ?_)
        refine gg_goto X 24 2 d_W_leastAbsent_24 rfl ?_
        exact ih v2 s _  (lv_sub hl [1, 0] rfl)
      · refine gg_iload_n X 19 d_W_leastAbsent_19 rfl (lv_at hl 1 rfl) ?_
        exact gg_iret X 20 d_W_leastAbsent_20
set_option maxHeartbeats 4000000 in
set_option maxRecDepth 100000 in
theorem t_W_leastAbsent {p : Program} {l : Launch} {e : Env} {s0 : State} {m : MethodId} {args : Array Value} {below : List Frame} {meth : Method} {c : Code} {D : va_G} {A : Nat → Prop} {dI : Nat → ClassId} {ad : Nat → Nat} (X : CX p s0 m args meth c D vwCl (tyE dI) nwE A prog_1_method_42_code 2 (some .int) (Cond.code y_W_leastAbsent prog_1_method_42_code 2 (some .int) :: WS) R_W)  (s : eS) (ls : Array Slot)  (hl : lv_has ls 2 [(0, .ref (ad 0))]) : GG p l e rm_W_leastAbsent s0 m args below meth c D vwCl (tyE dI) A (wE dI ad) 0 0 (QM below args s0 D vwCl (tyE dI) A (wE dI ad) rvI) (f_W_leastAbsent s) (F0 m 0 ls []) s := by
  unfold f_W_leastAbsent
  refine gg_iconst X 0 (0 : Int32) d_W_leastAbsent_0 (by decide) ?_
  refine gg_istore_n X 1 (fun v1 => [(1, .int v1), (0, .ref (ad 0))]) d_W_leastAbsent_1 rfl hl (by decide) (fun _ => rfl) (fun v1 ls hl => ?_)
  exact t_W_leastAbsent_2 X fu v1 s _  (lv_sub hl [1, 0] rfl)
theorem M_W_leastAbsent (l : Launch) (D : va_G) (dI : Nat → ClassId) (ad : Nat → Nat) (s : eS)   {r : Int32} {s' : eS} (h : f_W_leastAbsent s = some (r, s')) (sz : Nat) : Met l y_W_leastAbsent (Cond.code y_W_leastAbsent prog_1_method_42_code 2 (some .int) :: WS) rm_W_leastAbsent (Px (wE dI ad) D vwCl (tyE dI) nwE sz s [.ref (ad 0)]) (Qx rvI (wE dI ad) D vwCl (tyE dI) (va_A ((wE dI ad) s) sz) r s') 0 0 (va_A ((wE dI ad) s) sz) :=
  met_of [.ref (ad 0)] (by decide) rfl rfl (Nat.le_of_ble_eq_true rfl) h (fun p e s0 m args below meth c A ls X hl => t_W_leastAbsent X s ls  hl)
set_option maxHeartbeats 4000000 in
set_option maxRecDepth 100000 in
theorem t_V_become_17 {p : Program} {l : Launch} {e : Env} {s0 : State} {m : MethodId} {args : Array Value} {below : List Frame} {meth : Method} {c : Code} {D : va_G} {A : Nat → Prop} {dI : Nat → ClassId} {ad : Nat → Nat} (X : CX p s0 m args meth c D vwCl (tyE dI) nwE A prog_3_method_2_code 3 none (Cond.code y_V_become prog_3_method_2_code 3 none :: WS) R_V) : ∀ (fl : Nat) (m0 : Nat) (x2 : Int32) (s : eS) (ls : Array Slot), m0 < 3 → lv_has ls 3 [(0, .ref (ad (5 + m0))), (2, .int x2)] → GG p l e rm_V_become s0 m args below meth c D vwCl (tyE dI) A (wE dI ad) 0 0 (QM below args s0 D vwCl (tyE dI) A (wE dI ad) rvV) (f_V_become_17 fl m0 x2 s) (F0 m 17 ls []) s := by
  intro fl
  induction fl with
  | zero =>
    intro m0 x2 s ls hm0 hl
    rw [f_V_become_17]
    exact gg_none
  | succ fl ih =>
    intro m0 x2 s ls hm0 hl
    rw [f_V_become_17]
    refine gg_iload_n X 17 d_V_become_17 rfl (lv_at hl 1 rfl) ?_
    refine gg_iconst X 18 (2 : Int32) d_V_become_18 (by decide) ?_
    refine gg_icmp_ge X 19 38 d_V_become_19 rfl (fun _ => ?_) (fun _ => ?_)
    · exact gg_vret X 38 d_V_become_38
    · refine gg_aload_n X 22 d_V_become_22 rfl (lv_at hl 0 rfl) ?_
      refine gg_get_V_threads X 23 hm0 (Or.inl (List.mem_cons_of_mem _ w_61)) d_V_become_23 ?_
      refine gg_iload_n X 26 d_V_become_26 rfl (lv_at hl 1 rfl) ?_
      refine gg_ald_TA X 27 hm0 d_V_become_27 (fun hi1 => ?_)
      refine gg_iconst X 28 (0 : Int32) d_V_become_28 (by decide) ?_
      refine gg_put_T_state X 29 (ixb2 hm0 (ixb hi1)) (Or.inr ⟨_, nw_5⟩) d_V_become_29 (fun s2 => ?_)
      refine gg_iinc X 32 (k := 1) (1 : Int32) (fun v3 => [(2, .int v3), (0, .ref (ad (5 + m0)))]) d_V_become_32 hl rfl (by decide) (by decide) (fun _ => rfl) (fun v3 ls hl => ?_)
      refine gg_goto X 35 17 d_V_become_35 rfl ?_
      exact ih m0 v3 s2 _ hm0 (lv_sub hl [1, 0] rfl)
set_option maxHeartbeats 4000000 in
set_option maxRecDepth 100000 in
theorem t_V_become {p : Program} {l : Launch} {e : Env} {s0 : State} {m : MethodId} {args : Array Value} {below : List Frame} {meth : Method} {c : Code} {D : va_G} {A : Nat → Prop} {dI : Nat → ClassId} {ad : Nat → Nat} (X : CX p s0 m args meth c D vwCl (tyE dI) nwE A prog_3_method_2_code 3 none (Cond.code y_V_become prog_3_method_2_code 3 none :: WS) R_V) (n0 : Nat) (a1 : Int32) (s : eS) (ls : Array Slot) (hb0 : n0 < 3) (hl : lv_has ls 3 [(0, .ref (ad (5 + n0))), (1, .int a1)]) : GG p l e rm_V_become s0 m args below meth c D vwCl (tyE dI) A (wE dI ad) 0 0 (QM below args s0 D vwCl (tyE dI) A (wE dI ad) rvV) (f_V_become n0 a1 s) (F0 m 0 ls []) s := by
  unfold f_V_become
  refine gg_aload_n X 0 d_V_become_0 rfl (lv_at hl 0 rfl) ?_
  refine gg_iload_n X 1 d_V_become_1 rfl (lv_at hl 1 rfl) ?_
  refine gg_put_V_state X 2 hb0 (Or.inl (List.mem_cons_of_mem _ w_63)) d_V_become_2 (fun s1 => ?_)
  refine gg_aload_n X 5 d_V_become_5 rfl (lv_at hl 0 rfl) ?_
  refine gg_iconst X 6 (0 : Int32) d_V_become_6 (by decide) ?_
  refine gg_put_V_measure X 7 hb0 (Or.inl (List.mem_cons_of_mem _ w_65)) d_V_become_7 (fun s2 => ?_)
  refine gg_aload_n X 10 d_V_become_10 rfl (lv_at hl 0 rfl) ?_
  refine gg_iconst X 11 (0 : Int32) d_V_become_11 (by decide) ?_
  refine gg_put_V_loads X 12 hb0 (Or.inl (List.mem_cons_of_mem _ w_67)) d_V_become_12 (fun s3 => ?_)
  refine gg_iconst X 15 (0 : Int32) d_V_become_15 (by decide) ?_
  refine gg_istore_n X 16 (fun v4 => [(2, .int v4), (0, .ref (ad (5 + n0))), (1, .int a1)]) d_V_become_16 rfl hl (by decide) (fun _ => rfl) (fun v4 ls hl => ?_)
  exact t_V_become_17 X fu n0 v4 s3 _ hb0 (lv_sub hl [1, 0] rfl)
theorem M_V_become (l : Launch) (D : va_G) (dI : Nat → ClassId) (ad : Nat → Nat) (s : eS) (n0 : Nat) (a1 : Int32) (hb0 : n0 < 3) {r : Unit} {s' : eS} (h : f_V_become n0 a1 s = some (r, s')) (sz : Nat) : Met l y_V_become (Cond.code y_V_become prog_3_method_2_code 3 none :: WS) rm_V_become (Px (wE dI ad) D vwCl (tyE dI) nwE sz s [.ref (ad (5 + n0)), .int a1]) (Qx rvV (wE dI ad) D vwCl (tyE dI) (va_A ((wE dI ad) s) sz) r s') 0 0 (va_A ((wE dI ad) s) sz) :=
  met_of [.ref (ad (5 + n0)), .int a1] (by decide) rfl rfl (Nat.le_of_ble_eq_true rfl) h (fun p e s0 m args below meth c A ls X hl => t_V_become X n0 a1 s ls hb0 hl)
set_option maxHeartbeats 4000000 in
set_option maxRecDepth 100000 in
theorem t_W_mix {p : Program} {l : Launch} {e : Env} {s0 : State} {m : MethodId} {args : Array Value} {below : List Frame} {meth : Method} {c : Code} {D : va_G} {A : Nat → Prop} {dI : Nat → ClassId} {ad : Nat → Nat} (X : CX p s0 m args meth c D vwCl (tyE dI) nwE A prog_1_method_26_code 3 (some .int) (Cond.code y_W_mix prog_1_method_26_code 3 (some .int) :: WS) R_W) (a0 : Int32) (a1 : Int32) (s : eS) (ls : Array Slot)  (hl : lv_has ls 3 [(0, .int a0), (1, .int a1)]) : GG p l e rm_W_mix s0 m args below meth c D vwCl (tyE dI) A (wE dI ad) 0 0 (QM below args s0 D vwCl (tyE dI) A (wE dI ad) rvI) (f_W_mix a0 a1 s) (F0 m 0 ls []) s := by
  unfold f_W_mix
  refine gg_iload_n X 0 d_W_mix_0 rfl (lv_at hl 0 rfl) ?_
  refine gg_iload_n X 1 d_W_mix_1 rfl (lv_at hl 1 rfl) ?_
  refine gg_ixor X 2 d_W_mix_2 ?_
  refine gg_ldc X 3 (1390208809 : Int32) (List.mem_cons_of_mem _ w_189) d_W_mix_3 ?_
  refine gg_imul X 5 d_W_mix_5 ?_
  refine gg_istore_n X 6 (fun v1 => [(2, .int v1), (0, .int a0), (1, .int a1)]) d_W_mix_6 rfl hl (by decide) (fun _ => rfl) (fun v1 ls hl => ?_)
  refine gg_iload_n X 7 d_W_mix_7 rfl (lv_at hl 0 rfl) ?_
  refine gg_iload_n X 8 d_W_mix_8 rfl (lv_at hl 0 rfl) ?_
  refine gg_bipush X 9 (15 : Int32) d_W_mix_9 (by decide) ?_
  refine gg_iushr X 11 d_W_mix_11 ?_
  refine gg_ixor X 12 d_W_mix_12 ?_
  exact gg_iret X 13 d_W_mix_13
theorem M_W_mix (l : Launch) (D : va_G) (dI : Nat → ClassId) (ad : Nat → Nat) (s : eS) (a0 : Int32) (a1 : Int32)  {r : Int32} {s' : eS} (h : f_W_mix a0 a1 s = some (r, s')) (sz : Nat) : Met l y_W_mix (Cond.code y_W_mix prog_1_method_26_code 3 (some .int) :: WS) rm_W_mix (Px (wE dI ad) D vwCl (tyE dI) nwE sz s [.int a0, .int a1]) (Qx rvI (wE dI ad) D vwCl (tyE dI) (va_A ((wE dI ad) s) sz) r s') 0 0 (va_A ((wE dI ad) s) sz) :=
  met_of [.int a0, .int a1] (by decide) rfl rfl (Nat.le_of_ble_eq_true rfl) h (fun p e s0 m args below meth c A ls X hl => t_W_mix X a0 a1 s ls  hl)
set_option maxHeartbeats 4000000 in
set_option maxRecDepth 100000 in
theorem t_V_add {p : Program} {l : Launch} {e : Env} {s0 : State} {m : MethodId} {args : Array Value} {below : List Frame} {meth : Method} {c : Code} {D : va_G} {A : Nat → Prop} {dI : Nat → ClassId} {ad : Nat → Nat} (X : CX p s0 m args meth c D vwCl (tyE dI) nwE A prog_3_method_3_code 2 none (Cond.code y_V_add prog_3_method_3_code 2 none :: WS) R_V) (n0 : Nat) (a1 : Int32) (s : eS) (ls : Array Slot) (hb0 : n0 < 3) (hl : lv_has ls 2 [(0, .ref (ad (5 + n0))), (1, .int a1)]) : GG p l e rm_V_add s0 m args below meth c D vwCl (tyE dI) A (wE dI ad) 0 0 (QM below args s0 D vwCl (tyE dI) A (wE dI ad) rvV) (f_V_add n0 a1 s) (F0 m 0 ls []) s := by
  unfold f_V_add
  refine gg_aload_n X 0 d_V_add_0 rfl (lv_at hl 0 rfl) ?_
  refine gg_aload_n X 1 d_V_add_1 rfl (lv_at hl 0 rfl) ?_
  refine gg_get_V_measure X 2 hb0 (Or.inl (List.mem_cons_of_mem _ w_65)) d_V_add_2 ?_
  refine gg_iload_n X 5 d_V_add_5 rfl (lv_at hl 1 rfl) ?_
  refine gg_callSN X 6 nwOk_E [.int (s 4 n0), .int a1] [.ref (ad (5 + n0))] (fun _ _ h sz => M_W_mix l D dI ad _ (s 4 n0) a1  h sz) (⟨va_cnB 2 X.1.2.2.2.2 (gwB w_188) rfl rfl rfl (X.2.2.2.2.2 _ nw_17) (X.1.2.2.2.2 _ (List.mem_cons_of_mem _ w_1)) (by decide +kernel) ⟨by decide, by decide⟩, X.1.2.2.2.2 _ (List.mem_cons_of_mem _ w_187), trivial⟩) rfl hl.1 rfl (Nat.le_of_ble_eq_true rfl) ⟨Nat.zero_le _, Nat.zero_le _⟩ d_V_add_6 (fun r1 s2 ho3 => ?_)
  refine gg_show_i ?_
  refine gg_put_V_measure X 9 hb0 (Or.inl (List.mem_cons_of_mem _ w_65)) d_V_add_9 (fun s4 => ?_)
  exact gg_vret X 12 d_V_add_12
theorem M_V_add (l : Launch) (D : va_G) (dI : Nat → ClassId) (ad : Nat → Nat) (s : eS) (n0 : Nat) (a1 : Int32) (hb0 : n0 < 3) {r : Unit} {s' : eS} (h : f_V_add n0 a1 s = some (r, s')) (sz : Nat) : Met l y_V_add (Cond.code y_V_add prog_3_method_3_code 2 none :: WS) rm_V_add (Px (wE dI ad) D vwCl (tyE dI) nwE sz s [.ref (ad (5 + n0)), .int a1]) (Qx rvV (wE dI ad) D vwCl (tyE dI) (va_A ((wE dI ad) s) sz) r s') 0 0 (va_A ((wE dI ad) s) sz) :=
  met_of [.ref (ad (5 + n0)), .int a1] (by decide) rfl rfl (Nat.le_of_ble_eq_true rfl) h (fun p e s0 m args below meth c A ls X hl => t_V_add X n0 a1 s ls hb0 hl)
set_option maxHeartbeats 4000000 in
set_option maxRecDepth 100000 in
theorem t_W_create_28 {p : Program} {l : Launch} {e : Env} {s0 : State} {m : MethodId} {args : Array Value} {below : List Frame} {meth : Method} {c : Code} {D : va_G} {A : Nat → Prop} {dI : Nat → ClassId} {ad : Nat → Nat} (X : CX p s0 m args meth c D vwCl (tyE dI) nwE A prog_1_method_40_code 5 (some .int) (Cond.code y_W_create prog_1_method_40_code 5 (some .int) :: WS) R_W)  (s : eS) (ls : Array Slot)  (hl : lv_has ls 5 []) : GG p l e rm_W_create s0 m args below meth c D vwCl (tyE dI) A (wE dI ad) 0 0 (QM below args s0 D vwCl (tyE dI) A (wE dI ad) rvI) (f_W_create_28 s) (F0 m 28 ls []) s := by
  unfold f_W_create_28
  refine gg_bipush X 28 (-2 : Int32) d_W_create_28 (by decide) ?_
  exact gg_iret X 30 d_W_create_30
set_option maxHeartbeats 4000000 in
set_option maxRecDepth 100000 in
theorem t_W_create_59 {p : Program} {l : Launch} {e : Env} {s0 : State} {m : MethodId} {args : Array Value} {below : List Frame} {meth : Method} {c : Code} {D : va_G} {A : Nat → Prop} {dI : Nat → ClassId} {ad : Nat → Nat} (X : CX p s0 m args meth c D vwCl (tyE dI) nwE A prog_1_method_40_code 5 (some .int) (Cond.code y_W_create prog_1_method_40_code 5 (some .int) :: WS) R_W) : ∀ (fl : Nat) (x1 : Int32) (x2 : Int32) (x3 : Int32) (x4 : Int32) (s : eS) (ls : Array Slot), lv_has ls 5 [(0, .ref (ad 0)), (1, .int x1), (2, .int x2), (3, .int x3), (4, .int x4)] → GG p l e rm_W_create s0 m args below meth c D vwCl (tyE dI) A (wE dI ad) 0 0 (QM below args s0 D vwCl (tyE dI) A (wE dI ad) rvI) (f_W_create_59 fl x1 x2 x3 x4 s) (F0 m 59 ls []) s := by
  intro fl
  induction fl with
  | zero =>
    intro x1 x2 x3 x4 s ls hl
    rw [f_W_create_59]
    exact gg_none
  | succ fl ih =>
    intro x1 x2 x3 x4 s ls hl
    rw [f_W_create_59]
    refine gg_iload X 59 d_W_create_59 (lv_at hl 4 rfl) ?_
    refine gg_iload_n X 61 d_W_create_61 rfl (lv_at hl 2 rfl) ?_
    refine gg_icmp_ge X 62 83 d_W_create_62 rfl (fun _ => ?_) (fun _ => ?_)
    · refine gg_aload_n X 83 d_W_create_83 rfl (lv_at hl 0 rfl) ?_
      refine gg_get_W_enclaves X 84 (Or.inl (List.mem_cons_of_mem _ w_83)) d_W_create_84 ?_
      refine gg_iload_n X 87 d_W_create_87 rfl (lv_at hl 3 rfl) ?_
      refine gg_ald_ENA X 88 d_W_create_88 (fun hi1 => ?_)
      refine gg_astore X 89 3 (fun t2 => [(4, .ref (ad (5 + t2))), (0, .ref (ad 0)), (1, .int x1), (2, .int x2), (3, .int x3)]) d_W_create_89 hl (by decide) (fun _ => rfl) (ixb hi1) (fun t2 ls ht3 hl => ?_)
      refine gg_aload X 91 d_W_create_91 (lv_at hl 0 rfl) ?_
      refine gg_iconst X 93 (1 : Int32) d_W_create_93 (by decide) ?_
      refine gg_callVN X 94 nwOk_E [.int (1 : Int32)] [] (fun _ _ h sz => M_V_become l D dI ad _ t2 (1 : Int32) ht3 h sz) (⟨va_cnB 1 X.1.2.2.2.2 (gwB w_60) rfl rfl rfl (X.2.2.2.2.2 _ nw_15) (X.1.2.2.2.2 _ (List.mem_cons_of_mem _ w_2)) (by decide +kernel) ⟨by decide, by decide⟩, X.1.2.2.2.2 _ (List.mem_cons_of_mem _ w_59), X.1.2.2.2.2 _ (List.mem_cons_of_mem _ ws_V_become)⟩) (he_E_Enc ht3) rfl rfl hl.1 rfl (Nat.le_of_ble_eq_true rfl) ⟨Nat.zero_le _, Nat.zero_le _⟩ d_W_create_94 (fun r4 s5 ho6 => ?_)
      refine gg_show_v ?_
      refine gg_aload X 97 d_W_create_97 (lv_at hl 0 rfl) ?_
      refine gg_iconst X 99 (1 : Int32) d_W_create_99 (by decide) ?_
      refine gg_callVN X 100 nwOk_E [.int (1 : Int32)] [] (fun _ _ h sz => M_V_add l D dI ad _ t2 (1 : Int32) ht3 h sz) (⟨va_cnB 1 X.1.2.2.2.2 (gwB w_185) rfl rfl rfl (X.2.2.2.2.2 _ nw_16) (X.1.2.2.2.2 _ (List.mem_cons_of_mem _ w_2)) (by decide +kernel) ⟨by decide, by decide⟩, X.1.2.2.2.2 _ (List.mem_cons_of_mem _ w_184), X.1.2.2.2.2 _ (List.mem_cons_of_mem _ ws_V_add)⟩) (he_E_Enc ht3) rfl rfl hl.1 rfl (Nat.le_of_ble_eq_true rfl) ⟨Nat.zero_le _, Nat.zero_le _⟩ d_W_create_100 (fun r7 s8 ho9 => ?_)
      refine gg_show_v ?_
      refine gg_aload X 103 d_W_create_103 (lv_at hl 0 rfl) ?_
      refine gg_iload_n X 105 d_W_create_105 rfl (lv_at hl 2 rfl) ?_
      refine gg_callVN X 106 nwOk_E [.int x1] [] (fun _ _ h sz => M_V_add l D dI ad _ t2 x1 ht3 h sz) (⟨va_cnB 1 X.1.2.2.2.2 (gwB w_185) rfl rfl rfl (X.2.2.2.2.2 _ nw_16) (X.1.2.2.2.2 _ (List.mem_cons_of_mem _ w_2)) (by decide +kernel) ⟨by decide, by decide⟩, X.1.2.2.2.2 _ (List.mem_cons_of_mem _ w_184), X.1.2.2.2.2 _ (List.mem_cons_of_mem _ ws_V_add)⟩) (he_E_Enc ht3) rfl rfl hl.1 rfl (Nat.le_of_ble_eq_true rfl) ⟨Nat.zero_le _, Nat.zero_le _⟩ d_W_create_106 (fun r10 s11 ho12 => ?_)
      refine gg_show_v ?_
      refine gg_aload X 109 d_W_create_109 (lv_at hl 0 rfl) ?_
      refine gg_iload_n X 111 d_W_create_111 rfl (lv_at hl 3 rfl) ?_
      refine gg_callVN X 112 nwOk_E [.int x2] [] (fun _ _ h sz => M_V_add l D dI ad _ t2 x2 ht3 h sz) (⟨va_cnB 1 X.1.2.2.2.2 (gwB w_185) rfl rfl rfl (X.2.2.2.2.2 _ nw_16) (X.1.2.2.2.2 _ (List.mem_cons_of_mem _ w_2)) (by decide +kernel) ⟨by decide, by decide⟩, X.1.2.2.2.2 _ (List.mem_cons_of_mem _ w_184), X.1.2.2.2.2 _ (List.mem_cons_of_mem _ ws_V_add)⟩) (he_E_Enc ht3) rfl rfl hl.1 rfl (Nat.le_of_ble_eq_true rfl) ⟨Nat.zero_le _, Nat.zero_le _⟩ d_W_create_112 (fun r13 s14 ho15 => ?_)
      refine gg_show_v ?_
      refine gg_iload_n X 115 d_W_create_115 rfl (lv_at hl 4 rfl) ?_
      exact gg_iret X 116 d_W_create_116
    · refine gg_aload_n X 65 d_W_create_65 rfl (lv_at hl 0 rfl) ?_
      refine gg_get_W_kinds X 66 (Or.inl (List.mem_cons_of_mem _ w_82)) d_W_create_66 ?_
      refine gg_iload_n X 69 d_W_create_69 rfl (lv_at hl 1 rfl) ?_
      refine gg_iload X 70 d_W_create_70 (lv_at hl 4 rfl) ?_
      refine gg_iadd X 72 d_W_create_72 ?_
      refine gg_iconst X 73 (2 : Int32) d_W_create_73 (by decide) ?_
      refine gg_iload_n X 74 d_W_create_74 rfl (lv_at hl 3 rfl) ?_
      refine gg_iadd X 75 d_W_create_75 ?_
      refine gg_ast_KIN X 76 d_W_create_76 (fun s16 => ?_)
      refine gg_iinc X 77 (k := 4) (1 : Int32) (fun v17 => [(4, .int v17), (0, .ref (ad 0)), (1, .int x1), (2, .int x2), (3, .int x3)]) d_W_create_77 hl rfl (by decide) (by decide) (fun _ => rfl) (fun v17 ls hl => ?_)
      refine gg_goto X 80 59 d_W_create_80 rfl ?_
      exact ih x1 x2 x3 v17 s16 _  (lv_sub hl [1, 2, 3, 4, 0] rfl)
set_option maxHeartbeats 4000000 in
set_option maxRecDepth 100000 in
theorem t_W_create_22 {p : Program} {l : Launch} {e : Env} {s0 : State} {m : MethodId} {args : Array Value} {below : List Frame} {meth : Method} {c : Code} {D : va_G} {A : Nat → Prop} {dI : Nat → ClassId} {ad : Nat → Nat} (X : CX p s0 m args meth c D vwCl (tyE dI) nwE A prog_1_method_40_code 5 (some .int) (Cond.code y_W_create prog_1_method_40_code 5 (some .int) :: WS) R_W) (x1 : Int32) (x2 : Int32) (s : eS) (ls : Array Slot)  (hl : lv_has ls 5 [(0, .ref (ad 0)), (1, .int x1), (2, .int x2)]) : GG p l e rm_W_create s0 m args below meth c D vwCl (tyE dI) A (wE dI ad) 0 0 (QM below args s0 D vwCl (tyE dI) A (wE dI ad) rvI) (f_W_create_22 x1 x2 s) (F0 m 22 ls []) s := by
  unfold f_W_create_22
  refine gg_iload_n X 22 d_W_create_22 rfl (lv_at hl 1 rfl) ?_
  refine gg_iload_n X 23 d_W_create_23 rfl (lv_at hl 2 rfl) ?_
  refine gg_irem X 24 d_W_create_24 (fun _ => ?_)
  refine gg_if_eq X 25 31 d_W_create_25 rfl (fun _ => ?_) (fun _ => ?_)
  · refine gg_aload_n X 31 d_W_create_31 rfl (lv_at hl 0 rfl) ?_
    refine gg_iload_n X 32 d_W_create_32 rfl (lv_at hl 1 rfl) ?_
    refine gg_iload_n X 33 d_W_create_33 rfl (lv_at hl 2 rfl) ?_
    refine gg_callV X 34 nwOk_E [.int x1, .int x2] [] (fun _ _ h sz => M_W_allFree l D dI ad _ x1 x2  h sz) (cwV 2 X.1.2.2.2.2 (gwV w_173 w_175 ws_W_allFree w_1 w_176) rfl rfl rfl (by decide +kernel) ⟨by decide, by decide⟩) (he_E_Main) rfl rfl hl.1 rfl (Nat.le_of_ble_eq_true rfl) ⟨Nat.zero_le _, Nat.zero_le _⟩ d_W_create_34 (fun r1 s2 ho3 => ?_)
    refine gg_show_i ?_
    refine gg_if_ne X 37 43 d_W_create_37 rfl (fun _ => ?_) (fun _ => ?_)
    · refine gg_aload_n X 43 d_W_create_43 rfl (lv_at hl 0 rfl) ?_
      refine gg_callV X 44 nwOk_E [] [] (fun _ _ h sz => M_W_leastAbsent l D dI ad _   h sz) (cwV 0 X.1.2.2.2.2 (gwV w_177 w_179 ws_W_leastAbsent w_1 w_180) rfl rfl rfl (by decide +kernel) ⟨by decide, by decide⟩) (he_E_Main) rfl rfl hl.1 rfl (Nat.le_of_ble_eq_true rfl) ⟨Nat.zero_le _, Nat.zero_le _⟩ d_W_create_44 (fun r4 s5 ho6 => ?_)
      refine gg_show_i ?_
      refine gg_istore_n X 47 (fun v7 => [(3, .int v7), (0, .ref (ad 0)), (1, .int x1), (2, .int x2)]) d_W_create_47 rfl hl (by decide) (fun _ => rfl) (fun v7 ls hl => ?_)
      refine gg_iload_n X 48 d_W_create_48 rfl (lv_at hl 0 rfl) ?_
      refine gg_iconst X 49 (3 : Int32) d_W_create_49 (by decide) ?_
      refine gg_icmp_ne X 50 56 d_W_create_50 rfl (fun _ => ?_) (fun _ => ?_)
      · refine gg_iconst X 56 (0 : Int32) d_W_create_56 (by decide) ?_
        refine gg_istore X 57 (fun v8 => [(4, .int v8), (3, .int v7), (0, .ref (ad 0)), (1, .int x1), (2, .int x2)]) d_W_create_57 hl (by decide) (fun _ => rfl) (fun v8 ls hl => ?_)
        exact t_W_create_59 X fu x1 x2 v7 v8 s5 _  (lv_sub hl [2, 3, 4, 1, 0] rfl)
      · refine gg_bipush X 53 (-5 : Int32) d_W_create_53 (by decide) ?_
        exact gg_iret X 55 d_W_create_55
    · refine gg_bipush X 40 (-4 : Int32) d_W_create_40 (by decide) ?_
      exact gg_iret X 42 d_W_create_42
  · exact t_W_create_28 X s _  (lv_sub hl [] rfl)
set_option maxHeartbeats 4000000 in
set_option maxRecDepth 100000 in
theorem t_W_create {p : Program} {l : Launch} {e : Env} {s0 : State} {m : MethodId} {args : Array Value} {below : List Frame} {meth : Method} {c : Code} {D : va_G} {A : Nat → Prop} {dI : Nat → ClassId} {ad : Nat → Nat} (X : CX p s0 m args meth c D vwCl (tyE dI) nwE A prog_1_method_40_code 5 (some .int) (Cond.code y_W_create prog_1_method_40_code 5 (some .int) :: WS) R_W) (a1 : Int32) (a2 : Int32) (s : eS) (ls : Array Slot)  (hl : lv_has ls 5 [(0, .ref (ad 0)), (1, .int a1), (2, .int a2)]) : GG p l e rm_W_create s0 m args below meth c D vwCl (tyE dI) A (wE dI ad) 0 0 (QM below args s0 D vwCl (tyE dI) A (wE dI ad) rvI) (f_W_create a1 a2 s) (F0 m 0 ls []) s := by
  unfold f_W_create
  refine gg_iload_n X 0 d_W_create_0 rfl (lv_at hl 1 rfl) ?_
  refine gg_callS X 1 nwOk_E [.int a1] [] (fun _ _ h sz => M_W_isRegion l D dI ad _ a1  h sz) (cwS 1 X.1.2.2.2.2 (gwS w_170 w_171 w_1 w_172) rfl rfl rfl (by decide +kernel) ⟨by decide, by decide⟩) rfl hl.1 rfl (Nat.le_of_ble_eq_true rfl) ⟨Nat.zero_le _, Nat.zero_le _⟩ d_W_create_1 (fun r1 s2 ho3 => ?_)
  refine gg_show_i ?_
  refine gg_if_eq X 4 28 d_W_create_4 rfl (fun _ => ?_) (fun _ => ?_)
  · exact t_W_create_28 X s2 _  (lv_sub hl [] rfl)
  · refine gg_iload_n X 7 d_W_create_7 rfl (lv_at hl 2 rfl) ?_
    refine gg_iconst X 8 (1 : Int32) d_W_create_8 (by decide) ?_
    refine gg_icmp_eq X 9 22 d_W_create_9 rfl (fun _ => ?_) (fun _ => ?_)
    · exact t_W_create_22 X a1 a2 s2 _  (lv_sub hl [0, 1, 2] rfl)
    · refine gg_iload_n X 12 d_W_create_12 rfl (lv_at hl 2 rfl) ?_
      refine gg_iconst X 13 (2 : Int32) d_W_create_13 (by decide) ?_
      refine gg_icmp_eq X 14 22 d_W_create_14 rfl (fun _ => ?_) (fun _ => ?_)
      · exact t_W_create_22 X a1 a2 s2 _  (lv_sub hl [0, 1, 2] rfl)
      · refine gg_iload_n X 17 d_W_create_17 rfl (lv_at hl 2 rfl) ?_
        refine gg_iconst X 18 (4 : Int32) d_W_create_18 (by decide) ?_
        refine gg_icmp_ne X 19 28 d_W_create_19 rfl (fun _ => ?_) (fun _ => ?_)
        · exact t_W_create_28 X s2 _  (lv_sub hl [] rfl)
        · exact t_W_create_22 X a1 a2 s2 _  (lv_sub hl [0, 1, 2] rfl)
theorem M_W_create (l : Launch) (D : va_G) (dI : Nat → ClassId) (ad : Nat → Nat) (s : eS) (a1 : Int32) (a2 : Int32)  {r : Int32} {s' : eS} (h : f_W_create a1 a2 s = some (r, s')) (sz : Nat) : Met l y_W_create (Cond.code y_W_create prog_1_method_40_code 5 (some .int) :: WS) rm_W_create (Px (wE dI ad) D vwCl (tyE dI) nwE sz s [.ref (ad 0), .int a1, .int a2]) (Qx rvI (wE dI ad) D vwCl (tyE dI) (va_A ((wE dI ad) s) sz) r s') 0 0 (va_A ((wE dI ad) s) sz) :=
  met_of [.ref (ad 0), .int a1, .int a2] (by decide) rfl rfl (Nat.le_of_ble_eq_true rfl) h (fun p e s0 m args below meth c A ls X hl => t_W_create X a1 a2 s ls  hl)
set_option maxHeartbeats 4000000 in
set_option maxRecDepth 100000 in
theorem t_W_isEnclave_13 {p : Program} {l : Launch} {e : Env} {s0 : State} {m : MethodId} {args : Array Value} {below : List Frame} {meth : Method} {c : Code} {D : va_G} {A : Nat → Prop} {dI : Nat → ClassId} {ad : Nat → Nat} (X : CX p s0 m args meth c D vwCl (tyE dI) nwE A prog_1_method_24_code 1 (some .boolean) (Cond.code y_W_isEnclave prog_1_method_24_code 1 (some .boolean) :: WS) R_W)  (s : eS) (ls : Array Slot)  (hl : lv_has ls 1 []) : GG p l e rm_W_isEnclave s0 m args below meth c D vwCl (tyE dI) A (wE dI ad) 0 0 (QM below args s0 D vwCl (tyE dI) A (wE dI ad) rvI) (f_W_isEnclave_13 s) (F0 m 13 ls []) s := by
  unfold f_W_isEnclave_13
  refine gg_iconst X 13 (0 : Int32) d_W_isEnclave_13 (by decide) ?_
  exact gg_zretk X 14 rfl d_W_isEnclave_14
set_option maxHeartbeats 4000000 in
set_option maxRecDepth 100000 in
theorem t_W_isEnclave {p : Program} {l : Launch} {e : Env} {s0 : State} {m : MethodId} {args : Array Value} {below : List Frame} {meth : Method} {c : Code} {D : va_G} {A : Nat → Prop} {dI : Nat → ClassId} {ad : Nat → Nat} (X : CX p s0 m args meth c D vwCl (tyE dI) nwE A prog_1_method_24_code 1 (some .boolean) (Cond.code y_W_isEnclave prog_1_method_24_code 1 (some .boolean) :: WS) R_W) (a0 : Int32) (s : eS) (ls : Array Slot)  (hl : lv_has ls 1 [(0, .int a0)]) : GG p l e rm_W_isEnclave s0 m args below meth c D vwCl (tyE dI) A (wE dI ad) 0 0 (QM below args s0 D vwCl (tyE dI) A (wE dI ad) rvI) (f_W_isEnclave a0 s) (F0 m 0 ls []) s := by
  unfold f_W_isEnclave
  refine gg_iload_n X 0 d_W_isEnclave_0 rfl (lv_at hl 0 rfl) ?_
  refine gg_if_lt X 1 13 d_W_isEnclave_1 rfl (fun _ => ?_) (fun _ => ?_)
  · exact t_W_isEnclave_13 X s _  (lv_sub hl [] rfl)
  · refine gg_iload_n X 4 d_W_isEnclave_4 rfl (lv_at hl 0 rfl) ?_
    refine gg_iconst X 5 (3 : Int32) d_W_isEnclave_5 (by decide) ?_
    refine gg_icmp_ge X 6 13 d_W_isEnclave_6 rfl (fun _ => ?_) (fun _ => ?_)
    · exact t_W_isEnclave_13 X s _  (lv_sub hl [] rfl)
    · refine gg_iconst X 9 (1 : Int32) d_W_isEnclave_9 (by decide) ?_
      refine gg_goto X 10 14 d_W_isEnclave_10 rfl ?_
      exact gg_zretk X 14 rfl d_W_isEnclave_14
theorem M_W_isEnclave (l : Launch) (D : va_G) (dI : Nat → ClassId) (ad : Nat → Nat) (s : eS) (a0 : Int32)  {r : Int32} {s' : eS} (h : f_W_isEnclave a0 s = some (r, s')) (sz : Nat) : Met l y_W_isEnclave (Cond.code y_W_isEnclave prog_1_method_24_code 1 (some .boolean) :: WS) rm_W_isEnclave (Px (wE dI ad) D vwCl (tyE dI) nwE sz s [.int a0]) (Qx rvI (wE dI ad) D vwCl (tyE dI) (va_A ((wE dI ad) s) sz) r s') 0 0 (va_A ((wE dI ad) s) sz) :=
  met_of [.int a0] (by decide) rfl rfl (Nat.le_of_ble_eq_true rfl) h (fun p e s0 m args below meth c A ls X hl => t_W_isEnclave X a0 s ls  hl)
set_option maxHeartbeats 4000000 in
set_option maxRecDepth 100000 in
theorem t_W_load_21 {p : Program} {l : Launch} {e : Env} {s0 : State} {m : MethodId} {args : Array Value} {below : List Frame} {meth : Method} {c : Code} {D : va_G} {A : Nat → Prop} {dI : Nat → ClassId} {ad : Nat → Nat} (X : CX p s0 m args meth c D vwCl (tyE dI) nwE A prog_1_method_43_code 7 (some .int) (Cond.code y_W_load prog_1_method_43_code 7 (some .int) :: WS) R_W)  (s : eS) (ls : Array Slot)  (hl : lv_has ls 7 []) : GG p l e rm_W_load s0 m args below meth c D vwCl (tyE dI) A (wE dI ad) 0 0 (QM below args s0 D vwCl (tyE dI) A (wE dI ad) rvI) (f_W_load_21 s) (F0 m 21 ls []) s := by
  unfold f_W_load_21
  refine gg_bipush X 21 (-2 : Int32) d_W_load_21 (by decide) ?_
  exact gg_iret X 23 d_W_load_23
set_option maxHeartbeats 4000000 in
set_option maxRecDepth 100000 in
theorem t_W_load_66 {p : Program} {l : Launch} {e : Env} {s0 : State} {m : MethodId} {args : Array Value} {below : List Frame} {meth : Method} {c : Code} {D : va_G} {A : Nat → Prop} {dI : Nat → ClassId} {ad : Nat → Nat} (X : CX p s0 m args meth c D vwCl (tyE dI) nwE A prog_1_method_43_code 7 (some .int) (Cond.code y_W_load prog_1_method_43_code 7 (some .int) :: WS) R_W)  (s : eS) (ls : Array Slot)  (hl : lv_has ls 7 []) : GG p l e rm_W_load s0 m args below meth c D vwCl (tyE dI) A (wE dI ad) 0 0 (QM below args s0 D vwCl (tyE dI) A (wE dI ad) rvI) (f_W_load_66 s) (F0 m 66 ls []) s := by
  unfold f_W_load_66
  refine gg_bipush X 66 (-4 : Int32) d_W_load_66 (by decide) ?_
  exact gg_iret X 68 d_W_load_68
set_option maxHeartbeats 4000000 in
set_option maxRecDepth 100000 in
theorem t_W_load_108 {p : Program} {l : Launch} {e : Env} {s0 : State} {m : MethodId} {args : Array Value} {below : List Frame} {meth : Method} {c : Code} {D : va_G} {A : Nat → Prop} {dI : Nat → ClassId} {ad : Nat → Nat} (X : CX p s0 m args meth c D vwCl (tyE dI) nwE A prog_1_method_43_code 7 (some .int) (Cond.code y_W_load prog_1_method_43_code 7 (some .int) :: WS) R_W) : ∀ (fl : Nat) (x2 : Int32) (x3 : Int32) (m4 : Nat) (x5 : Int32) (s : eS) (ls : Array Slot), m4 < 3 → lv_has ls 7 [(0, .ref (ad 0)), (2, .int x2), (3, .int x3), (4, .ref (ad (5 + m4))), (5, .int x5)] → GG p l e rm_W_load s0 m args below meth c D vwCl (tyE dI) A (wE dI ad) 0 0 (QM below args s0 D vwCl (tyE dI) A (wE dI ad) rvI) (f_W_load_108 fl x2 x3 m4 x5 s) (F0 m 108 ls []) s := by
  intro fl
  induction fl with
  | zero =>
    intro x2 x3 m4 x5 s ls hm4 hl
    rw [f_W_load_108]
    exact gg_none
  | succ fl ih =>
    intro x2 x3 m4 x5 s ls hm4 hl
    rw [f_W_load_108]
    refine gg_iload X 108 d_W_load_108 (lv_at hl 4 rfl) ?_
    refine gg_bipush X 110 (16 : Int32) d_W_load_110 (by decide) ?_
    refine gg_icmp_ge X 112 156 d_W_load_112 rfl (fun _ => ?_) (fun _ => ?_)
    · refine gg_iconst X 156 (0 : Int32) d_W_load_156 (by decide) ?_
      exact gg_iret X 157 d_W_load_157
    · refine gg_aload_n X 115 d_W_load_115 rfl (lv_at hl 0 rfl) ?_
      refine gg_get_W_memory X 116 (Or.inl (List.mem_cons_of_mem _ w_81)) d_W_load_116 ?_
      refine gg_iload_n X 119 d_W_load_119 rfl (lv_at hl 2 rfl) ?_
      refine gg_bipush X 120 (16 : Int32) d_W_load_120 (by decide) ?_
      refine gg_imul X 122 d_W_load_122 ?_
      refine gg_iload X 123 d_W_load_123 (lv_at hl 4 rfl) ?_
      refine gg_iadd X 125 d_W_load_125 ?_
      refine gg_ald_MEM X 126 d_W_load_126 ?_
      refine gg_istore X 127 (fun v1 => [(6, .int v1), (0, .ref (ad 0)), (2, .int x2), (3, .int x3), (4, .ref (ad (5 + m4))), (5, .int x5)]) d_W_load_127 hl (by decide) (fun _ => rfl) (fun v1 ls hl => ?_)
      refine gg_aload_n X 129 d_W_load_129 rfl (lv_at hl 1 rfl) ?_
      refine gg_get_W_memory X 130 (Or.inl (List.mem_cons_of_mem _ w_81)) d_W_load_130 ?_
      refine gg_iload_n X 133 d_W_load_133 rfl (lv_at hl 2 rfl) ?_
      refine gg_bipush X 134 (16 : Int32) d_W_load_134 (by decide) ?_
      refine gg_imul X 136 d_W_load_136 ?_
      refine gg_iload X 137 d_W_load_137 (lv_at hl 5 rfl) ?_
      refine gg_iadd X 139 d_W_load_139 ?_
      refine gg_iload X 140 d_W_load_140 (lv_at hl 0 rfl) ?_
      refine gg_ast_MEM X 142 d_W_load_142 (fun s2 => ?_)
      refine gg_aload X 143 d_W_load_143 (lv_at hl 4 rfl) ?_
      refine gg_iload X 145 d_W_load_145 (lv_at hl 0 rfl) ?_
      refine gg_callVN X 147 nwOk_E [.int v1] [] (fun _ _ h sz => M_V_add l D dI ad _ m4 v1 hm4 h sz) (⟨va_cnB 1 X.1.2.2.2.2 (gwB w_185) rfl rfl rfl (X.2.2.2.2.2 _ nw_16) (X.1.2.2.2.2 _ (List.mem_cons_of_mem _ w_2)) (by decide +kernel) ⟨by decide, by decide⟩, X.1.2.2.2.2 _ (List.mem_cons_of_mem _ w_184), X.1.2.2.2.2 _ (List.mem_cons_of_mem _ ws_V_add)⟩) (he_E_Enc hm4) rfl rfl hl.1 rfl (Nat.le_of_ble_eq_true rfl) ⟨Nat.zero_le _, Nat.zero_le _⟩ d_W_load_147 (fun r3 s4 ho5 => ?_)
      refine gg_show_v ?_
      refine gg_iinc X 150 (k := 5) (1 : Int32) (fun v6 => [(5, .int v6), (6, .int v1), (0, .ref (ad 0)), (2, .int x2), (3, .int x3), (4, .ref (ad (5 + m4)))]) d_W_load_150 hl rfl (by decide) (by decide) (fun _ => rfl) (fun v6 ls hl => ?_)
      refine gg_goto X 153 108 d_W_load_153 rfl ?_
      exact ih x2 x3 m4 v6 s4 _ hm4 (lv_sub hl [2, 3, 4, 5, 0] rfl)
set_option maxHeartbeats 4000000 in
set_option maxRecDepth 100000 in
theorem t_W_load {p : Program} {l : Launch} {e : Env} {s0 : State} {m : MethodId} {args : Array Value} {below : List Frame} {meth : Method} {c : Code} {D : va_G} {A : Nat → Prop} {dI : Nat → ClassId} {ad : Nat → Nat} (X : CX p s0 m args meth c D vwCl (tyE dI) nwE A prog_1_method_43_code 7 (some .int) (Cond.code y_W_load prog_1_method_43_code 7 (some .int) :: WS) R_W) (a1 : Int32) (a2 : Int32) (a3 : Int32) (s : eS) (ls : Array Slot)  (hl : lv_has ls 7 [(0, .ref (ad 0)), (1, .int a1), (2, .int a2), (3, .int a3)]) : GG p l e rm_W_load s0 m args below meth c D vwCl (tyE dI) A (wE dI ad) 0 0 (QM below args s0 D vwCl (tyE dI) A (wE dI ad) rvI) (f_W_load a1 a2 a3 s) (F0 m 0 ls []) s := by
  unfold f_W_load
  refine gg_iload_n X 0 d_W_load_0 rfl (lv_at hl 1 rfl) ?_
  refine gg_callS X 1 nwOk_E [.int a1] [] (fun _ _ h sz => M_W_isEnclave l D dI ad _ a1  h sz) (cwS 1 X.1.2.2.2.2 (gwS w_194 w_195 w_1 w_196) rfl rfl rfl (by decide +kernel) ⟨by decide, by decide⟩) rfl hl.1 rfl (Nat.le_of_ble_eq_true rfl) ⟨Nat.zero_le _, Nat.zero_le _⟩ d_W_load_1 (fun r1 s2 ho3 => ?_)
  refine gg_show_i ?_
  refine gg_if_eq X 4 21 d_W_load_4 rfl (fun _ => ?_) (fun _ => ?_)
  · exact t_W_load_21 X s2 _  (lv_sub hl [] rfl)
  · refine gg_iload_n X 7 d_W_load_7 rfl (lv_at hl 2 rfl) ?_
    refine gg_callS X 8 nwOk_E [.int a2] [] (fun _ _ h sz => M_W_isRegion l D dI ad _ a2  h sz) (cwS 1 X.1.2.2.2.2 (gwS w_170 w_171 w_1 w_172) rfl rfl rfl (by decide +kernel) ⟨by decide, by decide⟩) rfl hl.1 rfl (Nat.le_of_ble_eq_true rfl) ⟨Nat.zero_le _, Nat.zero_le _⟩ d_W_load_8 (fun r4 s5 ho6 => ?_)
    refine gg_show_i ?_
    refine gg_if_eq X 11 21 d_W_load_11 rfl (fun _ => ?_) (fun _ => ?_)
    · exact t_W_load_21 X s5 _  (lv_sub hl [] rfl)
    · refine gg_iload_n X 14 d_W_load_14 rfl (lv_at hl 3 rfl) ?_
      refine gg_callS X 15 nwOk_E [.int a3] [] (fun _ _ h sz => M_W_isRegion l D dI ad _ a3  h sz) (cwS 1 X.1.2.2.2.2 (gwS w_170 w_171 w_1 w_172) rfl rfl rfl (by decide +kernel) ⟨by decide, by decide⟩) rfl hl.1 rfl (Nat.le_of_ble_eq_true rfl) ⟨Nat.zero_le _, Nat.zero_le _⟩ d_W_load_15 (fun r7 s8 ho9 => ?_)
      refine gg_show_i ?_
      refine gg_if_ne X 18 24 d_W_load_18 rfl (fun _ => ?_) (fun _ => ?_)
      · refine gg_aload_n X 24 d_W_load_24 rfl (lv_at hl 0 rfl) ?_
        refine gg_get_W_enclaves X 25 (Or.inl (List.mem_cons_of_mem _ w_83)) d_W_load_25 ?_
        refine gg_iload_n X 28 d_W_load_28 rfl (lv_at hl 1 rfl) ?_
        refine gg_ald_ENA X 29 d_W_load_29 (fun hi10 => ?_)
        refine gg_astore X 30 3 (fun t11 => [(4, .ref (ad (5 + t11))), (0, .ref (ad 0)), (1, .int a1), (2, .int a2), (3, .int a3)]) d_W_load_30 hl (by decide) (fun _ => rfl) (ixb hi10) (fun t11 ls ht12 hl => ?_)
        refine gg_aload X 32 d_W_load_32 (lv_at hl 0 rfl) ?_
        refine gg_get_V_state X 34 ht12 (Or.inr ⟨_, nw_9⟩) d_W_load_34 ?_
        refine gg_iconst X 37 (1 : Int32) d_W_load_37 (by decide) ?_
        refine gg_icmp_eq X 38 44 d_W_load_38 rfl (fun _ => ?_) (fun _ => ?_)
        · refine gg_aload_n X 44 d_W_load_44 rfl (lv_at hl 1 rfl) ?_
          refine gg_get_W_kinds X 45 (Or.inl (List.mem_cons_of_mem _ w_82)) d_W_load_45 ?_
          refine gg_iload_n X 48 d_W_load_48 rfl (lv_at hl 3 rfl) ?_
          refine gg_ald_KIN X 49 d_W_load_49 ?_
          refine gg_iconst X 50 (2 : Int32) d_W_load_50 (by decide) ?_
          refine gg_iload_n X 51 d_W_load_51 rfl (lv_at hl 2 rfl) ?_
          refine gg_iadd X 52 d_W_load_52 ?_
          refine gg_icmp_ne X 53 66 d_W_load_53 rfl (fun _ => ?_) (fun _ => ?_)
          · exact t_W_load_66 X s8 _  (lv_sub hl [] rfl)
          · refine gg_aload_n X 56 d_W_load_56 rfl (lv_at hl 1 rfl) ?_
            refine gg_get_W_kinds X 57 (Or.inl (List.mem_cons_of_mem _ w_82)) d_W_load_57 ?_
            refine gg_iload_n X 60 d_W_load_60 rfl (lv_at hl 4 rfl) ?_
            refine gg_ald_KIN X 61 d_W_load_61 ?_
            refine gg_iconst X 62 (1 : Int32) d_W_load_62 (by decide) ?_
            refine gg_icmp_eq X 63 69 d_W_load_63 rfl (fun _ => ?_) (fun _ => ?_)
            · refine gg_aload X 69 d_W_load_69 (lv_at hl 0 rfl) ?_
              refine gg_get_V_loads X 71 ht12 (Or.inr ⟨_, nw_11⟩) d_W_load_71 ?_
              refine gg_bipush X 74 (8 : Int32) d_W_load_74 (by decide) ?_
              refine gg_icmp_lt X 76 82 d_W_load_76 rfl (fun _ => ?_) (fun _ => ?_)
              · refine gg_aload X 82 d_W_load_82 (lv_at hl 0 rfl) ?_
                refine gg_dup X 84 d_W_load_84 rfl ?_
                refine gg_get_V_loads X 85 ht12 (Or.inr ⟨_, nw_11⟩) d_W_load_85 ?_
                refine gg_iconst X 88 (1 : Int32) d_W_load_88 (by decide) ?_
                refine gg_iadd X 89 d_W_load_89 ?_
                refine gg_put_V_loads X 90 ht12 (Or.inr ⟨_, nw_11⟩) d_W_load_90 (fun s13 => ?_)
                refine gg_aload X 93 d_W_load_93 (lv_at hl 0 rfl) ?_
                refine gg_iconst X 95 (2 : Int32) d_W_load_95 (by decide) ?_
                refine gg_callVN X 96 nwOk_E [.int (2 : Int32)] [] (fun _ _ h sz => M_V_add l D dI ad _ t11 (2 : Int32) ht12 h sz) (⟨va_cnB 1 X.1.2.2.2.2 (gwB w_185) rfl rfl rfl (X.2.2.2.2.2 _ nw_16) (X.1.2.2.2.2 _ (List.mem_cons_of_mem _ w_2)) (by decide +kernel) ⟨by decide, by decide⟩, X.1.2.2.2.2 _ (List.mem_cons_of_mem _ w_184), X.1.2.2.2.2 _ (List.mem_cons_of_mem _ ws_V_add)⟩) (he_E_Enc ht12) rfl rfl hl.1 rfl (Nat.le_of_ble_eq_true rfl) ⟨Nat.zero_le _, Nat.zero_le _⟩ d_W_load_96 (fun r14 s15 ho16 => ?_)
                refine gg_show_v ?_
                refine gg_aload X 99 d_W_load_99 (lv_at hl 0 rfl) ?_
                refine gg_iload_n X 101 d_W_load_101 rfl (lv_at hl 3 rfl) ?_
                refine gg_callVN X 102 nwOk_E [.int a2] [] (fun _ _ h sz => M_V_add l D dI ad _ t11 a2 ht12 h sz) (⟨va_cnB 1 X.1.2.2.2.2 (gwB w_185) rfl rfl rfl (X.2.2.2.2.2 _ nw_16) (X.1.2.2.2.2 _ (List.mem_cons_of_mem _ w_2)) (by decide +kernel) ⟨by decide, by decide⟩, X.1.2.2.2.2 _ (List.mem_cons_of_mem _ w_184), X.1.2.2.2.2 _ (List.mem_cons_of_mem _ ws_V_add)⟩) (he_E_Enc ht12) rfl rfl hl.1 rfl (Nat.le_of_ble_eq_true rfl) ⟨Nat.zero_le _, Nat.zero_le _⟩ d_W_load_102 (fun r17 s18 ho19 => ?_)
                refine gg_show_v ?_
                refine gg_iconst X 105 (0 : Int32) d_W_load_105 (by decide) ?_
                refine gg_istore X 106 (fun v20 => [(5, .int v20), (4, .ref (ad (5 + t11))), (0, .ref (ad 0)), (1, .int a1), (2, .int a2), (3, .int a3)]) d_W_load_106 hl (by decide) (fun _ => rfl) (fun v20 ls hl => ?_)
                exact t_W_load_108 X fu a2 a3 t11 v20 s18 _ ht12 (lv_sub hl [2, 4, 5, 1, 0] rfl)
              · refine gg_bipush X 79 (-5 : Int32) d_W_load_79 (by decide) ?_
                exact gg_iret X 81 d_W_load_81
            · exact t_W_load_66 X s8 _  (lv_sub hl [] rfl)
        · refine gg_bipush X 41 (-3 : Int32) d_W_load_41 (by decide) ?_
          exact gg_iret X 43 d_W_load_43
      · exact t_W_load_21 X s8 _  (lv_sub hl [] rfl)
theorem M_W_load (l : Launch) (D : va_G) (dI : Nat → ClassId) (ad : Nat → Nat) (s : eS) (a1 : Int32) (a2 : Int32) (a3 : Int32)  {r : Int32} {s' : eS} (h : f_W_load a1 a2 a3 s = some (r, s')) (sz : Nat) : Met l y_W_load (Cond.code y_W_load prog_1_method_43_code 7 (some .int) :: WS) rm_W_load (Px (wE dI ad) D vwCl (tyE dI) nwE sz s [.ref (ad 0), .int a1, .int a2, .int a3]) (Qx rvI (wE dI ad) D vwCl (tyE dI) (va_A ((wE dI ad) s) sz) r s') 0 0 (va_A ((wE dI ad) s) sz) :=
  met_of [.ref (ad 0), .int a1, .int a2, .int a3] (by decide) rfl rfl (Nat.le_of_ble_eq_true rfl) h (fun p e s0 m args below meth c A ls X hl => t_W_load X a1 a2 a3 s ls  hl)
end
section
set_option maxHeartbeats 4000000 in
set_option maxRecDepth 100000 in
theorem t_V_threadCount_4 {p : Program} {l : Launch} {e : Env} {s0 : State} {m : MethodId} {args : Array Value} {below : List Frame} {meth : Method} {c : Code} {D : va_G} {A : Nat → Prop} {dI : Nat → ClassId} {ad : Nat → Nat} (X : CX p s0 m args meth c D vwCl (tyE dI) nwE A prog_3_method_4_code 3 (some .int) (Cond.code y_V_threadCount prog_3_method_4_code 3 (some .int) :: WS) R_V) : ∀ (fl : Nat) (m0 : Nat) (x1 : Int32) (x2 : Int32) (s : eS) (ls : Array Slot), m0 < 3 → lv_has ls 3 [(0, .ref (ad (5 + m0))), (1, .int x1), (2, .int x2)] → GG p l e rm_V_threadCount s0 m args below meth c D vwCl (tyE dI) A (wE dI ad) 0 0 (QM below args s0 D vwCl (tyE dI) A (wE dI ad) rvI) (f_V_threadCount_4 fl m0 x1 x2 s) (F0 m 4 ls []) s := by
  intro fl
  induction fl with
  | zero =>
    intro m0 x1 x2 s ls hm0 hl
    rw [f_V_threadCount_4]
    exact gg_none
  | succ fl ih =>
    intro m0 x1 x2 s ls hm0 hl
    rw [f_V_threadCount_4]
    refine gg_iload_n X 4 d_V_threadCount_4 rfl (lv_at hl 2 rfl) ?_
    refine gg_iconst X 5 (2 : Int32) d_V_threadCount_5 (by decide) ?_
    refine gg_icmp_ge X 6 30 d_V_threadCount_6 rfl (fun _ => ?_) (fun _ => ?_)
    · refine gg_iload_n X 30 d_V_threadCount_30 rfl (lv_at hl 1 rfl) ?_
      exact gg_iret X 31 d_V_threadCount_31
    · refine gg_aload_n X 9 d_V_threadCount_9 rfl (lv_at hl 0 rfl) ?_
      refine gg_get_V_threads X 10 hm0 (Or.inl (List.mem_cons_of_mem _ w_61)) d_V_threadCount_10 ?_
      refine gg_iload_n X 13 d_V_threadCount_13 rfl (lv_at hl 2 rfl) ?_
      refine gg_ald_TA X 14 hm0 d_V_threadCount_14 (fun hi1 => ?_)
      refine gg_get_T_state X 15 (ixb2 hm0 (ixb hi1)) (Or.inr ⟨_, nw_5⟩) d_V_threadCount_15 ?_
      refine gg_if_eq X 18 24 d_V_threadCount_18 rfl (fun _ => ?_) (fun _ => ?_)
      · refine gg_iinc X 24 (k := 2) (1 : Int32) (fun v2 => [(2, .int v2), (0, .ref (ad (5 + m0))), (1, .int x1)]) d_V_threadCount_24 hl rfl (by decide) (by decide) (fun _ => rfl) (fun v2 ls hl => ?_)
        refine gg_goto X 27 4 d_V_threadCount_27 rfl ?_
        exact ih m0 x1 v2 s _ hm0 (lv_sub hl [1, 2, 0] rfl)
      · refine gg_iinc X 21 (k := 1) (1 : Int32) (fun v3 => [(1, .int v3), (0, .ref (ad (5 + m0))), (2, .int x2)]) d_V_threadCount_21 hl rfl (by decide) (by decide) (fun _ => rfl) (fun v3 ls hl => ?_)
        refine gg_iinc X 24 (k := 2) (1 : Int32) (fun v4 => [(2, .int v4), (1, .int v3), (0, .ref (ad (5 + m0)))]) d_V_threadCount_24 hl rfl (by decide) (by decide) (fun _ => rfl) (fun v4 ls hl => ?_)
        refine gg_goto X 27 4 d_V_threadCount_27 rfl ?_
        exact ih m0 v3 v4 s _ hm0 (lv_sub hl [2, 1, 0] rfl)
set_option maxHeartbeats 4000000 in
set_option maxRecDepth 100000 in
theorem t_V_threadCount {p : Program} {l : Launch} {e : Env} {s0 : State} {m : MethodId} {args : Array Value} {below : List Frame} {meth : Method} {c : Code} {D : va_G} {A : Nat → Prop} {dI : Nat → ClassId} {ad : Nat → Nat} (X : CX p s0 m args meth c D vwCl (tyE dI) nwE A prog_3_method_4_code 3 (some .int) (Cond.code y_V_threadCount prog_3_method_4_code 3 (some .int) :: WS) R_V) (n0 : Nat) (s : eS) (ls : Array Slot) (hb0 : n0 < 3) (hl : lv_has ls 3 [(0, .ref (ad (5 + n0)))]) : GG p l e rm_V_threadCount s0 m args below meth c D vwCl (tyE dI) A (wE dI ad) 0 0 (QM below args s0 D vwCl (tyE dI) A (wE dI ad) rvI) (f_V_threadCount n0 s) (F0 m 0 ls []) s := by
  unfold f_V_threadCount
  refine gg_iconst X 0 (0 : Int32) d_V_threadCount_0 (by decide) ?_
  refine gg_istore_n X 1 (fun v1 => [(1, .int v1), (0, .ref (ad (5 + n0)))]) d_V_threadCount_1 rfl hl (by decide) (fun _ => rfl) (fun v1 ls hl => ?_)
  refine gg_iconst X 2 (0 : Int32) d_V_threadCount_2 (by decide) ?_
  refine gg_istore_n X 3 (fun v2 => [(2, .int v2), (1, .int v1), (0, .ref (ad (5 + n0)))]) d_V_threadCount_3 rfl hl (by decide) (fun _ => rfl) (fun v2 ls hl => ?_)
  exact t_V_threadCount_4 X fu n0 v1 v2 s _ hb0 (lv_sub hl [2, 1, 0] rfl)
theorem M_V_threadCount (l : Launch) (D : va_G) (dI : Nat → ClassId) (ad : Nat → Nat) (s : eS) (n0 : Nat) (hb0 : n0 < 3) {r : Int32} {s' : eS} (h : f_V_threadCount n0 s = some (r, s')) (sz : Nat) : Met l y_V_threadCount (Cond.code y_V_threadCount prog_3_method_4_code 3 (some .int) :: WS) rm_V_threadCount (Px (wE dI ad) D vwCl (tyE dI) nwE sz s [.ref (ad (5 + n0))]) (Qx rvI (wE dI ad) D vwCl (tyE dI) (va_A ((wE dI ad) s) sz) r s') 0 0 (va_A ((wE dI ad) s) sz) :=
  met_of [.ref (ad (5 + n0))] (by decide) rfl rfl (Nat.le_of_ble_eq_true rfl) h (fun p e s0 m args below meth c A ls X hl => t_V_threadCount X n0 s ls hb0 hl)
set_option maxHeartbeats 4000000 in
set_option maxRecDepth 100000 in
theorem t_W_addThread_14 {p : Program} {l : Launch} {e : Env} {s0 : State} {m : MethodId} {args : Array Value} {below : List Frame} {meth : Method} {c : Code} {D : va_G} {A : Nat → Prop} {dI : Nat → ClassId} {ad : Nat → Nat} (X : CX p s0 m args meth c D vwCl (tyE dI) nwE A prog_1_method_44_code 5 (some .int) (Cond.code y_W_addThread prog_1_method_44_code 5 (some .int) :: WS) R_W)  (s : eS) (ls : Array Slot)  (hl : lv_has ls 5 []) : GG p l e rm_W_addThread s0 m args below meth c D vwCl (tyE dI) A (wE dI ad) 0 0 (QM below args s0 D vwCl (tyE dI) A (wE dI ad) rvI) (f_W_addThread_14 s) (F0 m 14 ls []) s := by
  unfold f_W_addThread_14
  refine gg_bipush X 14 (-2 : Int32) d_W_addThread_14 (by decide) ?_
  exact gg_iret X 16 d_W_addThread_16
set_option maxHeartbeats 4000000 in
set_option maxRecDepth 100000 in
theorem t_W_addThread {p : Program} {l : Launch} {e : Env} {s0 : State} {m : MethodId} {args : Array Value} {below : List Frame} {meth : Method} {c : Code} {D : va_G} {A : Nat → Prop} {dI : Nat → ClassId} {ad : Nat → Nat} (X : CX p s0 m args meth c D vwCl (tyE dI) nwE A prog_1_method_44_code 5 (some .int) (Cond.code y_W_addThread prog_1_method_44_code 5 (some .int) :: WS) R_W) (a1 : Int32) (a2 : Int32) (s : eS) (ls : Array Slot)  (hl : lv_has ls 5 [(0, .ref (ad 0)), (1, .int a1), (2, .int a2)]) : GG p l e rm_W_addThread s0 m args below meth c D vwCl (tyE dI) A (wE dI ad) 0 0 (QM below args s0 D vwCl (tyE dI) A (wE dI ad) rvI) (f_W_addThread a1 a2 s) (F0 m 0 ls []) s := by
  unfold f_W_addThread
  refine gg_iload_n X 0 d_W_addThread_0 rfl (lv_at hl 1 rfl) ?_
  refine gg_callS X 1 nwOk_E [.int a1] [] (fun _ _ h sz => M_W_isEnclave l D dI ad _ a1  h sz) (cwS 1 X.1.2.2.2.2 (gwS w_194 w_195 w_1 w_196) rfl rfl rfl (by decide +kernel) ⟨by decide, by decide⟩) rfl hl.1 rfl (Nat.le_of_ble_eq_true rfl) ⟨Nat.zero_le _, Nat.zero_le _⟩ d_W_addThread_1 (fun r1 s2 ho3 => ?_)
  refine gg_show_i ?_
  refine gg_if_eq X 4 14 d_W_addThread_4 rfl (fun _ => ?_) (fun _ => ?_)
  · exact t_W_addThread_14 X s2 _  (lv_sub hl [] rfl)
  · refine gg_iload_n X 7 d_W_addThread_7 rfl (lv_at hl 2 rfl) ?_
    refine gg_callS X 8 nwOk_E [.int a2] [] (fun _ _ h sz => M_W_isAddress l D dI ad _ a2  h sz) (cwS 1 X.1.2.2.2.2 (gwS w_119 w_120 w_1 w_121) rfl rfl rfl (by decide +kernel) ⟨by decide, by decide⟩) rfl hl.1 rfl (Nat.le_of_ble_eq_true rfl) ⟨Nat.zero_le _, Nat.zero_le _⟩ d_W_addThread_8 (fun r4 s5 ho6 => ?_)
    refine gg_show_i ?_
    refine gg_if_ne X 11 17 d_W_addThread_11 rfl (fun _ => ?_) (fun _ => ?_)
    · refine gg_aload_n X 17 d_W_addThread_17 rfl (lv_at hl 0 rfl) ?_
      refine gg_get_W_enclaves X 18 (Or.inl (List.mem_cons_of_mem _ w_83)) d_W_addThread_18 ?_
      refine gg_iload_n X 21 d_W_addThread_21 rfl (lv_at hl 1 rfl) ?_
      refine gg_ald_ENA X 22 d_W_addThread_22 (fun hi7 => ?_)
      refine gg_astore_n X 23 3 (fun t8 => [(3, .ref (ad (5 + t8))), (0, .ref (ad 0)), (1, .int a1), (2, .int a2)]) d_W_addThread_23 rfl hl (by decide) (fun _ => rfl) (ixb hi7) (fun t8 ls ht9 hl => ?_)
      refine gg_aload_n X 24 d_W_addThread_24 rfl (lv_at hl 0 rfl) ?_
      refine gg_get_V_state X 25 ht9 (Or.inr ⟨_, nw_9⟩) d_W_addThread_25 ?_
      refine gg_iconst X 28 (1 : Int32) d_W_addThread_28 (by decide) ?_
      refine gg_icmp_eq X 29 35 d_W_addThread_29 rfl (fun _ => ?_) (fun _ => ?_)
      · refine gg_aload_n X 35 d_W_addThread_35 rfl (lv_at hl 1 rfl) ?_
        refine gg_get_W_kinds X 36 (Or.inl (List.mem_cons_of_mem _ w_82)) d_W_addThread_36 ?_
        refine gg_iload_n X 39 d_W_addThread_39 rfl (lv_at hl 3 rfl) ?_
        refine gg_bipush X 40 (16 : Int32) d_W_addThread_40 (by decide) ?_
        refine gg_idivk X 42 d_W_addThread_42 (by decide) ?_
        refine gg_ald_KIN X 43 d_W_addThread_43 ?_
        refine gg_iconst X 44 (2 : Int32) d_W_addThread_44 (by decide) ?_
        refine gg_iload_n X 45 d_W_addThread_45 rfl (lv_at hl 2 rfl) ?_
        refine gg_iadd X 46 d_W_addThread_46 ?_
        refine gg_icmp_eq X 47 53 d_W_addThread_47 rfl (fun _ => ?_) (fun _ => ?_)
        · refine gg_aload_n X 53 d_W_addThread_53 rfl (lv_at hl 0 rfl) ?_
          refine gg_callVN X 54 nwOk_E [] [] (fun _ _ h sz => M_V_threadCount l D dI ad _ t8 ht9 h sz) (⟨va_cnB 0 X.1.2.2.2.2 (gwB w_204) rfl rfl rfl (X.2.2.2.2.2 _ nw_18) (X.1.2.2.2.2 _ (List.mem_cons_of_mem _ w_2)) (by decide +kernel) ⟨by decide, by decide⟩, X.1.2.2.2.2 _ (List.mem_cons_of_mem _ w_203), X.1.2.2.2.2 _ (List.mem_cons_of_mem _ ws_V_threadCount)⟩) (he_E_Enc ht9) rfl rfl hl.1 rfl (Nat.le_of_ble_eq_true rfl) ⟨Nat.zero_le _, Nat.zero_le _⟩ d_W_addThread_54 (fun r10 s11 ho12 => ?_)
          refine gg_show_i ?_
          refine gg_istore X 57 (fun v13 => [(4, .int v13), (3, .ref (ad (5 + t8))), (0, .ref (ad 0)), (1, .int a1), (2, .int a2)]) d_W_addThread_57 hl (by decide) (fun _ => rfl) (fun v13 ls hl => ?_)
          refine gg_iload X 59 d_W_addThread_59 (lv_at hl 0 rfl) ?_
          refine gg_iconst X 61 (2 : Int32) d_W_addThread_61 (by decide) ?_
          refine gg_icmp_lt X 62 68 d_W_addThread_62 rfl (fun _ => ?_) (fun _ => ?_)
          · refine gg_aload_n X 68 d_W_addThread_68 rfl (lv_at hl 1 rfl) ?_
            refine gg_get_V_threads X 69 ht9 (Or.inr ⟨_, nw_8⟩) d_W_addThread_69 ?_
            refine gg_iload X 72 d_W_addThread_72 (lv_at hl 0 rfl) ?_
            refine gg_ald_TA X 74 ht9 d_W_addThread_74 (fun hi14 => ?_)
            refine gg_iconst X 75 (1 : Int32) d_W_addThread_75 (by decide) ?_
            refine gg_put_T_state X 76 (ixb2 ht9 (ixb hi14)) (Or.inr ⟨_, nw_6⟩) d_W_addThread_76 (fun s15 => ?_)
            refine gg_aload_n X 79 d_W_addThread_79 rfl (lv_at hl 1 rfl) ?_
            refine gg_get_V_threads X 80 ht9 (Or.inr ⟨_, nw_8⟩) d_W_addThread_80 ?_
            refine gg_iload X 83 d_W_addThread_83 (lv_at hl 0 rfl) ?_
            refine gg_ald_TA X 85 ht9 d_W_addThread_85 (fun hi16 => ?_)
            refine gg_iload_n X 86 d_W_addThread_86 rfl (lv_at hl 4 rfl) ?_
            refine gg_put_T_entry X 87 (ixb2 ht9 (ixb hi16)) (Or.inr ⟨_, nw_7⟩) d_W_addThread_87 (fun s17 => ?_)
            refine gg_aload_n X 90 d_W_addThread_90 rfl (lv_at hl 1 rfl) ?_
            refine gg_iconst X 91 (3 : Int32) d_W_addThread_91 (by decide) ?_
            refine gg_callVN X 92 nwOk_E [.int (3 : Int32)] [] (fun _ _ h sz => M_V_add l D dI ad _ t8 (3 : Int32) ht9 h sz) (⟨va_cnB 1 X.1.2.2.2.2 (gwB w_185) rfl rfl rfl (X.2.2.2.2.2 _ nw_16) (X.1.2.2.2.2 _ (List.mem_cons_of_mem _ w_2)) (by decide +kernel) ⟨by decide, by decide⟩, X.1.2.2.2.2 _ (List.mem_cons_of_mem _ w_184), X.1.2.2.2.2 _ (List.mem_cons_of_mem _ ws_V_add)⟩) (he_E_Enc ht9) rfl rfl hl.1 rfl (Nat.le_of_ble_eq_true rfl) ⟨Nat.zero_le _, Nat.zero_le _⟩ d_W_addThread_92 (fun r18 s19 ho20 => ?_)
            refine gg_show_v ?_
            refine gg_aload_n X 95 d_W_addThread_95 rfl (lv_at hl 1 rfl) ?_
            refine gg_iload_n X 96 d_W_addThread_96 rfl (lv_at hl 4 rfl) ?_
            refine gg_callVN X 97 nwOk_E [.int a2] [] (fun _ _ h sz => M_V_add l D dI ad _ t8 a2 ht9 h sz) (⟨va_cnB 1 X.1.2.2.2.2 (gwB w_185) rfl rfl rfl (X.2.2.2.2.2 _ nw_16) (X.1.2.2.2.2 _ (List.mem_cons_of_mem _ w_2)) (by decide +kernel) ⟨by decide, by decide⟩, X.1.2.2.2.2 _ (List.mem_cons_of_mem _ w_184), X.1.2.2.2.2 _ (List.mem_cons_of_mem _ ws_V_add)⟩) (he_E_Enc ht9) rfl rfl hl.1 rfl (Nat.le_of_ble_eq_true rfl) ⟨Nat.zero_le _, Nat.zero_le _⟩ d_W_addThread_97 (fun r21 s22 ho23 => ?_)
            refine gg_show_v ?_
            refine gg_iload X 100 d_W_addThread_100 (lv_at hl 0 rfl) ?_
            exact gg_iret X 102 d_W_addThread_102
          · refine gg_bipush X 65 (-5 : Int32) d_W_addThread_65 (by decide) ?_
            exact gg_iret X 67 d_W_addThread_67
        · refine gg_bipush X 50 (-4 : Int32) d_W_addThread_50 (by decide) ?_
          exact gg_iret X 52 d_W_addThread_52
      · refine gg_bipush X 32 (-3 : Int32) d_W_addThread_32 (by decide) ?_
        exact gg_iret X 34 d_W_addThread_34
    · exact t_W_addThread_14 X s5 _  (lv_sub hl [] rfl)
theorem M_W_addThread (l : Launch) (D : va_G) (dI : Nat → ClassId) (ad : Nat → Nat) (s : eS) (a1 : Int32) (a2 : Int32)  {r : Int32} {s' : eS} (h : f_W_addThread a1 a2 s = some (r, s')) (sz : Nat) : Met l y_W_addThread (Cond.code y_W_addThread prog_1_method_44_code 5 (some .int) :: WS) rm_W_addThread (Px (wE dI ad) D vwCl (tyE dI) nwE sz s [.ref (ad 0), .int a1, .int a2]) (Qx rvI (wE dI ad) D vwCl (tyE dI) (va_A ((wE dI ad) s) sz) r s') 0 0 (va_A ((wE dI ad) s) sz) :=
  met_of [.ref (ad 0), .int a1, .int a2] (by decide) rfl rfl (Nat.le_of_ble_eq_true rfl) h (fun p e s0 m args below meth c A ls X hl => t_W_addThread X a1 a2 s ls  hl)
set_option maxHeartbeats 4000000 in
set_option maxRecDepth 100000 in
theorem t_W_seal_32 {p : Program} {l : Launch} {e : Env} {s0 : State} {m : MethodId} {args : Array Value} {below : List Frame} {meth : Method} {c : Code} {D : va_G} {A : Nat → Prop} {dI : Nat → ClassId} {ad : Nat → Nat} (X : CX p s0 m args meth c D vwCl (tyE dI) nwE A prog_1_method_45_code 3 (some .int) (Cond.code y_W_seal prog_1_method_45_code 3 (some .int) :: WS) R_W)  (s : eS) (ls : Array Slot)  (hl : lv_has ls 3 []) : GG p l e rm_W_seal s0 m args below meth c D vwCl (tyE dI) A (wE dI ad) 0 0 (QM below args s0 D vwCl (tyE dI) A (wE dI ad) rvI) (f_W_seal_32 s) (F0 m 32 ls []) s := by
  unfold f_W_seal_32
  refine gg_bipush X 32 (-3 : Int32) d_W_seal_32 (by decide) ?_
  exact gg_iret X 34 d_W_seal_34
set_option maxHeartbeats 4000000 in
set_option maxRecDepth 100000 in
theorem t_W_seal {p : Program} {l : Launch} {e : Env} {s0 : State} {m : MethodId} {args : Array Value} {below : List Frame} {meth : Method} {c : Code} {D : va_G} {A : Nat → Prop} {dI : Nat → ClassId} {ad : Nat → Nat} (X : CX p s0 m args meth c D vwCl (tyE dI) nwE A prog_1_method_45_code 3 (some .int) (Cond.code y_W_seal prog_1_method_45_code 3 (some .int) :: WS) R_W) (a1 : Int32) (s : eS) (ls : Array Slot)  (hl : lv_has ls 3 [(0, .ref (ad 0)), (1, .int a1)]) : GG p l e rm_W_seal s0 m args below meth c D vwCl (tyE dI) A (wE dI ad) 0 0 (QM below args s0 D vwCl (tyE dI) A (wE dI ad) rvI) (f_W_seal a1 s) (F0 m 0 ls []) s := by
  unfold f_W_seal
  refine gg_iload_n X 0 d_W_seal_0 rfl (lv_at hl 1 rfl) ?_
  refine gg_callS X 1 nwOk_E [.int a1] [] (fun _ _ h sz => M_W_isEnclave l D dI ad _ a1  h sz) (cwS 1 X.1.2.2.2.2 (gwS w_194 w_195 w_1 w_196) rfl rfl rfl (by decide +kernel) ⟨by decide, by decide⟩) rfl hl.1 rfl (Nat.le_of_ble_eq_true rfl) ⟨Nat.zero_le _, Nat.zero_le _⟩ d_W_seal_1 (fun r1 s2 ho3 => ?_)
  refine gg_show_i ?_
  refine gg_if_ne X 4 10 d_W_seal_4 rfl (fun _ => ?_) (fun _ => ?_)
  · refine gg_aload_n X 10 d_W_seal_10 rfl (lv_at hl 0 rfl) ?_
    refine gg_get_W_enclaves X 11 (Or.inl (List.mem_cons_of_mem _ w_83)) d_W_seal_11 ?_
    refine gg_iload_n X 14 d_W_seal_14 rfl (lv_at hl 1 rfl) ?_
    refine gg_ald_ENA X 15 d_W_seal_15 (fun hi4 => ?_)
    refine gg_astore_n X 16 3 (fun t5 => [(2, .ref (ad (5 + t5))), (0, .ref (ad 0)), (1, .int a1)]) d_W_seal_16 rfl hl (by decide) (fun _ => rfl) (ixb hi4) (fun t5 ls ht6 hl => ?_)
    refine gg_aload_n X 17 d_W_seal_17 rfl (lv_at hl 0 rfl) ?_
    refine gg_get_V_state X 18 ht6 (Or.inr ⟨_, nw_9⟩) d_W_seal_18 ?_
    refine gg_iconst X 21 (1 : Int32) d_W_seal_21 (by decide) ?_
    refine gg_icmp_ne X 22 32 d_W_seal_22 rfl (fun _ => ?_) (fun _ => ?_)
    · exact t_W_seal_32 X s2 _  (lv_sub hl [] rfl)
    · refine gg_aload_n X 25 d_W_seal_25 rfl (lv_at hl 0 rfl) ?_
      refine gg_callVN X 26 nwOk_E [] [] (fun _ _ h sz => M_V_threadCount l D dI ad _ t5 ht6 h sz) (⟨va_cnB 0 X.1.2.2.2.2 (gwB w_204) rfl rfl rfl (X.2.2.2.2.2 _ nw_18) (X.1.2.2.2.2 _ (List.mem_cons_of_mem _ w_2)) (by decide +kernel) ⟨by decide, by decide⟩, X.1.2.2.2.2 _ (List.mem_cons_of_mem _ w_203), X.1.2.2.2.2 _ (List.mem_cons_of_mem _ ws_V_threadCount)⟩) (he_E_Enc ht6) rfl rfl hl.1 rfl (Nat.le_of_ble_eq_true rfl) ⟨Nat.zero_le _, Nat.zero_le _⟩ d_W_seal_26 (fun r7 s8 ho9 => ?_)
      refine gg_show_i ?_
      refine gg_if_ne X 29 35 d_W_seal_29 rfl (fun _ => ?_) (fun _ => ?_)
      · refine gg_aload_n X 35 d_W_seal_35 rfl (lv_at hl 0 rfl) ?_
        refine gg_iconst X 36 (2 : Int32) d_W_seal_36 (by decide) ?_
        refine gg_put_V_state X 37 ht6 (Or.inr ⟨_, nw_9⟩) d_W_seal_37 (fun s10 => ?_)
        refine gg_aload_n X 40 d_W_seal_40 rfl (lv_at hl 0 rfl) ?_
        refine gg_iconst X 41 (4 : Int32) d_W_seal_41 (by decide) ?_
        refine gg_callVN X 42 nwOk_E [.int (4 : Int32)] [] (fun _ _ h sz => M_V_add l D dI ad _ t5 (4 : Int32) ht6 h sz) (⟨va_cnB 1 X.1.2.2.2.2 (gwB w_185) rfl rfl rfl (X.2.2.2.2.2 _ nw_16) (X.1.2.2.2.2 _ (List.mem_cons_of_mem _ w_2)) (by decide +kernel) ⟨by decide, by decide⟩, X.1.2.2.2.2 _ (List.mem_cons_of_mem _ w_184), X.1.2.2.2.2 _ (List.mem_cons_of_mem _ ws_V_add)⟩) (he_E_Enc ht6) rfl rfl hl.1 rfl (Nat.le_of_ble_eq_true rfl) ⟨Nat.zero_le _, Nat.zero_le _⟩ d_W_seal_42 (fun r11 s12 ho13 => ?_)
        refine gg_show_v ?_
        refine gg_iconst X 45 (0 : Int32) d_W_seal_45 (by decide) ?_
        exact gg_iret X 46 d_W_seal_46
      · exact t_W_seal_32 X s8 _  (lv_sub hl [] rfl)
  · refine gg_bipush X 7 (-2 : Int32) d_W_seal_7 (by decide) ?_
    exact gg_iret X 9 d_W_seal_9
theorem M_W_seal (l : Launch) (D : va_G) (dI : Nat → ClassId) (ad : Nat → Nat) (s : eS) (a1 : Int32)  {r : Int32} {s' : eS} (h : f_W_seal a1 s = some (r, s')) (sz : Nat) : Met l y_W_seal (Cond.code y_W_seal prog_1_method_45_code 3 (some .int) :: WS) rm_W_seal (Px (wE dI ad) D vwCl (tyE dI) nwE sz s [.ref (ad 0), .int a1]) (Qx rvI (wE dI ad) D vwCl (tyE dI) (va_A ((wE dI ad) s) sz) r s') 0 0 (va_A ((wE dI ad) s) sz) :=
  met_of [.ref (ad 0), .int a1] (by decide) rfl rfl (Nat.le_of_ble_eq_true rfl) h (fun p e s0 m args below meth c A ls X hl => t_W_seal X a1 s ls  hl)
set_option maxHeartbeats 4000000 in
set_option maxRecDepth 100000 in
theorem t_W_sharedWith_4 {p : Program} {l : Launch} {e : Env} {s0 : State} {m : MethodId} {args : Array Value} {below : List Frame} {meth : Method} {c : Code} {D : va_G} {A : Nat → Prop} {dI : Nat → ClassId} {ad : Nat → Nat} (X : CX p s0 m args meth c D vwCl (tyE dI) nwE A prog_1_method_47_code 4 (some .int) (Cond.code y_W_sharedWith prog_1_method_47_code 4 (some .int) :: WS) R_W) : ∀ (fl : Nat) (x1 : Int32) (x2 : Int32) (x3 : Int32) (s : eS) (ls : Array Slot), lv_has ls 4 [(0, .ref (ad 0)), (1, .int x1), (2, .int x2), (3, .int x3)] → GG p l e rm_W_sharedWith s0 m args below meth c D vwCl (tyE dI) A (wE dI ad) 0 0 (QM below args s0 D vwCl (tyE dI) A (wE dI ad) rvI) (f_W_sharedWith_4 fl x1 x2 x3 s) (F0 m 4 ls []) s := by
  intro fl
  induction fl with
  | zero =>
    intro x1 x2 x3 s ls hl
    rw [f_W_sharedWith_4]
    exact gg_none
  | succ fl ih =>
    intro x1 x2 x3 s ls hl
    rw [f_W_sharedWith_4]
    refine gg_iload_n X 4 d_W_sharedWith_4 rfl (lv_at hl 3 rfl) ?_
    refine gg_bipush X 5 (16 : Int32) d_W_sharedWith_5 (by decide) ?_
    refine gg_icmp_ge X 7 31 d_W_sharedWith_7 rfl (fun _ => ?_) (fun _ => ?_)
    · refine gg_iload_n X 31 d_W_sharedWith_31 rfl (lv_at hl 2 rfl) ?_
      exact gg_iret X 32 d_W_sharedWith_32
    · refine gg_aload_n X 10 d_W_sharedWith_10 rfl (lv_at hl 0 rfl) ?_
      refine gg_get_W_kinds X 11 (Or.inl (List.mem_cons_of_mem _ w_82)) d_W_sharedWith_11 ?_
      refine gg_iload_n X 14 d_W_sharedWith_14 rfl (lv_at hl 3 rfl) ?_
      refine gg_ald_KIN X 15 d_W_sharedWith_15 ?_
      refine gg_iconst X 16 (5 : Int32) d_W_sharedWith_16 (by decide) ?_
      refine gg_iload_n X 17 d_W_sharedWith_17 rfl (lv_at hl 1 rfl) ?_
      refine gg_iadd X 18 d_W_sharedWith_18 ?_
      refine gg_icmp_ne X 19 25 d_W_sharedWith_19 rfl (fun _ => ?_) (fun _ => ?_)
      · refine gg_iinc X 25 (k := 3) (1 : Int32) (fun v1 => [(3, .int v1), (0, .ref (ad 0)), (1, .int x1), (2, .int x2)]) d_W_sharedWith_25 hl rfl (by decide) (by decide) (fun _ => rfl) (fun v1 ls hl => ?_)
        refine gg_goto X 28 4 d_W_sharedWith_28 rfl ?_
        exact ih x1 x2 v1 s _  (lv_sub hl [1, 2, 3, 0] rfl)
      · refine gg_iinc X 22 (k := 2) (1 : Int32) (fun v2 => [(2, .int v2), (0, .ref (ad 0)), (1, .int x1), (3, .int x3)]) d_W_sharedWith_22 hl rfl (by decide) (by decide) (fun _ => rfl) (fun v2 ls hl => ?_)
        refine gg_iinc X 25 (k := 3) (1 : Int32) (fun v3 => [(3, .int v3), (2, .int v2), (0, .ref (ad 0)), (1, .int x1)]) d_W_sharedWith_25 hl rfl (by decide) (by decide) (fun _ => rfl) (fun v3 ls hl => ?_)
        refine gg_goto X 28 4 d_W_sharedWith_28 rfl ?_
        exact ih x1 v2 v3 s _  (lv_sub hl [2, 3, 1, 0] rfl)
set_option maxHeartbeats 4000000 in
set_option maxRecDepth 100000 in
theorem t_W_sharedWith {p : Program} {l : Launch} {e : Env} {s0 : State} {m : MethodId} {args : Array Value} {below : List Frame} {meth : Method} {c : Code} {D : va_G} {A : Nat → Prop} {dI : Nat → ClassId} {ad : Nat → Nat} (X : CX p s0 m args meth c D vwCl (tyE dI) nwE A prog_1_method_47_code 4 (some .int) (Cond.code y_W_sharedWith prog_1_method_47_code 4 (some .int) :: WS) R_W) (a1 : Int32) (s : eS) (ls : Array Slot)  (hl : lv_has ls 4 [(0, .ref (ad 0)), (1, .int a1)]) : GG p l e rm_W_sharedWith s0 m args below meth c D vwCl (tyE dI) A (wE dI ad) 0 0 (QM below args s0 D vwCl (tyE dI) A (wE dI ad) rvI) (f_W_sharedWith a1 s) (F0 m 0 ls []) s := by
  unfold f_W_sharedWith
  refine gg_iconst X 0 (0 : Int32) d_W_sharedWith_0 (by decide) ?_
  refine gg_istore_n X 1 (fun v1 => [(2, .int v1), (0, .ref (ad 0)), (1, .int a1)]) d_W_sharedWith_1 rfl hl (by decide) (fun _ => rfl) (fun v1 ls hl => ?_)
  refine gg_iconst X 2 (0 : Int32) d_W_sharedWith_2 (by decide) ?_
  refine gg_istore_n X 3 (fun v2 => [(3, .int v2), (2, .int v1), (0, .ref (ad 0)), (1, .int a1)]) d_W_sharedWith_3 rfl hl (by decide) (fun _ => rfl) (fun v2 ls hl => ?_)
  exact t_W_sharedWith_4 X fu a1 v1 v2 s _  (lv_sub hl [2, 3, 1, 0] rfl)
theorem M_W_sharedWith (l : Launch) (D : va_G) (dI : Nat → ClassId) (ad : Nat → Nat) (s : eS) (a1 : Int32)  {r : Int32} {s' : eS} (h : f_W_sharedWith a1 s = some (r, s')) (sz : Nat) : Met l y_W_sharedWith (Cond.code y_W_sharedWith prog_1_method_47_code 4 (some .int) :: WS) rm_W_sharedWith (Px (wE dI ad) D vwCl (tyE dI) nwE sz s [.ref (ad 0), .int a1]) (Qx rvI (wE dI ad) D vwCl (tyE dI) (va_A ((wE dI ad) s) sz) r s') 0 0 (va_A ((wE dI ad) s) sz) :=
  met_of [.ref (ad 0), .int a1] (by decide) rfl rfl (Nat.le_of_ble_eq_true rfl) h (fun p e s0 m args below meth c A ls X hl => t_W_sharedWith X a1 s ls  hl)
set_option maxHeartbeats 4000000 in
set_option maxRecDepth 100000 in
theorem t_W_share_14 {p : Program} {l : Launch} {e : Env} {s0 : State} {m : MethodId} {args : Array Value} {below : List Frame} {meth : Method} {c : Code} {D : va_G} {A : Nat → Prop} {dI : Nat → ClassId} {ad : Nat → Nat} (X : CX p s0 m args meth c D vwCl (tyE dI) nwE A prog_1_method_46_code 3 (some .int) (Cond.code y_W_share prog_1_method_46_code 3 (some .int) :: WS) R_W)  (s : eS) (ls : Array Slot)  (hl : lv_has ls 3 []) : GG p l e rm_W_share s0 m args below meth c D vwCl (tyE dI) A (wE dI ad) 0 0 (QM below args s0 D vwCl (tyE dI) A (wE dI ad) rvI) (f_W_share_14 s) (F0 m 14 ls []) s := by
  unfold f_W_share_14
  refine gg_bipush X 14 (-2 : Int32) d_W_share_14 (by decide) ?_
  exact gg_iret X 16 d_W_share_16
set_option maxHeartbeats 4000000 in
set_option maxRecDepth 100000 in
theorem t_W_share {p : Program} {l : Launch} {e : Env} {s0 : State} {m : MethodId} {args : Array Value} {below : List Frame} {meth : Method} {c : Code} {D : va_G} {A : Nat → Prop} {dI : Nat → ClassId} {ad : Nat → Nat} (X : CX p s0 m args meth c D vwCl (tyE dI) nwE A prog_1_method_46_code 3 (some .int) (Cond.code y_W_share prog_1_method_46_code 3 (some .int) :: WS) R_W) (a1 : Int32) (a2 : Int32) (s : eS) (ls : Array Slot)  (hl : lv_has ls 3 [(0, .ref (ad 0)), (1, .int a1), (2, .int a2)]) : GG p l e rm_W_share s0 m args below meth c D vwCl (tyE dI) A (wE dI ad) 0 0 (QM below args s0 D vwCl (tyE dI) A (wE dI ad) rvI) (f_W_share a1 a2 s) (F0 m 0 ls []) s := by
  unfold f_W_share
  refine gg_iload_n X 0 d_W_share_0 rfl (lv_at hl 1 rfl) ?_
  refine gg_callS X 1 nwOk_E [.int a1] [] (fun _ _ h sz => M_W_isEnclave l D dI ad _ a1  h sz) (cwS 1 X.1.2.2.2.2 (gwS w_194 w_195 w_1 w_196) rfl rfl rfl (by decide +kernel) ⟨by decide, by decide⟩) rfl hl.1 rfl (Nat.le_of_ble_eq_true rfl) ⟨Nat.zero_le _, Nat.zero_le _⟩ d_W_share_1 (fun r1 s2 ho3 => ?_)
  refine gg_show_i ?_
  refine gg_if_eq X 4 14 d_W_share_4 rfl (fun _ => ?_) (fun _ => ?_)
  · exact t_W_share_14 X s2 _  (lv_sub hl [] rfl)
  · refine gg_iload_n X 7 d_W_share_7 rfl (lv_at hl 2 rfl) ?_
    refine gg_callS X 8 nwOk_E [.int a2] [] (fun _ _ h sz => M_W_isRegion l D dI ad _ a2  h sz) (cwS 1 X.1.2.2.2.2 (gwS w_170 w_171 w_1 w_172) rfl rfl rfl (by decide +kernel) ⟨by decide, by decide⟩) rfl hl.1 rfl (Nat.le_of_ble_eq_true rfl) ⟨Nat.zero_le _, Nat.zero_le _⟩ d_W_share_8 (fun r4 s5 ho6 => ?_)
    refine gg_show_i ?_
    refine gg_if_ne X 11 17 d_W_share_11 rfl (fun _ => ?_) (fun _ => ?_)
    · refine gg_aload_n X 17 d_W_share_17 rfl (lv_at hl 0 rfl) ?_
      refine gg_get_W_enclaves X 18 (Or.inl (List.mem_cons_of_mem _ w_83)) d_W_share_18 ?_
      refine gg_iload_n X 21 d_W_share_21 rfl (lv_at hl 1 rfl) ?_
      refine gg_ald_ENA X 22 d_W_share_22 (fun hi7 => ?_)
      refine gg_get_V_state X 23 (ixb hi7) (Or.inr ⟨_, nw_9⟩) d_W_share_23 ?_
      refine gg_if_ne X 26 32 d_W_share_26 rfl (fun _ => ?_) (fun _ => ?_)
      · refine gg_aload_n X 32 d_W_share_32 rfl (lv_at hl 0 rfl) ?_
        refine gg_get_W_kinds X 33 (Or.inl (List.mem_cons_of_mem _ w_82)) d_W_share_33 ?_
        refine gg_iload_n X 36 d_W_share_36 rfl (lv_at hl 2 rfl) ?_
        refine gg_ald_KIN X 37 d_W_share_37 ?_
        refine gg_iconst X 38 (1 : Int32) d_W_share_38 (by decide) ?_
        refine gg_icmp_eq X 39 45 d_W_share_39 rfl (fun _ => ?_) (fun _ => ?_)
        · refine gg_aload_n X 45 d_W_share_45 rfl (lv_at hl 0 rfl) ?_
          refine gg_iload_n X 46 d_W_share_46 rfl (lv_at hl 1 rfl) ?_
          refine gg_callV X 47 nwOk_E [.int a1] [] (fun _ _ h sz => M_W_sharedWith l D dI ad _ a1  h sz) (cwV 1 X.1.2.2.2.2 (gwV w_213 w_215 ws_W_sharedWith w_1 w_216) rfl rfl rfl (by decide +kernel) ⟨by decide, by decide⟩) (he_E_Main) rfl rfl hl.1 rfl (Nat.le_of_ble_eq_true rfl) ⟨Nat.zero_le _, Nat.zero_le _⟩ d_W_share_47 (fun r8 s9 ho10 => ?_)
          refine gg_show_i ?_
          refine gg_iconst X 50 (2 : Int32) d_W_share_50 (by decide) ?_
          refine gg_icmp_lt X 51 57 d_W_share_51 rfl (fun _ => ?_) (fun _ => ?_)
          · refine gg_aload_n X 57 d_W_share_57 rfl (lv_at hl 0 rfl) ?_
            refine gg_get_W_kinds X 58 (Or.inl (List.mem_cons_of_mem _ w_82)) d_W_share_58 ?_
            refine gg_iload_n X 61 d_W_share_61 rfl (lv_at hl 2 rfl) ?_
            refine gg_iconst X 62 (5 : Int32) d_W_share_62 (by decide) ?_
            refine gg_iload_n X 63 d_W_share_63 rfl (lv_at hl 1 rfl) ?_
            refine gg_iadd X 64 d_W_share_64 ?_
            refine gg_ast_KIN X 65 d_W_share_65 (fun s11 => ?_)
            refine gg_iconst X 66 (0 : Int32) d_W_share_66 (by decide) ?_
            exact gg_iret X 67 d_W_share_67
          · refine gg_bipush X 54 (-5 : Int32) d_W_share_54 (by decide) ?_
            exact gg_iret X 56 d_W_share_56
        · refine gg_bipush X 42 (-4 : Int32) d_W_share_42 (by decide) ?_
          exact gg_iret X 44 d_W_share_44
      · refine gg_bipush X 29 (-3 : Int32) d_W_share_29 (by decide) ?_
        exact gg_iret X 31 d_W_share_31
    · exact t_W_share_14 X s5 _  (lv_sub hl [] rfl)
theorem M_W_share (l : Launch) (D : va_G) (dI : Nat → ClassId) (ad : Nat → Nat) (s : eS) (a1 : Int32) (a2 : Int32)  {r : Int32} {s' : eS} (h : f_W_share a1 a2 s = some (r, s')) (sz : Nat) : Met l y_W_share (Cond.code y_W_share prog_1_method_46_code 3 (some .int) :: WS) rm_W_share (Px (wE dI ad) D vwCl (tyE dI) nwE sz s [.ref (ad 0), .int a1, .int a2]) (Qx rvI (wE dI ad) D vwCl (tyE dI) (va_A ((wE dI ad) s) sz) r s') 0 0 (va_A ((wE dI ad) s) sz) :=
  met_of [.ref (ad 0), .int a1, .int a2] (by decide) rfl rfl (Nat.le_of_ble_eq_true rfl) h (fun p e s0 m args below meth c A ls X hl => t_W_share X a1 a2 s ls  hl)
set_option maxHeartbeats 4000000 in
set_option maxRecDepth 100000 in
theorem t_W_isThread_13 {p : Program} {l : Launch} {e : Env} {s0 : State} {m : MethodId} {args : Array Value} {below : List Frame} {meth : Method} {c : Code} {D : va_G} {A : Nat → Prop} {dI : Nat → ClassId} {ad : Nat → Nat} (X : CX p s0 m args meth c D vwCl (tyE dI) nwE A prog_1_method_25_code 1 (some .boolean) (Cond.code y_W_isThread prog_1_method_25_code 1 (some .boolean) :: WS) R_W)  (s : eS) (ls : Array Slot)  (hl : lv_has ls 1 []) : GG p l e rm_W_isThread s0 m args below meth c D vwCl (tyE dI) A (wE dI ad) 0 0 (QM below args s0 D vwCl (tyE dI) A (wE dI ad) rvI) (f_W_isThread_13 s) (F0 m 13 ls []) s := by
  unfold f_W_isThread_13
  refine gg_iconst X 13 (0 : Int32) d_W_isThread_13 (by decide) ?_
  exact gg_zretk X 14 rfl d_W_isThread_14
set_option maxHeartbeats 4000000 in
set_option maxRecDepth 100000 in
theorem t_W_isThread {p : Program} {l : Launch} {e : Env} {s0 : State} {m : MethodId} {args : Array Value} {below : List Frame} {meth : Method} {c : Code} {D : va_G} {A : Nat → Prop} {dI : Nat → ClassId} {ad : Nat → Nat} (X : CX p s0 m args meth c D vwCl (tyE dI) nwE A prog_1_method_25_code 1 (some .boolean) (Cond.code y_W_isThread prog_1_method_25_code 1 (some .boolean) :: WS) R_W) (a0 : Int32) (s : eS) (ls : Array Slot)  (hl : lv_has ls 1 [(0, .int a0)]) : GG p l e rm_W_isThread s0 m args below meth c D vwCl (tyE dI) A (wE dI ad) 0 0 (QM below args s0 D vwCl (tyE dI) A (wE dI ad) rvI) (f_W_isThread a0 s) (F0 m 0 ls []) s := by
  unfold f_W_isThread
  refine gg_iload_n X 0 d_W_isThread_0 rfl (lv_at hl 0 rfl) ?_
  refine gg_if_lt X 1 13 d_W_isThread_1 rfl (fun _ => ?_) (fun _ => ?_)
  · exact t_W_isThread_13 X s _  (lv_sub hl [] rfl)
  · refine gg_iload_n X 4 d_W_isThread_4 rfl (lv_at hl 0 rfl) ?_
    refine gg_iconst X 5 (2 : Int32) d_W_isThread_5 (by decide) ?_
    refine gg_icmp_ge X 6 13 d_W_isThread_6 rfl (fun _ => ?_) (fun _ => ?_)
    · exact t_W_isThread_13 X s _  (lv_sub hl [] rfl)
    · refine gg_iconst X 9 (1 : Int32) d_W_isThread_9 (by decide) ?_
      refine gg_goto X 10 14 d_W_isThread_10 rfl ?_
      exact gg_zretk X 14 rfl d_W_isThread_14
theorem M_W_isThread (l : Launch) (D : va_G) (dI : Nat → ClassId) (ad : Nat → Nat) (s : eS) (a0 : Int32)  {r : Int32} {s' : eS} (h : f_W_isThread a0 s = some (r, s')) (sz : Nat) : Met l y_W_isThread (Cond.code y_W_isThread prog_1_method_25_code 1 (some .boolean) :: WS) rm_W_isThread (Px (wE dI ad) D vwCl (tyE dI) nwE sz s [.int a0]) (Qx rvI (wE dI ad) D vwCl (tyE dI) (va_A ((wE dI ad) s) sz) r s') 0 0 (va_A ((wE dI ad) s) sz) :=
  met_of [.int a0] (by decide) rfl rfl (Nat.le_of_ble_eq_true rfl) h (fun p e s0 m args below meth c A ls X hl => t_W_isThread X a0 s ls  hl)
set_option maxHeartbeats 4000000 in
set_option maxRecDepth 100000 in
theorem t_W_refusalToStart_14 {p : Program} {l : Launch} {e : Env} {s0 : State} {m : MethodId} {args : Array Value} {below : List Frame} {meth : Method} {c : Code} {D : va_G} {A : Nat → Prop} {dI : Nat → ClassId} {ad : Nat → Nat} (X : CX p s0 m args meth c D vwCl (tyE dI) nwE A prog_1_method_50_code 5 (some .int) (Cond.code y_W_refusalToStart prog_1_method_50_code 5 (some .int) :: WS) R_W)  (s : eS) (ls : Array Slot)  (hl : lv_has ls 5 []) : GG p l e rm_W_refusalToStart s0 m args below meth c D vwCl (tyE dI) A (wE dI ad) 0 0 (QM below args s0 D vwCl (tyE dI) A (wE dI ad) rvI) (f_W_refusalToStart_14 s) (F0 m 14 ls []) s := by
  unfold f_W_refusalToStart_14
  refine gg_bipush X 14 (-2 : Int32) d_W_refusalToStart_14 (by decide) ?_
  exact gg_iret X 16 d_W_refusalToStart_16
set_option maxHeartbeats 4000000 in
set_option maxRecDepth 100000 in
theorem t_W_refusalToStart_52 {p : Program} {l : Launch} {e : Env} {s0 : State} {m : MethodId} {args : Array Value} {below : List Frame} {meth : Method} {c : Code} {D : va_G} {A : Nat → Prop} {dI : Nat → ClassId} {ad : Nat → Nat} (X : CX p s0 m args meth c D vwCl (tyE dI) nwE A prog_1_method_50_code 5 (some .int) (Cond.code y_W_refusalToStart prog_1_method_50_code 5 (some .int) :: WS) R_W)  (s : eS) (ls : Array Slot)  (hl : lv_has ls 5 []) : GG p l e rm_W_refusalToStart s0 m args below meth c D vwCl (tyE dI) A (wE dI ad) 0 0 (QM below args s0 D vwCl (tyE dI) A (wE dI ad) rvI) (f_W_refusalToStart_52 s) (F0 m 52 ls []) s := by
  unfold f_W_refusalToStart_52
  refine gg_bipush X 52 (-3 : Int32) d_W_refusalToStart_52 (by decide) ?_
  exact gg_iret X 54 d_W_refusalToStart_54
set_option maxHeartbeats 4000000 in
set_option maxRecDepth 100000 in
theorem t_W_refusalToStart {p : Program} {l : Launch} {e : Env} {s0 : State} {m : MethodId} {args : Array Value} {below : List Frame} {meth : Method} {c : Code} {D : va_G} {A : Nat → Prop} {dI : Nat → ClassId} {ad : Nat → Nat} (X : CX p s0 m args meth c D vwCl (tyE dI) nwE A prog_1_method_50_code 5 (some .int) (Cond.code y_W_refusalToStart prog_1_method_50_code 5 (some .int) :: WS) R_W) (a1 : Int32) (a2 : Int32) (a3 : Int32) (s : eS) (ls : Array Slot)  (hl : lv_has ls 5 [(0, .ref (ad 0)), (1, .int a1), (2, .int a2), (3, .int a3)]) : GG p l e rm_W_refusalToStart s0 m args below meth c D vwCl (tyE dI) A (wE dI ad) 0 0 (QM below args s0 D vwCl (tyE dI) A (wE dI ad) rvI) (f_W_refusalToStart a1 a2 a3 s) (F0 m 0 ls []) s := by
  unfold f_W_refusalToStart
  refine gg_iload_n X 0 d_W_refusalToStart_0 rfl (lv_at hl 1 rfl) ?_
  refine gg_callS X 1 nwOk_E [.int a1] [] (fun _ _ h sz => M_W_isEnclave l D dI ad _ a1  h sz) (cwS 1 X.1.2.2.2.2 (gwS w_194 w_195 w_1 w_196) rfl rfl rfl (by decide +kernel) ⟨by decide, by decide⟩) rfl hl.1 rfl (Nat.le_of_ble_eq_true rfl) ⟨Nat.zero_le _, Nat.zero_le _⟩ d_W_refusalToStart_1 (fun r1 s2 ho3 => ?_)
  refine gg_show_i ?_
  refine gg_if_eq X 4 14 d_W_refusalToStart_4 rfl (fun _ => ?_) (fun _ => ?_)
  · exact t_W_refusalToStart_14 X s2 _  (lv_sub hl [] rfl)
  · refine gg_iload_n X 7 d_W_refusalToStart_7 rfl (lv_at hl 2 rfl) ?_
    refine gg_callS X 8 nwOk_E [.int a2] [] (fun _ _ h sz => M_W_isThread l D dI ad _ a2  h sz) (cwS 1 X.1.2.2.2.2 (gwS w_225 w_226 w_1 w_227) rfl rfl rfl (by decide +kernel) ⟨by decide, by decide⟩) rfl hl.1 rfl (Nat.le_of_ble_eq_true rfl) ⟨Nat.zero_le _, Nat.zero_le _⟩ d_W_refusalToStart_8 (fun r4 s5 ho6 => ?_)
    refine gg_show_i ?_
    refine gg_if_ne X 11 17 d_W_refusalToStart_11 rfl (fun _ => ?_) (fun _ => ?_)
    · refine gg_aload_n X 17 d_W_refusalToStart_17 rfl (lv_at hl 0 rfl) ?_
      refine gg_get_W_enclaves X 18 (Or.inl (List.mem_cons_of_mem _ w_83)) d_W_refusalToStart_18 ?_
      refine gg_iload_n X 21 d_W_refusalToStart_21 rfl (lv_at hl 1 rfl) ?_
      refine gg_ald_ENA X 22 d_W_refusalToStart_22 (fun hi7 => ?_)
      refine gg_astore X 23 3 (fun t8 => [(4, .ref (ad (5 + t8))), (0, .ref (ad 0)), (1, .int a1), (2, .int a2), (3, .int a3)]) d_W_refusalToStart_23 hl (by decide) (fun _ => rfl) (ixb hi7) (fun t8 ls ht9 hl => ?_)
      refine gg_aload X 25 d_W_refusalToStart_25 (lv_at hl 0 rfl) ?_
      refine gg_get_V_state X 27 ht9 (Or.inr ⟨_, nw_9⟩) d_W_refusalToStart_27 ?_
      refine gg_iconst X 30 (2 : Int32) d_W_refusalToStart_30 (by decide) ?_
      refine gg_icmp_ne X 31 52 d_W_refusalToStart_31 rfl (fun _ => ?_) (fun _ => ?_)
      · exact t_W_refusalToStart_52 X s5 _  (lv_sub hl [] rfl)
      · refine gg_aload X 34 d_W_refusalToStart_34 (lv_at hl 0 rfl) ?_
        refine gg_get_V_threads X 36 ht9 (Or.inr ⟨_, nw_8⟩) d_W_refusalToStart_36 ?_
        refine gg_iload_n X 39 d_W_refusalToStart_39 rfl (lv_at hl 3 rfl) ?_
        refine gg_ald_TA X 40 ht9 d_W_refusalToStart_40 (fun hi10 => ?_)
        refine gg_get_T_state X 41 (ixb2 ht9 (ixb hi10)) (Or.inr ⟨_, nw_6⟩) d_W_refusalToStart_41 ?_
        refine gg_iload_n X 44 d_W_refusalToStart_44 rfl (lv_at hl 4 rfl) ?_
        refine gg_icmp_ne X 45 52 d_W_refusalToStart_45 rfl (fun _ => ?_) (fun _ => ?_)
        · exact t_W_refusalToStart_52 X s5 _  (lv_sub hl [] rfl)
        · refine gg_iconst X 48 (0 : Int32) d_W_refusalToStart_48 (by decide) ?_
          refine gg_goto X 49 54 d_W_refusalToStart_49 rfl ?_
          exact gg_iret X 54 d_W_refusalToStart_54
    · exact t_W_refusalToStart_14 X s5 _  (lv_sub hl [] rfl)
theorem M_W_refusalToStart (l : Launch) (D : va_G) (dI : Nat → ClassId) (ad : Nat → Nat) (s : eS) (a1 : Int32) (a2 : Int32) (a3 : Int32)  {r : Int32} {s' : eS} (h : f_W_refusalToStart a1 a2 a3 s = some (r, s')) (sz : Nat) : Met l y_W_refusalToStart (Cond.code y_W_refusalToStart prog_1_method_50_code 5 (some .int) :: WS) rm_W_refusalToStart (Px (wE dI ad) D vwCl (tyE dI) nwE sz s [.ref (ad 0), .int a1, .int a2, .int a3]) (Qx rvI (wE dI ad) D vwCl (tyE dI) (va_A ((wE dI ad) s) sz) r s') 0 0 (va_A ((wE dI ad) s) sz) :=
  met_of [.ref (ad 0), .int a1, .int a2, .int a3] (by decide) rfl rfl (Nat.le_of_ble_eq_true rfl) h (fun p e s0 m args below meth c A ls X hl => t_W_refusalToStart X a1 a2 a3 s ls  hl)
set_option maxHeartbeats 4000000 in
set_option maxRecDepth 100000 in
theorem t_C_start_2 {p : Program} {l : Launch} {e : Env} {s0 : State} {m : MethodId} {args : Array Value} {below : List Frame} {meth : Method} {c : Code} {D : va_G} {A : Nat → Prop} {dI : Nat → ClassId} {ad : Nat → Nat} (X : CX p s0 m args meth c D vwCl (tyE dI) nwE A prog_2_method_4_code 4 none (Cond.code y_C_start prog_2_method_4_code 4 none :: WS) R_C) : ∀ (fl : Nat) (m0 : Nat) (x1 : Int32) (x2 : Int32) (x3 : Int32) (s : eS) (ls : Array Slot), m0 < 7 → lv_has ls 4 [(0, .ref (ad (17 + m0))), (1, .int x1), (2, .int x2), (3, .int x3)] → GG p l e rm_C_start s0 m args below meth c D vwCl (tyE dI) A (wE dI ad) 0 0 (QM below args s0 D vwCl (tyE dI) A (wE dI ad) rvV) (f_C_start_2 fl m0 x1 x2 x3 s) (F0 m 2 ls []) s := by
  intro fl
  induction fl with
  | zero =>
    intro m0 x1 x2 x3 s ls hm0 hl
    rw [f_C_start_2]
    exact gg_none
  | succ fl ih =>
    intro m0 x1 x2 x3 s ls hm0 hl
    rw [f_C_start_2]
    refine gg_iload_n X 2 d_C_start_2 rfl (lv_at hl 3 rfl) ?_
    refine gg_bipush X 3 (8 : Int32) d_C_start_3 (by decide) ?_
    refine gg_icmp_ge X 5 20 d_C_start_5 rfl (fun _ => ?_) (fun _ => ?_)
    · refine gg_aload_n X 20 d_C_start_20 rfl (lv_at hl 0 rfl) ?_
      refine gg_iconst X 21 (1 : Int32) d_C_start_21 (by decide) ?_
      refine gg_iload_n X 22 d_C_start_22 rfl (lv_at hl 2 rfl) ?_
      refine gg_callV X 23 nwOk_E [.int (1 : Int32), .int x2] [] (fun _ _ h sz => M_C_put l D dI ad _ m0 (1 : Int32) x2 hm0 h sz) (cwV 2 X.1.2.2.2.2 (gwV w_232 w_136 ws_C_put w_4 w_137) rfl rfl rfl (by decide +kernel) ⟨by decide, by decide⟩) (he_E_Core hm0) rfl rfl hl.1 rfl (Nat.le_of_ble_eq_true rfl) ⟨Nat.zero_le _, Nat.zero_le _⟩ d_C_start_23 (fun r1 s2 ho3 => ?_)
      refine gg_show_v ?_
      refine gg_aload_n X 26 d_C_start_26 rfl (lv_at hl 0 rfl) ?_
      refine gg_iload_n X 27 d_C_start_27 rfl (lv_at hl 1 rfl) ?_
      refine gg_put_C_pc X 28 hm0 (Or.inl (List.mem_cons_of_mem _ w_35)) d_C_start_28 (fun s4 => ?_)
      exact gg_vret X 31 d_C_start_31
    · refine gg_aload_n X 8 d_C_start_8 rfl (lv_at hl 0 rfl) ?_
      refine gg_iload_n X 9 d_C_start_9 rfl (lv_at hl 3 rfl) ?_
      refine gg_iconst X 10 (0 : Int32) d_C_start_10 (by decide) ?_
      refine gg_callV X 11 nwOk_E [.int x3, .int (0 : Int32)] [] (fun _ _ h sz => M_C_put l D dI ad _ m0 x3 (0 : Int32) hm0 h sz) (cwV 2 X.1.2.2.2.2 (gwV w_232 w_136 ws_C_put w_4 w_137) rfl rfl rfl (by decide +kernel) ⟨by decide, by decide⟩) (he_E_Core hm0) rfl rfl hl.1 rfl (Nat.le_of_ble_eq_true rfl) ⟨Nat.zero_le _, Nat.zero_le _⟩ d_C_start_11 (fun r5 s6 ho7 => ?_)
      refine gg_show_v ?_
      refine gg_iinc X 14 (k := 3) (1 : Int32) (fun v8 => [(3, .int v8), (0, .ref (ad (17 + m0))), (1, .int x1), (2, .int x2)]) d_C_start_14 hl rfl (by decide) (by decide) (fun _ => rfl) (fun v8 ls hl => ?_)
      refine gg_goto X 17 2 d_C_start_17 rfl ?_
      exact ih m0 x1 x2 v8 s6 _ hm0 (lv_sub hl [1, 2, 3, 0] rfl)
set_option maxHeartbeats 4000000 in
set_option maxRecDepth 100000 in
theorem t_C_start {p : Program} {l : Launch} {e : Env} {s0 : State} {m : MethodId} {args : Array Value} {below : List Frame} {meth : Method} {c : Code} {D : va_G} {A : Nat → Prop} {dI : Nat → ClassId} {ad : Nat → Nat} (X : CX p s0 m args meth c D vwCl (tyE dI) nwE A prog_2_method_4_code 4 none (Cond.code y_C_start prog_2_method_4_code 4 none :: WS) R_C) (n0 : Nat) (a1 : Int32) (a2 : Int32) (s : eS) (ls : Array Slot) (hb0 : n0 < 7) (hl : lv_has ls 4 [(0, .ref (ad (17 + n0))), (1, .int a1), (2, .int a2)]) : GG p l e rm_C_start s0 m args below meth c D vwCl (tyE dI) A (wE dI ad) 0 0 (QM below args s0 D vwCl (tyE dI) A (wE dI ad) rvV) (f_C_start n0 a1 a2 s) (F0 m 0 ls []) s := by
  unfold f_C_start
  refine gg_iconst X 0 (0 : Int32) d_C_start_0 (by decide) ?_
  refine gg_istore_n X 1 (fun v1 => [(3, .int v1), (0, .ref (ad (17 + n0))), (1, .int a1), (2, .int a2)]) d_C_start_1 rfl hl (by decide) (fun _ => rfl) (fun v1 ls hl => ?_)
  exact t_C_start_2 X fu n0 a1 a2 v1 s _ hb0 (lv_sub hl [1, 2, 3, 0] rfl)
theorem M_C_start (l : Launch) (D : va_G) (dI : Nat → ClassId) (ad : Nat → Nat) (s : eS) (n0 : Nat) (a1 : Int32) (a2 : Int32) (hb0 : n0 < 7) {r : Unit} {s' : eS} (h : f_C_start n0 a1 a2 s = some (r, s')) (sz : Nat) : Met l y_C_start (Cond.code y_C_start prog_2_method_4_code 4 none :: WS) rm_C_start (Px (wE dI ad) D vwCl (tyE dI) nwE sz s [.ref (ad (17 + n0)), .int a1, .int a2]) (Qx rvV (wE dI ad) D vwCl (tyE dI) (va_A ((wE dI ad) s) sz) r s') 0 0 (va_A ((wE dI ad) s) sz) :=
  met_of [.ref (ad (17 + n0)), .int a1, .int a2] (by decide) rfl rfl (Nat.le_of_ble_eq_true rfl) h (fun p e s0 m args below meth c A ls X hl => t_C_start X n0 a1 a2 s ls hb0 hl)
set_option maxHeartbeats 4000000 in
set_option maxRecDepth 100000 in
theorem t_W_handOver {p : Program} {l : Launch} {e : Env} {s0 : State} {m : MethodId} {args : Array Value} {below : List Frame} {meth : Method} {c : Code} {D : va_G} {A : Nat → Prop} {dI : Nat → ClassId} {ad : Nat → Nat} (X : CX p s0 m args meth c D vwCl (tyE dI) nwE A prog_1_method_51_code 3 none (Cond.code y_W_handOver prog_1_method_51_code 3 none :: WS) R_W) (a1 : Int32) (a2 : Int32) (s : eS) (ls : Array Slot)  (hl : lv_has ls 3 [(0, .ref (ad 0)), (1, .int a1), (2, .int a2)]) : GG p l e rm_W_handOver s0 m args below meth c D vwCl (tyE dI) A (wE dI ad) 0 0 (QM below args s0 D vwCl (tyE dI) A (wE dI ad) rvV) (f_W_handOver a1 a2 s) (F0 m 0 ls []) s := by
  unfold f_W_handOver
  refine gg_aload_n X 0 d_W_handOver_0 rfl (lv_at hl 0 rfl) ?_
  refine gg_get_W_enclaves X 1 (Or.inl (List.mem_cons_of_mem _ w_83)) d_W_handOver_1 ?_
  refine gg_iload_n X 4 d_W_handOver_4 rfl (lv_at hl 1 rfl) ?_
  refine gg_ald_ENA X 5 d_W_handOver_5 (fun hi1 => ?_)
  refine gg_get_V_threads X 6 (ixb hi1) (Or.inr ⟨_, nw_8⟩) d_W_handOver_6 ?_
  refine gg_iload_n X 9 d_W_handOver_9 rfl (lv_at hl 2 rfl) ?_
  refine gg_ald_TA X 10 (ixb hi1) d_W_handOver_10 (fun hi2 => ?_)
  refine gg_iconst X 11 (2 : Int32) d_W_handOver_11 (by decide) ?_
  refine gg_put_T_state X 12 (ixb2 (ixb hi1) (ixb hi2)) (Or.inr ⟨_, nw_6⟩) d_W_handOver_12 (fun s3 => ?_)
  refine gg_aload_n X 15 d_W_handOver_15 rfl (lv_at hl 0 rfl) ?_
  refine gg_iload_n X 16 d_W_handOver_16 rfl (lv_at hl 1 rfl) ?_
  refine gg_iconst X 17 (2 : Int32) d_W_handOver_17 (by decide) ?_
  refine gg_imul X 18 d_W_handOver_18 ?_
  refine gg_iload_n X 19 d_W_handOver_19 rfl (lv_at hl 2 rfl) ?_
  refine gg_iadd X 20 d_W_handOver_20 ?_
  refine gg_put_W_running X 21 (Or.inl (List.mem_cons_of_mem _ w_87)) d_W_handOver_21 (fun s4 => ?_)
  exact gg_vret X 24 d_W_handOver_24
theorem M_W_handOver (l : Launch) (D : va_G) (dI : Nat → ClassId) (ad : Nat → Nat) (s : eS) (a1 : Int32) (a2 : Int32)  {r : Unit} {s' : eS} (h : f_W_handOver a1 a2 s = some (r, s')) (sz : Nat) : Met l y_W_handOver (Cond.code y_W_handOver prog_1_method_51_code 3 none :: WS) rm_W_handOver (Px (wE dI ad) D vwCl (tyE dI) nwE sz s [.ref (ad 0), .int a1, .int a2]) (Qx rvV (wE dI ad) D vwCl (tyE dI) (va_A ((wE dI ad) s) sz) r s') 0 0 (va_A ((wE dI ad) s) sz) :=
  met_of [.ref (ad 0), .int a1, .int a2] (by decide) rfl rfl (Nat.le_of_ble_eq_true rfl) h (fun p e s0 m args below meth c A ls X hl => t_W_handOver X a1 a2 s ls  hl)
set_option maxHeartbeats 4000000 in
set_option maxRecDepth 100000 in
theorem t_W_enter_47 {p : Program} {l : Launch} {e : Env} {s0 : State} {m : MethodId} {args : Array Value} {below : List Frame} {meth : Method} {c : Code} {D : va_G} {A : Nat → Prop} {dI : Nat → ClassId} {ad : Nat → Nat} (X : CX p s0 m args meth c D vwCl (tyE dI) nwE A prog_1_method_48_code 6 (some .int) (Cond.code y_W_enter prog_1_method_48_code 6 (some .int) :: WS) R_W) (x4 : Int32) (s : eS) (ls : Array Slot)  (hl : lv_has ls 6 [(4, .int x4)]) : GG p l e rm_W_enter s0 m args below meth c D vwCl (tyE dI) A (wE dI ad) 0 0 (QM below args s0 D vwCl (tyE dI) A (wE dI ad) rvI) (f_W_enter_47 x4 s) (F0 m 47 ls []) s := by
  unfold f_W_enter_47
  refine gg_iload X 47 d_W_enter_47 (lv_at hl 0 rfl) ?_
  exact gg_iret X 49 d_W_enter_49
set_option maxHeartbeats 4000000 in
set_option maxRecDepth 100000 in
theorem t_W_enter {p : Program} {l : Launch} {e : Env} {s0 : State} {m : MethodId} {args : Array Value} {below : List Frame} {meth : Method} {c : Code} {D : va_G} {A : Nat → Prop} {dI : Nat → ClassId} {ad : Nat → Nat} (X : CX p s0 m args meth c D vwCl (tyE dI) nwE A prog_1_method_48_code 6 (some .int) (Cond.code y_W_enter prog_1_method_48_code 6 (some .int) :: WS) R_W) (a1 : Int32) (a2 : Int32) (a3 : Int32) (s : eS) (ls : Array Slot)  (hl : lv_has ls 6 [(0, .ref (ad 0)), (1, .int a1), (2, .int a2), (3, .int a3)]) : GG p l e rm_W_enter s0 m args below meth c D vwCl (tyE dI) A (wE dI ad) 0 0 (QM below args s0 D vwCl (tyE dI) A (wE dI ad) rvI) (f_W_enter a1 a2 a3 s) (F0 m 0 ls []) s := by
  unfold f_W_enter
  refine gg_aload_n X 0 d_W_enter_0 rfl (lv_at hl 0 rfl) ?_
  refine gg_iload_n X 1 d_W_enter_1 rfl (lv_at hl 1 rfl) ?_
  refine gg_iload_n X 2 d_W_enter_2 rfl (lv_at hl 2 rfl) ?_
  refine gg_iconst X 3 (1 : Int32) d_W_enter_3 (by decide) ?_
  refine gg_callV X 4 nwOk_E [.int a1, .int a2, .int (1 : Int32)] [] (fun _ _ h sz => M_W_refusalToStart l D dI ad _ a1 a2 (1 : Int32)  h sz) (cwV 3 X.1.2.2.2.2 (gwV w_221 w_223 ws_W_refusalToStart w_1 w_224) rfl rfl rfl (by decide +kernel) ⟨by decide, by decide⟩) (he_E_Main) rfl rfl hl.1 rfl (Nat.le_of_ble_eq_true rfl) ⟨Nat.zero_le _, Nat.zero_le _⟩ d_W_enter_4 (fun r1 s2 ho3 => ?_)
  refine gg_show_i ?_
  refine gg_istore X 7 (fun v4 => [(4, .int v4), (0, .ref (ad 0)), (1, .int a1), (2, .int a2), (3, .int a3)]) d_W_enter_7 hl (by decide) (fun _ => rfl) (fun v4 ls hl => ?_)
  refine gg_iload X 9 d_W_enter_9 (lv_at hl 0 rfl) ?_
  refine gg_if_ne X 11 47 d_W_enter_11 rfl (fun _ => ?_) (fun _ => ?_)
  · exact t_W_enter_47 X v4 s2 _  (lv_sub hl [0] rfl)
  · refine gg_aload_n X 14 d_W_enter_14 rfl (lv_at hl 1 rfl) ?_
    refine gg_get_W_enclaves X 15 (Or.inl (List.mem_cons_of_mem _ w_83)) d_W_enter_15 ?_
    refine gg_iload_n X 18 d_W_enter_18 rfl (lv_at hl 2 rfl) ?_
    refine gg_ald_ENA X 19 d_W_enter_19 (fun hi5 => ?_)
    refine gg_get_V_threads X 20 (ixb hi5) (Or.inr ⟨_, nw_8⟩) d_W_enter_20 ?_
    refine gg_iload_n X 23 d_W_enter_23 rfl (lv_at hl 3 rfl) ?_
    refine gg_ald_TA X 24 (ixb hi5) d_W_enter_24 (fun hi6 => ?_)
    refine gg_astore X 25 6 (fun t7 => [(5, .ref (ad (11 + t7))), (4, .int v4), (0, .ref (ad 0)), (1, .int a1), (2, .int a2), (3, .int a3)]) d_W_enter_25 hl (by decide) (fun _ => rfl) (ixb2 (ixb hi5) (ixb hi6)) (fun t7 ls ht8 hl => ?_)
    refine gg_aload X 27 d_W_enter_27 (lv_at hl 0 rfl) ?_
    refine gg_get_T_core X 29 ht8 (Or.inr ⟨_, nw_4⟩) d_W_enter_29 ?_
    refine gg_aload X 32 d_W_enter_32 (lv_at hl 0 rfl) ?_
    refine gg_get_T_entry X 34 ht8 (Or.inr ⟨_, nw_7⟩) d_W_enter_34 ?_
    refine gg_iload_n X 37 d_W_enter_37 rfl (lv_at hl 5 rfl) ?_
    refine gg_callVN X 38 nwOk_E [.int (s2 7 t7), .int a3] [] (fun _ _ h sz => M_C_start l D dI ad _ t7 (s2 7 t7) a3 (Nat.lt_of_lt_of_le ht8 (by decide)) h sz) (⟨va_cnB 2 X.1.2.2.2.2 (gwB w_231) rfl rfl rfl (X.2.2.2.2.2 _ nw_19) (X.1.2.2.2.2 _ (List.mem_cons_of_mem _ w_4)) (by decide +kernel) ⟨by decide, by decide⟩, X.1.2.2.2.2 _ (List.mem_cons_of_mem _ w_230), X.1.2.2.2.2 _ (List.mem_cons_of_mem _ ws_C_start)⟩) (he_E_Core (Nat.lt_of_lt_of_le ht8 (by decide))) rfl rfl hl.1 rfl (Nat.le_of_ble_eq_true rfl) ⟨Nat.zero_le _, Nat.zero_le _⟩ d_W_enter_38 (fun r9 s10 ho11 => ?_)
    refine gg_show_v ?_
    refine gg_aload_n X 41 d_W_enter_41 rfl (lv_at hl 2 rfl) ?_
    refine gg_iload_n X 42 d_W_enter_42 rfl (lv_at hl 3 rfl) ?_
    refine gg_iload_n X 43 d_W_enter_43 rfl (lv_at hl 4 rfl) ?_
    refine gg_callV X 44 nwOk_E [.int a1, .int a2] [] (fun _ _ h sz => M_W_handOver l D dI ad _ a1 a2  h sz) (cwV 2 X.1.2.2.2.2 (gwV w_233 w_235 ws_W_handOver w_1 w_236) rfl rfl rfl (by decide +kernel) ⟨by decide, by decide⟩) (he_E_Main) rfl rfl hl.1 rfl (Nat.le_of_ble_eq_true rfl) ⟨Nat.zero_le _, Nat.zero_le _⟩ d_W_enter_44 (fun r12 s13 ho14 => ?_)
    refine gg_show_v ?_
    exact t_W_enter_47 X v4 s13 _  (lv_sub hl [1] rfl)
theorem M_W_enter (l : Launch) (D : va_G) (dI : Nat → ClassId) (ad : Nat → Nat) (s : eS) (a1 : Int32) (a2 : Int32) (a3 : Int32)  {r : Int32} {s' : eS} (h : f_W_enter a1 a2 a3 s = some (r, s')) (sz : Nat) : Met l y_W_enter (Cond.code y_W_enter prog_1_method_48_code 6 (some .int) :: WS) rm_W_enter (Px (wE dI ad) D vwCl (tyE dI) nwE sz s [.ref (ad 0), .int a1, .int a2, .int a3]) (Qx rvI (wE dI ad) D vwCl (tyE dI) (va_A ((wE dI ad) s) sz) r s') 0 0 (va_A ((wE dI ad) s) sz) :=
  met_of [.ref (ad 0), .int a1, .int a2, .int a3] (by decide) rfl rfl (Nat.le_of_ble_eq_true rfl) h (fun p e s0 m args below meth c A ls X hl => t_W_enter X a1 a2 a3 s ls  hl)
set_option maxHeartbeats 4000000 in
set_option maxRecDepth 100000 in
theorem t_W_resume_18 {p : Program} {l : Launch} {e : Env} {s0 : State} {m : MethodId} {args : Array Value} {below : List Frame} {meth : Method} {c : Code} {D : va_G} {A : Nat → Prop} {dI : Nat → ClassId} {ad : Nat → Nat} (X : CX p s0 m args meth c D vwCl (tyE dI) nwE A prog_1_method_49_code 4 (some .int) (Cond.code y_W_resume prog_1_method_49_code 4 (some .int) :: WS) R_W) (x3 : Int32) (s : eS) (ls : Array Slot)  (hl : lv_has ls 4 [(3, .int x3)]) : GG p l e rm_W_resume s0 m args below meth c D vwCl (tyE dI) A (wE dI ad) 0 0 (QM below args s0 D vwCl (tyE dI) A (wE dI ad) rvI) (f_W_resume_18 x3 s) (F0 m 18 ls []) s := by
  unfold f_W_resume_18
  refine gg_iload_n X 18 d_W_resume_18 rfl (lv_at hl 0 rfl) ?_
  exact gg_iret X 19 d_W_resume_19
set_option maxHeartbeats 4000000 in
set_option maxRecDepth 100000 in
theorem t_W_resume {p : Program} {l : Launch} {e : Env} {s0 : State} {m : MethodId} {args : Array Value} {below : List Frame} {meth : Method} {c : Code} {D : va_G} {A : Nat → Prop} {dI : Nat → ClassId} {ad : Nat → Nat} (X : CX p s0 m args meth c D vwCl (tyE dI) nwE A prog_1_method_49_code 4 (some .int) (Cond.code y_W_resume prog_1_method_49_code 4 (some .int) :: WS) R_W) (a1 : Int32) (a2 : Int32) (s : eS) (ls : Array Slot)  (hl : lv_has ls 4 [(0, .ref (ad 0)), (1, .int a1), (2, .int a2)]) : GG p l e rm_W_resume s0 m args below meth c D vwCl (tyE dI) A (wE dI ad) 0 0 (QM below args s0 D vwCl (tyE dI) A (wE dI ad) rvI) (f_W_resume a1 a2 s) (F0 m 0 ls []) s := by
  unfold f_W_resume
  refine gg_aload_n X 0 d_W_resume_0 rfl (lv_at hl 0 rfl) ?_
  refine gg_iload_n X 1 d_W_resume_1 rfl (lv_at hl 1 rfl) ?_
  refine gg_iload_n X 2 d_W_resume_2 rfl (lv_at hl 2 rfl) ?_
  refine gg_iconst X 3 (3 : Int32) d_W_resume_3 (by decide) ?_
  refine gg_callV X 4 nwOk_E [.int a1, .int a2, .int (3 : Int32)] [] (fun _ _ h sz => M_W_refusalToStart l D dI ad _ a1 a2 (3 : Int32)  h sz) (cwV 3 X.1.2.2.2.2 (gwV w_221 w_223 ws_W_refusalToStart w_1 w_224) rfl rfl rfl (by decide +kernel) ⟨by decide, by decide⟩) (he_E_Main) rfl rfl hl.1 rfl (Nat.le_of_ble_eq_true rfl) ⟨Nat.zero_le _, Nat.zero_le _⟩ d_W_resume_4 (fun r1 s2 ho3 => ?_)
  refine gg_show_i ?_
  refine gg_istore_n X 7 (fun v4 => [(3, .int v4), (0, .ref (ad 0)), (1, .int a1), (2, .int a2)]) d_W_resume_7 rfl hl (by decide) (fun _ => rfl) (fun v4 ls hl => ?_)
  refine gg_iload_n X 8 d_W_resume_8 rfl (lv_at hl 0 rfl) ?_
  refine gg_if_ne X 9 18 d_W_resume_9 rfl (fun _ => ?_) (fun _ => ?_)
  · exact t_W_resume_18 X v4 s2 _  (lv_sub hl [0] rfl)
  · refine gg_aload_n X 12 d_W_resume_12 rfl (lv_at hl 1 rfl) ?_
    refine gg_iload_n X 13 d_W_resume_13 rfl (lv_at hl 2 rfl) ?_
    refine gg_iload_n X 14 d_W_resume_14 rfl (lv_at hl 3 rfl) ?_
    refine gg_callV X 15 nwOk_E [.int a1, .int a2] [] (fun _ _ h sz => M_W_handOver l D dI ad _ a1 a2  h sz) (cwV 2 X.1.2.2.2.2 (gwV w_233 w_235 ws_W_handOver w_1 w_236) rfl rfl rfl (by decide +kernel) ⟨by decide, by decide⟩) (he_E_Main) rfl rfl hl.1 rfl (Nat.le_of_ble_eq_true rfl) ⟨Nat.zero_le _, Nat.zero_le _⟩ d_W_resume_15 (fun r5 s6 ho7 => ?_)
    refine gg_show_v ?_
    exact t_W_resume_18 X v4 s6 _  (lv_sub hl [0] rfl)
theorem M_W_resume (l : Launch) (D : va_G) (dI : Nat → ClassId) (ad : Nat → Nat) (s : eS) (a1 : Int32) (a2 : Int32)  {r : Int32} {s' : eS} (h : f_W_resume a1 a2 s = some (r, s')) (sz : Nat) : Met l y_W_resume (Cond.code y_W_resume prog_1_method_49_code 4 (some .int) :: WS) rm_W_resume (Px (wE dI ad) D vwCl (tyE dI) nwE sz s [.ref (ad 0), .int a1, .int a2]) (Qx rvI (wE dI ad) D vwCl (tyE dI) (va_A ((wE dI ad) s) sz) r s') 0 0 (va_A ((wE dI ad) s) sz) :=
  met_of [.ref (ad 0), .int a1, .int a2] (by decide) rfl rfl (Nat.le_of_ble_eq_true rfl) h (fun p e s0 m args below meth c A ls X hl => t_W_resume X a1 a2 s ls  hl)
set_option maxHeartbeats 4000000 in
set_option maxRecDepth 100000 in
theorem t_W_stop {p : Program} {l : Launch} {e : Env} {s0 : State} {m : MethodId} {args : Array Value} {below : List Frame} {meth : Method} {c : Code} {D : va_G} {A : Nat → Prop} {dI : Nat → ClassId} {ad : Nat → Nat} (X : CX p s0 m args meth c D vwCl (tyE dI) nwE A prog_1_method_52_code 2 (some .int) (Cond.code y_W_stop prog_1_method_52_code 2 (some .int) :: WS) R_W) (a1 : Int32) (s : eS) (ls : Array Slot)  (hl : lv_has ls 2 [(0, .ref (ad 0)), (1, .int a1)]) : GG p l e rm_W_stop s0 m args below meth c D vwCl (tyE dI) A (wE dI ad) 0 0 (QM below args s0 D vwCl (tyE dI) A (wE dI ad) rvI) (f_W_stop a1 s) (F0 m 0 ls []) s := by
  unfold f_W_stop
  refine gg_iload_n X 0 d_W_stop_0 rfl (lv_at hl 1 rfl) ?_
  refine gg_callS X 1 nwOk_E [.int a1] [] (fun _ _ h sz => M_W_isEnclave l D dI ad _ a1  h sz) (cwS 1 X.1.2.2.2.2 (gwS w_194 w_195 w_1 w_196) rfl rfl rfl (by decide +kernel) ⟨by decide, by decide⟩) rfl hl.1 rfl (Nat.le_of_ble_eq_true rfl) ⟨Nat.zero_le _, Nat.zero_le _⟩ d_W_stop_1 (fun r1 s2 ho3 => ?_)
  refine gg_show_i ?_
  refine gg_if_ne X 4 10 d_W_stop_4 rfl (fun _ => ?_) (fun _ => ?_)
  · refine gg_aload_n X 10 d_W_stop_10 rfl (lv_at hl 0 rfl) ?_
    refine gg_get_W_enclaves X 11 (Or.inl (List.mem_cons_of_mem _ w_83)) d_W_stop_11 ?_
    refine gg_iload_n X 14 d_W_stop_14 rfl (lv_at hl 1 rfl) ?_
    refine gg_ald_ENA X 15 d_W_stop_15 (fun hi4 => ?_)
    refine gg_get_V_state X 16 (ixb hi4) (Or.inr ⟨_, nw_9⟩) d_W_stop_16 ?_
    refine gg_iconst X 19 (2 : Int32) d_W_stop_19 (by decide) ?_
    refine gg_icmp_eq X 20 26 d_W_stop_20 rfl (fun _ => ?_) (fun _ => ?_)
    · refine gg_aload_n X 26 d_W_stop_26 rfl (lv_at hl 0 rfl) ?_
      refine gg_get_W_enclaves X 27 (Or.inl (List.mem_cons_of_mem _ w_83)) d_W_stop_27 ?_
      refine gg_iload_n X 30 d_W_stop_30 rfl (lv_at hl 1 rfl) ?_
      refine gg_ald_ENA X 31 d_W_stop_31 (fun hi5 => ?_)
      refine gg_iconst X 32 (3 : Int32) d_W_stop_32 (by decide) ?_
      refine gg_put_V_state X 33 (ixb hi5) (Or.inr ⟨_, nw_9⟩) d_W_stop_33 (fun s6 => ?_)
      refine gg_iconst X 36 (0 : Int32) d_W_stop_36 (by decide) ?_
      exact gg_iret X 37 d_W_stop_37
    · refine gg_bipush X 23 (-3 : Int32) d_W_stop_23 (by decide) ?_
      exact gg_iret X 25 d_W_stop_25
  · refine gg_bipush X 7 (-2 : Int32) d_W_stop_7 (by decide) ?_
    exact gg_iret X 9 d_W_stop_9
theorem M_W_stop (l : Launch) (D : va_G) (dI : Nat → ClassId) (ad : Nat → Nat) (s : eS) (a1 : Int32)  {r : Int32} {s' : eS} (h : f_W_stop a1 s = some (r, s')) (sz : Nat) : Met l y_W_stop (Cond.code y_W_stop prog_1_method_52_code 2 (some .int) :: WS) rm_W_stop (Px (wE dI ad) D vwCl (tyE dI) nwE sz s [.ref (ad 0), .int a1]) (Qx rvI (wE dI ad) D vwCl (tyE dI) (va_A ((wE dI ad) s) sz) r s') 0 0 (va_A ((wE dI ad) s) sz) :=
  met_of [.ref (ad 0), .int a1] (by decide) rfl rfl (Nat.le_of_ble_eq_true rfl) h (fun p e s0 m args below meth c A ls X hl => t_W_stop X a1 s ls  hl)
set_option maxHeartbeats 4000000 in
set_option maxRecDepth 100000 in
theorem t_W_free_2 {p : Program} {l : Launch} {e : Env} {s0 : State} {m : MethodId} {args : Array Value} {below : List Frame} {meth : Method} {c : Code} {D : va_G} {A : Nat → Prop} {dI : Nat → ClassId} {ad : Nat → Nat} (X : CX p s0 m args meth c D vwCl (tyE dI) nwE A prog_1_method_56_code 3 none (Cond.code y_W_free prog_1_method_56_code 3 none :: WS) R_W) : ∀ (fl : Nat) (x1 : Int32) (x2 : Int32) (s : eS) (ls : Array Slot), lv_has ls 3 [(0, .ref (ad 0)), (1, .int x1), (2, .int x2)] → GG p l e rm_W_free s0 m args below meth c D vwCl (tyE dI) A (wE dI ad) 0 0 (QM below args s0 D vwCl (tyE dI) A (wE dI ad) rvV) (f_W_free_2 fl x1 x2 s) (F0 m 2 ls []) s := by
  intro fl
  induction fl with
  | zero =>
    intro x1 x2 s ls hl
    rw [f_W_free_2]
    exact gg_none
  | succ fl ih =>
    intro x1 x2 s ls hl
    rw [f_W_free_2]
    refine gg_iload_n X 2 d_W_free_2 rfl (lv_at hl 2 rfl) ?_
    refine gg_bipush X 3 (16 : Int32) d_W_free_3 (by decide) ?_
    refine gg_icmp_ge X 5 26 d_W_free_5 rfl (fun _ => ?_) (fun _ => ?_)
    · refine gg_aload_n X 26 d_W_free_26 rfl (lv_at hl 0 rfl) ?_
      refine gg_get_W_kinds X 27 (Or.inl (List.mem_cons_of_mem _ w_82)) d_W_free_27 ?_
      refine gg_iload_n X 30 d_W_free_30 rfl (lv_at hl 1 rfl) ?_
      refine gg_iconst X 31 (0 : Int32) d_W_free_31 (by decide) ?_
      refine gg_ast_KIN X 32 d_W_free_32 (fun s1 => ?_)
      exact gg_vret X 33 d_W_free_33
    · refine gg_aload_n X 8 d_W_free_8 rfl (lv_at hl 0 rfl) ?_
      refine gg_get_W_memory X 9 (Or.inl (List.mem_cons_of_mem _ w_81)) d_W_free_9 ?_
      refine gg_iload_n X 12 d_W_free_12 rfl (lv_at hl 1 rfl) ?_
      refine gg_bipush X 13 (16 : Int32) d_W_free_13 (by decide) ?_
      refine gg_imul X 15 d_W_free_15 ?_
      refine gg_iload_n X 16 d_W_free_16 rfl (lv_at hl 2 rfl) ?_
      refine gg_iadd X 17 d_W_free_17 ?_
      refine gg_iconst X 18 (0 : Int32) d_W_free_18 (by decide) ?_
      refine gg_ast_MEM X 19 d_W_free_19 (fun s2 => ?_)
      refine gg_iinc X 20 (k := 2) (1 : Int32) (fun v3 => [(2, .int v3), (0, .ref (ad 0)), (1, .int x1)]) d_W_free_20 hl rfl (by decide) (by decide) (fun _ => rfl) (fun v3 ls hl => ?_)
      refine gg_goto X 23 2 d_W_free_23 rfl ?_
      exact ih x1 v3 s2 _  (lv_sub hl [1, 2, 0] rfl)
set_option maxHeartbeats 4000000 in
set_option maxRecDepth 100000 in
theorem t_W_free {p : Program} {l : Launch} {e : Env} {s0 : State} {m : MethodId} {args : Array Value} {below : List Frame} {meth : Method} {c : Code} {D : va_G} {A : Nat → Prop} {dI : Nat → ClassId} {ad : Nat → Nat} (X : CX p s0 m args meth c D vwCl (tyE dI) nwE A prog_1_method_56_code 3 none (Cond.code y_W_free prog_1_method_56_code 3 none :: WS) R_W) (a1 : Int32) (s : eS) (ls : Array Slot)  (hl : lv_has ls 3 [(0, .ref (ad 0)), (1, .int a1)]) : GG p l e rm_W_free s0 m args below meth c D vwCl (tyE dI) A (wE dI ad) 0 0 (QM below args s0 D vwCl (tyE dI) A (wE dI ad) rvV) (f_W_free a1 s) (F0 m 0 ls []) s := by
  unfold f_W_free
  refine gg_iconst X 0 (0 : Int32) d_W_free_0 (by decide) ?_
  refine gg_istore_n X 1 (fun v1 => [(2, .int v1), (0, .ref (ad 0)), (1, .int a1)]) d_W_free_1 rfl hl (by decide) (fun _ => rfl) (fun v1 ls hl => ?_)
  exact t_W_free_2 X fu a1 v1 s _  (lv_sub hl [1, 2, 0] rfl)
theorem M_W_free (l : Launch) (D : va_G) (dI : Nat → ClassId) (ad : Nat → Nat) (s : eS) (a1 : Int32)  {r : Unit} {s' : eS} (h : f_W_free a1 s = some (r, s')) (sz : Nat) : Met l y_W_free (Cond.code y_W_free prog_1_method_56_code 3 none :: WS) rm_W_free (Px (wE dI ad) D vwCl (tyE dI) nwE sz s [.ref (ad 0), .int a1]) (Qx rvV (wE dI ad) D vwCl (tyE dI) (va_A ((wE dI ad) s) sz) r s') 0 0 (va_A ((wE dI ad) s) sz) :=
  met_of [.ref (ad 0), .int a1] (by decide) rfl rfl (Nat.le_of_ble_eq_true rfl) h (fun p e s0 m args below meth c A ls X hl => t_W_free X a1 s ls  hl)
set_option maxHeartbeats 4000000 in
set_option maxRecDepth 100000 in
theorem t_W_destroy_29 {p : Program} {l : Launch} {e : Env} {s0 : State} {m : MethodId} {args : Array Value} {below : List Frame} {meth : Method} {c : Code} {D : va_G} {A : Nat → Prop} {dI : Nat → ClassId} {ad : Nat → Nat} (X : CX p s0 m args meth c D vwCl (tyE dI) nwE A prog_1_method_53_code 4 (some .int) (Cond.code y_W_destroy prog_1_method_53_code 4 (some .int) :: WS) R_W)  (s : eS) (ls : Array Slot)  (hl : lv_has ls 4 []) : GG p l e rm_W_destroy s0 m args below meth c D vwCl (tyE dI) A (wE dI ad) 0 0 (QM below args s0 D vwCl (tyE dI) A (wE dI ad) rvI) (f_W_destroy_29 s) (F0 m 29 ls []) s := by
  unfold f_W_destroy_29
  refine gg_bipush X 29 (-3 : Int32) d_W_destroy_29 (by decide) ?_
  exact gg_iret X 31 d_W_destroy_31
set_option maxHeartbeats 4000000 in
set_option maxRecDepth 100000 in
theorem t_W_destroy_34 {p : Program} {l : Launch} {e : Env} {s0 : State} {m : MethodId} {args : Array Value} {below : List Frame} {meth : Method} {c : Code} {D : va_G} {A : Nat → Prop} {dI : Nat → ClassId} {ad : Nat → Nat} (X : CX p s0 m args meth c D vwCl (tyE dI) nwE A prog_1_method_53_code 4 (some .int) (Cond.code y_W_destroy prog_1_method_53_code 4 (some .int) :: WS) R_W) : ∀ (fl : Nat) (x1 : Int32) (x3 : Int32) (s : eS) (ls : Array Slot), lv_has ls 4 [(0, .ref (ad 0)), (1, .int x1), (3, .int x3)] → GG p l e rm_W_destroy s0 m args below meth c D vwCl (tyE dI) A (wE dI ad) 0 0 (QM below args s0 D vwCl (tyE dI) A (wE dI ad) rvI) (f_W_destroy_34 fl x1 x3 s) (F0 m 34 ls []) s := by
  intro fl
  induction fl with
  | zero =>
    intro x1 x3 s ls hl
    rw [f_W_destroy_34]
    exact gg_none
  | succ fl ih =>
    intro x1 x3 s ls hl
    rw [f_W_destroy_34]
    refine gg_iload_n X 34 d_W_destroy_34 rfl (lv_at hl 2 rfl) ?_
    refine gg_bipush X 35 (16 : Int32) d_W_destroy_35 (by decide) ?_
    refine gg_icmp_ge X 37 85 d_W_destroy_37 rfl (fun _ => ?_) (fun _ => ?_)
    · refine gg_aload_n X 85 d_W_destroy_85 rfl (lv_at hl 0 rfl) ?_
      refine gg_get_W_enclaves X 86 (Or.inl (List.mem_cons_of_mem _ w_83)) d_W_destroy_86 ?_
      refine gg_iload_n X 89 d_W_destroy_89 rfl (lv_at hl 1 rfl) ?_
      refine gg_ald_ENA X 90 d_W_destroy_90 (fun hi1 => ?_)
      refine gg_iconst X 91 (0 : Int32) d_W_destroy_91 (by decide) ?_
      refine gg_callVN X 92 nwOk_E [.int (0 : Int32)] [] (fun _ _ h sz => M_V_become l D dI ad _ (Int32.toNatClampNeg x1) (0 : Int32) (ixb hi1) h sz) (⟨va_cnB 1 X.1.2.2.2.2 (gwB w_60) rfl rfl rfl (X.2.2.2.2.2 _ nw_15) (X.1.2.2.2.2 _ (List.mem_cons_of_mem _ w_2)) (by decide +kernel) ⟨by decide, by decide⟩, X.1.2.2.2.2 _ (List.mem_cons_of_mem _ w_59), X.1.2.2.2.2 _ (List.mem_cons_of_mem _ ws_V_become)⟩) (he_E_Enc (ixb hi1)) rfl rfl hl.1 rfl (Nat.le_of_ble_eq_true rfl) ⟨Nat.zero_le _, Nat.zero_le _⟩ d_W_destroy_92 (fun r2 s3 ho4 => ?_)
      refine gg_show_v ?_
      refine gg_iconst X 95 (0 : Int32) d_W_destroy_95 (by decide) ?_
      exact gg_iret X 96 d_W_destroy_96
    · refine gg_aload_n X 40 d_W_destroy_40 rfl (lv_at hl 0 rfl) ?_
      refine gg_get_W_kinds X 41 (Or.inl (List.mem_cons_of_mem _ w_82)) d_W_destroy_41 ?_
      refine gg_iload_n X 44 d_W_destroy_44 rfl (lv_at hl 2 rfl) ?_
      refine gg_ald_KIN X 45 d_W_destroy_45 ?_
      refine gg_iconst X 46 (2 : Int32) d_W_destroy_46 (by decide) ?_
      refine gg_iload_n X 47 d_W_destroy_47 rfl (lv_at hl 1 rfl) ?_
      refine gg_iadd X 48 d_W_destroy_48 ?_
      refine gg_icmp_ne X 49 60 d_W_destroy_49 rfl (fun _ => ?_) (fun _ => ?_)
      · refine gg_aload_n X 60 d_W_destroy_60 rfl (lv_at hl 0 rfl) ?_
        refine gg_get_W_kinds X 61 (Or.inl (List.mem_cons_of_mem _ w_82)) d_W_destroy_61 ?_
        refine gg_iload_n X 64 d_W_destroy_64 rfl (lv_at hl 2 rfl) ?_
        refine gg_ald_KIN X 65 d_W_destroy_65 ?_
        refine gg_iconst X 66 (5 : Int32) d_W_destroy_66 (by decide) ?_
        refine gg_iload_n X 67 d_W_destroy_67 rfl (lv_at hl 1 rfl) ?_
        refine gg_iadd X 68 d_W_destroy_68 ?_
        refine gg_icmp_ne X 69 79 d_W_destroy_69 rfl (fun _ => ?_) (fun _ => ?_)
        · refine gg_iinc X 79 (k := 2) (1 : Int32) (fun v5 => [(3, .int v5), (0, .ref (ad 0)), (1, .int x1)]) d_W_destroy_79 hl rfl (by decide) (by decide) (fun _ => rfl) (fun v5 ls hl => ?_)
          refine gg_goto X 82 34 d_W_destroy_82 rfl ?_
          exact ih x1 v5 s _  (lv_sub hl [1, 2, 0] rfl)
        · refine gg_aload_n X 72 d_W_destroy_72 rfl (lv_at hl 0 rfl) ?_
          refine gg_get_W_kinds X 73 (Or.inl (List.mem_cons_of_mem _ w_82)) d_W_destroy_73 ?_
          refine gg_iload_n X 76 d_W_destroy_76 rfl (lv_at hl 2 rfl) ?_
          refine gg_iconst X 77 (1 : Int32) d_W_destroy_77 (by decide) ?_
          refine gg_ast_KIN X 78 d_W_destroy_78 (fun s6 => ?_)
          refine gg_iinc X 79 (k := 2) (1 : Int32) (fun v7 => [(3, .int v7), (0, .ref (ad 0)), (1, .int x1)]) d_W_destroy_79 hl rfl (by decide) (by decide) (fun _ => rfl) (fun v7 ls hl => ?_)
          refine gg_goto X 82 34 d_W_destroy_82 rfl ?_
          exact ih x1 v7 s6 _  (lv_sub hl [1, 2, 0] rfl)
      · refine gg_aload_n X 52 d_W_destroy_52 rfl (lv_at hl 0 rfl) ?_
        refine gg_iload_n X 53 d_W_destroy_53 rfl (lv_at hl 2 rfl) ?_
        refine gg_callV X 54 nwOk_E [.int x3] [] (fun _ _ h sz => M_W_free l D dI ad _ x3  h sz) (cwV 1 X.1.2.2.2.2 (gwV w_249 w_251 ws_W_free w_1 w_252) rfl rfl rfl (by decide +kernel) ⟨by decide, by decide⟩) (he_E_Main) rfl rfl hl.1 rfl (Nat.le_of_ble_eq_true rfl) ⟨Nat.zero_le _, Nat.zero_le _⟩ d_W_destroy_54 (fun r8 s9 ho10 => ?_)
        refine gg_show_v ?_
        refine gg_goto X 57 79 d_W_destroy_57 rfl ?_
        refine gg_iinc X 79 (k := 2) (1 : Int32) (fun v11 => [(3, .int v11), (0, .ref (ad 0)), (1, .int x1)]) d_W_destroy_79 hl rfl (by decide) (by decide) (fun _ => rfl) (fun v11 ls hl => ?_)
        refine gg_goto X 82 34 d_W_destroy_82 rfl ?_
        exact ih x1 v11 s9 _  (lv_sub hl [1, 2, 0] rfl)
set_option maxHeartbeats 4000000 in
set_option maxRecDepth 100000 in
theorem t_W_destroy {p : Program} {l : Launch} {e : Env} {s0 : State} {m : MethodId} {args : Array Value} {below : List Frame} {meth : Method} {c : Code} {D : va_G} {A : Nat → Prop} {dI : Nat → ClassId} {ad : Nat → Nat} (X : CX p s0 m args meth c D vwCl (tyE dI) nwE A prog_1_method_53_code 4 (some .int) (Cond.code y_W_destroy prog_1_method_53_code 4 (some .int) :: WS) R_W) (a1 : Int32) (s : eS) (ls : Array Slot)  (hl : lv_has ls 4 [(0, .ref (ad 0)), (1, .int a1)]) : GG p l e rm_W_destroy s0 m args below meth c D vwCl (tyE dI) A (wE dI ad) 0 0 (QM below args s0 D vwCl (tyE dI) A (wE dI ad) rvI) (f_W_destroy a1 s) (F0 m 0 ls []) s := by
  unfold f_W_destroy
  refine gg_iload_n X 0 d_W_destroy_0 rfl (lv_at hl 1 rfl) ?_
  refine gg_callS X 1 nwOk_E [.int a1] [] (fun _ _ h sz => M_W_isEnclave l D dI ad _ a1  h sz) (cwS 1 X.1.2.2.2.2 (gwS w_194 w_195 w_1 w_196) rfl rfl rfl (by decide +kernel) ⟨by decide, by decide⟩) rfl hl.1 rfl (Nat.le_of_ble_eq_true rfl) ⟨Nat.zero_le _, Nat.zero_le _⟩ d_W_destroy_1 (fun r1 s2 ho3 => ?_)
  refine gg_show_i ?_
  refine gg_if_ne X 4 10 d_W_destroy_4 rfl (fun _ => ?_) (fun _ => ?_)
  · refine gg_aload_n X 10 d_W_destroy_10 rfl (lv_at hl 0 rfl) ?_
    refine gg_get_W_enclaves X 11 (Or.inl (List.mem_cons_of_mem _ w_83)) d_W_destroy_11 ?_
    refine gg_iload_n X 14 d_W_destroy_14 rfl (lv_at hl 1 rfl) ?_
    refine gg_ald_ENA X 15 d_W_destroy_15 (fun hi4 => ?_)
    refine gg_get_V_state X 16 (ixb hi4) (Or.inr ⟨_, nw_9⟩) d_W_destroy_16 ?_
    refine gg_istore_n X 19 (fun v5 => [(2, .int v5), (0, .ref (ad 0)), (1, .int a1)]) d_W_destroy_19 rfl hl (by decide) (fun _ => rfl) (fun v5 ls hl => ?_)
    refine gg_iload_n X 20 d_W_destroy_20 rfl (lv_at hl 0 rfl) ?_
    refine gg_if_eq X 21 29 d_W_destroy_21 rfl (fun _ => ?_) (fun _ => ?_)
    · exact t_W_destroy_29 X s2 _  (lv_sub hl [] rfl)
    · refine gg_iload_n X 24 d_W_destroy_24 rfl (lv_at hl 0 rfl) ?_
      refine gg_iconst X 25 (2 : Int32) d_W_destroy_25 (by decide) ?_
      refine gg_icmp_ne X 26 32 d_W_destroy_26 rfl (fun _ => ?_) (fun _ => ?_)
      · refine gg_iconst X 32 (0 : Int32) d_W_destroy_32 (by decide) ?_
        refine gg_istore_n X 33 (fun v6 => [(3, .int v6), (2, .int v5), (0, .ref (ad 0)), (1, .int a1)]) d_W_destroy_33 rfl hl (by decide) (fun _ => rfl) (fun v6 ls hl => ?_)
        exact t_W_destroy_34 X fu a1 v6 s2 _  (lv_sub hl [2, 3, 0] rfl)
      · exact t_W_destroy_29 X s2 _  (lv_sub hl [] rfl)
  · refine gg_bipush X 7 (-2 : Int32) d_W_destroy_7 (by decide) ?_
    exact gg_iret X 9 d_W_destroy_9
theorem M_W_destroy (l : Launch) (D : va_G) (dI : Nat → ClassId) (ad : Nat → Nat) (s : eS) (a1 : Int32)  {r : Int32} {s' : eS} (h : f_W_destroy a1 s = some (r, s')) (sz : Nat) : Met l y_W_destroy (Cond.code y_W_destroy prog_1_method_53_code 4 (some .int) :: WS) rm_W_destroy (Px (wE dI ad) D vwCl (tyE dI) nwE sz s [.ref (ad 0), .int a1]) (Qx rvI (wE dI ad) D vwCl (tyE dI) (va_A ((wE dI ad) s) sz) r s') 0 0 (va_A ((wE dI ad) s) sz) :=
  met_of [.ref (ad 0), .int a1] (by decide) rfl rfl (Nat.le_of_ble_eq_true rfl) h (fun p e s0 m args below meth c A ls X hl => t_W_destroy X a1 s ls  hl)
end
section
set_option maxHeartbeats 4000000 in
set_option maxRecDepth 100000 in
theorem t_W_claim {p : Program} {l : Launch} {e : Env} {s0 : State} {m : MethodId} {args : Array Value} {below : List Frame} {meth : Method} {c : Code} {D : va_G} {A : Nat → Prop} {dI : Nat → ClassId} {ad : Nat → Nat} (X : CX p s0 m args meth c D vwCl (tyE dI) nwE A prog_1_method_54_code 2 (some .int) (Cond.code y_W_claim prog_1_method_54_code 2 (some .int) :: WS) R_W) (a1 : Int32) (s : eS) (ls : Array Slot)  (hl : lv_has ls 2 [(0, .ref (ad 0)), (1, .int a1)]) : GG p l e rm_W_claim s0 m args below meth c D vwCl (tyE dI) A (wE dI ad) 0 0 (QM below args s0 D vwCl (tyE dI) A (wE dI ad) rvI) (f_W_claim a1 s) (F0 m 0 ls []) s := by
  unfold f_W_claim
  refine gg_iload_n X 0 d_W_claim_0 rfl (lv_at hl 1 rfl) ?_
  refine gg_callS X 1 nwOk_E [.int a1] [] (fun _ _ h sz => M_W_isRegion l D dI ad _ a1  h sz) (cwS 1 X.1.2.2.2.2 (gwS w_170 w_171 w_1 w_172) rfl rfl rfl (by decide +kernel) ⟨by decide, by decide⟩) rfl hl.1 rfl (Nat.le_of_ble_eq_true rfl) ⟨Nat.zero_le _, Nat.zero_le _⟩ d_W_claim_1 (fun r1 s2 ho3 => ?_)
  refine gg_show_i ?_
  refine gg_if_ne X 4 10 d_W_claim_4 rfl (fun _ => ?_) (fun _ => ?_)
  · refine gg_aload_n X 10 d_W_claim_10 rfl (lv_at hl 0 rfl) ?_
    refine gg_get_W_kinds X 11 (Or.inl (List.mem_cons_of_mem _ w_82)) d_W_claim_11 ?_
    refine gg_iload_n X 14 d_W_claim_14 rfl (lv_at hl 1 rfl) ?_
    refine gg_ald_KIN X 15 d_W_claim_15 ?_
    refine gg_if_eq X 16 22 d_W_claim_16 rfl (fun _ => ?_) (fun _ => ?_)
    · refine gg_aload_n X 22 d_W_claim_22 rfl (lv_at hl 0 rfl) ?_
      refine gg_get_W_kinds X 23 (Or.inl (List.mem_cons_of_mem _ w_82)) d_W_claim_23 ?_
      refine gg_iload_n X 26 d_W_claim_26 rfl (lv_at hl 1 rfl) ?_
      refine gg_iconst X 27 (1 : Int32) d_W_claim_27 (by decide) ?_
      refine gg_ast_KIN X 28 d_W_claim_28 (fun s4 => ?_)
      refine gg_iconst X 29 (0 : Int32) d_W_claim_29 (by decide) ?_
      exact gg_iret X 30 d_W_claim_30
    · refine gg_bipush X 19 (-4 : Int32) d_W_claim_19 (by decide) ?_
      exact gg_iret X 21 d_W_claim_21
  · refine gg_bipush X 7 (-2 : Int32) d_W_claim_7 (by decide) ?_
    exact gg_iret X 9 d_W_claim_9
theorem M_W_claim (l : Launch) (D : va_G) (dI : Nat → ClassId) (ad : Nat → Nat) (s : eS) (a1 : Int32)  {r : Int32} {s' : eS} (h : f_W_claim a1 s = some (r, s')) (sz : Nat) : Met l y_W_claim (Cond.code y_W_claim prog_1_method_54_code 2 (some .int) :: WS) rm_W_claim (Px (wE dI ad) D vwCl (tyE dI) nwE sz s [.ref (ad 0), .int a1]) (Qx rvI (wE dI ad) D vwCl (tyE dI) (va_A ((wE dI ad) s) sz) r s') 0 0 (va_A ((wE dI ad) s) sz) :=
  met_of [.ref (ad 0), .int a1] (by decide) rfl rfl (Nat.le_of_ble_eq_true rfl) h (fun p e s0 m args below meth c A ls X hl => t_W_claim X a1 s ls  hl)
set_option maxHeartbeats 4000000 in
set_option maxRecDepth 100000 in
theorem t_W_giveUp {p : Program} {l : Launch} {e : Env} {s0 : State} {m : MethodId} {args : Array Value} {below : List Frame} {meth : Method} {c : Code} {D : va_G} {A : Nat → Prop} {dI : Nat → ClassId} {ad : Nat → Nat} (X : CX p s0 m args meth c D vwCl (tyE dI) nwE A prog_1_method_55_code 2 (some .int) (Cond.code y_W_giveUp prog_1_method_55_code 2 (some .int) :: WS) R_W) (a1 : Int32) (s : eS) (ls : Array Slot)  (hl : lv_has ls 2 [(0, .ref (ad 0)), (1, .int a1)]) : GG p l e rm_W_giveUp s0 m args below meth c D vwCl (tyE dI) A (wE dI ad) 0 0 (QM below args s0 D vwCl (tyE dI) A (wE dI ad) rvI) (f_W_giveUp a1 s) (F0 m 0 ls []) s := by
  unfold f_W_giveUp
  refine gg_iload_n X 0 d_W_giveUp_0 rfl (lv_at hl 1 rfl) ?_
  refine gg_callS X 1 nwOk_E [.int a1] [] (fun _ _ h sz => M_W_isRegion l D dI ad _ a1  h sz) (cwS 1 X.1.2.2.2.2 (gwS w_170 w_171 w_1 w_172) rfl rfl rfl (by decide +kernel) ⟨by decide, by decide⟩) rfl hl.1 rfl (Nat.le_of_ble_eq_true rfl) ⟨Nat.zero_le _, Nat.zero_le _⟩ d_W_giveUp_1 (fun r1 s2 ho3 => ?_)
  refine gg_show_i ?_
  refine gg_if_ne X 4 10 d_W_giveUp_4 rfl (fun _ => ?_) (fun _ => ?_)
  · refine gg_aload_n X 10 d_W_giveUp_10 rfl (lv_at hl 0 rfl) ?_
    refine gg_get_W_kinds X 11 (Or.inl (List.mem_cons_of_mem _ w_82)) d_W_giveUp_11 ?_
    refine gg_iload_n X 14 d_W_giveUp_14 rfl (lv_at hl 1 rfl) ?_
    refine gg_ald_KIN X 15 d_W_giveUp_15 ?_
    refine gg_iconst X 16 (1 : Int32) d_W_giveUp_16 (by decide) ?_
    refine gg_icmp_eq X 17 23 d_W_giveUp_17 rfl (fun _ => ?_) (fun _ => ?_)
    · refine gg_aload_n X 23 d_W_giveUp_23 rfl (lv_at hl 0 rfl) ?_
      refine gg_iload_n X 24 d_W_giveUp_24 rfl (lv_at hl 1 rfl) ?_
      refine gg_callV X 25 nwOk_E [.int a1] [] (fun _ _ h sz => M_W_free l D dI ad _ a1  h sz) (cwV 1 X.1.2.2.2.2 (gwV w_249 w_251 ws_W_free w_1 w_252) rfl rfl rfl (by decide +kernel) ⟨by decide, by decide⟩) (he_E_Main) rfl rfl hl.1 rfl (Nat.le_of_ble_eq_true rfl) ⟨Nat.zero_le _, Nat.zero_le _⟩ d_W_giveUp_25 (fun r4 s5 ho6 => ?_)
      refine gg_show_v ?_
      refine gg_iconst X 28 (0 : Int32) d_W_giveUp_28 (by decide) ?_
      exact gg_iret X 29 d_W_giveUp_29
    · refine gg_bipush X 20 (-4 : Int32) d_W_giveUp_20 (by decide) ?_
      exact gg_iret X 22 d_W_giveUp_22
  · refine gg_bipush X 7 (-2 : Int32) d_W_giveUp_7 (by decide) ?_
    exact gg_iret X 9 d_W_giveUp_9
theorem M_W_giveUp (l : Launch) (D : va_G) (dI : Nat → ClassId) (ad : Nat → Nat) (s : eS) (a1 : Int32)  {r : Int32} {s' : eS} (h : f_W_giveUp a1 s = some (r, s')) (sz : Nat) : Met l y_W_giveUp (Cond.code y_W_giveUp prog_1_method_55_code 2 (some .int) :: WS) rm_W_giveUp (Px (wE dI ad) D vwCl (tyE dI) nwE sz s [.ref (ad 0), .int a1]) (Qx rvI (wE dI ad) D vwCl (tyE dI) (va_A ((wE dI ad) s) sz) r s') 0 0 (va_A ((wE dI ad) s) sz) :=
  met_of [.ref (ad 0), .int a1] (by decide) rfl rfl (Nat.le_of_ble_eq_true rfl) h (fun p e s0 m args below meth c A ls X hl => t_W_giveUp X a1 s ls  hl)
set_option maxHeartbeats 4000000 in
set_option maxRecDepth 100000 in
theorem t_W_systemCall {p : Program} {l : Launch} {e : Env} {s0 : State} {m : MethodId} {args : Array Value} {below : List Frame} {meth : Method} {c : Code} {D : va_G} {A : Nat → Prop} {dI : Nat → ClassId} {ad : Nat → Nat} (X : CX p s0 m args meth c D vwCl (tyE dI) nwE A prog_1_method_39_code 5 (some .int) (Cond.code y_W_systemCall prog_1_method_39_code 5 (some .int) :: WS) R_W) (a1 : Int32) (a2 : Int32) (a3 : Int32) (a4 : Int32) (s : eS) (ls : Array Slot)  (hl : lv_has ls 5 [(0, .ref (ad 0)), (1, .int a1), (2, .int a2), (3, .int a3), (4, .int a4)]) : GG p l e rm_W_systemCall s0 m args below meth c D vwCl (tyE dI) A (wE dI ad) 0 0 (QM below args s0 D vwCl (tyE dI) A (wE dI ad) rvI) (f_W_systemCall a1 a2 a3 a4 s) (F0 m 0 ls []) s := by
  unfold f_W_systemCall
  refine gg_iload_n X 0 d_W_systemCall_0 rfl (lv_at hl 1 rfl) ?_
  refine gg_eqc (fun h1 => ?_) (fun h1 => ?_)
  · refine gg_tin X 1 60 d_W_systemCall_1 h1 (by decide) (by decide) rfl rfl ?_
    refine gg_aload_n X 60 d_W_systemCall_60 rfl (lv_at hl 0 rfl) ?_
    refine gg_iload_n X 61 d_W_systemCall_61 rfl (lv_at hl 2 rfl) ?_
    refine gg_iload_n X 62 d_W_systemCall_62 rfl (lv_at hl 3 rfl) ?_
    refine gg_callV X 63 nwOk_E [.int a2, .int a3] [] (fun _ _ h sz => M_W_create l D dI ad _ a2 a3  h sz) (cwV 2 X.1.2.2.2.2 (gwV w_166 w_168 ws_W_create w_1 w_169) rfl rfl rfl (by decide +kernel) ⟨by decide, by decide⟩) (he_E_Main) rfl rfl hl.1 rfl (Nat.le_of_ble_eq_true rfl) ⟨Nat.zero_le _, Nat.zero_le _⟩ d_W_systemCall_63 (fun r2 s3 ho4 => ?_)
    refine gg_show_i ?_
    exact gg_iret X 66 d_W_systemCall_66
  refine gg_eqc (fun h5 => ?_) (fun h5 => ?_)
  · refine gg_tin X 1 67 d_W_systemCall_1 h5 (by decide) (by decide) rfl rfl ?_
    refine gg_aload_n X 67 d_W_systemCall_67 rfl (lv_at hl 0 rfl) ?_
    refine gg_iload_n X 68 d_W_systemCall_68 rfl (lv_at hl 2 rfl) ?_
    refine gg_iload_n X 69 d_W_systemCall_69 rfl (lv_at hl 3 rfl) ?_
    refine gg_iload X 70 d_W_systemCall_70 (lv_at hl 4 rfl) ?_
    refine gg_callV X 72 nwOk_E [.int a2, .int a3, .int a4] [] (fun _ _ h sz => M_W_load l D dI ad _ a2 a3 a4  h sz) (cwV 3 X.1.2.2.2.2 (gwV w_190 w_192 ws_W_load w_1 w_193) rfl rfl rfl (by decide +kernel) ⟨by decide, by decide⟩) (he_E_Main) rfl rfl hl.1 rfl (Nat.le_of_ble_eq_true rfl) ⟨Nat.zero_le _, Nat.zero_le _⟩ d_W_systemCall_72 (fun r6 s7 ho8 => ?_)
    refine gg_show_i ?_
    exact gg_iret X 75 d_W_systemCall_75
  refine gg_eqc (fun h9 => ?_) (fun h9 => ?_)
  · refine gg_tin X 1 76 d_W_systemCall_1 h9 (by decide) (by decide) rfl rfl ?_
    refine gg_aload_n X 76 d_W_systemCall_76 rfl (lv_at hl 0 rfl) ?_
    refine gg_iload_n X 77 d_W_systemCall_77 rfl (lv_at hl 2 rfl) ?_
    refine gg_iload_n X 78 d_W_systemCall_78 rfl (lv_at hl 3 rfl) ?_
    refine gg_callV X 79 nwOk_E [.int a2, .int a3] [] (fun _ _ h sz => M_W_addThread l D dI ad _ a2 a3  h sz) (cwV 2 X.1.2.2.2.2 (gwV w_197 w_199 ws_W_addThread w_1 w_200) rfl rfl rfl (by decide +kernel) ⟨by decide, by decide⟩) (he_E_Main) rfl rfl hl.1 rfl (Nat.le_of_ble_eq_true rfl) ⟨Nat.zero_le _, Nat.zero_le _⟩ d_W_systemCall_79 (fun r10 s11 ho12 => ?_)
    refine gg_show_i ?_
    exact gg_iret X 82 d_W_systemCall_82
  refine gg_eqc (fun h13 => ?_) (fun h13 => ?_)
  · refine gg_tin X 1 83 d_W_systemCall_1 h13 (by decide) (by decide) rfl rfl ?_
    refine gg_aload_n X 83 d_W_systemCall_83 rfl (lv_at hl 0 rfl) ?_
    refine gg_iload_n X 84 d_W_systemCall_84 rfl (lv_at hl 2 rfl) ?_
    refine gg_callV X 85 nwOk_E [.int a2] [] (fun _ _ h sz => M_W_seal l D dI ad _ a2  h sz) (cwV 1 X.1.2.2.2.2 (gwV w_205 w_207 ws_W_seal w_1 w_208) rfl rfl rfl (by decide +kernel) ⟨by decide, by decide⟩) (he_E_Main) rfl rfl hl.1 rfl (Nat.le_of_ble_eq_true rfl) ⟨Nat.zero_le _, Nat.zero_le _⟩ d_W_systemCall_85 (fun r14 s15 ho16 => ?_)
    refine gg_show_i ?_
    exact gg_iret X 88 d_W_systemCall_88
  refine gg_eqc (fun h17 => ?_) (fun h17 => ?_)
  · refine gg_tin X 1 89 d_W_systemCall_1 h17 (by decide) (by decide) rfl rfl ?_
    refine gg_aload_n X 89 d_W_systemCall_89 rfl (lv_at hl 0 rfl) ?_
    refine gg_iload_n X 90 d_W_systemCall_90 rfl (lv_at hl 2 rfl) ?_
    refine gg_iload_n X 91 d_W_systemCall_91 rfl (lv_at hl 3 rfl) ?_
    refine gg_callV X 92 nwOk_E [.int a2, .int a3] [] (fun _ _ h sz => M_W_share l D dI ad _ a2 a3  h sz) (cwV 2 X.1.2.2.2.2 (gwV w_209 w_211 ws_W_share w_1 w_212) rfl rfl rfl (by decide +kernel) ⟨by decide, by decide⟩) (he_E_Main) rfl rfl hl.1 rfl (Nat.le_of_ble_eq_true rfl) ⟨Nat.zero_le _, Nat.zero_le _⟩ d_W_systemCall_92 (fun r18 s19 ho20 => ?_)
    refine gg_show_i ?_
    exact gg_iret X 95 d_W_systemCall_95
  refine gg_eqc (fun h21 => ?_) (fun h21 => ?_)
  · refine gg_tin X 1 96 d_W_systemCall_1 h21 (by decide) (by decide) rfl rfl ?_
    refine gg_aload_n X 96 d_W_systemCall_96 rfl (lv_at hl 0 rfl) ?_
    refine gg_iload_n X 97 d_W_systemCall_97 rfl (lv_at hl 2 rfl) ?_
    refine gg_iload_n X 98 d_W_systemCall_98 rfl (lv_at hl 3 rfl) ?_
    refine gg_iload X 99 d_W_systemCall_99 (lv_at hl 4 rfl) ?_
    refine gg_callV X 101 nwOk_E [.int a2, .int a3, .int a4] [] (fun _ _ h sz => M_W_enter l D dI ad _ a2 a3 a4  h sz) (cwV 3 X.1.2.2.2.2 (gwV w_217 w_219 ws_W_enter w_1 w_220) rfl rfl rfl (by decide +kernel) ⟨by decide, by decide⟩) (he_E_Main) rfl rfl hl.1 rfl (Nat.le_of_ble_eq_true rfl) ⟨Nat.zero_le _, Nat.zero_le _⟩ d_W_systemCall_101 (fun r22 s23 ho24 => ?_)
    refine gg_show_i ?_
    exact gg_iret X 104 d_W_systemCall_104
  refine gg_eqc (fun h25 => ?_) (fun h25 => ?_)
  · refine gg_tin X 1 105 d_W_systemCall_1 h25 (by decide) (by decide) rfl rfl ?_
    refine gg_aload_n X 105 d_W_systemCall_105 rfl (lv_at hl 0 rfl) ?_
    refine gg_iload_n X 106 d_W_systemCall_106 rfl (lv_at hl 2 rfl) ?_
    refine gg_iload_n X 107 d_W_systemCall_107 rfl (lv_at hl 3 rfl) ?_
    refine gg_callV X 108 nwOk_E [.int a2, .int a3] [] (fun _ _ h sz => M_W_resume l D dI ad _ a2 a3  h sz) (cwV 2 X.1.2.2.2.2 (gwV w_237 w_239 ws_W_resume w_1 w_240) rfl rfl rfl (by decide +kernel) ⟨by decide, by decide⟩) (he_E_Main) rfl rfl hl.1 rfl (Nat.le_of_ble_eq_true rfl) ⟨Nat.zero_le _, Nat.zero_le _⟩ d_W_systemCall_108 (fun r26 s27 ho28 => ?_)
    refine gg_show_i ?_
    exact gg_iret X 111 d_W_systemCall_111
  refine gg_eqc (fun h29 => ?_) (fun h29 => ?_)
  · refine gg_tin X 1 112 d_W_systemCall_1 h29 (by decide) (by decide) rfl rfl ?_
    refine gg_aload_n X 112 d_W_systemCall_112 rfl (lv_at hl 0 rfl) ?_
    refine gg_iload_n X 113 d_W_systemCall_113 rfl (lv_at hl 2 rfl) ?_
    refine gg_callV X 114 nwOk_E [.int a2] [] (fun _ _ h sz => M_W_stop l D dI ad _ a2  h sz) (cwV 1 X.1.2.2.2.2 (gwV w_241 w_243 ws_W_stop w_1 w_244) rfl rfl rfl (by decide +kernel) ⟨by decide, by decide⟩) (he_E_Main) rfl rfl hl.1 rfl (Nat.le_of_ble_eq_true rfl) ⟨Nat.zero_le _, Nat.zero_le _⟩ d_W_systemCall_114 (fun r30 s31 ho32 => ?_)
    refine gg_show_i ?_
    exact gg_iret X 117 d_W_systemCall_117
  refine gg_eqc (fun h33 => ?_) (fun h33 => ?_)
  · refine gg_tin X 1 118 d_W_systemCall_1 h33 (by decide) (by decide) rfl rfl ?_
    refine gg_aload_n X 118 d_W_systemCall_118 rfl (lv_at hl 0 rfl) ?_
    refine gg_iload_n X 119 d_W_systemCall_119 rfl (lv_at hl 2 rfl) ?_
    refine gg_callV X 120 nwOk_E [.int a2] [] (fun _ _ h sz => M_W_destroy l D dI ad _ a2  h sz) (cwV 1 X.1.2.2.2.2 (gwV w_245 w_247 ws_W_destroy w_1 w_248) rfl rfl rfl (by decide +kernel) ⟨by decide, by decide⟩) (he_E_Main) rfl rfl hl.1 rfl (Nat.le_of_ble_eq_true rfl) ⟨Nat.zero_le _, Nat.zero_le _⟩ d_W_systemCall_120 (fun r34 s35 ho36 => ?_)
    refine gg_show_i ?_
    exact gg_iret X 123 d_W_systemCall_123
  refine gg_eqc (fun h37 => ?_) (fun h37 => ?_)
  · refine gg_tin X 1 124 d_W_systemCall_1 h37 (by decide) (by decide) rfl rfl ?_
    refine gg_aload_n X 124 d_W_systemCall_124 rfl (lv_at hl 0 rfl) ?_
    refine gg_iload_n X 125 d_W_systemCall_125 rfl (lv_at hl 2 rfl) ?_
    refine gg_callV X 126 nwOk_E [.int a2] [] (fun _ _ h sz => M_W_claim l D dI ad _ a2  h sz) (cwV 1 X.1.2.2.2.2 (gwV w_253 w_255 ws_W_claim w_1 w_256) rfl rfl rfl (by decide +kernel) ⟨by decide, by decide⟩) (he_E_Main) rfl rfl hl.1 rfl (Nat.le_of_ble_eq_true rfl) ⟨Nat.zero_le _, Nat.zero_le _⟩ d_W_systemCall_126 (fun r38 s39 ho40 => ?_)
    refine gg_show_i ?_
    exact gg_iret X 129 d_W_systemCall_129
  refine gg_eqc (fun h41 => ?_) (fun h41 => ?_)
  · refine gg_tin X 1 130 d_W_systemCall_1 h41 (by decide) (by decide) rfl rfl ?_
    refine gg_aload_n X 130 d_W_systemCall_130 rfl (lv_at hl 0 rfl) ?_
    refine gg_iload_n X 131 d_W_systemCall_131 rfl (lv_at hl 2 rfl) ?_
    refine gg_callV X 132 nwOk_E [.int a2] [] (fun _ _ h sz => M_W_giveUp l D dI ad _ a2  h sz) (cwV 1 X.1.2.2.2.2 (gwV w_257 w_259 ws_W_giveUp w_1 w_260) rfl rfl rfl (by decide +kernel) ⟨by decide, by decide⟩) (he_E_Main) rfl rfl hl.1 rfl (Nat.le_of_ble_eq_true rfl) ⟨Nat.zero_le _, Nat.zero_le _⟩ d_W_systemCall_132 (fun r42 s43 ho44 => ?_)
    refine gg_show_i ?_
    exact gg_iret X 135 d_W_systemCall_135
  refine gg_tout X 1 136 d_W_systemCall_1 (by have q0 := lv_neT (a := 1) h1 (by decide); have q1 := lv_neT (a := 2) h5 (by decide); have q2 := lv_neT (a := 3) h9 (by decide); have q3 := lv_neT (a := 4) h13 (by decide); have q4 := lv_neT (a := 5) h17 (by decide); have q5 := lv_neT (a := 6) h21 (by decide); have q6 := lv_neT (a := 7) h25 (by decide); have q7 := lv_neT (a := 8) h29 (by decide); have q8 := lv_neT (a := 9) h33 (by decide); have q9 := lv_neT (a := 10) h37 (by decide); have q10 := lv_neT (a := 11) h41 (by decide); omega) rfl ?_
  refine gg_iconst X 136 (-1 : Int32) d_W_systemCall_136 (by decide) ?_
  exact gg_iret X 137 d_W_systemCall_137
theorem M_W_systemCall (l : Launch) (D : va_G) (dI : Nat → ClassId) (ad : Nat → Nat) (s : eS) (a1 : Int32) (a2 : Int32) (a3 : Int32) (a4 : Int32)  {r : Int32} {s' : eS} (h : f_W_systemCall a1 a2 a3 a4 s = some (r, s')) (sz : Nat) : Met l y_W_systemCall (Cond.code y_W_systemCall prog_1_method_39_code 5 (some .int) :: WS) rm_W_systemCall (Px (wE dI ad) D vwCl (tyE dI) nwE sz s [.ref (ad 0), .int a1, .int a2, .int a3, .int a4]) (Qx rvI (wE dI ad) D vwCl (tyE dI) (va_A ((wE dI ad) s) sz) r s') 0 0 (va_A ((wE dI ad) s) sz) :=
  met_of [.ref (ad 0), .int a1, .int a2, .int a3, .int a4] (by decide) rfl rfl (Nat.le_of_ble_eq_true rfl) h (fun p e s0 m args below meth c A ls X hl => t_W_systemCall X a1 a2 a3 a4 s ls  hl)
set_option maxHeartbeats 4000000 in
set_option maxRecDepth 100000 in
theorem t_W_call {p : Program} {l : Launch} {e : Env} {s0 : State} {m : MethodId} {args : Array Value} {below : List Frame} {meth : Method} {c : Code} {D : va_G} {A : Nat → Prop} {dI : Nat → ClassId} {ad : Nat → Nat} (X : CX p s0 m args meth c D vwCl (tyE dI) nwE A prog_1_method_10_code 5 (some .int) (Cond.code y_W_call prog_1_method_10_code 5 (some .int) :: WS) R_W) (a1 : Int32) (a2 : Int32) (a3 : Int32) (a4 : Int32) (s : eS) (ls : Array Slot)  (hl : lv_has ls 5 [(0, .ref (ad 0)), (1, .int a1), (2, .int a2), (3, .int a3), (4, .int a4)]) : GG p l e rm_W_call s0 m args below meth c D vwCl (tyE dI) A (wE dI ad) 0 0 (QM below args s0 D vwCl (tyE dI) A (wE dI ad) rvI) (f_W_call a1 a2 a3 a4 s) (F0 m 0 ls []) s := by
  unfold f_W_call
  refine gg_aload_n X 0 d_W_call_0 rfl (lv_at hl 0 rfl) ?_
  refine gg_get_W_running X 1 (Or.inl (List.mem_cons_of_mem _ w_87)) d_W_call_1 ?_
  refine gg_iconst X 4 (-1 : Int32) d_W_call_4 (by decide) ?_
  refine gg_icmp_ne X 5 20 d_W_call_5 rfl (fun _ => ?_) (fun _ => ?_)
  · refine gg_bipush X 20 (-6 : Int32) d_W_call_20 (by decide) ?_
    exact gg_iret X 22 d_W_call_22
  · refine gg_aload_n X 8 d_W_call_8 rfl (lv_at hl 0 rfl) ?_
    refine gg_iload_n X 9 d_W_call_9 rfl (lv_at hl 1 rfl) ?_
    refine gg_iload_n X 10 d_W_call_10 rfl (lv_at hl 2 rfl) ?_
    refine gg_iload_n X 11 d_W_call_11 rfl (lv_at hl 3 rfl) ?_
    refine gg_iload X 12 d_W_call_12 (lv_at hl 4 rfl) ?_
    refine gg_callV X 14 nwOk_E [.int a1, .int a2, .int a3, .int a4] [] (fun _ _ h sz => M_W_systemCall l D dI ad _ a1 a2 a3 a4  h sz) (cwV 4 X.1.2.2.2.2 (gwV w_162 w_164 ws_W_systemCall w_1 w_165) rfl rfl rfl (by decide +kernel) ⟨by decide, by decide⟩) (he_E_Main) rfl rfl hl.1 rfl (Nat.le_of_ble_eq_true rfl) ⟨Nat.zero_le _, Nat.zero_le _⟩ d_W_call_14 (fun r1 s2 ho3 => ?_)
    refine gg_show_i ?_
    refine gg_goto X 17 22 d_W_call_17 rfl ?_
    exact gg_iret X 22 d_W_call_22
theorem M_W_call (l : Launch) (D : va_G) (dI : Nat → ClassId) (ad : Nat → Nat) (s : eS) (a1 : Int32) (a2 : Int32) (a3 : Int32) (a4 : Int32)  {r : Int32} {s' : eS} (h : f_W_call a1 a2 a3 a4 s = some (r, s')) (sz : Nat) : Met l y_W_call (Cond.code y_W_call prog_1_method_10_code 5 (some .int) :: WS) rm_W_call (Px (wE dI ad) D vwCl (tyE dI) nwE sz s [.ref (ad 0), .int a1, .int a2, .int a3, .int a4]) (Qx rvI (wE dI ad) D vwCl (tyE dI) (va_A ((wE dI ad) s) sz) r s') 0 0 (va_A ((wE dI ad) s) sz) :=
  met_of [.ref (ad 0), .int a1, .int a2, .int a3, .int a4] (by decide) rfl rfl (Nat.le_of_ble_eq_true rfl) h (fun p e s0 m args below meth c A ls X hl => t_W_call X a1 a2 a3 a4 s ls  hl)
set_option maxHeartbeats 4000000 in
set_option maxRecDepth 100000 in
theorem t_W_runningThread {p : Program} {l : Launch} {e : Env} {s0 : State} {m : MethodId} {args : Array Value} {below : List Frame} {meth : Method} {c : Code} {D : va_G} {A : Nat → Prop} {dI : Nat → ClassId} {ad : Nat → Nat} (X : CX p s0 m args meth c D vwCl (tyE dI) nwE A prog_1_method_31_code 1 (some (.object "EnclaveWarden$EnclaveThread")) (Cond.code y_W_runningThread prog_1_method_31_code 1 (some (.object "EnclaveWarden$EnclaveThread")) :: WS) R_W)  (s : eS) (ls : Array Slot)  (hl : lv_has ls 1 [(0, .ref (ad 0))]) : GG p l e rm_W_runningThread s0 m args below meth c D vwCl (tyE dI) A (wE dI ad) 0 0 (QM below args s0 D vwCl (tyE dI) A (wE dI ad) (rvR ad 11)) (f_W_runningThread s) (F0 m 0 ls []) s := by
  unfold f_W_runningThread
  refine gg_aload_n X 0 d_W_runningThread_0 rfl (lv_at hl 0 rfl) ?_
  refine gg_get_W_enclaves X 1 (Or.inl (List.mem_cons_of_mem _ w_83)) d_W_runningThread_1 ?_
  refine gg_aload_n X 4 d_W_runningThread_4 rfl (lv_at hl 0 rfl) ?_
  refine gg_get_W_running X 5 (Or.inl (List.mem_cons_of_mem _ w_87)) d_W_runningThread_5 ?_
  refine gg_iconst X 8 (2 : Int32) d_W_runningThread_8 (by decide) ?_
  refine gg_idivk X 9 d_W_runningThread_9 (by decide) ?_
  refine gg_ald_ENA X 10 d_W_runningThread_10 (fun hi1 => ?_)
  refine gg_get_V_threads X 11 (ixb hi1) (Or.inr ⟨_, nw_8⟩) d_W_runningThread_11 ?_
  refine gg_aload_n X 14 d_W_runningThread_14 rfl (lv_at hl 0 rfl) ?_
  refine gg_get_W_running X 15 (Or.inl (List.mem_cons_of_mem _ w_87)) d_W_runningThread_15 ?_
  refine gg_iconst X 18 (2 : Int32) d_W_runningThread_18 (by decide) ?_
  refine gg_iremk X 19 d_W_runningThread_19 (by decide) ?_
  refine gg_ald_TA X 20 (ixb hi1) d_W_runningThread_20 (fun hi2 => ?_)
  exact gg_aret X 21 d_W_runningThread_21
theorem M_W_runningThread (l : Launch) (D : va_G) (dI : Nat → ClassId) (ad : Nat → Nat) (s : eS)   {r : Nat} {s' : eS} (h : f_W_runningThread s = some (r, s')) (sz : Nat) : Met l y_W_runningThread (Cond.code y_W_runningThread prog_1_method_31_code 1 (some (.object "EnclaveWarden$EnclaveThread")) :: WS) rm_W_runningThread (Px (wE dI ad) D vwCl (tyE dI) nwE sz s [.ref (ad 0)]) (Qx (rvR ad 11) (wE dI ad) D vwCl (tyE dI) (va_A ((wE dI ad) s) sz) r s') 0 0 (va_A ((wE dI ad) s) sz) :=
  met_of [.ref (ad 0)] (by decide) rfl rfl (Nat.le_of_ble_eq_true rfl) h (fun p e s0 m args below meth c A ls X hl => t_W_runningThread X s ls  hl)
set_option maxHeartbeats 4000000 in
set_option maxRecDepth 100000 in
theorem t_W_leave {p : Program} {l : Launch} {e : Env} {s0 : State} {m : MethodId} {args : Array Value} {below : List Frame} {meth : Method} {c : Code} {D : va_G} {A : Nat → Prop} {dI : Nat → ClassId} {ad : Nat → Nat} (X : CX p s0 m args meth c D vwCl (tyE dI) nwE A prog_1_method_37_code 4 none (Cond.code y_W_leave prog_1_method_37_code 4 none :: WS) R_W) (a1 : Int32) (a2 : Int32) (a3 : Int32) (s : eS) (ls : Array Slot)  (hl : lv_has ls 4 [(0, .ref (ad 0)), (1, .int a1), (2, .int a2), (3, .int a3)]) : GG p l e rm_W_leave s0 m args below meth c D vwCl (tyE dI) A (wE dI ad) 0 0 (QM below args s0 D vwCl (tyE dI) A (wE dI ad) rvV) (f_W_leave a1 a2 a3 s) (F0 m 0 ls []) s := by
  unfold f_W_leave
  refine gg_aload_n X 0 d_W_leave_0 rfl (lv_at hl 0 rfl) ?_
  refine gg_callV X 1 nwOk_E [] [] (fun _ _ h sz => M_W_runningThread l D dI ad _   h sz) (cwV 0 X.1.2.2.2.2 (gwV w_273 w_275 ws_W_runningThread w_1 w_276) rfl rfl rfl (by decide +kernel) ⟨by decide, by decide⟩) (he_E_Main) rfl rfl hl.1 rfl (Nat.le_of_ble_eq_true rfl) ⟨Nat.zero_le _, Nat.zero_le _⟩ d_W_leave_1 (fun r1 s2 ho3 => ?_)
  refine gg_show_r ?_
  refine gg_iload_n X 4 d_W_leave_4 rfl (lv_at hl 1 rfl) ?_
  refine gg_put_T_state X 5 (bd_runningThread ho3) (Or.inr ⟨_, nw_6⟩) d_W_leave_5 (fun s4 => ?_)
  refine gg_aload_n X 8 d_W_leave_8 rfl (lv_at hl 0 rfl) ?_
  refine gg_get_W_exits X 9 (Or.inl (List.mem_cons_of_mem _ w_85)) d_W_leave_9 ?_
  refine gg_iconst X 12 (0 : Int32) d_W_leave_12 (by decide) ?_
  refine gg_dup2 X 13 d_W_leave_13 rfl rfl ?_
  refine gg_ald_EXI X 14 d_W_leave_14 ?_
  refine gg_iconst X 15 (1 : Int32) d_W_leave_15 (by decide) ?_
  refine gg_iadd X 16 d_W_leave_16 ?_
  refine gg_ast_EXI X 17 d_W_leave_17 (fun s5 => ?_)
  refine gg_aload_n X 18 d_W_leave_18 rfl (lv_at hl 0 rfl) ?_
  refine gg_get_W_exits X 19 (Or.inl (List.mem_cons_of_mem _ w_85)) d_W_leave_19 ?_
  refine gg_iconst X 22 (1 : Int32) d_W_leave_22 (by decide) ?_
  refine gg_aload_n X 23 d_W_leave_23 rfl (lv_at hl 0 rfl) ?_
  refine gg_get_W_running X 24 (Or.inl (List.mem_cons_of_mem _ w_87)) d_W_leave_24 ?_
  refine gg_iconst X 27 (2 : Int32) d_W_leave_27 (by decide) ?_
  refine gg_idivk X 28 d_W_leave_28 (by decide) ?_
  refine gg_ast_EXI X 29 d_W_leave_29 (fun s6 => ?_)
  refine gg_aload_n X 30 d_W_leave_30 rfl (lv_at hl 0 rfl) ?_
  refine gg_get_W_exits X 31 (Or.inl (List.mem_cons_of_mem _ w_85)) d_W_leave_31 ?_
  refine gg_iconst X 34 (2 : Int32) d_W_leave_34 (by decide) ?_
  refine gg_iload_n X 35 d_W_leave_35 rfl (lv_at hl 2 rfl) ?_
  refine gg_ast_EXI X 36 d_W_leave_36 (fun s7 => ?_)
  refine gg_aload_n X 37 d_W_leave_37 rfl (lv_at hl 0 rfl) ?_
  refine gg_get_W_exits X 38 (Or.inl (List.mem_cons_of_mem _ w_85)) d_W_leave_38 ?_
  refine gg_iconst X 41 (3 : Int32) d_W_leave_41 (by decide) ?_
  refine gg_iload_n X 42 d_W_leave_42 rfl (lv_at hl 3 rfl) ?_
  refine gg_ast_EXI X 43 d_W_leave_43 (fun s8 => ?_)
  refine gg_aload_n X 44 d_W_leave_44 rfl (lv_at hl 0 rfl) ?_
  refine gg_get_W_exits X 45 (Or.inl (List.mem_cons_of_mem _ w_85)) d_W_leave_45 ?_
  refine gg_iconst X 48 (4 : Int32) d_W_leave_48 (by decide) ?_
  refine gg_aload_n X 49 d_W_leave_49 rfl (lv_at hl 0 rfl) ?_
  refine gg_get_W_tick X 50 (Or.inl (List.mem_cons_of_mem _ w_89)) d_W_leave_50 ?_
  refine gg_ast_EXI X 53 d_W_leave_53 (fun s9 => ?_)
  refine gg_aload_n X 54 d_W_leave_54 rfl (lv_at hl 0 rfl) ?_
  refine gg_iconst X 55 (-1 : Int32) d_W_leave_55 (by decide) ?_
  refine gg_put_W_running X 56 (Or.inl (List.mem_cons_of_mem _ w_87)) d_W_leave_56 (fun s10 => ?_)
  refine gg_aload_n X 59 d_W_leave_59 rfl (lv_at hl 0 rfl) ?_
  refine gg_get_W_system X 60 (Or.inl (List.mem_cons_of_mem _ w_84)) d_W_leave_60 ?_
  refine gg_iconst X 63 (1 : Int32) d_W_leave_63 (by decide) ?_
  refine gg_iload_n X 64 d_W_leave_64 rfl (lv_at hl 2 rfl) ?_
  refine gg_callVN X 65 nwOk_E [.int (1 : Int32), .int a2] [] (fun _ _ h sz => M_C_put l D dI ad _ 6 (1 : Int32) a2 (by decide) h sz) (⟨va_cnB 2 X.1.2.2.2.2 (gwB w_137) rfl rfl rfl (X.2.2.2.2.2 _ nw_13) (X.1.2.2.2.2 _ (List.mem_cons_of_mem _ w_4)) (by decide +kernel) ⟨by decide, by decide⟩, X.1.2.2.2.2 _ (List.mem_cons_of_mem _ w_136), X.1.2.2.2.2 _ (List.mem_cons_of_mem _ ws_C_put)⟩) (he_E_Core (by decide)) rfl rfl hl.1 rfl (Nat.le_of_ble_eq_true rfl) ⟨Nat.zero_le _, Nat.zero_le _⟩ d_W_leave_65 (fun r11 s12 ho13 => ?_)
  refine gg_show_v ?_
  refine gg_aload_n X 68 d_W_leave_68 rfl (lv_at hl 0 rfl) ?_
  refine gg_get_W_system X 69 (Or.inl (List.mem_cons_of_mem _ w_84)) d_W_leave_69 ?_
  refine gg_iconst X 72 (2 : Int32) d_W_leave_72 (by decide) ?_
  refine gg_iload_n X 73 d_W_leave_73 rfl (lv_at hl 3 rfl) ?_
  refine gg_callVN X 74 nwOk_E [.int (2 : Int32), .int a3] [] (fun _ _ h sz => M_C_put l D dI ad _ 6 (2 : Int32) a3 (by decide) h sz) (⟨va_cnB 2 X.1.2.2.2.2 (gwB w_137) rfl rfl rfl (X.2.2.2.2.2 _ nw_13) (X.1.2.2.2.2 _ (List.mem_cons_of_mem _ w_4)) (by decide +kernel) ⟨by decide, by decide⟩, X.1.2.2.2.2 _ (List.mem_cons_of_mem _ w_136), X.1.2.2.2.2 _ (List.mem_cons_of_mem _ ws_C_put)⟩) (he_E_Core (by decide)) rfl rfl hl.1 rfl (Nat.le_of_ble_eq_true rfl) ⟨Nat.zero_le _, Nat.zero_le _⟩ d_W_leave_74 (fun r14 s15 ho16 => ?_)
  refine gg_show_v ?_
  exact gg_vret X 77 d_W_leave_77
theorem M_W_leave (l : Launch) (D : va_G) (dI : Nat → ClassId) (ad : Nat → Nat) (s : eS) (a1 : Int32) (a2 : Int32) (a3 : Int32)  {r : Unit} {s' : eS} (h : f_W_leave a1 a2 a3 s = some (r, s')) (sz : Nat) : Met l y_W_leave (Cond.code y_W_leave prog_1_method_37_code 4 none :: WS) rm_W_leave (Px (wE dI ad) D vwCl (tyE dI) nwE sz s [.ref (ad 0), .int a1, .int a2, .int a3]) (Qx rvV (wE dI ad) D vwCl (tyE dI) (va_A ((wE dI ad) s) sz) r s') 0 0 (va_A ((wE dI ad) s) sz) :=
  met_of [.ref (ad 0), .int a1, .int a2, .int a3] (by decide) rfl rfl (Nat.le_of_ble_eq_true rfl) h (fun p e s0 m args below meth c A ls X hl => t_W_leave X a1 a2 a3 s ls  hl)
set_option maxHeartbeats 4000000 in
set_option maxRecDepth 100000 in
theorem t_W_enclaveMayUse_33 {p : Program} {l : Launch} {e : Env} {s0 : State} {m : MethodId} {args : Array Value} {below : List Frame} {meth : Method} {c : Code} {D : va_G} {A : Nat → Prop} {dI : Nat → ClassId} {ad : Nat → Nat} (X : CX p s0 m args meth c D vwCl (tyE dI) nwE A prog_1_method_29_code 4 (some .boolean) (Cond.code y_W_enclaveMayUse prog_1_method_29_code 4 (some .boolean) :: WS) R_W)  (s : eS) (ls : Array Slot)  (hl : lv_has ls 4 []) : GG p l e rm_W_enclaveMayUse s0 m args below meth c D vwCl (tyE dI) A (wE dI ad) 0 0 (QM below args s0 D vwCl (tyE dI) A (wE dI ad) rvI) (f_W_enclaveMayUse_33 s) (F0 m 33 ls []) s := by
  unfold f_W_enclaveMayUse_33
  refine gg_iconst X 33 (1 : Int32) d_W_enclaveMayUse_33 (by decide) ?_
  refine gg_goto X 34 38 d_W_enclaveMayUse_34 rfl ?_
  exact gg_zretk X 38 rfl d_W_enclaveMayUse_38
set_option maxHeartbeats 4000000 in
set_option maxRecDepth 100000 in
theorem t_W_enclaveMayUse {p : Program} {l : Launch} {e : Env} {s0 : State} {m : MethodId} {args : Array Value} {below : List Frame} {meth : Method} {c : Code} {D : va_G} {A : Nat → Prop} {dI : Nat → ClassId} {ad : Nat → Nat} (X : CX p s0 m args meth c D vwCl (tyE dI) nwE A prog_1_method_29_code 4 (some .boolean) (Cond.code y_W_enclaveMayUse prog_1_method_29_code 4 (some .boolean) :: WS) R_W) (a1 : Int32) (a2 : Int32) (s : eS) (ls : Array Slot)  (hl : lv_has ls 4 [(0, .ref (ad 0)), (1, .int a1), (2, .int a2)]) : GG p l e rm_W_enclaveMayUse s0 m args below meth c D vwCl (tyE dI) A (wE dI ad) 0 0 (QM below args s0 D vwCl (tyE dI) A (wE dI ad) rvI) (f_W_enclaveMayUse a1 a2 s) (F0 m 0 ls []) s := by
  unfold f_W_enclaveMayUse
  refine gg_iload_n X 0 d_W_enclaveMayUse_0 rfl (lv_at hl 2 rfl) ?_
  refine gg_callS X 1 nwOk_E [.int a2] [] (fun _ _ h sz => M_W_isAddress l D dI ad _ a2  h sz) (cwS 1 X.1.2.2.2.2 (gwS w_119 w_120 w_1 w_121) rfl rfl rfl (by decide +kernel) ⟨by decide, by decide⟩) rfl hl.1 rfl (Nat.le_of_ble_eq_true rfl) ⟨Nat.zero_le _, Nat.zero_le _⟩ d_W_enclaveMayUse_1 (fun r1 s2 ho3 => ?_)
  refine gg_show_i ?_
  refine gg_if_ne X 4 9 d_W_enclaveMayUse_4 rfl (fun _ => ?_) (fun _ => ?_)
  · refine gg_aload_n X 9 d_W_enclaveMayUse_9 rfl (lv_at hl 0 rfl) ?_
    refine gg_get_W_kinds X 10 (Or.inl (List.mem_cons_of_mem _ w_82)) d_W_enclaveMayUse_10 ?_
    refine gg_iload_n X 13 d_W_enclaveMayUse_13 rfl (lv_at hl 2 rfl) ?_
    refine gg_bipush X 14 (16 : Int32) d_W_enclaveMayUse_14 (by decide) ?_
    refine gg_idivk X 16 d_W_enclaveMayUse_16 (by decide) ?_
    refine gg_ald_KIN X 17 d_W_enclaveMayUse_17 ?_
    refine gg_istore_n X 18 (fun v4 => [(3, .int v4), (0, .ref (ad 0)), (1, .int a1), (2, .int a2)]) d_W_enclaveMayUse_18 rfl hl (by decide) (fun _ => rfl) (fun v4 ls hl => ?_)
    refine gg_iload_n X 19 d_W_enclaveMayUse_19 rfl (lv_at hl 0 rfl) ?_
    refine gg_iconst X 20 (2 : Int32) d_W_enclaveMayUse_20 (by decide) ?_
    refine gg_iload_n X 21 d_W_enclaveMayUse_21 rfl (lv_at hl 2 rfl) ?_
    refine gg_iadd X 22 d_W_enclaveMayUse_22 ?_
    refine gg_icmp_eq X 23 33 d_W_enclaveMayUse_23 rfl (fun _ => ?_) (fun _ => ?_)
    · exact t_W_enclaveMayUse_33 X s2 _  (lv_sub hl [] rfl)
    · refine gg_iload_n X 26 d_W_enclaveMayUse_26 rfl (lv_at hl 0 rfl) ?_
      refine gg_iconst X 27 (5 : Int32) d_W_enclaveMayUse_27 (by decide) ?_
      refine gg_iload_n X 28 d_W_enclaveMayUse_28 rfl (lv_at hl 2 rfl) ?_
      refine gg_iadd X 29 d_W_enclaveMayUse_29 ?_
      refine gg_icmp_ne X 30 37 d_W_enclaveMayUse_30 rfl (fun _ => ?_) (fun _ => ?_)
      · refine gg_iconst X 37 (0 : Int32) d_W_enclaveMayUse_37 (by decide) ?_
        exact gg_zretk X 38 rfl d_W_enclaveMayUse_38
      · exact t_W_enclaveMayUse_33 X s2 _  (lv_sub hl [] rfl)
  · refine gg_iconst X 7 (0 : Int32) d_W_enclaveMayUse_7 (by decide) ?_
    exact gg_zretk X 8 rfl d_W_enclaveMayUse_8
theorem M_W_enclaveMayUse (l : Launch) (D : va_G) (dI : Nat → ClassId) (ad : Nat → Nat) (s : eS) (a1 : Int32) (a2 : Int32)  {r : Int32} {s' : eS} (h : f_W_enclaveMayUse a1 a2 s = some (r, s')) (sz : Nat) : Met l y_W_enclaveMayUse (Cond.code y_W_enclaveMayUse prog_1_method_29_code 4 (some .boolean) :: WS) rm_W_enclaveMayUse (Px (wE dI ad) D vwCl (tyE dI) nwE sz s [.ref (ad 0), .int a1, .int a2]) (Qx rvI (wE dI ad) D vwCl (tyE dI) (va_A ((wE dI ad) s) sz) r s') 0 0 (va_A ((wE dI ad) s) sz) :=
  met_of [.ref (ad 0), .int a1, .int a2] (by decide) rfl rfl (Nat.le_of_ble_eq_true rfl) h (fun p e s0 m args below meth c A ls X hl => t_W_enclaveMayUse X a1 a2 s ls  hl)
set_option maxHeartbeats 4000000 in
set_option maxRecDepth 100000 in
theorem t_W_runnerMayUse {p : Program} {l : Launch} {e : Env} {s0 : State} {m : MethodId} {args : Array Value} {below : List Frame} {meth : Method} {c : Code} {D : va_G} {A : Nat → Prop} {dI : Nat → ClassId} {ad : Nat → Nat} (X : CX p s0 m args meth c D vwCl (tyE dI) nwE A prog_1_method_30_code 2 (some .boolean) (Cond.code y_W_runnerMayUse prog_1_method_30_code 2 (some .boolean) :: WS) R_W) (a1 : Int32) (s : eS) (ls : Array Slot)  (hl : lv_has ls 2 [(0, .ref (ad 0)), (1, .int a1)]) : GG p l e rm_W_runnerMayUse s0 m args below meth c D vwCl (tyE dI) A (wE dI ad) 0 0 (QM below args s0 D vwCl (tyE dI) A (wE dI ad) rvI) (f_W_runnerMayUse a1 s) (F0 m 0 ls []) s := by
  unfold f_W_runnerMayUse
  refine gg_aload_n X 0 d_W_runnerMayUse_0 rfl (lv_at hl 0 rfl) ?_
  refine gg_get_W_running X 1 (Or.inl (List.mem_cons_of_mem _ w_87)) d_W_runnerMayUse_1 ?_
  refine gg_iconst X 4 (-1 : Int32) d_W_runnerMayUse_4 (by decide) ?_
  refine gg_icmp_ne X 5 16 d_W_runnerMayUse_5 rfl (fun _ => ?_) (fun _ => ?_)
  · refine gg_aload_n X 16 d_W_runnerMayUse_16 rfl (lv_at hl 0 rfl) ?_
    refine gg_aload_n X 17 d_W_runnerMayUse_17 rfl (lv_at hl 0 rfl) ?_
    refine gg_get_W_running X 18 (Or.inl (List.mem_cons_of_mem _ w_87)) d_W_runnerMayUse_18 ?_
    refine gg_iconst X 21 (2 : Int32) d_W_runnerMayUse_21 (by decide) ?_
    refine gg_idivk X 22 d_W_runnerMayUse_22 (by decide) ?_
    refine gg_iload_n X 23 d_W_runnerMayUse_23 rfl (lv_at hl 1 rfl) ?_
    refine gg_callV X 24 nwOk_E [.int ((s 9 2) / (2 : Int32)), .int a1] [] (fun _ _ h sz => M_W_enclaveMayUse l D dI ad _ ((s 9 2) / (2 : Int32)) a1  h sz) (cwV 2 X.1.2.2.2.2 (gwV w_281 w_283 ws_W_enclaveMayUse w_1 w_284) rfl rfl rfl (by decide +kernel) ⟨by decide, by decide⟩) (he_E_Main) rfl rfl hl.1 rfl (Nat.le_of_ble_eq_true rfl) ⟨Nat.zero_le _, Nat.zero_le _⟩ d_W_runnerMayUse_24 (fun r1 s2 ho3 => ?_)
    refine gg_show_i ?_
    exact gg_zret X 27 d_W_runnerMayUse_27
  · refine gg_aload_n X 8 d_W_runnerMayUse_8 rfl (lv_at hl 0 rfl) ?_
    refine gg_iload_n X 9 d_W_runnerMayUse_9 rfl (lv_at hl 1 rfl) ?_
    refine gg_callV X 10 nwOk_E [.int a1] [] (fun _ _ h sz => M_W_systemMayUse l D dI ad _ a1  h sz) (cwV 1 X.1.2.2.2.2 (gwV w_115 w_117 ws_W_systemMayUse w_1 w_118) rfl rfl rfl (by decide +kernel) ⟨by decide, by decide⟩) (he_E_Main) rfl rfl hl.1 rfl (Nat.le_of_ble_eq_true rfl) ⟨Nat.zero_le _, Nat.zero_le _⟩ d_W_runnerMayUse_10 (fun r4 s5 ho6 => ?_)
    refine gg_show_i ?_
    refine gg_goto X 13 27 d_W_runnerMayUse_13 rfl ?_
    exact gg_zret X 27 d_W_runnerMayUse_27
theorem M_W_runnerMayUse (l : Launch) (D : va_G) (dI : Nat → ClassId) (ad : Nat → Nat) (s : eS) (a1 : Int32)  {r : Int32} {s' : eS} (h : f_W_runnerMayUse a1 s = some (r, s')) (sz : Nat) : Met l y_W_runnerMayUse (Cond.code y_W_runnerMayUse prog_1_method_30_code 2 (some .boolean) :: WS) rm_W_runnerMayUse (Px (wE dI ad) D vwCl (tyE dI) nwE sz s [.ref (ad 0), .int a1]) (Qx rvI (wE dI ad) D vwCl (tyE dI) (va_A ((wE dI ad) s) sz) r s') 0 0 (va_A ((wE dI ad) s) sz) :=
  met_of [.ref (ad 0), .int a1] (by decide) rfl rfl (Nat.le_of_ble_eq_true rfl) h (fun p e s0 m args below meth c A ls X hl => t_W_runnerMayUse X a1 s ls  hl)
set_option maxHeartbeats 4000000 in
set_option maxRecDepth 100000 in
theorem t_W_fault {p : Program} {l : Launch} {e : Env} {s0 : State} {m : MethodId} {args : Array Value} {below : List Frame} {meth : Method} {c : Code} {D : va_G} {A : Nat → Prop} {dI : Nat → ClassId} {ad : Nat → Nat} (X : CX p s0 m args meth c D vwCl (tyE dI) nwE A prog_1_method_36_code 2 none (Cond.code y_W_fault prog_1_method_36_code 2 none :: WS) R_W) (a1 : Int32) (s : eS) (ls : Array Slot)  (hl : lv_has ls 2 [(0, .ref (ad 0)), (1, .int a1)]) : GG p l e rm_W_fault s0 m args below meth c D vwCl (tyE dI) A (wE dI ad) 0 0 (QM below args s0 D vwCl (tyE dI) A (wE dI ad) rvV) (f_W_fault a1 s) (F0 m 0 ls []) s := by
  unfold f_W_fault
  refine gg_aload_n X 0 d_W_fault_0 rfl (lv_at hl 0 rfl) ?_
  refine gg_get_W_running X 1 (Or.inl (List.mem_cons_of_mem _ w_87)) d_W_fault_1 ?_
  refine gg_iconst X 4 (-1 : Int32) d_W_fault_4 (by decide) ?_
  refine gg_icmp_ne X 5 16 d_W_fault_5 rfl (fun _ => ?_) (fun _ => ?_)
  · refine gg_aload_n X 16 d_W_fault_16 rfl (lv_at hl 0 rfl) ?_
    refine gg_iconst X 17 (1 : Int32) d_W_fault_17 (by decide) ?_
    refine gg_iload_n X 18 d_W_fault_18 rfl (lv_at hl 1 rfl) ?_
    refine gg_iconst X 19 (0 : Int32) d_W_fault_19 (by decide) ?_
    refine gg_callV X 20 nwOk_E [.int (1 : Int32), .int a1, .int (0 : Int32)] [] (fun _ _ h sz => M_W_leave l D dI ad _ (1 : Int32) a1 (0 : Int32)  h sz) (cwV 3 X.1.2.2.2.2 (gwV w_269 w_271 ws_W_leave w_1 w_272) rfl rfl rfl (by decide +kernel) ⟨by decide, by decide⟩) (he_E_Main) rfl rfl hl.1 rfl (Nat.le_of_ble_eq_true rfl) ⟨Nat.zero_le _, Nat.zero_le _⟩ d_W_fault_20 (fun r1 s2 ho3 => ?_)
    refine gg_show_v ?_
    exact gg_vret X 23 d_W_fault_23
  · refine gg_aload_n X 8 d_W_fault_8 rfl (lv_at hl 0 rfl) ?_
    refine gg_iconst X 9 (1 : Int32) d_W_fault_9 (by decide) ?_
    refine gg_put_W_halted X 10 (Or.inl (List.mem_cons_of_mem _ w_86)) rfl rfl d_W_fault_10 (fun s4 => ?_)
    refine gg_goto X 13 23 d_W_fault_13 rfl ?_
    exact gg_vret X 23 d_W_fault_23
theorem M_W_fault (l : Launch) (D : va_G) (dI : Nat → ClassId) (ad : Nat → Nat) (s : eS) (a1 : Int32)  {r : Unit} {s' : eS} (h : f_W_fault a1 s = some (r, s')) (sz : Nat) : Met l y_W_fault (Cond.code y_W_fault prog_1_method_36_code 2 none :: WS) rm_W_fault (Px (wE dI ad) D vwCl (tyE dI) nwE sz s [.ref (ad 0), .int a1]) (Qx rvV (wE dI ad) D vwCl (tyE dI) (va_A ((wE dI ad) s) sz) r s') 0 0 (va_A ((wE dI ad) s) sz) :=
  met_of [.ref (ad 0), .int a1] (by decide) rfl rfl (Nat.le_of_ble_eq_true rfl) h (fun p e s0 m args below meth c A ls X hl => t_W_fault X a1 s ls  hl)
set_option maxHeartbeats 4000000 in
set_option maxRecDepth 100000 in
theorem t_W_macOf {p : Program} {l : Launch} {e : Env} {s0 : State} {m : MethodId} {args : Array Value} {below : List Frame} {meth : Method} {c : Code} {D : va_G} {A : Nat → Prop} {dI : Nat → ClassId} {ad : Nat → Nat} (X : CX p s0 m args meth c D vwCl (tyE dI) nwE A prog_1_method_27_code 3 (some .int) (Cond.code y_W_macOf prog_1_method_27_code 3 (some .int) :: WS) R_W) (a1 : Int32) (a2 : Int32) (s : eS) (ls : Array Slot)  (hl : lv_has ls 3 [(0, .ref (ad 0)), (1, .int a1), (2, .int a2)]) : GG p l e rm_W_macOf s0 m args below meth c D vwCl (tyE dI) A (wE dI ad) 0 0 (QM below args s0 D vwCl (tyE dI) A (wE dI ad) rvI) (f_W_macOf a1 a2 s) (F0 m 0 ls []) s := by
  unfold f_W_macOf
  refine gg_aload_n X 0 d_W_macOf_0 rfl (lv_at hl 0 rfl) ?_
  refine gg_get_W_secret X 1 (Or.inl (List.mem_cons_of_mem _ w_80)) d_W_macOf_1 ?_
  refine gg_iload_n X 4 d_W_macOf_4 rfl (lv_at hl 1 rfl) ?_
  refine gg_callS X 5 nwOk_E [.int (s 9 0), .int a1] [] (fun _ _ h sz => M_W_mix l D dI ad _ (s 9 0) a1  h sz) (cwS 2 X.1.2.2.2.2 (gwS w_301 w_187 w_1 w_188) rfl rfl rfl (by decide +kernel) ⟨by decide, by decide⟩) rfl hl.1 rfl (Nat.le_of_ble_eq_true rfl) ⟨Nat.zero_le _, Nat.zero_le _⟩ d_W_macOf_5 (fun r1 s2 ho3 => ?_)
  refine gg_show_i ?_
  refine gg_iload_n X 8 d_W_macOf_8 rfl (lv_at hl 2 rfl) ?_
  refine gg_callS X 9 nwOk_E [.int r1, .int a2] [] (fun _ _ h sz => M_W_mix l D dI ad _ r1 a2  h sz) (cwS 2 X.1.2.2.2.2 (gwS w_301 w_187 w_1 w_188) rfl rfl rfl (by decide +kernel) ⟨by decide, by decide⟩) rfl hl.1 rfl (Nat.le_of_ble_eq_true rfl) ⟨Nat.zero_le _, Nat.zero_le _⟩ d_W_macOf_9 (fun r4 s5 ho6 => ?_)
  refine gg_show_i ?_
  refine gg_aload_n X 12 d_W_macOf_12 rfl (lv_at hl 0 rfl) ?_
  refine gg_get_W_secret X 13 (Or.inl (List.mem_cons_of_mem _ w_80)) d_W_macOf_13 ?_
  refine gg_callS X 16 nwOk_E [.int r4, .int (s5 9 0)] [] (fun _ _ h sz => M_W_mix l D dI ad _ r4 (s5 9 0)  h sz) (cwS 2 X.1.2.2.2.2 (gwS w_301 w_187 w_1 w_188) rfl rfl rfl (by decide +kernel) ⟨by decide, by decide⟩) rfl hl.1 rfl (Nat.le_of_ble_eq_true rfl) ⟨Nat.zero_le _, Nat.zero_le _⟩ d_W_macOf_16 (fun r7 s8 ho9 => ?_)
  refine gg_show_i ?_
  exact gg_iret X 19 d_W_macOf_19
theorem M_W_macOf (l : Launch) (D : va_G) (dI : Nat → ClassId) (ad : Nat → Nat) (s : eS) (a1 : Int32) (a2 : Int32)  {r : Int32} {s' : eS} (h : f_W_macOf a1 a2 s = some (r, s')) (sz : Nat) : Met l y_W_macOf (Cond.code y_W_macOf prog_1_method_27_code 3 (some .int) :: WS) rm_W_macOf (Px (wE dI ad) D vwCl (tyE dI) nwE sz s [.ref (ad 0), .int a1, .int a2]) (Qx rvI (wE dI ad) D vwCl (tyE dI) (va_A ((wE dI ad) s) sz) r s') 0 0 (va_A ((wE dI ad) s) sz) :=
  met_of [.ref (ad 0), .int a1, .int a2] (by decide) rfl rfl (Nat.le_of_ble_eq_true rfl) h (fun p e s0 m args below meth c A ls X hl => t_W_macOf X a1 a2 s ls  hl)
set_option maxHeartbeats 4000000 in
set_option maxRecDepth 100000 in
theorem t_W_enclaveCall {p : Program} {l : Launch} {e : Env} {s0 : State} {m : MethodId} {args : Array Value} {below : List Frame} {meth : Method} {c : Code} {D : va_G} {A : Nat → Prop} {dI : Nat → ClassId} {ad : Nat → Nat} (X : CX p s0 m args meth c D vwCl (tyE dI) nwE A prog_1_method_38_code 6 (some .int) (Cond.code y_W_enclaveCall prog_1_method_38_code 6 (some .int) :: WS) R_W) (a1 : Int32) (a2 : Int32) (a3 : Int32) (a4 : Int32) (s : eS) (ls : Array Slot)  (hl : lv_has ls 6 [(0, .ref (ad 0)), (1, .int a1), (2, .int a2), (3, .int a3), (4, .int a4)]) : GG p l e rm_W_enclaveCall s0 m args below meth c D vwCl (tyE dI) A (wE dI ad) 0 0 (QM below args s0 D vwCl (tyE dI) A (wE dI ad) rvI) (f_W_enclaveCall a1 a2 a3 a4 s) (F0 m 0 ls []) s := by
  unfold f_W_enclaveCall
  refine gg_aload_n X 0 d_W_enclaveCall_0 rfl (lv_at hl 0 rfl) ?_
  refine gg_get_W_enclaves X 1 (Or.inl (List.mem_cons_of_mem _ w_83)) d_W_enclaveCall_1 ?_
  refine gg_aload_n X 4 d_W_enclaveCall_4 rfl (lv_at hl 0 rfl) ?_
  refine gg_get_W_running X 5 (Or.inl (List.mem_cons_of_mem _ w_87)) d_W_enclaveCall_5 ?_
  refine gg_iconst X 8 (2 : Int32) d_W_enclaveCall_8 (by decide) ?_
  refine gg_idivk X 9 d_W_enclaveCall_9 (by decide) ?_
  refine gg_ald_ENA X 10 d_W_enclaveCall_10 (fun hi1 => ?_)
  refine gg_get_V_measure X 11 (ixb hi1) (Or.inr ⟨_, nw_10⟩) d_W_enclaveCall_11 ?_
  refine gg_istore X 14 (fun v2 => [(5, .int v2), (0, .ref (ad 0)), (1, .int a1), (2, .int a2), (3, .int a3), (4, .int a4)]) d_W_enclaveCall_14 hl (by decide) (fun _ => rfl) (fun v2 ls hl => ?_)
  refine gg_iload_n X 16 d_W_enclaveCall_16 rfl (lv_at hl 2 rfl) ?_
  refine gg_eqc (fun h3 => ?_) (fun h3 => ?_)
  · refine gg_tin X 17 48 d_W_enclaveCall_17 h3 (by decide) (by decide) rfl rfl ?_
    refine gg_aload_n X 48 d_W_enclaveCall_48 rfl (lv_at hl 1 rfl) ?_
    refine gg_iconst X 49 (1 : Int32) d_W_enclaveCall_49 (by decide) ?_
    refine gg_iconst X 50 (1 : Int32) d_W_enclaveCall_50 (by decide) ?_
    refine gg_iload_n X 51 d_W_enclaveCall_51 rfl (lv_at hl 3 rfl) ?_
    refine gg_callV X 52 nwOk_E [.int (1 : Int32), .int (1 : Int32), .int a2] [] (fun _ _ h sz => M_W_leave l D dI ad _ (1 : Int32) (1 : Int32) a2  h sz) (cwV 3 X.1.2.2.2.2 (gwV w_269 w_271 ws_W_leave w_1 w_272) rfl rfl rfl (by decide +kernel) ⟨by decide, by decide⟩) (he_E_Main) rfl rfl hl.1 rfl (Nat.le_of_ble_eq_true rfl) ⟨Nat.zero_le _, Nat.zero_le _⟩ d_W_enclaveCall_52 (fun r4 s5 ho6 => ?_)
    refine gg_show_v ?_
    refine gg_iconst X 55 (0 : Int32) d_W_enclaveCall_55 (by decide) ?_
    exact gg_iret X 56 d_W_enclaveCall_56
  refine gg_eqc (fun h7 => ?_) (fun h7 => ?_)
  · refine gg_tin X 17 57 d_W_enclaveCall_17 h7 (by decide) (by decide) rfl rfl ?_
    refine gg_aload_n X 57 d_W_enclaveCall_57 rfl (lv_at hl 1 rfl) ?_
    refine gg_iload X 58 d_W_enclaveCall_58 (lv_at hl 0 rfl) ?_
    refine gg_iload_n X 60 d_W_enclaveCall_60 rfl (lv_at hl 3 rfl) ?_
    refine gg_callV X 61 nwOk_E [.int v2, .int a2] [] (fun _ _ h sz => M_W_macOf l D dI ad _ v2 a2  h sz) (cwV 2 X.1.2.2.2.2 (gwV w_297 w_299 ws_W_macOf w_1 w_300) rfl rfl rfl (by decide +kernel) ⟨by decide, by decide⟩) (he_E_Main) rfl rfl hl.1 rfl (Nat.le_of_ble_eq_true rfl) ⟨Nat.zero_le _, Nat.zero_le _⟩ d_W_enclaveCall_61 (fun r8 s9 ho10 => ?_)
    refine gg_show_i ?_
    exact gg_iret X 64 d_W_enclaveCall_64
  refine gg_eqc (fun h11 => ?_) (fun h11 => ?_)
  · refine gg_tin X 17 65 d_W_enclaveCall_17 h11 (by decide) (by decide) rfl rfl ?_
    refine gg_aload_n X 65 d_W_enclaveCall_65 rfl (lv_at hl 1 rfl) ?_
    refine gg_get_W_secret X 66 (Or.inl (List.mem_cons_of_mem _ w_80)) d_W_enclaveCall_66 ?_
    refine gg_iload X 69 d_W_enclaveCall_69 (lv_at hl 0 rfl) ?_
    refine gg_callS X 71 nwOk_E [.int (s 9 0), .int v2] [] (fun _ _ h sz => M_W_mix l D dI ad _ (s 9 0) v2  h sz) (cwS 2 X.1.2.2.2.2 (gwS w_301 w_187 w_1 w_188) rfl rfl rfl (by decide +kernel) ⟨by decide, by decide⟩) rfl hl.1 rfl (Nat.le_of_ble_eq_true rfl) ⟨Nat.zero_le _, Nat.zero_le _⟩ d_W_enclaveCall_71 (fun r12 s13 ho14 => ?_)
    refine gg_show_i ?_
    refine gg_bipush X 74 (18 : Int32) d_W_enclaveCall_74 (by decide) ?_
    refine gg_callS X 76 nwOk_E [.int r12, .int (18 : Int32)] [] (fun _ _ h sz => M_W_mix l D dI ad _ r12 (18 : Int32)  h sz) (cwS 2 X.1.2.2.2.2 (gwS w_301 w_187 w_1 w_188) rfl rfl rfl (by decide +kernel) ⟨by decide, by decide⟩) rfl hl.1 rfl (Nat.le_of_ble_eq_true rfl) ⟨Nat.zero_le _, Nat.zero_le _⟩ d_W_enclaveCall_76 (fun r15 s16 ho17 => ?_)
    refine gg_show_i ?_
    exact gg_iret X 79 d_W_enclaveCall_79
  refine gg_eqc (fun h18 => ?_) (fun h18 => ?_)
  · refine gg_tin X 17 80 d_W_enclaveCall_17 h18 (by decide) (by decide) rfl rfl ?_
    refine gg_aload_n X 80 d_W_enclaveCall_80 rfl (lv_at hl 1 rfl) ?_
    refine gg_iload_n X 81 d_W_enclaveCall_81 rfl (lv_at hl 3 rfl) ?_
    refine gg_iload_n X 82 d_W_enclaveCall_82 rfl (lv_at hl 4 rfl) ?_
    refine gg_callV X 83 nwOk_E [.int a2, .int a3] [] (fun _ _ h sz => M_W_macOf l D dI ad _ a2 a3  h sz) (cwV 2 X.1.2.2.2.2 (gwV w_297 w_299 ws_W_macOf w_1 w_300) rfl rfl rfl (by decide +kernel) ⟨by decide, by decide⟩) (he_E_Main) rfl rfl hl.1 rfl (Nat.le_of_ble_eq_true rfl) ⟨Nat.zero_le _, Nat.zero_le _⟩ d_W_enclaveCall_83 (fun r19 s20 ho21 => ?_)
    refine gg_show_i ?_
    refine gg_iload X 86 d_W_enclaveCall_86 (lv_at hl 5 rfl) ?_
    refine gg_icmp_ne X 88 95 d_W_enclaveCall_88 rfl (fun _ => ?_) (fun _ => ?_)
    · refine gg_iconst X 95 (0 : Int32) d_W_enclaveCall_95 (by decide) ?_
      exact gg_iret X 96 d_W_enclaveCall_96
    · refine gg_iconst X 91 (1 : Int32) d_W_enclaveCall_91 (by decide) ?_
      refine gg_goto X 92 96 d_W_enclaveCall_92 rfl ?_
      exact gg_iret X 96 d_W_enclaveCall_96
  refine gg_tout X 17 97 d_W_enclaveCall_17 (by have q0 := lv_neT (a := 16) h3 (by decide); have q1 := lv_neT (a := 17) h7 (by decide); have q2 := lv_neT (a := 18) h11 (by decide); have q3 := lv_neT (a := 19) h18 (by decide); omega) rfl ?_
  refine gg_iconst X 97 (-1 : Int32) d_W_enclaveCall_97 (by decide) ?_
  exact gg_iret X 98 d_W_enclaveCall_98
theorem M_W_enclaveCall (l : Launch) (D : va_G) (dI : Nat → ClassId) (ad : Nat → Nat) (s : eS) (a1 : Int32) (a2 : Int32) (a3 : Int32) (a4 : Int32)  {r : Int32} {s' : eS} (h : f_W_enclaveCall a1 a2 a3 a4 s = some (r, s')) (sz : Nat) : Met l y_W_enclaveCall (Cond.code y_W_enclaveCall prog_1_method_38_code 6 (some .int) :: WS) rm_W_enclaveCall (Px (wE dI ad) D vwCl (tyE dI) nwE sz s [.ref (ad 0), .int a1, .int a2, .int a3, .int a4]) (Qx rvI (wE dI ad) D vwCl (tyE dI) (va_A ((wE dI ad) s) sz) r s') 0 0 (va_A ((wE dI ad) s) sz) :=
  met_of [.ref (ad 0), .int a1, .int a2, .int a3, .int a4] (by decide) rfl rfl (Nat.le_of_ble_eq_true rfl) h (fun p e s0 m args below meth c A ls X hl => t_W_enclaveCall X a1 a2 a3 a4 s ls  hl)
set_option maxHeartbeats 4000000 in
set_option maxRecDepth 100000 in
theorem t_W_obeyCall_65 {p : Program} {l : Launch} {e : Env} {s0 : State} {m : MethodId} {args : Array Value} {below : List Frame} {meth : Method} {c : Code} {D : va_G} {A : Nat → Prop} {dI : Nat → ClassId} {ad : Nat → Nat} (X : CX p s0 m args meth c D vwCl (tyE dI) nwE A prog_1_method_35_code 8 none (Cond.code y_W_obeyCall prog_1_method_35_code 8 none :: WS) R_W) (m1 : Nat) (x6 : Int32) (y0 : Int32) (s : eS) (ls : Array Slot) (hm1 : m1 < 7) (hl : lv_has ls 8 [(0, .ref (ad 0)), (1, .ref (ad (17 + m1))), (6, .int x6)]) : GG p l e rm_W_obeyCall s0 m args below meth c D vwCl (tyE dI) A (wE dI ad) 0 0 (QM below args s0 D vwCl (tyE dI) A (wE dI ad) rvV) (f_W_obeyCall_65 m1 x6 y0 s) (F0 m 65 ls [.int y0]) s := by
  unfold f_W_obeyCall_65
  refine gg_istore X 65 (fun v1 => [(7, .int v1), (0, .ref (ad 0)), (1, .ref (ad (17 + m1))), (6, .int x6)]) d_W_obeyCall_65 hl (by decide) (fun _ => rfl) (fun v1 ls hl => ?_)
  refine gg_aload_n X 67 d_W_obeyCall_67 rfl (lv_at hl 1 rfl) ?_
  refine gg_get_W_running X 68 (Or.inl (List.mem_cons_of_mem _ w_87)) d_W_obeyCall_68 ?_
  refine gg_iload X 71 d_W_obeyCall_71 (lv_at hl 3 rfl) ?_
  refine gg_icmp_ne X 73 83 d_W_obeyCall_73 rfl (fun _ => ?_) (fun _ => ?_)
  · exact gg_vret X 83 d_W_obeyCall_83
  · refine gg_aload_n X 76 d_W_obeyCall_76 rfl (lv_at hl 2 rfl) ?_
    refine gg_iconst X 77 (1 : Int32) d_W_obeyCall_77 (by decide) ?_
    refine gg_iload X 78 d_W_obeyCall_78 (lv_at hl 0 rfl) ?_
    refine gg_callVN X 80 nwOk_E [.int (1 : Int32), .int v1] [] (fun _ _ h sz => M_C_put l D dI ad _ m1 (1 : Int32) v1 hm1 h sz) (⟨va_cnB 2 X.1.2.2.2.2 (gwB w_137) rfl rfl rfl (X.2.2.2.2.2 _ nw_13) (X.1.2.2.2.2 _ (List.mem_cons_of_mem _ w_4)) (by decide +kernel) ⟨by decide, by decide⟩, X.1.2.2.2.2 _ (List.mem_cons_of_mem _ w_136), X.1.2.2.2.2 _ (List.mem_cons_of_mem _ ws_C_put)⟩) (he_E_Core hm1) rfl rfl hl.1 rfl (Nat.le_of_ble_eq_true rfl) ⟨Nat.zero_le _, Nat.zero_le _⟩ d_W_obeyCall_80 (fun r2 s3 ho4 => ?_)
    refine gg_show_v ?_
    exact gg_vret X 83 d_W_obeyCall_83
set_option maxHeartbeats 4000000 in
set_option maxRecDepth 100000 in
theorem t_W_obeyCall {p : Program} {l : Launch} {e : Env} {s0 : State} {m : MethodId} {args : Array Value} {below : List Frame} {meth : Method} {c : Code} {D : va_G} {A : Nat → Prop} {dI : Nat → ClassId} {ad : Nat → Nat} (X : CX p s0 m args meth c D vwCl (tyE dI) nwE A prog_1_method_35_code 8 none (Cond.code y_W_obeyCall prog_1_method_35_code 8 none :: WS) R_W) (n1 : Nat) (a2 : Int32) (s : eS) (ls : Array Slot) (hb1 : n1 < 7) (hl : lv_has ls 8 [(0, .ref (ad 0)), (1, .ref (ad (17 + n1))), (2, .int a2)]) : GG p l e rm_W_obeyCall s0 m args below meth c D vwCl (tyE dI) A (wE dI ad) 0 0 (QM below args s0 D vwCl (tyE dI) A (wE dI ad) rvV) (f_W_obeyCall n1 a2 s) (F0 m 0 ls []) s := by
  unfold f_W_obeyCall
  refine gg_aload_n X 0 d_W_obeyCall_0 rfl (lv_at hl 1 rfl) ?_
  refine gg_iconst X 1 (1 : Int32) d_W_obeyCall_1 (by decide) ?_
  refine gg_callVN X 2 nwOk_E [.int (1 : Int32)] [] (fun _ _ h sz => M_C_get l D dI ad _ n1 (1 : Int32) hb1 h sz) (⟨va_cnB 1 X.1.2.2.2.2 (gwB w_145) rfl rfl rfl (X.2.2.2.2.2 _ nw_14) (X.1.2.2.2.2 _ (List.mem_cons_of_mem _ w_4)) (by decide +kernel) ⟨by decide, by decide⟩, X.1.2.2.2.2 _ (List.mem_cons_of_mem _ w_144), X.1.2.2.2.2 _ (List.mem_cons_of_mem _ ws_C_get)⟩) (he_E_Core hb1) rfl rfl hl.1 rfl (Nat.le_of_ble_eq_true rfl) ⟨Nat.zero_le _, Nat.zero_le _⟩ d_W_obeyCall_2 (fun r1 s2 ho3 => ?_)
  refine gg_show_i ?_
  refine gg_istore_n X 5 (fun v4 => [(3, .int v4), (0, .ref (ad 0)), (1, .ref (ad (17 + n1))), (2, .int a2)]) d_W_obeyCall_5 rfl hl (by decide) (fun _ => rfl) (fun v4 ls hl => ?_)
  refine gg_aload_n X 6 d_W_obeyCall_6 rfl (lv_at hl 2 rfl) ?_
  refine gg_iconst X 7 (2 : Int32) d_W_obeyCall_7 (by decide) ?_
  refine gg_callVN X 8 nwOk_E [.int (2 : Int32)] [] (fun _ _ h sz => M_C_get l D dI ad _ n1 (2 : Int32) hb1 h sz) (⟨va_cnB 1 X.1.2.2.2.2 (gwB w_145) rfl rfl rfl (X.2.2.2.2.2 _ nw_14) (X.1.2.2.2.2 _ (List.mem_cons_of_mem _ w_4)) (by decide +kernel) ⟨by decide, by decide⟩, X.1.2.2.2.2 _ (List.mem_cons_of_mem _ w_144), X.1.2.2.2.2 _ (List.mem_cons_of_mem _ ws_C_get)⟩) (he_E_Core hb1) rfl rfl hl.1 rfl (Nat.le_of_ble_eq_true rfl) ⟨Nat.zero_le _, Nat.zero_le _⟩ d_W_obeyCall_8 (fun r5 s6 ho7 => ?_)
  refine gg_show_i ?_
  refine gg_istore X 11 (fun v8 => [(4, .int v8), (3, .int v4), (0, .ref (ad 0)), (1, .ref (ad (17 + n1))), (2, .int a2)]) d_W_obeyCall_11 hl (by decide) (fun _ => rfl) (fun v8 ls hl => ?_)
  refine gg_aload_n X 13 d_W_obeyCall_13 rfl (lv_at hl 3 rfl) ?_
  refine gg_iconst X 14 (3 : Int32) d_W_obeyCall_14 (by decide) ?_
  refine gg_callVN X 15 nwOk_E [.int (3 : Int32)] [] (fun _ _ h sz => M_C_get l D dI ad _ n1 (3 : Int32) hb1 h sz) (⟨va_cnB 1 X.1.2.2.2.2 (gwB w_145) rfl rfl rfl (X.2.2.2.2.2 _ nw_14) (X.1.2.2.2.2 _ (List.mem_cons_of_mem _ w_4)) (by decide +kernel) ⟨by decide, by decide⟩, X.1.2.2.2.2 _ (List.mem_cons_of_mem _ w_144), X.1.2.2.2.2 _ (List.mem_cons_of_mem _ ws_C_get)⟩) (he_E_Core hb1) rfl rfl hl.1 rfl (Nat.le_of_ble_eq_true rfl) ⟨Nat.zero_le _, Nat.zero_le _⟩ d_W_obeyCall_15 (fun r9 s10 ho11 => ?_)
  refine gg_show_i ?_
  refine gg_istore X 18 (fun v12 => [(5, .int v12), (4, .int v8), (3, .int v4), (0, .ref (ad 0)), (1, .ref (ad (17 + n1))), (2, .int a2)]) d_W_obeyCall_18 hl (by decide) (fun _ => rfl) (fun v12 ls hl => ?_)
  refine gg_aload_n X 20 d_W_obeyCall_20 rfl (lv_at hl 3 rfl) ?_
  refine gg_get_W_running X 21 (Or.inl (List.mem_cons_of_mem _ w_87)) d_W_obeyCall_21 ?_
  refine gg_istore X 24 (fun v13 => [(6, .int v13), (5, .int v12), (4, .int v8), (3, .int v4), (0, .ref (ad 0)), (1, .ref (ad (17 + n1))), (2, .int a2)]) d_W_obeyCall_24 hl (by decide) (fun _ => rfl) (fun v13 ls hl => ?_)
  refine gg_aload_n X 26 d_W_obeyCall_26 rfl (lv_at hl 5 rfl) ?_
  refine gg_dup X 27 d_W_obeyCall_27 rfl ?_
  refine gg_get_C_pc X 28 hb1 (Or.inr ⟨_, nw_3⟩) d_W_obeyCall_28 ?_
  refine gg_iconst X 31 (1 : Int32) d_W_obeyCall_31 (by decide) ?_
  refine gg_iadd X 32 d_W_obeyCall_32 ?_
  refine gg_put_C_pc X 33 hb1 (Or.inr ⟨_, nw_3⟩) d_W_obeyCall_33 (fun s14 => ?_)
  refine gg_iload X 36 d_W_obeyCall_36 (lv_at hl 0 rfl) ?_
  refine gg_iconst X 38 (-1 : Int32) d_W_obeyCall_38 (by decide) ?_
  refine gg_icmp_ne X 39 55 d_W_obeyCall_39 rfl (fun _ => ?_) (fun _ => ?_)
  · refine gg_aload_n X 55 d_W_obeyCall_55 rfl (lv_at hl 4 rfl) ?_
    refine gg_iload_n X 56 d_W_obeyCall_56 rfl (lv_at hl 6 rfl) ?_
    refine gg_iload_n X 57 d_W_obeyCall_57 rfl (lv_at hl 3 rfl) ?_
    refine gg_iload X 58 d_W_obeyCall_58 (lv_at hl 2 rfl) ?_
    refine gg_iload X 60 d_W_obeyCall_60 (lv_at hl 1 rfl) ?_
    refine gg_callV X 62 nwOk_E [.int a2, .int v4, .int v8, .int v12] [] (fun _ _ h sz => M_W_enclaveCall l D dI ad _ a2 v4 v8 v12  h sz) (cwV 4 X.1.2.2.2.2 (gwV w_293 w_295 ws_W_enclaveCall w_1 w_296) rfl rfl rfl (by decide +kernel) ⟨by decide, by decide⟩) (he_E_Main) rfl rfl hl.1 rfl (Nat.le_of_ble_eq_true rfl) ⟨Nat.zero_le _, Nat.zero_le _⟩ d_W_obeyCall_62 (fun r15 s16 ho17 => ?_)
    refine gg_show_i ?_
    exact t_W_obeyCall_65 X n1 v13 r15 s16 _ hb1 (lv_sub hl [4, 5, 0] rfl)
  · refine gg_aload_n X 42 d_W_obeyCall_42 rfl (lv_at hl 4 rfl) ?_
    refine gg_iload_n X 43 d_W_obeyCall_43 rfl (lv_at hl 6 rfl) ?_
    refine gg_iload_n X 44 d_W_obeyCall_44 rfl (lv_at hl 3 rfl) ?_
    refine gg_iload X 45 d_W_obeyCall_45 (lv_at hl 2 rfl) ?_
    refine gg_iload X 47 d_W_obeyCall_47 (lv_at hl 1 rfl) ?_
    refine gg_callV X 49 nwOk_E [.int a2, .int v4, .int v8, .int v12] [] (fun _ _ h sz => M_W_systemCall l D dI ad _ a2 v4 v8 v12  h sz) (cwV 4 X.1.2.2.2.2 (gwV w_162 w_164 ws_W_systemCall w_1 w_165) rfl rfl rfl (by decide +kernel) ⟨by decide, by decide⟩) (he_E_Main) rfl rfl hl.1 rfl (Nat.le_of_ble_eq_true rfl) ⟨Nat.zero_le _, Nat.zero_le _⟩ d_W_obeyCall_49 (fun r18 s19 ho20 => ?_)
    refine gg_show_i ?_
    refine gg_goto X 52 65 d_W_obeyCall_52 rfl ?_
    exact t_W_obeyCall_65 X n1 v13 r18 s19 _ hb1 (lv_sub hl [4, 5, 0] rfl)
theorem M_W_obeyCall (l : Launch) (D : va_G) (dI : Nat → ClassId) (ad : Nat → Nat) (s : eS) (n1 : Nat) (a2 : Int32) (hb1 : n1 < 7) {r : Unit} {s' : eS} (h : f_W_obeyCall n1 a2 s = some (r, s')) (sz : Nat) : Met l y_W_obeyCall (Cond.code y_W_obeyCall prog_1_method_35_code 8 none :: WS) rm_W_obeyCall (Px (wE dI ad) D vwCl (tyE dI) nwE sz s [.ref (ad 0), .ref (ad (17 + n1)), .int a2]) (Qx rvV (wE dI ad) D vwCl (tyE dI) (va_A ((wE dI ad) s) sz) r s') 0 0 (va_A ((wE dI ad) s) sz) :=
  met_of [.ref (ad 0), .ref (ad (17 + n1)), .int a2] (by decide) rfl rfl (Nat.le_of_ble_eq_true rfl) h (fun p e s0 m args below meth c A ls X hl => t_W_obeyCall X n1 a2 s ls hb1 hl)
set_option maxHeartbeats 4000000 in
set_option maxRecDepth 100000 in
theorem t_W_branch {p : Program} {l : Launch} {e : Env} {s0 : State} {m : MethodId} {args : Array Value} {below : List Frame} {meth : Method} {c : Code} {D : va_G} {A : Nat → Prop} {dI : Nat → ClassId} {ad : Nat → Nat} (X : CX p s0 m args meth c D vwCl (tyE dI) nwE A prog_1_method_34_code 3 none (Cond.code y_W_branch prog_1_method_34_code 3 none :: WS) R_W) (n0 : Nat) (a1 : Int32) (a2 : Int32) (s : eS) (ls : Array Slot) (hb0 : n0 < 7) (hl : lv_has ls 3 [(0, .ref (ad (17 + n0))), (1, .int a1), (2, .int a2)]) : GG p l e rm_W_branch s0 m args below meth c D vwCl (tyE dI) A (wE dI ad) 0 0 (QM below args s0 D vwCl (tyE dI) A (wE dI ad) rvV) (f_W_branch n0 a1 a2 s) (F0 m 0 ls []) s := by
  unfold f_W_branch
  refine gg_iload_n X 0 d_W_branch_0 rfl (lv_at hl 1 rfl) ?_
  refine gg_if_eq X 1 14 d_W_branch_1 rfl (fun _ => ?_) (fun _ => ?_)
  · exact gg_vret X 14 d_W_branch_14
  · refine gg_aload_n X 4 d_W_branch_4 rfl (lv_at hl 0 rfl) ?_
    refine gg_dup X 5 d_W_branch_5 rfl ?_
    refine gg_get_C_pc X 6 hb0 (Or.inr ⟨_, nw_3⟩) d_W_branch_6 ?_
    refine gg_iload_n X 9 d_W_branch_9 rfl (lv_at hl 2 rfl) ?_
    refine gg_iadd X 10 d_W_branch_10 ?_
    refine gg_put_C_pc X 11 hb0 (Or.inr ⟨_, nw_3⟩) d_W_branch_11 (fun s1 => ?_)
    exact gg_vret X 14 d_W_branch_14
theorem M_W_branch (l : Launch) (D : va_G) (dI : Nat → ClassId) (ad : Nat → Nat) (s : eS) (n0 : Nat) (a1 : Int32) (a2 : Int32) (hb0 : n0 < 7) {r : Unit} {s' : eS} (h : f_W_branch n0 a1 a2 s = some (r, s')) (sz : Nat) : Met l y_W_branch (Cond.code y_W_branch prog_1_method_34_code 3 none :: WS) rm_W_branch (Px (wE dI ad) D vwCl (tyE dI) nwE sz s [.ref (ad (17 + n0)), .int a1, .int a2]) (Qx rvV (wE dI ad) D vwCl (tyE dI) (va_A ((wE dI ad) s) sz) r s') 0 0 (va_A ((wE dI ad) s) sz) :=
  met_of [.ref (ad (17 + n0)), .int a1, .int a2] (by decide) rfl rfl (Nat.le_of_ble_eq_true rfl) h (fun p e s0 m args below meth c A ls X hl => t_W_branch X n0 a1 a2 s ls hb0 hl)
set_option maxHeartbeats 4000000 in
set_option maxRecDepth 100000 in
theorem t_W_obey_56 {p : Program} {l : Launch} {e : Env} {s0 : State} {m : MethodId} {args : Array Value} {below : List Frame} {meth : Method} {c : Code} {D : va_G} {A : Nat → Prop} {dI : Nat → ClassId} {ad : Nat → Nat} (X : CX p s0 m args meth c D vwCl (tyE dI) nwE A prog_1_method_33_code 8 none (Cond.code y_W_obey prog_1_method_33_code 8 none :: WS) R_W)  (s : eS) (ls : Array Slot)  (hl : lv_has ls 8 [(0, .ref (ad 0))]) : GG p l e rm_W_obey s0 m args below meth c D vwCl (tyE dI) A (wE dI ad) 0 0 (QM below args s0 D vwCl (tyE dI) A (wE dI ad) rvV) (f_W_obey_56 s) (F0 m 56 ls []) s := by
  unfold f_W_obey_56
  refine gg_aload_n X 56 d_W_obey_56 rfl (lv_at hl 0 rfl) ?_
  refine gg_iconst X 57 (4 : Int32) d_W_obey_57 (by decide) ?_
  refine gg_callV X 58 nwOk_E [.int (4 : Int32)] [] (fun _ _ h sz => M_W_fault l D dI ad _ (4 : Int32)  h sz) (cwV 1 X.1.2.2.2.2 (gwV w_285 w_287 ws_W_fault w_1 w_288) rfl rfl rfl (by decide +kernel) ⟨by decide, by decide⟩) (he_E_Main) rfl rfl hl.1 rfl (Nat.le_of_ble_eq_true rfl) ⟨Nat.zero_le _, Nat.zero_le _⟩ d_W_obey_58 (fun r1 s2 ho3 => ?_)
  refine gg_show_v ?_
  exact gg_vret X 61 d_W_obey_61
set_option maxHeartbeats 4000000 in
set_option maxRecDepth 100000 in
theorem t_W_obey_288 {p : Program} {l : Launch} {e : Env} {s0 : State} {m : MethodId} {args : Array Value} {below : List Frame} {meth : Method} {c : Code} {D : va_G} {A : Nat → Prop} {dI : Nat → ClassId} {ad : Nat → Nat} (X : CX p s0 m args meth c D vwCl (tyE dI) nwE A prog_1_method_33_code 8 none (Cond.code y_W_obey prog_1_method_33_code 8 none :: WS) R_W) (x7 : Int32) (k0 : Nat) (y1 : Int32) (s : eS) (ls : Array Slot) (hk0 : k0 < 7) (hl : lv_has ls 8 [(7, .int x7)]) : GG p l e rm_W_obey s0 m args below meth c D vwCl (tyE dI) A (wE dI ad) 0 0 (QM below args s0 D vwCl (tyE dI) A (wE dI ad) rvV) (f_W_obey_288 x7 k0 y1 s) (F0 m 288 ls [.int y1, .ref (ad (17 + k0))]) s := by
  unfold f_W_obey_288
  refine gg_iload X 288 d_W_obey_288 (lv_at hl 0 rfl) ?_
  refine gg_callS X 290 nwOk_E [.ref (ad (17 + k0)), .int y1, .int x7] [] (fun _ _ h sz => M_W_branch l D dI ad _ k0 y1 x7 hk0 h sz) (cwS 3 X.1.2.2.2.2 (gwS w_306 w_307 w_1 w_308) rfl rfl rfl (by decide +kernel) ⟨by decide, by decide⟩) rfl hl.1 rfl (Nat.le_of_ble_eq_true rfl) ⟨Nat.zero_le _, Nat.zero_le _⟩ d_W_obey_290 (fun r1 s2 ho3 => ?_)
  refine gg_show_v ?_
  refine gg_goto X 293 318 d_W_obey_293 rfl ?_
  exact gg_vret X 318 d_W_obey_318
set_option maxHeartbeats 4000000 in
set_option maxRecDepth 100000 in
theorem t_W_obey_313 {p : Program} {l : Launch} {e : Env} {s0 : State} {m : MethodId} {args : Array Value} {below : List Frame} {meth : Method} {c : Code} {D : va_G} {A : Nat → Prop} {dI : Nat → ClassId} {ad : Nat → Nat} (X : CX p s0 m args meth c D vwCl (tyE dI) nwE A prog_1_method_33_code 8 none (Cond.code y_W_obey prog_1_method_33_code 8 none :: WS) R_W) (x7 : Int32) (k0 : Nat) (y1 : Int32) (s : eS) (ls : Array Slot) (hk0 : k0 < 7) (hl : lv_has ls 8 [(7, .int x7)]) : GG p l e rm_W_obey s0 m args below meth c D vwCl (tyE dI) A (wE dI ad) 0 0 (QM below args s0 D vwCl (tyE dI) A (wE dI ad) rvV) (f_W_obey_313 x7 k0 y1 s) (F0 m 313 ls [.int y1, .ref (ad (17 + k0))]) s := by
  unfold f_W_obey_313
  refine gg_iload X 313 d_W_obey_313 (lv_at hl 0 rfl) ?_
  refine gg_callS X 315 nwOk_E [.ref (ad (17 + k0)), .int y1, .int x7] [] (fun _ _ h sz => M_W_branch l D dI ad _ k0 y1 x7 hk0 h sz) (cwS 3 X.1.2.2.2.2 (gwS w_306 w_307 w_1 w_308) rfl rfl rfl (by decide +kernel) ⟨by decide, by decide⟩) rfl hl.1 rfl (Nat.le_of_ble_eq_true rfl) ⟨Nat.zero_le _, Nat.zero_le _⟩ d_W_obey_315 (fun r1 s2 ho3 => ?_)
  refine gg_show_v ?_
  exact gg_vret X 318 d_W_obey_318
set_option maxHeartbeats 4000000 in
set_option maxRecDepth 100000 in
theorem t_W_obey_92 {p : Program} {l : Launch} {e : Env} {s0 : State} {m : MethodId} {args : Array Value} {below : List Frame} {meth : Method} {c : Code} {D : va_G} {A : Nat → Prop} {dI : Nat → ClassId} {ad : Nat → Nat} (X : CX p s0 m args meth c D vwCl (tyE dI) nwE A prog_1_method_33_code 8 none (Cond.code y_W_obey prog_1_method_33_code 8 none :: WS) R_W) (m1 : Nat) (x3 : Int32) (x4 : Int32) (x5 : Int32) (x6 : Int32) (x7 : Int32) (s : eS) (ls : Array Slot) (hm1 : m1 < 7) (hl : lv_has ls 8 [(0, .ref (ad 0)), (1, .ref (ad (17 + m1))), (3, .int x3), (4, .int x4), (5, .int x5), (6, .int x6), (7, .int x7)]) : GG p l e rm_W_obey s0 m args below meth c D vwCl (tyE dI) A (wE dI ad) 0 0 (QM below args s0 D vwCl (tyE dI) A (wE dI ad) rvV) (f_W_obey_92 m1 x3 x4 x5 x6 x7 s) (F0 m 92 ls []) s := by
  unfold f_W_obey_92
  refine gg_aload_n X 92 d_W_obey_92 rfl (lv_at hl 1 rfl) ?_
  refine gg_dup X 93 d_W_obey_93 rfl ?_
  refine gg_get_C_pc X 94 hm1 (Or.inr ⟨_, nw_3⟩) d_W_obey_94 ?_
  refine gg_iconst X 97 (1 : Int32) d_W_obey_97 (by decide) ?_
  refine gg_iadd X 98 d_W_obey_98 ?_
  refine gg_put_C_pc X 99 hm1 (Or.inr ⟨_, nw_3⟩) d_W_obey_99 (fun s1 => ?_)
  refine gg_iload_n X 102 d_W_obey_102 rfl (lv_at hl 2 rfl) ?_
  refine gg_eqc (fun h2 => ?_) (fun h2 => ?_)
  · refine gg_tin X 103 152 d_W_obey_103 h2 (by decide) (by decide) rfl rfl ?_
    refine gg_aload_n X 152 d_W_obey_152 rfl (lv_at hl 1 rfl) ?_
    refine gg_iload X 153 d_W_obey_153 (lv_at hl 3 rfl) ?_
    refine gg_iload X 155 d_W_obey_155 (lv_at hl 6 rfl) ?_
    refine gg_callVN X 157 nwOk_E [.int x4, .int x7] [] (fun _ _ h sz => M_C_put l D dI ad _ m1 x4 x7 hm1 h sz) (⟨va_cnB 2 X.1.2.2.2.2 (gwB w_137) rfl rfl rfl (X.2.2.2.2.2 _ nw_13) (X.1.2.2.2.2 _ (List.mem_cons_of_mem _ w_4)) (by decide +kernel) ⟨by decide, by decide⟩, X.1.2.2.2.2 _ (List.mem_cons_of_mem _ w_136), X.1.2.2.2.2 _ (List.mem_cons_of_mem _ ws_C_put)⟩) (he_E_Core hm1) rfl rfl hl.1 rfl (Nat.le_of_ble_eq_true rfl) ⟨Nat.zero_le _, Nat.zero_le _⟩ d_W_obey_157 (fun r3 s4 ho5 => ?_)
    refine gg_show_v ?_
    refine gg_goto X 160 318 d_W_obey_160 rfl ?_
    exact gg_vret X 318 d_W_obey_318
  refine gg_eqc (fun h6 => ?_) (fun h6 => ?_)
  · refine gg_tin X 103 163 d_W_obey_103 h6 (by decide) (by decide) rfl rfl ?_
    refine gg_aload_n X 163 d_W_obey_163 rfl (lv_at hl 1 rfl) ?_
    refine gg_iload X 164 d_W_obey_164 (lv_at hl 3 rfl) ?_
    refine gg_iload X 166 d_W_obey_166 (lv_at hl 4 rfl) ?_
    refine gg_iload X 168 d_W_obey_168 (lv_at hl 6 rfl) ?_
    refine gg_iadd X 170 d_W_obey_170 ?_
    refine gg_callVN X 171 nwOk_E [.int x4, .int (x5 + x7)] [] (fun _ _ h sz => M_C_put l D dI ad _ m1 x4 (x5 + x7) hm1 h sz) (⟨va_cnB 2 X.1.2.2.2.2 (gwB w_137) rfl rfl rfl (X.2.2.2.2.2 _ nw_13) (X.1.2.2.2.2 _ (List.mem_cons_of_mem _ w_4)) (by decide +kernel) ⟨by decide, by decide⟩, X.1.2.2.2.2 _ (List.mem_cons_of_mem _ w_136), X.1.2.2.2.2 _ (List.mem_cons_of_mem _ ws_C_put)⟩) (he_E_Core hm1) rfl rfl hl.1 rfl (Nat.le_of_ble_eq_true rfl) ⟨Nat.zero_le _, Nat.zero_le _⟩ d_W_obey_171 (fun r7 s8 ho9 => ?_)
    refine gg_show_v ?_
    refine gg_goto X 174 318 d_W_obey_174 rfl ?_
    exact gg_vret X 318 d_W_obey_318
  refine gg_eqc (fun h10 => ?_) (fun h10 => ?_)
  · refine gg_tin X 103 177 d_W_obey_103 h10 (by decide) (by decide) rfl rfl ?_
    refine gg_aload_n X 177 d_W_obey_177 rfl (lv_at hl 1 rfl) ?_
    refine gg_iload X 178 d_W_obey_178 (lv_at hl 3 rfl) ?_
    refine gg_iload X 180 d_W_obey_180 (lv_at hl 4 rfl) ?_
    refine gg_iload X 182 d_W_obey_182 (lv_at hl 5 rfl) ?_
    refine gg_iadd X 184 d_W_obey_184 ?_
    refine gg_callVN X 185 nwOk_E [.int x4, .int (x5 + x6)] [] (fun _ _ h sz => M_C_put l D dI ad _ m1 x4 (x5 + x6) hm1 h sz) (⟨va_cnB 2 X.1.2.2.2.2 (gwB w_137) rfl rfl rfl (X.2.2.2.2.2 _ nw_13) (X.1.2.2.2.2 _ (List.mem_cons_of_mem _ w_4)) (by decide +kernel) ⟨by decide, by decide⟩, X.1.2.2.2.2 _ (List.mem_cons_of_mem _ w_136), X.1.2.2.2.2 _ (List.mem_cons_of_mem _ ws_C_put)⟩) (he_E_Core hm1) rfl rfl hl.1 rfl (Nat.le_of_ble_eq_true rfl) ⟨Nat.zero_le _, Nat.zero_le _⟩ d_W_obey_185 (fun r11 s12 ho13 => ?_)
    refine gg_show_v ?_
    refine gg_goto X 188 318 d_W_obey_188 rfl ?_
    exact gg_vret X 318 d_W_obey_318
  refine gg_eqc (fun h14 => ?_) (fun h14 => ?_)
  · refine gg_tin X 103 191 d_W_obey_103 h14 (by decide) (by decide) rfl rfl ?_
    refine gg_aload_n X 191 d_W_obey_191 rfl (lv_at hl 1 rfl) ?_
    refine gg_iload X 192 d_W_obey_192 (lv_at hl 3 rfl) ?_
    refine gg_iload X 194 d_W_obey_194 (lv_at hl 4 rfl) ?_
    refine gg_iload X 196 d_W_obey_196 (lv_at hl 5 rfl) ?_
    refine gg_isub X 198 d_W_obey_198 ?_
    refine gg_callVN X 199 nwOk_E [.int x4, .int (x5 - x6)] [] (fun _ _ h sz => M_C_put l D dI ad _ m1 x4 (x5 - x6) hm1 h sz) (⟨va_cnB 2 X.1.2.2.2.2 (gwB w_137) rfl rfl rfl (X.2.2.2.2.2 _ nw_13) (X.1.2.2.2.2 _ (List.mem_cons_of_mem _ w_4)) (by decide +kernel) ⟨by decide, by decide⟩, X.1.2.2.2.2 _ (List.mem_cons_of_mem _ w_136), X.1.2.2.2.2 _ (List.mem_cons_of_mem _ ws_C_put)⟩) (he_E_Core hm1) rfl rfl hl.1 rfl (Nat.le_of_ble_eq_true rfl) ⟨Nat.zero_le _, Nat.zero_le _⟩ d_W_obey_199 (fun r15 s16 ho17 => ?_)
    refine gg_show_v ?_
    refine gg_goto X 202 318 d_W_obey_202 rfl ?_
    exact gg_vret X 318 d_W_obey_318
  refine gg_eqc (fun h18 => ?_) (fun h18 => ?_)
  · refine gg_tin X 103 205 d_W_obey_103 h18 (by decide) (by decide) rfl rfl ?_
    refine gg_aload_n X 205 d_W_obey_205 rfl (lv_at hl 1 rfl) ?_
    refine gg_iload X 206 d_W_obey_206 (lv_at hl 3 rfl) ?_
    refine gg_iload X 208 d_W_obey_208 (lv_at hl 4 rfl) ?_
    refine gg_iload X 210 d_W_obey_210 (lv_at hl 5 rfl) ?_
    refine gg_imul X 212 d_W_obey_212 ?_
    refine gg_callVN X 213 nwOk_E [.int x4, .int (x5 * x6)] [] (fun _ _ h sz => M_C_put l D dI ad _ m1 x4 (x5 * x6) hm1 h sz) (⟨va_cnB 2 X.1.2.2.2.2 (gwB w_137) rfl rfl rfl (X.2.2.2.2.2 _ nw_13) (X.1.2.2.2.2 _ (List.mem_cons_of_mem _ w_4)) (by decide +kernel) ⟨by decide, by decide⟩, X.1.2.2.2.2 _ (List.mem_cons_of_mem _ w_136), X.1.2.2.2.2 _ (List.mem_cons_of_mem _ ws_C_put)⟩) (he_E_Core hm1) rfl rfl hl.1 rfl (Nat.le_of_ble_eq_true rfl) ⟨Nat.zero_le _, Nat.zero_le _⟩ d_W_obey_213 (fun r19 s20 ho21 => ?_)
    refine gg_show_v ?_
    refine gg_goto X 216 318 d_W_obey_216 rfl ?_
    exact gg_vret X 318 d_W_obey_318
  refine gg_eqc (fun h22 => ?_) (fun h22 => ?_)
  · refine gg_tin X 103 219 d_W_obey_103 h22 (by decide) (by decide) rfl rfl ?_
    refine gg_aload_n X 219 d_W_obey_219 rfl (lv_at hl 1 rfl) ?_
    refine gg_iload X 220 d_W_obey_220 (lv_at hl 3 rfl) ?_
    refine gg_iload X 222 d_W_obey_222 (lv_at hl 4 rfl) ?_
    refine gg_iload X 224 d_W_obey_224 (lv_at hl 5 rfl) ?_
    refine gg_ixor X 226 d_W_obey_226 ?_
    refine gg_callVN X 227 nwOk_E [.int x4, .int (x5 ^^^ x6)] [] (fun _ _ h sz => M_C_put l D dI ad _ m1 x4 (x5 ^^^ x6) hm1 h sz) (⟨va_cnB 2 X.1.2.2.2.2 (gwB w_137) rfl rfl rfl (X.2.2.2.2.2 _ nw_13) (X.1.2.2.2.2 _ (List.mem_cons_of_mem _ w_4)) (by decide +kernel) ⟨by decide, by decide⟩, X.1.2.2.2.2 _ (List.mem_cons_of_mem _ w_136), X.1.2.2.2.2 _ (List.mem_cons_of_mem _ ws_C_put)⟩) (he_E_Core hm1) rfl rfl hl.1 rfl (Nat.le_of_ble_eq_true rfl) ⟨Nat.zero_le _, Nat.zero_le _⟩ d_W_obey_227 (fun r23 s24 ho25 => ?_)
    refine gg_show_v ?_
    refine gg_goto X 230 318 d_W_obey_230 rfl ?_
    exact gg_vret X 318 d_W_obey_318
  refine gg_eqc (fun h26 => ?_) (fun h26 => ?_)
  · refine gg_tin X 103 233 d_W_obey_103 h26 (by decide) (by decide) rfl rfl ?_
    refine gg_aload_n X 233 d_W_obey_233 rfl (lv_at hl 1 rfl) ?_
    refine gg_iload X 234 d_W_obey_234 (lv_at hl 3 rfl) ?_
    refine gg_aload_n X 236 d_W_obey_236 rfl (lv_at hl 0 rfl) ?_
    refine gg_get_W_memory X 237 (Or.inl (List.mem_cons_of_mem _ w_81)) d_W_obey_237 ?_
    refine gg_iload X 240 d_W_obey_240 (lv_at hl 4 rfl) ?_
    refine gg_iload X 242 d_W_obey_242 (lv_at hl 6 rfl) ?_
    refine gg_iadd X 244 d_W_obey_244 ?_
    refine gg_ald_MEM X 245 d_W_obey_245 ?_
    refine gg_callVN X 246 nwOk_E [.int x4, .int (s1 0 (Int32.toNatClampNeg (x5 + x7)))] [] (fun _ _ h sz => M_C_put l D dI ad _ m1 x4 (s1 0 (Int32.toNatClampNeg (x5 + x7))) hm1 h sz) (⟨va_cnB 2 X.1.2.2.2.2 (gwB w_137) rfl rfl rfl (X.2.2.2.2.2 _ nw_13) (X.1.2.2.2.2 _ (List.mem_cons_of_mem _ w_4)) (by decide +kernel) ⟨by decide, by decide⟩, X.1.2.2.2.2 _ (List.mem_cons_of_mem _ w_136), X.1.2.2.2.2 _ (List.mem_cons_of_mem _ ws_C_put)⟩) (he_E_Core hm1) rfl rfl hl.1 rfl (Nat.le_of_ble_eq_true rfl) ⟨Nat.zero_le _, Nat.zero_le _⟩ d_W_obey_246 (fun r27 s28 ho29 => ?_)
    refine gg_show_v ?_
    refine gg_goto X 249 318 d_W_obey_249 rfl ?_
    exact gg_vret X 318 d_W_obey_318
  refine gg_eqc (fun h30 => ?_) (fun h30 => ?_)
  · refine gg_tin X 103 252 d_W_obey_103 h30 (by decide) (by decide) rfl rfl ?_
    refine gg_aload_n X 252 d_W_obey_252 rfl (lv_at hl 0 rfl) ?_
    refine gg_get_W_memory X 253 (Or.inl (List.mem_cons_of_mem _ w_81)) d_W_obey_253 ?_
    refine gg_iload X 256 d_W_obey_256 (lv_at hl 4 rfl) ?_
    refine gg_iload X 258 d_W_obey_258 (lv_at hl 6 rfl) ?_
    refine gg_iadd X 260 d_W_obey_260 ?_
    refine gg_aload_n X 261 d_W_obey_261 rfl (lv_at hl 1 rfl) ?_
    refine gg_iload X 262 d_W_obey_262 (lv_at hl 3 rfl) ?_
    refine gg_callVN X 264 nwOk_E [.int x4] [.int (x5 + x7), .ref (ad 1)] (fun _ _ h sz => M_C_get l D dI ad _ m1 x4 hm1 h sz) (⟨va_cnB 1 X.1.2.2.2.2 (gwB w_145) rfl rfl rfl (X.2.2.2.2.2 _ nw_14) (X.1.2.2.2.2 _ (List.mem_cons_of_mem _ w_4)) (by decide +kernel) ⟨by decide, by decide⟩, X.1.2.2.2.2 _ (List.mem_cons_of_mem _ w_144), X.1.2.2.2.2 _ (List.mem_cons_of_mem _ ws_C_get)⟩) (he_E_Core hm1) rfl rfl hl.1 rfl (Nat.le_of_ble_eq_true rfl) ⟨Nat.zero_le _, Nat.zero_le _⟩ d_W_obey_264 (fun r31 s32 ho33 => ?_)
    refine gg_show_i ?_
    refine gg_ast_MEM X 267 d_W_obey_267 (fun s34 => ?_)
    refine gg_goto X 268 318 d_W_obey_268 rfl ?_
    exact gg_vret X 318 d_W_obey_318
  refine gg_eqc (fun h35 => ?_) (fun h35 => ?_)
  · refine gg_tin X 103 271 d_W_obey_103 h35 (by decide) (by decide) rfl rfl ?_
    refine gg_aload_n X 271 d_W_obey_271 rfl (lv_at hl 1 rfl) ?_
    refine gg_aload_n X 272 d_W_obey_272 rfl (lv_at hl 1 rfl) ?_
    refine gg_iload X 273 d_W_obey_273 (lv_at hl 3 rfl) ?_
    refine gg_callVN X 275 nwOk_E [.int x4] [.ref (ad (17 + m1))] (fun _ _ h sz => M_C_get l D dI ad _ m1 x4 hm1 h sz) (⟨va_cnB 1 X.1.2.2.2.2 (gwB w_145) rfl rfl rfl (X.2.2.2.2.2 _ nw_14) (X.1.2.2.2.2 _ (List.mem_cons_of_mem _ w_4)) (by decide +kernel) ⟨by decide, by decide⟩, X.1.2.2.2.2 _ (List.mem_cons_of_mem _ w_144), X.1.2.2.2.2 _ (List.mem_cons_of_mem _ ws_C_get)⟩) (he_E_Core hm1) rfl rfl hl.1 rfl (Nat.le_of_ble_eq_true rfl) ⟨Nat.zero_le _, Nat.zero_le _⟩ d_W_obey_275 (fun r36 s37 ho38 => ?_)
    refine gg_show_i ?_
    refine gg_iload X 278 d_W_obey_278 (lv_at hl 4 rfl) ?_
    refine gg_icmp_ne X 280 287 d_W_obey_280 rfl (fun _ => ?_) (fun _ => ?_)
    · refine gg_iconst X 287 (0 : Int32) d_W_obey_287 (by decide) ?_
      exact t_W_obey_288 X x7 m1 (0 : Int32) s37 _ hm1 (lv_sub hl [6] rfl)
    · refine gg_iconst X 283 (1 : Int32) d_W_obey_283 (by decide) ?_
      refine gg_goto X 284 288 d_W_obey_284 rfl ?_
      exact t_W_obey_288 X x7 m1 (1 : Int32) s37 _ hm1 (lv_sub hl [6] rfl)
  refine gg_tout X 103 296 d_W_obey_103 (by have q0 := lv_neT (a := 1) h2 (by decide); have q1 := lv_neT (a := 2) h6 (by decide); have q2 := lv_neT (a := 3) h10 (by decide); have q3 := lv_neT (a := 4) h14 (by decide); have q4 := lv_neT (a := 5) h18 (by decide); have q5 := lv_neT (a := 6) h22 (by decide); have q6 := lv_neT (a := 7) h26 (by decide); have q7 := lv_neT (a := 8) h30 (by decide); have q8 := lv_neT (a := 9) h35 (by decide); omega) rfl ?_
  refine gg_aload_n X 296 d_W_obey_296 rfl (lv_at hl 1 rfl) ?_
  refine gg_aload_n X 297 d_W_obey_297 rfl (lv_at hl 1 rfl) ?_
  refine gg_iload X 298 d_W_obey_298 (lv_at hl 3 rfl) ?_
  refine gg_callVN X 300 nwOk_E [.int x4] [.ref (ad (17 + m1))] (fun _ _ h sz => M_C_get l D dI ad _ m1 x4 hm1 h sz) (⟨va_cnB 1 X.1.2.2.2.2 (gwB w_145) rfl rfl rfl (X.2.2.2.2.2 _ nw_14) (X.1.2.2.2.2 _ (List.mem_cons_of_mem _ w_4)) (by decide +kernel) ⟨by decide, by decide⟩, X.1.2.2.2.2 _ (List.mem_cons_of_mem _ w_144), X.1.2.2.2.2 _ (List.mem_cons_of_mem _ ws_C_get)⟩) (he_E_Core hm1) rfl rfl hl.1 rfl (Nat.le_of_ble_eq_true rfl) ⟨Nat.zero_le _, Nat.zero_le _⟩ d_W_obey_300 (fun r39 s40 ho41 => ?_)
  refine gg_show_i ?_
  refine gg_iload X 303 d_W_obey_303 (lv_at hl 4 rfl) ?_
  refine gg_icmp_ge X 305 312 d_W_obey_305 rfl (fun _ => ?_) (fun _ => ?_)
  · refine gg_iconst X 312 (0 : Int32) d_W_obey_312 (by decide) ?_
    exact t_W_obey_313 X x7 m1 (0 : Int32) s40 _ hm1 (lv_sub hl [6] rfl)
  · refine gg_iconst X 308 (1 : Int32) d_W_obey_308 (by decide) ?_
    refine gg_goto X 309 313 d_W_obey_309 rfl ?_
    exact t_W_obey_313 X x7 m1 (1 : Int32) s40 _ hm1 (lv_sub hl [6] rfl)
set_option maxHeartbeats 4000000 in
set_option maxRecDepth 100000 in
theorem t_W_obey_74 {p : Program} {l : Launch} {e : Env} {s0 : State} {m : MethodId} {args : Array Value} {below : List Frame} {meth : Method} {c : Code} {D : va_G} {A : Nat → Prop} {dI : Nat → ClassId} {ad : Nat → Nat} (X : CX p s0 m args meth c D vwCl (tyE dI) nwE A prog_1_method_33_code 8 none (Cond.code y_W_obey prog_1_method_33_code 8 none :: WS) R_W) (m1 : Nat) (x3 : Int32) (x4 : Int32) (x5 : Int32) (x6 : Int32) (x7 : Int32) (s : eS) (ls : Array Slot) (hm1 : m1 < 7) (hl : lv_has ls 8 [(0, .ref (ad 0)), (1, .ref (ad (17 + m1))), (3, .int x3), (4, .int x4), (5, .int x5), (6, .int x6), (7, .int x7)]) : GG p l e rm_W_obey s0 m args below meth c D vwCl (tyE dI) A (wE dI ad) 0 0 (QM below args s0 D vwCl (tyE dI) A (wE dI ad) rvV) (f_W_obey_74 m1 x3 x4 x5 x6 x7 s) (F0 m 74 ls []) s := by
  unfold f_W_obey_74
  refine gg_aload_n X 74 d_W_obey_74 rfl (lv_at hl 0 rfl) ?_
  refine gg_iload X 75 d_W_obey_75 (lv_at hl 4 rfl) ?_
  refine gg_iload X 77 d_W_obey_77 (lv_at hl 6 rfl) ?_
  refine gg_iadd X 79 d_W_obey_79 ?_
  refine gg_callV X 80 nwOk_E [.int (x5 + x7)] [] (fun _ _ h sz => M_W_runnerMayUse l D dI ad _ (x5 + x7)  h sz) (cwV 1 X.1.2.2.2.2 (gwV w_277 w_279 ws_W_runnerMayUse w_1 w_280) rfl rfl rfl (by decide +kernel) ⟨by decide, by decide⟩) (he_E_Main) rfl rfl hl.1 rfl (Nat.le_of_ble_eq_true rfl) ⟨Nat.zero_le _, Nat.zero_le _⟩ d_W_obey_80 (fun r1 s2 ho3 => ?_)
  refine gg_show_i ?_
  refine gg_if_ne X 83 92 d_W_obey_83 rfl (fun _ => ?_) (fun _ => ?_)
  · exact t_W_obey_92 X m1 x3 x4 x5 x6 x7 s2 _ hm1 (lv_sub hl [0, 1, 2, 3, 4, 5, 6] rfl)
  · refine gg_aload_n X 86 d_W_obey_86 rfl (lv_at hl 0 rfl) ?_
    refine gg_iconst X 87 (3 : Int32) d_W_obey_87 (by decide) ?_
    refine gg_callV X 88 nwOk_E [.int (3 : Int32)] [] (fun _ _ h sz => M_W_fault l D dI ad _ (3 : Int32)  h sz) (cwV 1 X.1.2.2.2.2 (gwV w_285 w_287 ws_W_fault w_1 w_288) rfl rfl rfl (by decide +kernel) ⟨by decide, by decide⟩) (he_E_Main) rfl rfl hl.1 rfl (Nat.le_of_ble_eq_true rfl) ⟨Nat.zero_le _, Nat.zero_le _⟩ d_W_obey_88 (fun r4 s5 ho6 => ?_)
    refine gg_show_v ?_
    exact gg_vret X 91 d_W_obey_91
set_option maxHeartbeats 4000000 in
set_option maxRecDepth 100000 in
theorem t_W_obey {p : Program} {l : Launch} {e : Env} {s0 : State} {m : MethodId} {args : Array Value} {below : List Frame} {meth : Method} {c : Code} {D : va_G} {A : Nat → Prop} {dI : Nat → ClassId} {ad : Nat → Nat} (X : CX p s0 m args meth c D vwCl (tyE dI) nwE A prog_1_method_33_code 8 none (Cond.code y_W_obey prog_1_method_33_code 8 none :: WS) R_W) (n1 : Nat) (a2 : Int32) (s : eS) (ls : Array Slot) (hb1 : n1 < 7) (hl : lv_has ls 8 [(0, .ref (ad 0)), (1, .ref (ad (17 + n1))), (2, .int a2)]) : GG p l e rm_W_obey s0 m args below meth c D vwCl (tyE dI) A (wE dI ad) 0 0 (QM below args s0 D vwCl (tyE dI) A (wE dI ad) rvV) (f_W_obey n1 a2 s) (F0 m 0 ls []) s := by
  unfold f_W_obey
  refine gg_iload_n X 0 d_W_obey_0 rfl (lv_at hl 2 rfl) ?_
  refine gg_bipush X 1 (15 : Int32) d_W_obey_1 (by decide) ?_
  refine gg_iand X 3 d_W_obey_3 ?_
  refine gg_istore_n X 4 (fun v1 => [(3, .int v1), (0, .ref (ad 0)), (1, .ref (ad (17 + n1))), (2, .int a2)]) d_W_obey_4 rfl hl (by decide) (fun _ => rfl) (fun v1 ls hl => ?_)
  refine gg_iload_n X 5 d_W_obey_5 rfl (lv_at hl 3 rfl) ?_
  refine gg_iconst X 6 (4 : Int32) d_W_obey_6 (by decide) ?_
  refine gg_ishr X 7 d_W_obey_7 ?_
  refine gg_bipush X 8 (7 : Int32) d_W_obey_8 (by decide) ?_
  refine gg_iand X 10 d_W_obey_10 ?_
  refine gg_istore X 11 (fun v2 => [(4, .int v2), (3, .int v1), (0, .ref (ad 0)), (1, .ref (ad (17 + n1))), (2, .int a2)]) d_W_obey_11 hl (by decide) (fun _ => rfl) (fun v2 ls hl => ?_)
  refine gg_aload_n X 13 d_W_obey_13 rfl (lv_at hl 3 rfl) ?_
  refine gg_iload_n X 14 d_W_obey_14 rfl (lv_at hl 4 rfl) ?_
  refine gg_bipush X 15 (7 : Int32) d_W_obey_15 (by decide) ?_
  refine gg_ishr X 17 d_W_obey_17 ?_
  refine gg_bipush X 18 (7 : Int32) d_W_obey_18 (by decide) ?_
  refine gg_iand X 20 d_W_obey_20 ?_
  refine gg_callVN X 21 nwOk_E [.int ((a2 >>> ((7 : Int32) &&& 31)) &&& (7 : Int32))] [] (fun _ _ h sz => M_C_get l D dI ad _ n1 ((a2 >>> ((7 : Int32) &&& 31)) &&& (7 : Int32)) hb1 h sz) (⟨va_cnB 1 X.1.2.2.2.2 (gwB w_145) rfl rfl rfl (X.2.2.2.2.2 _ nw_14) (X.1.2.2.2.2 _ (List.mem_cons_of_mem _ w_4)) (by decide +kernel) ⟨by decide, by decide⟩, X.1.2.2.2.2 _ (List.mem_cons_of_mem _ w_144), X.1.2.2.2.2 _ (List.mem_cons_of_mem _ ws_C_get)⟩) (he_E_Core hb1) rfl rfl hl.1 rfl (Nat.le_of_ble_eq_true rfl) ⟨Nat.zero_le _, Nat.zero_le _⟩ d_W_obey_21 (fun r3 s4 ho5 => ?_)
  refine gg_show_i ?_
  refine gg_istore X 24 (fun v6 => [(5, .int v6), (4, .int v2), (3, .int v1), (0, .ref (ad 0)), (1, .ref (ad (17 + n1))), (2, .int a2)]) d_W_obey_24 hl (by decide) (fun _ => rfl) (fun v6 ls hl => ?_)
  refine gg_aload_n X 26 d_W_obey_26 rfl (lv_at hl 4 rfl) ?_
  refine gg_iload_n X 27 d_W_obey_27 rfl (lv_at hl 5 rfl) ?_
  refine gg_bipush X 28 (10 : Int32) d_W_obey_28 (by decide) ?_
  refine gg_ishr X 30 d_W_obey_30 ?_
  refine gg_bipush X 31 (7 : Int32) d_W_obey_31 (by decide) ?_
  refine gg_iand X 33 d_W_obey_33 ?_
  refine gg_callVN X 34 nwOk_E [.int ((a2 >>> ((10 : Int32) &&& 31)) &&& (7 : Int32))] [] (fun _ _ h sz => M_C_get l D dI ad _ n1 ((a2 >>> ((10 : Int32) &&& 31)) &&& (7 : Int32)) hb1 h sz) (⟨va_cnB 1 X.1.2.2.2.2 (gwB w_145) rfl rfl rfl (X.2.2.2.2.2 _ nw_14) (X.1.2.2.2.2 _ (List.mem_cons_of_mem _ w_4)) (by decide +kernel) ⟨by decide, by decide⟩, X.1.2.2.2.2 _ (List.mem_cons_of_mem _ w_144), X.1.2.2.2.2 _ (List.mem_cons_of_mem _ ws_C_get)⟩) (he_E_Core hb1) rfl rfl hl.1 rfl (Nat.le_of_ble_eq_true rfl) ⟨Nat.zero_le _, Nat.zero_le _⟩ d_W_obey_34 (fun r7 s8 ho9 => ?_)
  refine gg_show_i ?_
  refine gg_istore X 37 (fun v10 => [(6, .int v10), (5, .int v6), (4, .int v2), (3, .int v1), (0, .ref (ad 0)), (1, .ref (ad (17 + n1))), (2, .int a2)]) d_W_obey_37 hl (by decide) (fun _ => rfl) (fun v10 ls hl => ?_)
  refine gg_iload_n X 39 d_W_obey_39 rfl (lv_at hl 6 rfl) ?_
  refine gg_bipush X 40 (16 : Int32) d_W_obey_40 (by decide) ?_
  refine gg_ishr X 42 d_W_obey_42 ?_
  refine gg_istore X 43 (fun v11 => [(7, .int v11), (6, .int v10), (5, .int v6), (4, .int v2), (3, .int v1), (0, .ref (ad 0)), (1, .ref (ad (17 + n1))), (2, .int a2)]) d_W_obey_43 hl (by decide) (fun _ => rfl) (fun v11 ls hl => ?_)
  refine gg_iload_n X 45 d_W_obey_45 rfl (lv_at hl 4 rfl) ?_
  refine gg_iconst X 46 (1 : Int32) d_W_obey_46 (by decide) ?_
  refine gg_icmp_lt X 47 56 d_W_obey_47 rfl (fun _ => ?_) (fun _ => ?_)
  · exact t_W_obey_56 X s8 _  (lv_sub hl [5] rfl)
  · refine gg_iload_n X 50 d_W_obey_50 rfl (lv_at hl 4 rfl) ?_
    refine gg_bipush X 51 (10 : Int32) d_W_obey_51 (by decide) ?_
    refine gg_icmp_le X 53 62 d_W_obey_53 rfl (fun _ => ?_) (fun _ => ?_)
    · refine gg_iload_n X 62 d_W_obey_62 rfl (lv_at hl 4 rfl) ?_
      refine gg_bipush X 63 (7 : Int32) d_W_obey_63 (by decide) ?_
      refine gg_icmp_eq X 65 74 d_W_obey_65 rfl (fun _ => ?_) (fun _ => ?_)
      · exact t_W_obey_74 X n1 v1 v2 v6 v10 v11 s8 _ hb1 (lv_sub hl [5, 6, 4, 3, 2, 1, 0] rfl)
      · refine gg_iload_n X 68 d_W_obey_68 rfl (lv_at hl 4 rfl) ?_
        refine gg_bipush X 69 (8 : Int32) d_W_obey_69 (by decide) ?_
        refine gg_icmp_ne X 71 92 d_W_obey_71 rfl (fun _ => ?_) (fun _ => ?_)
        · exact t_W_obey_92 X n1 v1 v2 v6 v10 v11 s8 _ hb1 (lv_sub hl [5, 6, 4, 3, 2, 1, 0] rfl)
        · exact t_W_obey_74 X n1 v1 v2 v6 v10 v11 s8 _ hb1 (lv_sub hl [5, 6, 4, 3, 2, 1, 0] rfl)
    · exact t_W_obey_56 X s8 _  (lv_sub hl [5] rfl)
theorem M_W_obey (l : Launch) (D : va_G) (dI : Nat → ClassId) (ad : Nat → Nat) (s : eS) (n1 : Nat) (a2 : Int32) (hb1 : n1 < 7) {r : Unit} {s' : eS} (h : f_W_obey n1 a2 s = some (r, s')) (sz : Nat) : Met l y_W_obey (Cond.code y_W_obey prog_1_method_33_code 8 none :: WS) rm_W_obey (Px (wE dI ad) D vwCl (tyE dI) nwE sz s [.ref (ad 0), .ref (ad (17 + n1)), .int a2]) (Qx rvV (wE dI ad) D vwCl (tyE dI) (va_A ((wE dI ad) s) sz) r s') 0 0 (va_A ((wE dI ad) s) sz) :=
  met_of [.ref (ad 0), .ref (ad (17 + n1)), .int a2] (by decide) rfl rfl (Nat.le_of_ble_eq_true rfl) h (fun p e s0 m args below meth c A ls X hl => t_W_obey X n1 a2 s ls hb1 hl)
end
section
set_option maxHeartbeats 4000000 in
set_option maxRecDepth 100000 in
theorem t_W_step_67 {p : Program} {l : Launch} {e : Env} {s0 : State} {m : MethodId} {args : Array Value} {below : List Frame} {meth : Method} {c : Code} {D : va_G} {A : Nat → Prop} {dI : Nat → ClassId} {ad : Nat → Nat} (X : CX p s0 m args meth c D vwCl (tyE dI) nwE A prog_1_method_32_code 3 none (Cond.code y_W_step prog_1_method_32_code 3 none :: WS) R_W) (k0 : Nat) (s : eS) (ls : Array Slot) (hk0 : k0 < 7) (hl : lv_has ls 3 [(0, .ref (ad 0))]) : GG p l e rm_W_step s0 m args below meth c D vwCl (tyE dI) A (wE dI ad) 0 0 (QM below args s0 D vwCl (tyE dI) A (wE dI ad) rvV) (f_W_step_67 k0 s) (F0 m 67 ls [.ref (ad (17 + k0))]) s := by
  unfold f_W_step_67
  refine gg_astore_n X 67 7 (fun t1 => [(1, .ref (ad (17 + t1))), (0, .ref (ad 0))]) d_W_step_67 rfl hl (by decide) (fun _ => rfl) hk0 (fun t1 ls ht2 hl => ?_)
  refine gg_aload_n X 68 d_W_step_68 rfl (lv_at hl 1 rfl) ?_
  refine gg_aload_n X 69 d_W_step_69 rfl (lv_at hl 0 rfl) ?_
  refine gg_get_C_pc X 70 ht2 (Or.inr ⟨_, nw_3⟩) d_W_step_70 ?_
  refine gg_callV X 73 nwOk_E [.int (s 8 t1)] [] (fun _ _ h sz => M_W_runnerMayUse l D dI ad _ (s 8 t1)  h sz) (cwV 1 X.1.2.2.2.2 (gwV w_277 w_279 ws_W_runnerMayUse w_1 w_280) rfl rfl rfl (by decide +kernel) ⟨by decide, by decide⟩) (he_E_Main) rfl rfl hl.1 rfl (Nat.le_of_ble_eq_true rfl) ⟨Nat.zero_le _, Nat.zero_le _⟩ d_W_step_73 (fun r3 s4 ho5 => ?_)
  refine gg_show_i ?_
  refine gg_if_ne X 76 85 d_W_step_76 rfl (fun _ => ?_) (fun _ => ?_)
  · refine gg_aload_n X 85 d_W_step_85 rfl (lv_at hl 1 rfl) ?_
    refine gg_get_W_memory X 86 (Or.inl (List.mem_cons_of_mem _ w_81)) d_W_step_86 ?_
    refine gg_aload_n X 89 d_W_step_89 rfl (lv_at hl 0 rfl) ?_
    refine gg_get_C_pc X 90 ht2 (Or.inr ⟨_, nw_3⟩) d_W_step_90 ?_
    refine gg_ald_MEM X 93 d_W_step_93 ?_
    refine gg_istore_n X 94 (fun v6 => [(2, .int v6), (1, .ref (ad (17 + t1))), (0, .ref (ad 0))]) d_W_step_94 rfl hl (by decide) (fun _ => rfl) (fun v6 ls hl => ?_)
    refine gg_iload_n X 95 d_W_step_95 rfl (lv_at hl 0 rfl) ?_
    refine gg_bipush X 96 (15 : Int32) d_W_step_96 (by decide) ?_
    refine gg_iand X 98 d_W_step_98 ?_
    refine gg_bipush X 99 (11 : Int32) d_W_step_99 (by decide) ?_
    refine gg_icmp_ne X 101 116 d_W_step_101 rfl (fun _ => ?_) (fun _ => ?_)
    · refine gg_aload_n X 116 d_W_step_116 rfl (lv_at hl 2 rfl) ?_
      refine gg_aload_n X 117 d_W_step_117 rfl (lv_at hl 1 rfl) ?_
      refine gg_iload_n X 118 d_W_step_118 rfl (lv_at hl 0 rfl) ?_
      refine gg_callV X 119 nwOk_E [.ref (ad (17 + t1)), .int v6] [] (fun _ _ h sz => M_W_obey l D dI ad _ t1 v6 ht2 h sz) (cwV 2 X.1.2.2.2.2 (gwV w_302 w_304 ws_W_obey w_1 w_305) rfl rfl rfl (by decide +kernel) ⟨by decide, by decide⟩) (he_E_Main) rfl rfl hl.1 rfl (Nat.le_of_ble_eq_true rfl) ⟨Nat.zero_le _, Nat.zero_le _⟩ d_W_step_119 (fun r7 s8 ho9 => ?_)
      refine gg_show_v ?_
      exact gg_vret X 122 d_W_step_122
    · refine gg_aload_n X 104 d_W_step_104 rfl (lv_at hl 2 rfl) ?_
      refine gg_aload_n X 105 d_W_step_105 rfl (lv_at hl 1 rfl) ?_
      refine gg_iload_n X 106 d_W_step_106 rfl (lv_at hl 0 rfl) ?_
      refine gg_bipush X 107 (16 : Int32) d_W_step_107 (by decide) ?_
      refine gg_ishr X 109 d_W_step_109 ?_
      refine gg_callV X 110 nwOk_E [.ref (ad (17 + t1)), .int (v6 >>> ((16 : Int32) &&& 31))] [] (fun _ _ h sz => M_W_obeyCall l D dI ad _ t1 (v6 >>> ((16 : Int32) &&& 31)) ht2 h sz) (cwV 2 X.1.2.2.2.2 (gwV w_289 w_291 ws_W_obeyCall w_1 w_292) rfl rfl rfl (by decide +kernel) ⟨by decide, by decide⟩) (he_E_Main) rfl rfl hl.1 rfl (Nat.le_of_ble_eq_true rfl) ⟨Nat.zero_le _, Nat.zero_le _⟩ d_W_step_110 (fun r10 s11 ho12 => ?_)
      refine gg_show_v ?_
      refine gg_goto X 113 122 d_W_step_113 rfl ?_
      exact gg_vret X 122 d_W_step_122
  · refine gg_aload_n X 79 d_W_step_79 rfl (lv_at hl 1 rfl) ?_
    refine gg_iconst X 80 (3 : Int32) d_W_step_80 (by decide) ?_
    refine gg_callV X 81 nwOk_E [.int (3 : Int32)] [] (fun _ _ h sz => M_W_fault l D dI ad _ (3 : Int32)  h sz) (cwV 1 X.1.2.2.2.2 (gwV w_285 w_287 ws_W_fault w_1 w_288) rfl rfl rfl (by decide +kernel) ⟨by decide, by decide⟩) (he_E_Main) rfl rfl hl.1 rfl (Nat.le_of_ble_eq_true rfl) ⟨Nat.zero_le _, Nat.zero_le _⟩ d_W_step_81 (fun r13 s14 ho15 => ?_)
    refine gg_show_v ?_
    exact gg_vret X 84 d_W_step_84
set_option maxHeartbeats 4000000 in
set_option maxRecDepth 100000 in
theorem t_W_step_45 {p : Program} {l : Launch} {e : Env} {s0 : State} {m : MethodId} {args : Array Value} {below : List Frame} {meth : Method} {c : Code} {D : va_G} {A : Nat → Prop} {dI : Nat → ClassId} {ad : Nat → Nat} (X : CX p s0 m args meth c D vwCl (tyE dI) nwE A prog_1_method_32_code 3 none (Cond.code y_W_step prog_1_method_32_code 3 none :: WS) R_W)  (s : eS) (ls : Array Slot)  (hl : lv_has ls 3 [(0, .ref (ad 0))]) : GG p l e rm_W_step s0 m args below meth c D vwCl (tyE dI) A (wE dI ad) 0 0 (QM below args s0 D vwCl (tyE dI) A (wE dI ad) rvV) (f_W_step_45 s) (F0 m 45 ls []) s := by
  unfold f_W_step_45
  refine gg_aload_n X 45 d_W_step_45 rfl (lv_at hl 0 rfl) ?_
  refine gg_get_W_running X 46 (Or.inl (List.mem_cons_of_mem _ w_87)) d_W_step_46 ?_
  refine gg_iconst X 49 (-1 : Int32) d_W_step_49 (by decide) ?_
  refine gg_icmp_ne X 50 60 d_W_step_50 rfl (fun _ => ?_) (fun _ => ?_)
  · refine gg_aload_n X 60 d_W_step_60 rfl (lv_at hl 0 rfl) ?_
    refine gg_callV X 61 nwOk_E [] [] (fun _ _ h sz => M_W_runningThread l D dI ad _   h sz) (cwV 0 X.1.2.2.2.2 (gwV w_273 w_275 ws_W_runningThread w_1 w_276) rfl rfl rfl (by decide +kernel) ⟨by decide, by decide⟩) (he_E_Main) rfl rfl hl.1 rfl (Nat.le_of_ble_eq_true rfl) ⟨Nat.zero_le _, Nat.zero_le _⟩ d_W_step_61 (fun r1 s2 ho3 => ?_)
    refine gg_show_r ?_
    refine gg_get_T_core X 64 (bd_runningThread ho3) (Or.inr ⟨_, nw_4⟩) d_W_step_64 ?_
    exact t_W_step_67 X r1 s2 _ (Nat.lt_of_lt_of_le (bd_runningThread ho3) (by decide)) (lv_sub hl [0] rfl)
  · refine gg_aload_n X 53 d_W_step_53 rfl (lv_at hl 0 rfl) ?_
    refine gg_get_W_system X 54 (Or.inl (List.mem_cons_of_mem _ w_84)) d_W_step_54 ?_
    refine gg_goto X 57 67 d_W_step_57 rfl ?_
    exact t_W_step_67 X 6 s _ (by decide) (lv_sub hl [0] rfl)
set_option maxHeartbeats 4000000 in
set_option maxRecDepth 100000 in
theorem t_W_step {p : Program} {l : Launch} {e : Env} {s0 : State} {m : MethodId} {args : Array Value} {below : List Frame} {meth : Method} {c : Code} {D : va_G} {A : Nat → Prop} {dI : Nat → ClassId} {ad : Nat → Nat} (X : CX p s0 m args meth c D vwCl (tyE dI) nwE A prog_1_method_32_code 3 none (Cond.code y_W_step prog_1_method_32_code 3 none :: WS) R_W)  (s : eS) (ls : Array Slot)  (hl : lv_has ls 3 [(0, .ref (ad 0))]) : GG p l e rm_W_step s0 m args below meth c D vwCl (tyE dI) A (wE dI ad) 0 0 (QM below args s0 D vwCl (tyE dI) A (wE dI ad) rvV) (f_W_step s) (F0 m 0 ls []) s := by
  unfold f_W_step
  refine gg_aload_n X 0 d_W_step_0 rfl (lv_at hl 0 rfl) ?_
  refine gg_dup X 1 d_W_step_1 rfl ?_
  refine gg_get_W_tick X 2 (Or.inl (List.mem_cons_of_mem _ w_89)) d_W_step_2 ?_
  refine gg_iconst X 5 (1 : Int32) d_W_step_5 (by decide) ?_
  refine gg_iadd X 6 d_W_step_6 ?_
  refine gg_put_W_tick X 7 (Or.inl (List.mem_cons_of_mem _ w_89)) d_W_step_7 (fun s1 => ?_)
  refine gg_aload_n X 10 d_W_step_10 rfl (lv_at hl 0 rfl) ?_
  refine gg_get_W_running X 11 (Or.inl (List.mem_cons_of_mem _ w_87)) d_W_step_11 ?_
  refine gg_iconst X 14 (-1 : Int32) d_W_step_14 (by decide) ?_
  refine gg_icmp_eq X 15 45 d_W_step_15 rfl (fun _ => ?_) (fun _ => ?_)
  · exact t_W_step_45 X s1 _  (lv_sub hl [0] rfl)
  · refine gg_aload_n X 18 d_W_step_18 rfl (lv_at hl 0 rfl) ?_
    refine gg_get_W_period X 19 (Or.inl (List.mem_cons_of_mem _ w_88)) d_W_step_19 ?_
    refine gg_if_le X 22 45 d_W_step_22 rfl (fun _ => ?_) (fun _ => ?_)
    · exact t_W_step_45 X s1 _  (lv_sub hl [0] rfl)
    · refine gg_aload_n X 25 d_W_step_25 rfl (lv_at hl 0 rfl) ?_
      refine gg_get_W_tick X 26 (Or.inl (List.mem_cons_of_mem _ w_89)) d_W_step_26 ?_
      refine gg_aload_n X 29 d_W_step_29 rfl (lv_at hl 0 rfl) ?_
      refine gg_get_W_period X 30 (Or.inl (List.mem_cons_of_mem _ w_88)) d_W_step_30 ?_
      refine gg_irem X 33 d_W_step_33 (fun _ => ?_)
      refine gg_if_ne X 34 45 d_W_step_34 rfl (fun _ => ?_) (fun _ => ?_)
      · exact t_W_step_45 X s1 _  (lv_sub hl [0] rfl)
      · refine gg_aload_n X 37 d_W_step_37 rfl (lv_at hl 0 rfl) ?_
        refine gg_iconst X 38 (3 : Int32) d_W_step_38 (by decide) ?_
        refine gg_iconst X 39 (2 : Int32) d_W_step_39 (by decide) ?_
        refine gg_iconst X 40 (0 : Int32) d_W_step_40 (by decide) ?_
        refine gg_callV X 41 nwOk_E [.int (3 : Int32), .int (2 : Int32), .int (0 : Int32)] [] (fun _ _ h sz => M_W_leave l D dI ad _ (3 : Int32) (2 : Int32) (0 : Int32)  h sz) (cwV 3 X.1.2.2.2.2 (gwV w_269 w_271 ws_W_leave w_1 w_272) rfl rfl rfl (by decide +kernel) ⟨by decide, by decide⟩) (he_E_Main) rfl rfl hl.1 rfl (Nat.le_of_ble_eq_true rfl) ⟨Nat.zero_le _, Nat.zero_le _⟩ d_W_step_41 (fun r2 s3 ho4 => ?_)
        refine gg_show_v ?_
        exact gg_vret X 44 d_W_step_44
theorem M_W_step (l : Launch) (D : va_G) (dI : Nat → ClassId) (ad : Nat → Nat) (s : eS)   {r : Unit} {s' : eS} (h : f_W_step s = some (r, s')) (sz : Nat) : Met l y_W_step (Cond.code y_W_step prog_1_method_32_code 3 none :: WS) rm_W_step (Px (wE dI ad) D vwCl (tyE dI) nwE sz s [.ref (ad 0)]) (Qx rvV (wE dI ad) D vwCl (tyE dI) (va_A ((wE dI ad) s) sz) r s') 0 0 (va_A ((wE dI ad) s) sz) :=
  met_of [.ref (ad 0)] (by decide) rfl rfl (Nat.le_of_ble_eq_true rfl) h (fun p e s0 m args below meth c A ls X hl => t_W_step X s ls  hl)
set_option maxHeartbeats 4000000 in
set_option maxRecDepth 100000 in
theorem t_W_run_11 {p : Program} {l : Launch} {e : Env} {s0 : State} {m : MethodId} {args : Array Value} {below : List Frame} {meth : Method} {c : Code} {D : va_G} {A : Nat → Prop} {dI : Nat → ClassId} {ad : Nat → Nat} (X : CX p s0 m args meth c D vwCl (tyE dI) nwE A prog_1_method_11_code 3 (some .int) (Cond.code y_W_run prog_1_method_11_code 3 (some .int) :: WS) R_W)  (s : eS) (ls : Array Slot)  (hl : lv_has ls 3 []) : GG p l e rm_W_run s0 m args below meth c D vwCl (tyE dI) A (wE dI ad) 0 0 (QM below args s0 D vwCl (tyE dI) A (wE dI ad) rvI) (f_W_run_11 s) (F0 m 11 ls []) s := by
  unfold f_W_run_11
  refine gg_iconst X 11 (0 : Int32) d_W_run_11 (by decide) ?_
  exact gg_iret X 12 d_W_run_12
set_option maxHeartbeats 4000000 in
set_option maxRecDepth 100000 in
theorem t_W_run_15 {p : Program} {l : Launch} {e : Env} {s0 : State} {m : MethodId} {args : Array Value} {below : List Frame} {meth : Method} {c : Code} {D : va_G} {A : Nat → Prop} {dI : Nat → ClassId} {ad : Nat → Nat} (X : CX p s0 m args meth c D vwCl (tyE dI) nwE A prog_1_method_11_code 3 (some .int) (Cond.code y_W_run prog_1_method_11_code 3 (some .int) :: WS) R_W) : ∀ (fl : Nat) (x1 : Int32) (x2 : Int32) (s : eS) (ls : Array Slot), lv_has ls 3 [(0, .ref (ad 0)), (1, .int x1), (2, .int x2)] → GG p l e rm_W_run s0 m args below meth c D vwCl (tyE dI) A (wE dI ad) 0 0 (QM below args s0 D vwCl (tyE dI) A (wE dI ad) rvI) (f_W_run_15 fl x1 x2 s) (F0 m 15 ls []) s := by
  intro fl
  induction fl with
  | zero =>
    intro x1 x2 s ls hl
    rw [f_W_run_15]
    exact gg_none
  | succ fl ih =>
    intro x1 x2 s ls hl
    rw [f_W_run_15]
    refine gg_iload_n X 15 d_W_run_15 rfl (lv_at hl 2 rfl) ?_
    refine gg_iload_n X 16 d_W_run_16 rfl (lv_at hl 1 rfl) ?_
    refine gg_icmp_ge X 17 47 d_W_run_17 rfl (fun _ => ?_) (fun _ => ?_)
    · refine gg_iload_n X 47 d_W_run_47 rfl (lv_at hl 1 rfl) ?_
      exact gg_iret X 48 d_W_run_48
    · refine gg_aload_n X 20 d_W_run_20 rfl (lv_at hl 0 rfl) ?_
      refine gg_get_W_halted X 21 (Or.inl (List.mem_cons_of_mem _ w_86)) d_W_run_21 ?_
      refine gg_if_eq X 24 37 d_W_run_24 rfl (fun _ => ?_) (fun _ => ?_)
      · refine gg_aload_n X 37 d_W_run_37 rfl (lv_at hl 0 rfl) ?_
        refine gg_callV X 38 nwOk_E [] [] (fun _ _ h sz => M_W_step l D dI ad _   h sz) (cwV 0 X.1.2.2.2.2 (gwV w_265 w_267 ws_W_step w_1 w_268) rfl rfl rfl (by decide +kernel) ⟨by decide, by decide⟩) (he_E_Main) rfl rfl hl.1 rfl (Nat.le_of_ble_eq_true rfl) ⟨Nat.zero_le _, Nat.zero_le _⟩ d_W_run_38 (fun r1 s2 ho3 => ?_)
        refine gg_show_v ?_
        refine gg_iinc X 41 (k := 2) (1 : Int32) (fun v4 => [(2, .int v4), (0, .ref (ad 0)), (1, .int x1)]) d_W_run_41 hl rfl (by decide) (by decide) (fun _ => rfl) (fun v4 ls hl => ?_)
        refine gg_goto X 44 15 d_W_run_44 rfl ?_
        exact ih x1 v4 s2 _  (lv_sub hl [1, 2, 0] rfl)
      · refine gg_aload_n X 27 d_W_run_27 rfl (lv_at hl 0 rfl) ?_
        refine gg_get_W_running X 28 (Or.inl (List.mem_cons_of_mem _ w_87)) d_W_run_28 ?_
        refine gg_iconst X 31 (-1 : Int32) d_W_run_31 (by decide) ?_
        refine gg_icmp_ne X 32 37 d_W_run_32 rfl (fun _ => ?_) (fun _ => ?_)
        · refine gg_aload_n X 37 d_W_run_37 rfl (lv_at hl 0 rfl) ?_
          refine gg_callV X 38 nwOk_E [] [] (fun _ _ h sz => M_W_step l D dI ad _   h sz) (cwV 0 X.1.2.2.2.2 (gwV w_265 w_267 ws_W_step w_1 w_268) rfl rfl rfl (by decide +kernel) ⟨by decide, by decide⟩) (he_E_Main) rfl rfl hl.1 rfl (Nat.le_of_ble_eq_true rfl) ⟨Nat.zero_le _, Nat.zero_le _⟩ d_W_run_38 (fun r5 s6 ho7 => ?_)
          refine gg_show_v ?_
          refine gg_iinc X 41 (k := 2) (1 : Int32) (fun v8 => [(2, .int v8), (0, .ref (ad 0)), (1, .int x1)]) d_W_run_41 hl rfl (by decide) (by decide) (fun _ => rfl) (fun v8 ls hl => ?_)
          refine gg_goto X 44 15 d_W_run_44 rfl ?_
          exact ih x1 v8 s6 _  (lv_sub hl [1, 2, 0] rfl)
        · refine gg_iload_n X 35 d_W_run_35 rfl (lv_at hl 2 rfl) ?_
          exact gg_iret X 36 d_W_run_36
set_option maxHeartbeats 4000000 in
set_option maxRecDepth 100000 in
theorem t_W_run {p : Program} {l : Launch} {e : Env} {s0 : State} {m : MethodId} {args : Array Value} {below : List Frame} {meth : Method} {c : Code} {D : va_G} {A : Nat → Prop} {dI : Nat → ClassId} {ad : Nat → Nat} (X : CX p s0 m args meth c D vwCl (tyE dI) nwE A prog_1_method_11_code 3 (some .int) (Cond.code y_W_run prog_1_method_11_code 3 (some .int) :: WS) R_W) (a1 : Int32) (s : eS) (ls : Array Slot)  (hl : lv_has ls 3 [(0, .ref (ad 0)), (1, .int a1)]) : GG p l e rm_W_run s0 m args below meth c D vwCl (tyE dI) A (wE dI ad) 0 0 (QM below args s0 D vwCl (tyE dI) A (wE dI ad) rvI) (f_W_run a1 s) (F0 m 0 ls []) s := by
  unfold f_W_run
  refine gg_iload_n X 0 d_W_run_0 rfl (lv_at hl 1 rfl) ?_
  refine gg_if_lt X 1 11 d_W_run_1 rfl (fun _ => ?_) (fun _ => ?_)
  · exact t_W_run_11 X s _  (lv_sub hl [] rfl)
  · refine gg_iload_n X 4 d_W_run_4 rfl (lv_at hl 1 rfl) ?_
    refine gg_sipush X 5 (1000 : Int32) d_W_run_5 (by decide) ?_
    refine gg_icmp_le X 8 13 d_W_run_8 rfl (fun _ => ?_) (fun _ => ?_)
    · refine gg_iconst X 13 (0 : Int32) d_W_run_13 (by decide) ?_
      refine gg_istore_n X 14 (fun v1 => [(2, .int v1), (0, .ref (ad 0)), (1, .int a1)]) d_W_run_14 rfl hl (by decide) (fun _ => rfl) (fun v1 ls hl => ?_)
      exact t_W_run_15 X fu a1 v1 s _  (lv_sub hl [1, 2, 0] rfl)
    · exact t_W_run_11 X s _  (lv_sub hl [] rfl)
theorem M_W_run (l : Launch) (D : va_G) (dI : Nat → ClassId) (ad : Nat → Nat) (s : eS) (a1 : Int32)  {r : Int32} {s' : eS} (h : f_W_run a1 s = some (r, s')) (sz : Nat) : Met l y_W_run (Cond.code y_W_run prog_1_method_11_code 3 (some .int) :: WS) rm_W_run (Px (wE dI ad) D vwCl (tyE dI) nwE sz s [.ref (ad 0), .int a1]) (Qx rvI (wE dI ad) D vwCl (tyE dI) (va_A ((wE dI ad) s) sz) r s') 0 0 (va_A ((wE dI ad) s) sz) :=
  met_of [.ref (ad 0), .int a1] (by decide) rfl rfl (Nat.le_of_ble_eq_true rfl) h (fun p e s0 m args below meth c A ls X hl => t_W_run X a1 s ls  hl)
set_option maxHeartbeats 4000000 in
set_option maxRecDepth 100000 in
theorem t_W_period {p : Program} {l : Launch} {e : Env} {s0 : State} {m : MethodId} {args : Array Value} {below : List Frame} {meth : Method} {c : Code} {D : va_G} {A : Nat → Prop} {dI : Nat → ClassId} {ad : Nat → Nat} (X : CX p s0 m args meth c D vwCl (tyE dI) nwE A prog_1_method_12_code 2 none (Cond.code y_W_period prog_1_method_12_code 2 none :: WS) R_W) (a1 : Int32) (s : eS) (ls : Array Slot)  (hl : lv_has ls 2 [(0, .ref (ad 0)), (1, .int a1)]) : GG p l e rm_W_period s0 m args below meth c D vwCl (tyE dI) A (wE dI ad) 0 0 (QM below args s0 D vwCl (tyE dI) A (wE dI ad) rvV) (f_W_period a1 s) (F0 m 0 ls []) s := by
  unfold f_W_period
  refine gg_aload_n X 0 d_W_period_0 rfl (lv_at hl 0 rfl) ?_
  refine gg_iload_n X 1 d_W_period_1 rfl (lv_at hl 1 rfl) ?_
  refine gg_put_W_period X 2 (Or.inl (List.mem_cons_of_mem _ w_88)) d_W_period_2 (fun s1 => ?_)
  exact gg_vret X 5 d_W_period_5
theorem M_W_period (l : Launch) (D : va_G) (dI : Nat → ClassId) (ad : Nat → Nat) (s : eS) (a1 : Int32)  {r : Unit} {s' : eS} (h : f_W_period a1 s = some (r, s')) (sz : Nat) : Met l y_W_period (Cond.code y_W_period prog_1_method_12_code 2 none :: WS) rm_W_period (Px (wE dI ad) D vwCl (tyE dI) nwE sz s [.ref (ad 0), .int a1]) (Qx rvV (wE dI ad) D vwCl (tyE dI) (va_A ((wE dI ad) s) sz) r s') 0 0 (va_A ((wE dI ad) s) sz) :=
  met_of [.ref (ad 0), .int a1] (by decide) rfl rfl (Nat.le_of_ble_eq_true rfl) h (fun p e s0 m args below meth c A ls X hl => t_W_period X a1 s ls  hl)
set_option maxHeartbeats 4000000 in
set_option maxRecDepth 100000 in
theorem t_W_tick {p : Program} {l : Launch} {e : Env} {s0 : State} {m : MethodId} {args : Array Value} {below : List Frame} {meth : Method} {c : Code} {D : va_G} {A : Nat → Prop} {dI : Nat → ClassId} {ad : Nat → Nat} (X : CX p s0 m args meth c D vwCl (tyE dI) nwE A prog_1_method_13_code 1 (some .int) (Cond.code y_W_tick prog_1_method_13_code 1 (some .int) :: WS) R_W)  (s : eS) (ls : Array Slot)  (hl : lv_has ls 1 [(0, .ref (ad 0))]) : GG p l e rm_W_tick s0 m args below meth c D vwCl (tyE dI) A (wE dI ad) 0 0 (QM below args s0 D vwCl (tyE dI) A (wE dI ad) rvI) (f_W_tick s) (F0 m 0 ls []) s := by
  unfold f_W_tick
  refine gg_aload_n X 0 d_W_tick_0 rfl (lv_at hl 0 rfl) ?_
  refine gg_get_W_tick X 1 (Or.inl (List.mem_cons_of_mem _ w_89)) d_W_tick_1 ?_
  exact gg_iret X 4 d_W_tick_4
theorem M_W_tick (l : Launch) (D : va_G) (dI : Nat → ClassId) (ad : Nat → Nat) (s : eS)   {r : Int32} {s' : eS} (h : f_W_tick s = some (r, s')) (sz : Nat) : Met l y_W_tick (Cond.code y_W_tick prog_1_method_13_code 1 (some .int) :: WS) rm_W_tick (Px (wE dI ad) D vwCl (tyE dI) nwE sz s [.ref (ad 0)]) (Qx rvI (wE dI ad) D vwCl (tyE dI) (va_A ((wE dI ad) s) sz) r s') 0 0 (va_A ((wE dI ad) s) sz) :=
  met_of [.ref (ad 0)] (by decide) rfl rfl (Nat.le_of_ble_eq_true rfl) h (fun p e s0 m args below meth c A ls X hl => t_W_tick X s ls  hl)
set_option maxHeartbeats 4000000 in
set_option maxRecDepth 100000 in
theorem t_W_running {p : Program} {l : Launch} {e : Env} {s0 : State} {m : MethodId} {args : Array Value} {below : List Frame} {meth : Method} {c : Code} {D : va_G} {A : Nat → Prop} {dI : Nat → ClassId} {ad : Nat → Nat} (X : CX p s0 m args meth c D vwCl (tyE dI) nwE A prog_1_method_14_code 1 (some .int) (Cond.code y_W_running prog_1_method_14_code 1 (some .int) :: WS) R_W)  (s : eS) (ls : Array Slot)  (hl : lv_has ls 1 [(0, .ref (ad 0))]) : GG p l e rm_W_running s0 m args below meth c D vwCl (tyE dI) A (wE dI ad) 0 0 (QM below args s0 D vwCl (tyE dI) A (wE dI ad) rvI) (f_W_running s) (F0 m 0 ls []) s := by
  unfold f_W_running
  refine gg_aload_n X 0 d_W_running_0 rfl (lv_at hl 0 rfl) ?_
  refine gg_get_W_running X 1 (Or.inl (List.mem_cons_of_mem _ w_87)) d_W_running_1 ?_
  exact gg_iret X 4 d_W_running_4
theorem M_W_running (l : Launch) (D : va_G) (dI : Nat → ClassId) (ad : Nat → Nat) (s : eS)   {r : Int32} {s' : eS} (h : f_W_running s = some (r, s')) (sz : Nat) : Met l y_W_running (Cond.code y_W_running prog_1_method_14_code 1 (some .int) :: WS) rm_W_running (Px (wE dI ad) D vwCl (tyE dI) nwE sz s [.ref (ad 0)]) (Qx rvI (wE dI ad) D vwCl (tyE dI) (va_A ((wE dI ad) s) sz) r s') 0 0 (va_A ((wE dI ad) s) sz) :=
  met_of [.ref (ad 0)] (by decide) rfl rfl (Nat.le_of_ble_eq_true rfl) h (fun p e s0 m args below meth c A ls X hl => t_W_running X s ls  hl)
set_option maxHeartbeats 4000000 in
set_option maxRecDepth 100000 in
theorem t_W_region {p : Program} {l : Launch} {e : Env} {s0 : State} {m : MethodId} {args : Array Value} {below : List Frame} {meth : Method} {c : Code} {D : va_G} {A : Nat → Prop} {dI : Nat → ClassId} {ad : Nat → Nat} (X : CX p s0 m args meth c D vwCl (tyE dI) nwE A prog_1_method_15_code 2 (some .int) (Cond.code y_W_region prog_1_method_15_code 2 (some .int) :: WS) R_W) (a1 : Int32) (s : eS) (ls : Array Slot)  (hl : lv_has ls 2 [(0, .ref (ad 0)), (1, .int a1)]) : GG p l e rm_W_region s0 m args below meth c D vwCl (tyE dI) A (wE dI ad) 0 0 (QM below args s0 D vwCl (tyE dI) A (wE dI ad) rvI) (f_W_region a1 s) (F0 m 0 ls []) s := by
  unfold f_W_region
  refine gg_iload_n X 0 d_W_region_0 rfl (lv_at hl 1 rfl) ?_
  refine gg_callS X 1 nwOk_E [.int a1] [] (fun _ _ h sz => M_W_isRegion l D dI ad _ a1  h sz) (cwS 1 X.1.2.2.2.2 (gwS w_170 w_171 w_1 w_172) rfl rfl rfl (by decide +kernel) ⟨by decide, by decide⟩) rfl hl.1 rfl (Nat.le_of_ble_eq_true rfl) ⟨Nat.zero_le _, Nat.zero_le _⟩ d_W_region_1 (fun r1 s2 ho3 => ?_)
  refine gg_show_i ?_
  refine gg_if_eq X 4 16 d_W_region_4 rfl (fun _ => ?_) (fun _ => ?_)
  · refine gg_iconst X 16 (-1 : Int32) d_W_region_16 (by decide) ?_
    exact gg_iret X 17 d_W_region_17
  · refine gg_aload_n X 7 d_W_region_7 rfl (lv_at hl 0 rfl) ?_
    refine gg_get_W_kinds X 8 (Or.inl (List.mem_cons_of_mem _ w_82)) d_W_region_8 ?_
    refine gg_iload_n X 11 d_W_region_11 rfl (lv_at hl 1 rfl) ?_
    refine gg_ald_KIN X 12 d_W_region_12 ?_
    refine gg_goto X 13 17 d_W_region_13 rfl ?_
    exact gg_iret X 17 d_W_region_17
theorem M_W_region (l : Launch) (D : va_G) (dI : Nat → ClassId) (ad : Nat → Nat) (s : eS) (a1 : Int32)  {r : Int32} {s' : eS} (h : f_W_region a1 s = some (r, s')) (sz : Nat) : Met l y_W_region (Cond.code y_W_region prog_1_method_15_code 2 (some .int) :: WS) rm_W_region (Px (wE dI ad) D vwCl (tyE dI) nwE sz s [.ref (ad 0), .int a1]) (Qx rvI (wE dI ad) D vwCl (tyE dI) (va_A ((wE dI ad) s) sz) r s') 0 0 (va_A ((wE dI ad) s) sz) :=
  met_of [.ref (ad 0), .int a1] (by decide) rfl rfl (Nat.le_of_ble_eq_true rfl) h (fun p e s0 m args below meth c A ls X hl => t_W_region X a1 s ls  hl)
set_option maxHeartbeats 4000000 in
set_option maxRecDepth 100000 in
theorem t_W_enclave {p : Program} {l : Launch} {e : Env} {s0 : State} {m : MethodId} {args : Array Value} {below : List Frame} {meth : Method} {c : Code} {D : va_G} {A : Nat → Prop} {dI : Nat → ClassId} {ad : Nat → Nat} (X : CX p s0 m args meth c D vwCl (tyE dI) nwE A prog_1_method_16_code 2 (some .int) (Cond.code y_W_enclave prog_1_method_16_code 2 (some .int) :: WS) R_W) (a1 : Int32) (s : eS) (ls : Array Slot)  (hl : lv_has ls 2 [(0, .ref (ad 0)), (1, .int a1)]) : GG p l e rm_W_enclave s0 m args below meth c D vwCl (tyE dI) A (wE dI ad) 0 0 (QM below args s0 D vwCl (tyE dI) A (wE dI ad) rvI) (f_W_enclave a1 s) (F0 m 0 ls []) s := by
  unfold f_W_enclave
  refine gg_iload_n X 0 d_W_enclave_0 rfl (lv_at hl 1 rfl) ?_
  refine gg_callS X 1 nwOk_E [.int a1] [] (fun _ _ h sz => M_W_isEnclave l D dI ad _ a1  h sz) (cwS 1 X.1.2.2.2.2 (gwS w_194 w_195 w_1 w_196) rfl rfl rfl (by decide +kernel) ⟨by decide, by decide⟩) rfl hl.1 rfl (Nat.le_of_ble_eq_true rfl) ⟨Nat.zero_le _, Nat.zero_le _⟩ d_W_enclave_1 (fun r1 s2 ho3 => ?_)
  refine gg_show_i ?_
  refine gg_if_eq X 4 19 d_W_enclave_4 rfl (fun _ => ?_) (fun _ => ?_)
  · refine gg_iconst X 19 (-1 : Int32) d_W_enclave_19 (by decide) ?_
    exact gg_iret X 20 d_W_enclave_20
  · refine gg_aload_n X 7 d_W_enclave_7 rfl (lv_at hl 0 rfl) ?_
    refine gg_get_W_enclaves X 8 (Or.inl (List.mem_cons_of_mem _ w_83)) d_W_enclave_8 ?_
    refine gg_iload_n X 11 d_W_enclave_11 rfl (lv_at hl 1 rfl) ?_
    refine gg_ald_ENA X 12 d_W_enclave_12 (fun hi4 => ?_)
    refine gg_get_V_state X 13 (ixb hi4) (Or.inr ⟨_, nw_9⟩) d_W_enclave_13 ?_
    refine gg_goto X 16 20 d_W_enclave_16 rfl ?_
    exact gg_iret X 20 d_W_enclave_20
theorem M_W_enclave (l : Launch) (D : va_G) (dI : Nat → ClassId) (ad : Nat → Nat) (s : eS) (a1 : Int32)  {r : Int32} {s' : eS} (h : f_W_enclave a1 s = some (r, s')) (sz : Nat) : Met l y_W_enclave (Cond.code y_W_enclave prog_1_method_16_code 2 (some .int) :: WS) rm_W_enclave (Px (wE dI ad) D vwCl (tyE dI) nwE sz s [.ref (ad 0), .int a1]) (Qx rvI (wE dI ad) D vwCl (tyE dI) (va_A ((wE dI ad) s) sz) r s') 0 0 (va_A ((wE dI ad) s) sz) :=
  met_of [.ref (ad 0), .int a1] (by decide) rfl rfl (Nat.le_of_ble_eq_true rfl) h (fun p e s0 m args below meth c A ls X hl => t_W_enclave X a1 s ls  hl)
set_option maxHeartbeats 4000000 in
set_option maxRecDepth 100000 in
theorem t_W_thread_31 {p : Program} {l : Launch} {e : Env} {s0 : State} {m : MethodId} {args : Array Value} {below : List Frame} {meth : Method} {c : Code} {D : va_G} {A : Nat → Prop} {dI : Nat → ClassId} {ad : Nat → Nat} (X : CX p s0 m args meth c D vwCl (tyE dI) nwE A prog_1_method_17_code 3 (some .int) (Cond.code y_W_thread prog_1_method_17_code 3 (some .int) :: WS) R_W)  (s : eS) (ls : Array Slot)  (hl : lv_has ls 3 []) : GG p l e rm_W_thread s0 m args below meth c D vwCl (tyE dI) A (wE dI ad) 0 0 (QM below args s0 D vwCl (tyE dI) A (wE dI ad) rvI) (f_W_thread_31 s) (F0 m 31 ls []) s := by
  unfold f_W_thread_31
  refine gg_iconst X 31 (0 : Int32) d_W_thread_31 (by decide) ?_
  exact gg_iret X 32 d_W_thread_32
set_option maxHeartbeats 4000000 in
set_option maxRecDepth 100000 in
theorem t_W_thread {p : Program} {l : Launch} {e : Env} {s0 : State} {m : MethodId} {args : Array Value} {below : List Frame} {meth : Method} {c : Code} {D : va_G} {A : Nat → Prop} {dI : Nat → ClassId} {ad : Nat → Nat} (X : CX p s0 m args meth c D vwCl (tyE dI) nwE A prog_1_method_17_code 3 (some .int) (Cond.code y_W_thread prog_1_method_17_code 3 (some .int) :: WS) R_W) (a1 : Int32) (a2 : Int32) (s : eS) (ls : Array Slot)  (hl : lv_has ls 3 [(0, .ref (ad 0)), (1, .int a1), (2, .int a2)]) : GG p l e rm_W_thread s0 m args below meth c D vwCl (tyE dI) A (wE dI ad) 0 0 (QM below args s0 D vwCl (tyE dI) A (wE dI ad) rvI) (f_W_thread a1 a2 s) (F0 m 0 ls []) s := by
  unfold f_W_thread
  refine gg_iload_n X 0 d_W_thread_0 rfl (lv_at hl 1 rfl) ?_
  refine gg_callS X 1 nwOk_E [.int a1] [] (fun _ _ h sz => M_W_isEnclave l D dI ad _ a1  h sz) (cwS 1 X.1.2.2.2.2 (gwS w_194 w_195 w_1 w_196) rfl rfl rfl (by decide +kernel) ⟨by decide, by decide⟩) rfl hl.1 rfl (Nat.le_of_ble_eq_true rfl) ⟨Nat.zero_le _, Nat.zero_le _⟩ d_W_thread_1 (fun r1 s2 ho3 => ?_)
  refine gg_show_i ?_
  refine gg_if_eq X 4 31 d_W_thread_4 rfl (fun _ => ?_) (fun _ => ?_)
  · exact t_W_thread_31 X s2 _  (lv_sub hl [] rfl)
  · refine gg_iload_n X 7 d_W_thread_7 rfl (lv_at hl 2 rfl) ?_
    refine gg_callS X 8 nwOk_E [.int a2] [] (fun _ _ h sz => M_W_isThread l D dI ad _ a2  h sz) (cwS 1 X.1.2.2.2.2 (gwS w_225 w_226 w_1 w_227) rfl rfl rfl (by decide +kernel) ⟨by decide, by decide⟩) rfl hl.1 rfl (Nat.le_of_ble_eq_true rfl) ⟨Nat.zero_le _, Nat.zero_le _⟩ d_W_thread_8 (fun r4 s5 ho6 => ?_)
    refine gg_show_i ?_
    refine gg_if_eq X 11 31 d_W_thread_11 rfl (fun _ => ?_) (fun _ => ?_)
    · exact t_W_thread_31 X s5 _  (lv_sub hl [] rfl)
    · refine gg_aload_n X 14 d_W_thread_14 rfl (lv_at hl 0 rfl) ?_
      refine gg_get_W_enclaves X 15 (Or.inl (List.mem_cons_of_mem _ w_83)) d_W_thread_15 ?_
      refine gg_iload_n X 18 d_W_thread_18 rfl (lv_at hl 1 rfl) ?_
      refine gg_ald_ENA X 19 d_W_thread_19 (fun hi7 => ?_)
      refine gg_get_V_threads X 20 (ixb hi7) (Or.inr ⟨_, nw_8⟩) d_W_thread_20 ?_
      refine gg_iload_n X 23 d_W_thread_23 rfl (lv_at hl 2 rfl) ?_
      refine gg_ald_TA X 24 (ixb hi7) d_W_thread_24 (fun hi8 => ?_)
      refine gg_get_T_state X 25 (ixb2 (ixb hi7) (ixb hi8)) (Or.inr ⟨_, nw_6⟩) d_W_thread_25 ?_
      refine gg_goto X 28 32 d_W_thread_28 rfl ?_
      exact gg_iret X 32 d_W_thread_32
theorem M_W_thread (l : Launch) (D : va_G) (dI : Nat → ClassId) (ad : Nat → Nat) (s : eS) (a1 : Int32) (a2 : Int32)  {r : Int32} {s' : eS} (h : f_W_thread a1 a2 s = some (r, s')) (sz : Nat) : Met l y_W_thread (Cond.code y_W_thread prog_1_method_17_code 3 (some .int) :: WS) rm_W_thread (Px (wE dI ad) D vwCl (tyE dI) nwE sz s [.ref (ad 0), .int a1, .int a2]) (Qx rvI (wE dI ad) D vwCl (tyE dI) (va_A ((wE dI ad) s) sz) r s') 0 0 (va_A ((wE dI ad) s) sz) :=
  met_of [.ref (ad 0), .int a1, .int a2] (by decide) rfl rfl (Nat.le_of_ble_eq_true rfl) h (fun p e s0 m args below meth c A ls X hl => t_W_thread X a1 a2 s ls  hl)
set_option maxHeartbeats 4000000 in
set_option maxRecDepth 100000 in
theorem t_W_kept_14 {p : Program} {l : Launch} {e : Env} {s0 : State} {m : MethodId} {args : Array Value} {below : List Frame} {meth : Method} {c : Code} {D : va_G} {A : Nat → Prop} {dI : Nat → ClassId} {ad : Nat → Nat} (X : CX p s0 m args meth c D vwCl (tyE dI) nwE A prog_1_method_18_code 5 (some .int) (Cond.code y_W_kept prog_1_method_18_code 5 (some .int) :: WS) R_W)  (s : eS) (ls : Array Slot)  (hl : lv_has ls 5 []) : GG p l e rm_W_kept s0 m args below meth c D vwCl (tyE dI) A (wE dI ad) 0 0 (QM below args s0 D vwCl (tyE dI) A (wE dI ad) rvI) (f_W_kept_14 s) (F0 m 14 ls []) s := by
  unfold f_W_kept_14
  refine gg_iconst X 14 (0 : Int32) d_W_kept_14 (by decide) ?_
  exact gg_iret X 15 d_W_kept_15
set_option maxHeartbeats 4000000 in
set_option maxRecDepth 100000 in
theorem t_W_kept_49 {p : Program} {l : Launch} {e : Env} {s0 : State} {m : MethodId} {args : Array Value} {below : List Frame} {meth : Method} {c : Code} {D : va_G} {A : Nat → Prop} {dI : Nat → ClassId} {ad : Nat → Nat} (X : CX p s0 m args meth c D vwCl (tyE dI) nwE A prog_1_method_18_code 5 (some .int) (Cond.code y_W_kept prog_1_method_18_code 5 (some .int) :: WS) R_W) (x3 : Int32) (m4 : Nat) (s : eS) (ls : Array Slot) (hm4 : m4 < 6) (hl : lv_has ls 5 [(3, .int x3), (4, .ref (ad (11 + m4)))]) : GG p l e rm_W_kept s0 m args below meth c D vwCl (tyE dI) A (wE dI ad) 0 0 (QM below args s0 D vwCl (tyE dI) A (wE dI ad) rvI) (f_W_kept_49 x3 m4 s) (F0 m 49 ls []) s := by
  unfold f_W_kept_49
  refine gg_iload_n X 49 d_W_kept_49 rfl (lv_at hl 0 rfl) ?_
  refine gg_bipush X 50 (8 : Int32) d_W_kept_50 (by decide) ?_
  refine gg_icmp_ne X 52 66 d_W_kept_52 rfl (fun _ => ?_) (fun _ => ?_)
  · refine gg_aload X 66 d_W_kept_66 (lv_at hl 1 rfl) ?_
    refine gg_get_T_core X 68 hm4 (Or.inr ⟨_, nw_4⟩) d_W_kept_68 ?_
    refine gg_iload_n X 71 d_W_kept_71 rfl (lv_at hl 0 rfl) ?_
    refine gg_callVN X 72 nwOk_E [.int x3] [] (fun _ _ h sz => M_C_get l D dI ad _ m4 x3 (Nat.lt_of_lt_of_le hm4 (by decide)) h sz) (⟨va_cnB 1 X.1.2.2.2.2 (gwB w_145) rfl rfl rfl (X.2.2.2.2.2 _ nw_14) (X.1.2.2.2.2 _ (List.mem_cons_of_mem _ w_4)) (by decide +kernel) ⟨by decide, by decide⟩, X.1.2.2.2.2 _ (List.mem_cons_of_mem _ w_144), X.1.2.2.2.2 _ (List.mem_cons_of_mem _ ws_C_get)⟩) (he_E_Core (Nat.lt_of_lt_of_le hm4 (by decide))) rfl rfl hl.1 rfl (Nat.le_of_ble_eq_true rfl) ⟨Nat.zero_le _, Nat.zero_le _⟩ d_W_kept_72 (fun r1 s2 ho3 => ?_)
    refine gg_show_i ?_
    exact gg_iret X 75 d_W_kept_75
  · refine gg_aload X 55 d_W_kept_55 (lv_at hl 1 rfl) ?_
    refine gg_get_T_core X 57 hm4 (Or.inr ⟨_, nw_4⟩) d_W_kept_57 ?_
    refine gg_get_C_pc X 60 (Nat.lt_of_lt_of_le hm4 (by decide)) (Or.inr ⟨_, nw_3⟩) d_W_kept_60 ?_
    refine gg_goto X 63 75 d_W_kept_63 rfl ?_
    exact gg_iret X 75 d_W_kept_75
set_option maxHeartbeats 4000000 in
set_option maxRecDepth 100000 in
theorem t_W_kept {p : Program} {l : Launch} {e : Env} {s0 : State} {m : MethodId} {args : Array Value} {below : List Frame} {meth : Method} {c : Code} {D : va_G} {A : Nat → Prop} {dI : Nat → ClassId} {ad : Nat → Nat} (X : CX p s0 m args meth c D vwCl (tyE dI) nwE A prog_1_method_18_code 5 (some .int) (Cond.code y_W_kept prog_1_method_18_code 5 (some .int) :: WS) R_W) (a1 : Int32) (a2 : Int32) (a3 : Int32) (s : eS) (ls : Array Slot)  (hl : lv_has ls 5 [(0, .ref (ad 0)), (1, .int a1), (2, .int a2), (3, .int a3)]) : GG p l e rm_W_kept s0 m args below meth c D vwCl (tyE dI) A (wE dI ad) 0 0 (QM below args s0 D vwCl (tyE dI) A (wE dI ad) rvI) (f_W_kept a1 a2 a3 s) (F0 m 0 ls []) s := by
  unfold f_W_kept
  refine gg_iload_n X 0 d_W_kept_0 rfl (lv_at hl 1 rfl) ?_
  refine gg_callS X 1 nwOk_E [.int a1] [] (fun _ _ h sz => M_W_isEnclave l D dI ad _ a1  h sz) (cwS 1 X.1.2.2.2.2 (gwS w_194 w_195 w_1 w_196) rfl rfl rfl (by decide +kernel) ⟨by decide, by decide⟩) rfl hl.1 rfl (Nat.le_of_ble_eq_true rfl) ⟨Nat.zero_le _, Nat.zero_le _⟩ d_W_kept_1 (fun r1 s2 ho3 => ?_)
  refine gg_show_i ?_
  refine gg_if_eq X 4 14 d_W_kept_4 rfl (fun _ => ?_) (fun _ => ?_)
  · exact t_W_kept_14 X s2 _  (lv_sub hl [] rfl)
  · refine gg_iload_n X 7 d_W_kept_7 rfl (lv_at hl 2 rfl) ?_
    refine gg_callS X 8 nwOk_E [.int a2] [] (fun _ _ h sz => M_W_isThread l D dI ad _ a2  h sz) (cwS 1 X.1.2.2.2.2 (gwS w_225 w_226 w_1 w_227) rfl rfl rfl (by decide +kernel) ⟨by decide, by decide⟩) rfl hl.1 rfl (Nat.le_of_ble_eq_true rfl) ⟨Nat.zero_le _, Nat.zero_le _⟩ d_W_kept_8 (fun r4 s5 ho6 => ?_)
    refine gg_show_i ?_
    refine gg_if_ne X 11 16 d_W_kept_11 rfl (fun _ => ?_) (fun _ => ?_)
    · refine gg_aload_n X 16 d_W_kept_16 rfl (lv_at hl 0 rfl) ?_
      refine gg_get_W_enclaves X 17 (Or.inl (List.mem_cons_of_mem _ w_83)) d_W_kept_17 ?_
      refine gg_iload_n X 20 d_W_kept_20 rfl (lv_at hl 1 rfl) ?_
      refine gg_ald_ENA X 21 d_W_kept_21 (fun hi7 => ?_)
      refine gg_get_V_threads X 22 (ixb hi7) (Or.inr ⟨_, nw_8⟩) d_W_kept_22 ?_
      refine gg_iload_n X 25 d_W_kept_25 rfl (lv_at hl 2 rfl) ?_
      refine gg_ald_TA X 26 (ixb hi7) d_W_kept_26 (fun hi8 => ?_)
      refine gg_astore X 27 6 (fun t9 => [(4, .ref (ad (11 + t9))), (0, .ref (ad 0)), (1, .int a1), (2, .int a2), (3, .int a3)]) d_W_kept_27 hl (by decide) (fun _ => rfl) (ixb2 (ixb hi7) (ixb hi8)) (fun t9 ls ht10 hl => ?_)
      refine gg_aload X 29 d_W_kept_29 (lv_at hl 0 rfl) ?_
      refine gg_get_T_state X 31 ht10 (Or.inr ⟨_, nw_6⟩) d_W_kept_31 ?_
      refine gg_iconst X 34 (2 : Int32) d_W_kept_34 (by decide) ?_
      refine gg_icmp_eq X 35 49 d_W_kept_35 rfl (fun _ => ?_) (fun _ => ?_)
      · exact t_W_kept_49 X a3 t9 s5 _ ht10 (lv_sub hl [4, 0] rfl)
      · refine gg_aload X 38 d_W_kept_38 (lv_at hl 0 rfl) ?_
        refine gg_get_T_state X 40 ht10 (Or.inr ⟨_, nw_6⟩) d_W_kept_40 ?_
        refine gg_iconst X 43 (3 : Int32) d_W_kept_43 (by decide) ?_
        refine gg_icmp_eq X 44 49 d_W_kept_44 rfl (fun _ => ?_) (fun _ => ?_)
        · exact t_W_kept_49 X a3 t9 s5 _ ht10 (lv_sub hl [4, 0] rfl)
        · refine gg_iconst X 47 (0 : Int32) d_W_kept_47 (by decide) ?_
          exact gg_iret X 48 d_W_kept_48
    · exact t_W_kept_14 X s5 _  (lv_sub hl [] rfl)
theorem M_W_kept (l : Launch) (D : va_G) (dI : Nat → ClassId) (ad : Nat → Nat) (s : eS) (a1 : Int32) (a2 : Int32) (a3 : Int32)  {r : Int32} {s' : eS} (h : f_W_kept a1 a2 a3 s = some (r, s')) (sz : Nat) : Met l y_W_kept (Cond.code y_W_kept prog_1_method_18_code 5 (some .int) :: WS) rm_W_kept (Px (wE dI ad) D vwCl (tyE dI) nwE sz s [.ref (ad 0), .int a1, .int a2, .int a3]) (Qx rvI (wE dI ad) D vwCl (tyE dI) (va_A ((wE dI ad) s) sz) r s') 0 0 (va_A ((wE dI ad) s) sz) :=
  met_of [.ref (ad 0), .int a1, .int a2, .int a3] (by decide) rfl rfl (Nat.le_of_ble_eq_true rfl) h (fun p e s0 m args below meth c A ls X hl => t_W_kept X a1 a2 a3 s ls  hl)
set_option maxHeartbeats 4000000 in
set_option maxRecDepth 100000 in
theorem t_W_measure {p : Program} {l : Launch} {e : Env} {s0 : State} {m : MethodId} {args : Array Value} {below : List Frame} {meth : Method} {c : Code} {D : va_G} {A : Nat → Prop} {dI : Nat → ClassId} {ad : Nat → Nat} (X : CX p s0 m args meth c D vwCl (tyE dI) nwE A prog_1_method_19_code 2 (some .int) (Cond.code y_W_measure prog_1_method_19_code 2 (some .int) :: WS) R_W) (a1 : Int32) (s : eS) (ls : Array Slot)  (hl : lv_has ls 2 [(0, .ref (ad 0)), (1, .int a1)]) : GG p l e rm_W_measure s0 m args below meth c D vwCl (tyE dI) A (wE dI ad) 0 0 (QM below args s0 D vwCl (tyE dI) A (wE dI ad) rvI) (f_W_measure a1 s) (F0 m 0 ls []) s := by
  unfold f_W_measure
  refine gg_iload_n X 0 d_W_measure_0 rfl (lv_at hl 1 rfl) ?_
  refine gg_callS X 1 nwOk_E [.int a1] [] (fun _ _ h sz => M_W_isEnclave l D dI ad _ a1  h sz) (cwS 1 X.1.2.2.2.2 (gwS w_194 w_195 w_1 w_196) rfl rfl rfl (by decide +kernel) ⟨by decide, by decide⟩) rfl hl.1 rfl (Nat.le_of_ble_eq_true rfl) ⟨Nat.zero_le _, Nat.zero_le _⟩ d_W_measure_1 (fun r1 s2 ho3 => ?_)
  refine gg_show_i ?_
  refine gg_if_eq X 4 19 d_W_measure_4 rfl (fun _ => ?_) (fun _ => ?_)
  · refine gg_iconst X 19 (0 : Int32) d_W_measure_19 (by decide) ?_
    exact gg_iret X 20 d_W_measure_20
  · refine gg_aload_n X 7 d_W_measure_7 rfl (lv_at hl 0 rfl) ?_
    refine gg_get_W_enclaves X 8 (Or.inl (List.mem_cons_of_mem _ w_83)) d_W_measure_8 ?_
    refine gg_iload_n X 11 d_W_measure_11 rfl (lv_at hl 1 rfl) ?_
    refine gg_ald_ENA X 12 d_W_measure_12 (fun hi4 => ?_)
    refine gg_get_V_measure X 13 (ixb hi4) (Or.inr ⟨_, nw_10⟩) d_W_measure_13 ?_
    refine gg_goto X 16 20 d_W_measure_16 rfl ?_
    exact gg_iret X 20 d_W_measure_20
theorem M_W_measure (l : Launch) (D : va_G) (dI : Nat → ClassId) (ad : Nat → Nat) (s : eS) (a1 : Int32)  {r : Int32} {s' : eS} (h : f_W_measure a1 s = some (r, s')) (sz : Nat) : Met l y_W_measure (Cond.code y_W_measure prog_1_method_19_code 2 (some .int) :: WS) rm_W_measure (Px (wE dI ad) D vwCl (tyE dI) nwE sz s [.ref (ad 0), .int a1]) (Qx rvI (wE dI ad) D vwCl (tyE dI) (va_A ((wE dI ad) s) sz) r s') 0 0 (va_A ((wE dI ad) s) sz) :=
  met_of [.ref (ad 0), .int a1] (by decide) rfl rfl (Nat.le_of_ble_eq_true rfl) h (fun p e s0 m args below meth c A ls X hl => t_W_measure X a1 s ls  hl)
set_option maxHeartbeats 4000000 in
set_option maxRecDepth 100000 in
theorem t_W_vouch {p : Program} {l : Launch} {e : Env} {s0 : State} {m : MethodId} {args : Array Value} {below : List Frame} {meth : Method} {c : Code} {D : va_G} {A : Nat → Prop} {dI : Nat → ClassId} {ad : Nat → Nat} (X : CX p s0 m args meth c D vwCl (tyE dI) nwE A prog_1_method_20_code 4 (some .boolean) (Cond.code y_W_vouch prog_1_method_20_code 4 (some .boolean) :: WS) R_W) (a1 : Int32) (a2 : Int32) (a3 : Int32) (s : eS) (ls : Array Slot)  (hl : lv_has ls 4 [(0, .ref (ad 0)), (1, .int a1), (2, .int a2), (3, .int a3)]) : GG p l e rm_W_vouch s0 m args below meth c D vwCl (tyE dI) A (wE dI ad) 0 0 (QM below args s0 D vwCl (tyE dI) A (wE dI ad) rvI) (f_W_vouch a1 a2 a3 s) (F0 m 0 ls []) s := by
  unfold f_W_vouch
  refine gg_aload_n X 0 d_W_vouch_0 rfl (lv_at hl 0 rfl) ?_
  refine gg_iload_n X 1 d_W_vouch_1 rfl (lv_at hl 1 rfl) ?_
  refine gg_iload_n X 2 d_W_vouch_2 rfl (lv_at hl 2 rfl) ?_
  refine gg_callV X 3 nwOk_E [.int a1, .int a2] [] (fun _ _ h sz => M_W_macOf l D dI ad _ a1 a2  h sz) (cwV 2 X.1.2.2.2.2 (gwV w_297 w_299 ws_W_macOf w_1 w_300) rfl rfl rfl (by decide +kernel) ⟨by decide, by decide⟩) (he_E_Main) rfl rfl hl.1 rfl (Nat.le_of_ble_eq_true rfl) ⟨Nat.zero_le _, Nat.zero_le _⟩ d_W_vouch_3 (fun r1 s2 ho3 => ?_)
  refine gg_show_i ?_
  refine gg_iload_n X 6 d_W_vouch_6 rfl (lv_at hl 3 rfl) ?_
  refine gg_icmp_ne X 7 14 d_W_vouch_7 rfl (fun _ => ?_) (fun _ => ?_)
  · refine gg_iconst X 14 (0 : Int32) d_W_vouch_14 (by decide) ?_
    exact gg_zretk X 15 rfl d_W_vouch_15
  · refine gg_iconst X 10 (1 : Int32) d_W_vouch_10 (by decide) ?_
    refine gg_goto X 11 15 d_W_vouch_11 rfl ?_
    exact gg_zretk X 15 rfl d_W_vouch_15
theorem M_W_vouch (l : Launch) (D : va_G) (dI : Nat → ClassId) (ad : Nat → Nat) (s : eS) (a1 : Int32) (a2 : Int32) (a3 : Int32)  {r : Int32} {s' : eS} (h : f_W_vouch a1 a2 a3 s = some (r, s')) (sz : Nat) : Met l y_W_vouch (Cond.code y_W_vouch prog_1_method_20_code 4 (some .boolean) :: WS) rm_W_vouch (Px (wE dI ad) D vwCl (tyE dI) nwE sz s [.ref (ad 0), .int a1, .int a2, .int a3]) (Qx rvI (wE dI ad) D vwCl (tyE dI) (va_A ((wE dI ad) s) sz) r s') 0 0 (va_A ((wE dI ad) s) sz) :=
  met_of [.ref (ad 0), .int a1, .int a2, .int a3] (by decide) rfl rfl (Nat.le_of_ble_eq_true rfl) h (fun p e s0 m args below meth c A ls X hl => t_W_vouch X a1 a2 a3 s ls  hl)
set_option maxHeartbeats 4000000 in
set_option maxRecDepth 100000 in
theorem t_W_exit_22 {p : Program} {l : Launch} {e : Env} {s0 : State} {m : MethodId} {args : Array Value} {below : List Frame} {meth : Method} {c : Code} {D : va_G} {A : Nat → Prop} {dI : Nat → ClassId} {ad : Nat → Nat} (X : CX p s0 m args meth c D vwCl (tyE dI) nwE A prog_1_method_21_code 2 (some .int) (Cond.code y_W_exit prog_1_method_21_code 2 (some .int) :: WS) R_W)  (s : eS) (ls : Array Slot)  (hl : lv_has ls 2 []) : GG p l e rm_W_exit s0 m args below meth c D vwCl (tyE dI) A (wE dI ad) 0 0 (QM below args s0 D vwCl (tyE dI) A (wE dI ad) rvI) (f_W_exit_22 s) (F0 m 22 ls []) s := by
  unfold f_W_exit_22
  refine gg_iconst X 22 (0 : Int32) d_W_exit_22 (by decide) ?_
  exact gg_iret X 23 d_W_exit_23
set_option maxHeartbeats 4000000 in
set_option maxRecDepth 100000 in
theorem t_W_exit {p : Program} {l : Launch} {e : Env} {s0 : State} {m : MethodId} {args : Array Value} {below : List Frame} {meth : Method} {c : Code} {D : va_G} {A : Nat → Prop} {dI : Nat → ClassId} {ad : Nat → Nat} (X : CX p s0 m args meth c D vwCl (tyE dI) nwE A prog_1_method_21_code 2 (some .int) (Cond.code y_W_exit prog_1_method_21_code 2 (some .int) :: WS) R_W) (a1 : Int32) (s : eS) (ls : Array Slot)  (hl : lv_has ls 2 [(0, .ref (ad 0)), (1, .int a1)]) : GG p l e rm_W_exit s0 m args below meth c D vwCl (tyE dI) A (wE dI ad) 0 0 (QM below args s0 D vwCl (tyE dI) A (wE dI ad) rvI) (f_W_exit a1 s) (F0 m 0 ls []) s := by
  unfold f_W_exit
  refine gg_iload_n X 0 d_W_exit_0 rfl (lv_at hl 1 rfl) ?_
  refine gg_if_lt X 1 22 d_W_exit_1 rfl (fun _ => ?_) (fun _ => ?_)
  · exact t_W_exit_22 X s _  (lv_sub hl [] rfl)
  · refine gg_iload_n X 4 d_W_exit_4 rfl (lv_at hl 1 rfl) ?_
    refine gg_aload_n X 5 d_W_exit_5 rfl (lv_at hl 0 rfl) ?_
    refine gg_get_W_exits X 6 (Or.inl (List.mem_cons_of_mem _ w_85)) d_W_exit_6 ?_
    refine gg_len_EXI X 9 d_W_exit_9 ?_
    refine gg_icmp_ge X 10 22 d_W_exit_10 rfl (fun _ => ?_) (fun _ => ?_)
    · exact t_W_exit_22 X s _  (lv_sub hl [] rfl)
    · refine gg_aload_n X 13 d_W_exit_13 rfl (lv_at hl 0 rfl) ?_
      refine gg_get_W_exits X 14 (Or.inl (List.mem_cons_of_mem _ w_85)) d_W_exit_14 ?_
      refine gg_iload_n X 17 d_W_exit_17 rfl (lv_at hl 1 rfl) ?_
      refine gg_ald_EXI X 18 d_W_exit_18 ?_
      refine gg_goto X 19 23 d_W_exit_19 rfl ?_
      exact gg_iret X 23 d_W_exit_23
theorem M_W_exit (l : Launch) (D : va_G) (dI : Nat → ClassId) (ad : Nat → Nat) (s : eS) (a1 : Int32)  {r : Int32} {s' : eS} (h : f_W_exit a1 s = some (r, s')) (sz : Nat) : Met l y_W_exit (Cond.code y_W_exit prog_1_method_21_code 2 (some .int) :: WS) rm_W_exit (Px (wE dI ad) D vwCl (tyE dI) nwE sz s [.ref (ad 0), .int a1]) (Qx rvI (wE dI ad) D vwCl (tyE dI) (va_A ((wE dI ad) s) sz) r s') 0 0 (va_A ((wE dI ad) s) sz) :=
  met_of [.ref (ad 0), .int a1] (by decide) rfl rfl (Nat.le_of_ble_eq_true rfl) h (fun p e s0 m args below meth c A ls X hl => t_W_exit X a1 s ls  hl)
end
