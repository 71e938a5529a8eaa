section
/-! the state of a world is a function of two numbers (component, index); a method's meaning is a function eS -> Option (answer x eS); GG ties the two -/
abbrev eS : Type := Nat → Nat → Int32
def wr (s : eS) (c i : Nat) (x : Int32) : eS := fun c' => if c' = c then upd (s c') i x else s c'
def nm {α β : Type} (a : α) (k : α → β) : β := k a
def ix {α : Type} (i : Int32) (n : Nat) (k : Option α) : Option α := if i < 0 ∨ n ≤ i.toNatClampNeg then none else k
def nz {α : Type} (y : Int32) (k : Option α) : Option α := if y = 0 then none else k
def bz {α : Type} (y : Int32) (k : Option α) : Option α := if vp_nar .boolean y = y then k else none
def bnd {ρ σ τ : Type} (o : Option (ρ × σ)) (k : ρ → σ → Option τ) : Option τ := match o with
  | none => none
  | some (r, s) => k r s
def fu : Nat := 2000
abbrev rvI : Int32 → Option Value := fun r => some (.int r)
abbrev rvV : Unit → Option Value := fun _ => none
abbrev rvR (ad : Nat → Nat) (b : Nat) : Nat → Option Value := fun n => some (.ref (ad (b + n)))
def Qx {ρ σ : Type} (rv : ρ → Option Value) (w : σ → va_W) (D : va_G) (cl : List vw_C) (tys : List (ClassId × FieldType)) (A : Nat → Prop) (r : ρ) (s' : σ) : Array Value → State → Outcome → State → Prop := fun _ st oc t => oc = .returned (rv r) ∧ va_P D cl (w s') t.heap ∧ va_K D cl tys t ∧ va_D A (w s') ∧ va_F A st t
def Px {σ : Type} (w : σ → va_W) (D : va_G) (cl : List vw_C) (tys : List (ClassId × FieldType)) (nw : List Cond) (sz : Nat) (s : σ) (av : List Value) : Array Value → State → Prop := va_Pc av (fun U => U.heap.size = sz ∧ va_P D cl (w s) U.heap ∧ va_K D cl tys U ∧ va_D (fun _ => True) (w s) ∧ ∀ x ∈ nw, va_Nw x U)
def CX (p : Program) (s0 : State) (m : MethodId) (args : Array Value) (meth : Method) (c : Code) (D : va_G) (cl : List vw_C) (tys : List (ClassId × FieldType)) (nw : List Cond) (A : Nat → Prop) (cc : ByteArray) (nL : Nat) (ret : Option FieldType) (Ts : List Cond) (own : String) : Prop :=
  CallFix p m c cc nL s0 args Ts own ∧ meth.sig.returnType = ret ∧ meth.locks = false ∧ va_K D cl tys s0 ∧ (∀ q, s0.heap.size ≤ q → A q) ∧ ∀ x ∈ nw, va_Nw x s0
def QM {ρ σ : Type} (below : List Frame) (args : Array Value) (s0 : State) (D : va_G) (cl : List vw_C) (tys : List (ClassId × FieldType)) (A : Nat → Prop) (w : σ → va_W) (rv : ρ → Option Value) : ρ → σ → State → Prop := fun r s' => MQ below (Qx rv w D cl tys A r s') args s0 0 0 A
def GG {ρ σ : Type} (p : Program) (l : Launch) (e : Env) (R : Room) (s0 : State) (m : MethodId) (args : Array Value) (below : List Frame) (meth : Method) (c : Code) (D : va_G) (cl : List vw_C) (tys : List (ClassId × FieldType)) (A : Nat → Prop) (w : σ → va_W) (nc ns : Nat) (Q : ρ → σ → State → Prop) (res : Option (ρ × σ)) (g : JFrame) (s : σ) : Prop :=
  ∀ (r : ρ) (s' : σ), res = some (r, s') → ∀ (H : Heap) (locs : List Loc), va_P D cl (w s) H → va_D A (w s) → va_S A s0.heap H locs → W p l e R s0 m args below meth c H locs nc ns (Q r s') g
theorem ixb {i : Int32} {n : Nat} (h : vp_in i n) : i.toNatClampNeg < n := Nat.not_le.mp fun q => h (Or.inr q)
theorem ixb2 {a i n : Nat} (ha : a < n) (hi : i < 2) : 2 * a + i < 2 * n := by omega
section GGS
variable {p : Program} {l : Launch} {e : Env} {R : Room} {s0 : State} {m : MethodId} {args : Array Value} {below : List Frame} {meth : Method} {c : Code} {D : va_G} {cl : List vw_C} {tys : List (ClassId × FieldType)} {nw : List Cond} {A : Nat → Prop} {σ : Type} {w : σ → va_W} {nc ns : Nat} {cc : ByteArray} {nL : Nat} {ret : Option FieldType} {Ts : List Cond} {own : String} {ρ : Type} {Q : ρ → σ → State → Prop} {res : Option (ρ × σ)} {ls : Array Slot} {rest : List Value} {s : σ}
theorem gg_none {g : JFrame} : GG p l e R s0 m args below meth c D cl tys A w nc ns Q none (g) s := fun r s' hr => by cases hr
theorem gg_iconst (X : CX p s0 m args meth c D cl tys nw A cc nL ret Ts own) (pc : Nat) {n : Int} (v : Int32) (d : decode cc pc = .ok (.iconst n, 1)) (hv : Int32.ofInt n = v) (k : GG p l e R s0 m args below meth c D cl tys A w nc ns Q res (F0 m (pc + 1) ls (.int v :: rest)) s) : GG p l e R s0 m args below meth c D cl tys A w nc ns Q res (F0 m pc ls (rest)) s := fun r s' hr H locs h1 h2 h3 => lv_iconst X.1.1 X.1.2.1 d hv (k r s' hr H locs h1 h2 h3)
theorem gg_bipush (X : CX p s0 m args meth c D cl tys nw A cc nL ret Ts own) (pc : Nat) {n : Int} (v : Int32) (d : decode cc pc = .ok (.bipush n, 2)) (hv : (Int8.ofInt n).toInt32 = v) (k : GG p l e R s0 m args below meth c D cl tys A w nc ns Q res (F0 m (pc + 2) ls (.int v :: rest)) s) : GG p l e R s0 m args below meth c D cl tys A w nc ns Q res (F0 m pc ls (rest)) s := fun r s' hr H locs h1 h2 h3 => lv_bipush X.1.1 X.1.2.1 d hv (k r s' hr H locs h1 h2 h3)
theorem gg_sipush (X : CX p s0 m args meth c D cl tys nw A cc nL ret Ts own) (pc : Nat) {n : Int} (v : Int32) (d : decode cc pc = .ok (.sipush n, 3)) (hv : (Int16.ofInt n).toInt32 = v) (k : GG p l e R s0 m args below meth c D cl tys A w nc ns Q res (F0 m (pc + 3) ls (.int v :: rest)) s) : GG p l e R s0 m args below meth c D cl tys A w nc ns Q res (F0 m pc ls (rest)) s := fun r s' hr H locs h1 h2 h3 => lv_sipush X.1.1 X.1.2.1 d hv (k r s' hr H locs h1 h2 h3)
theorem gg_ldc (X : CX p s0 m args meth c D cl tys nw A cc nL ret Ts own) (pc : Nat) {index : Nat} (v : Int32) (hc : Cond.constant own index v ∈ Ts) (d : decode cc pc = .ok (.ldc index, 2)) (k : GG p l e R s0 m args below meth c D cl tys A w nc ns Q res (F0 m (pc + 2) ls (.int v :: rest)) s) : GG p l e R s0 m args below meth c D cl tys A w nc ns Q res (F0 m pc ls rest) s := fun r s' hr H locs h1 h2 h3 => lv_ldc X.1.1 X.1.2.1 X.1.2.2.2.1 (X.1.2.2.2.2 _ hc) d (k r s' hr H locs h1 h2 h3)
theorem gg_iload_n (X : CX p s0 m args meth c D cl tys nw A cc nL ret Ts own) (pc : Nat) {kk : Fin 4} {i : Nat} {x : Int32} (d : decode cc pc = .ok (.iload_n kk, 1)) (hi : (kk : Nat) = i) (hl : ls[i]? = some (.val (.int x))) (k : GG p l e R s0 m args below meth c D cl tys A w nc ns Q res (F0 m (pc + 1) ls (.int x :: rest)) s) : GG p l e R s0 m args below meth c D cl tys A w nc ns Q res (F0 m pc ls (rest)) s := fun r s' hr H locs h1 h2 h3 => lv_iload_n X.1.1 X.1.2.1 d hi hl (k r s' hr H locs h1 h2 h3)
theorem gg_iload (X : CX p s0 m args meth c D cl tys nw A cc nL ret Ts own) (pc : Nat) {i : Nat} {x : Int32} (d : decode cc pc = .ok (.iload i, 2)) (hl : ls[i]? = some (.val (.int x))) (k : GG p l e R s0 m args below meth c D cl tys A w nc ns Q res (F0 m (pc + 2) ls (.int x :: rest)) s) : GG p l e R s0 m args below meth c D cl tys A w nc ns Q res (F0 m pc ls (rest)) s := fun r s' hr H locs h1 h2 h3 => lv_iload X.1.1 X.1.2.1 d hl (k r s' hr H locs h1 h2 h3)
theorem gg_aload_n (X : CX p s0 m args meth c D cl tys nw A cc nL ret Ts own) (pc : Nat) {kk : Fin 4} {i x : Nat} (d : decode cc pc = .ok (.aload_n kk, 1)) (hi : (kk : Nat) = i) (hl : ls[i]? = some (.val (.ref x))) (k : GG p l e R s0 m args below meth c D cl tys A w nc ns Q res (F0 m (pc + 1) ls (.ref x :: rest)) s) : GG p l e R s0 m args below meth c D cl tys A w nc ns Q res (F0 m pc ls (rest)) s := fun r s' hr H locs h1 h2 h3 => lv_aload_n X.1.1 X.1.2.1 d hi hl (k r s' hr H locs h1 h2 h3)
theorem gg_aload (X : CX p s0 m args meth c D cl tys nw A cc nL ret Ts own) (pc : Nat) {i x : Nat} (d : decode cc pc = .ok (.aload i, 2)) (hl : ls[i]? = some (.val (.ref x))) (k : GG p l e R s0 m args below meth c D cl tys A w nc ns Q res (F0 m (pc + 2) ls (.ref x :: rest)) s) : GG p l e R s0 m args below meth c D cl tys A w nc ns Q res (F0 m pc ls (rest)) s := fun r s' hr H locs h1 h2 h3 => lv_aload X.1.1 X.1.2.1 d hl (k r s' hr H locs h1 h2 h3)
theorem gg_istore_n (X : CX p s0 m args meth c D cl tys nw A cc nL ret Ts own) (pc : Nat) {kk : Fin 4} {i : Nat} {x : Int32} {lv : List (Nat × Value)} (lv' : Int32 → List (Nat × Value)) {K : Int32 → Option (ρ × σ)} (d : decode cc pc = .ok (.istore_n kk, 1)) (hi : (kk : Nat) = i) (h : lv_has ls nL lv) (hn : i < nL) (hl : ∀ v, (i, Value.int v) :: lv.filter (fun q => !(q.1 == i) && !(q.1 + 1 == i && q.2.category == 2)) = lv' v) (k : ∀ (v : Int32) (ls : Array Slot), lv_has ls nL (lv' v) → GG p l e R s0 m args below meth c D cl tys A w nc ns Q (K v) (F0 m (pc + 1) ls rest) s) : GG p l e R s0 m args below meth c D cl tys A w nc ns Q (nm x K) (F0 m pc ls (.int x :: rest)) s := fun r s' hr H locs h1 h2 h3 => lv_istore_n X.1.1 X.1.2.1 d hi h hn (hl x) (fun ls' hls => k x ls' hls r s' hr H locs h1 h2 h3)
theorem gg_istore (X : CX p s0 m args meth c D cl tys nw A cc nL ret Ts own) (pc : Nat) {i : Nat} {x : Int32} {lv : List (Nat × Value)} (lv' : Int32 → List (Nat × Value)) {K : Int32 → Option (ρ × σ)} (d : decode cc pc = .ok (.istore i, 2)) (h : lv_has ls nL lv) (hn : i < nL) (hl : ∀ v, (i, Value.int v) :: lv.filter (fun q => !(q.1 == i) && !(q.1 + 1 == i && q.2.category == 2)) = lv' v) (k : ∀ (v : Int32) (ls : Array Slot), lv_has ls nL (lv' v) → GG p l e R s0 m args below meth c D cl tys A w nc ns Q (K v) (F0 m (pc + 2) ls rest) s) : GG p l e R s0 m args below meth c D cl tys A w nc ns Q (nm x K) (F0 m pc ls (.int x :: rest)) s := fun r s' hr H locs h1 h2 h3 => lv_istore X.1.1 X.1.2.1 d h hn (hl x) (fun ls' hls => k x ls' hls r s' hr H locs h1 h2 h3)
theorem gg_astore_n (X : CX p s0 m args meth c D cl tys nw A cc nL ret Ts own) (pc : Nat) {kk : Fin 4} {i : Nat} {ad : Nat → Nat} {b x : Nat} (B : Nat) {lv : List (Nat × Value)} (lv' : Nat → List (Nat × Value)) {K : Nat → Option (ρ × σ)} (d : decode cc pc = .ok (.astore_n kk, 1)) (hi : (kk : Nat) = i) (h : lv_has ls nL lv) (hn : i < nL) (hl : ∀ v, (i, Value.ref (ad (b + v))) :: lv.filter (fun q => !(q.1 == i) && !(q.1 + 1 == i && q.2.category == 2)) = lv' v) (hB : x < B) (k : ∀ (v : Nat) (ls : Array Slot), v < B → lv_has ls nL (lv' v) → GG p l e R s0 m args below meth c D cl tys A w nc ns Q (K v) (F0 m (pc + 1) ls rest) s) : GG p l e R s0 m args below meth c D cl tys A w nc ns Q (nm x K) (F0 m pc ls (.ref (ad (b + x)) :: rest)) s := fun r s' hr H locs h1 h2 h3 => lv_astore_n X.1.1 X.1.2.1 d hi h hn (hl x) (fun ls' hls => k x ls' hB hls r s' hr H locs h1 h2 h3)
theorem gg_astore (X : CX p s0 m args meth c D cl tys nw A cc nL ret Ts own) (pc : Nat) {i : Nat} {ad : Nat → Nat} {b x : Nat} (B : Nat) {lv : List (Nat × Value)} (lv' : Nat → List (Nat × Value)) {K : Nat → Option (ρ × σ)} (d : decode cc pc = .ok (.astore i, 2)) (h : lv_has ls nL lv) (hn : i < nL) (hl : ∀ v, (i, Value.ref (ad (b + v))) :: lv.filter (fun q => !(q.1 == i) && !(q.1 + 1 == i && q.2.category == 2)) = lv' v) (hB : x < B) (k : ∀ (v : Nat) (ls : Array Slot), v < B → lv_has ls nL (lv' v) → GG p l e R s0 m args below meth c D cl tys A w nc ns Q (K v) (F0 m (pc + 2) ls rest) s) : GG p l e R s0 m args below meth c D cl tys A w nc ns Q (nm x K) (F0 m pc ls (.ref (ad (b + x)) :: rest)) s := fun r s' hr H locs h1 h2 h3 => lv_astore X.1.1 X.1.2.1 d h hn (hl x) (fun ls' hls => k x ls' hB hls r s' hr H locs h1 h2 h3)
theorem gg_iinc (X : CX p s0 m args meth c D cl tys nw A cc nL ret Ts own) (pc : Nat) {i k : Nat} {n : Int} {x : Int32} (v1 : Int32) {lv : List (Nat × Value)} (lv' : Int32 → List (Nat × Value)) {K : Int32 → Option (ρ × σ)} (d : decode cc pc = .ok (.iinc i n, 3)) (h : lv_has ls nL lv) (hk : lv[k]? = some (i, .int x)) (hv : Int32.ofInt n = v1) (hn : i < nL) (hl : ∀ v, (i, Value.int v) :: lv.filter (fun q => !(q.1 == i) && !(q.1 + 1 == i && q.2.category == 2)) = lv' v) (kk : ∀ (v : Int32) (ls : Array Slot), lv_has ls nL (lv' v) → GG p l e R s0 m args below meth c D cl tys A w nc ns Q (K v) (F0 m (pc + 3) ls rest) s) : GG p l e R s0 m args below meth c D cl tys A w nc ns Q (nm (x + v1) K) (F0 m pc ls rest) s := fun r s' hr H locs h1 h2 h3 => lv_iinc X.1.1 X.1.2.1 d h hk (by rw [hv]) hn (hl (x + v1)) (fun ls' hls => kk (x + v1) ls' hls r s' hr H locs h1 h2 h3)
theorem gg_iadd (X : CX p s0 m args meth c D cl tys nw A cc nL ret Ts own) (pc : Nat) {x y : Int32} (d : decode cc pc = .ok (.iadd, 1))  (k : GG p l e R s0 m args below meth c D cl tys A w nc ns Q res (F0 m (pc + 1) ls (.int (x + y) :: rest)) s) : GG p l e R s0 m args below meth c D cl tys A w nc ns Q res (F0 m pc ls (.int y :: .int x :: rest)) s := fun r s' hr H locs h1 h2 h3 => lv_iadd X.1.1 X.1.2.1 d  (k r s' hr H locs h1 h2 h3)
theorem gg_isub (X : CX p s0 m args meth c D cl tys nw A cc nL ret Ts own) (pc : Nat) {x y : Int32} (d : decode cc pc = .ok (.isub, 1))  (k : GG p l e R s0 m args below meth c D cl tys A w nc ns Q res (F0 m (pc + 1) ls (.int (x - y) :: rest)) s) : GG p l e R s0 m args below meth c D cl tys A w nc ns Q res (F0 m pc ls (.int y :: .int x :: rest)) s := fun r s' hr H locs h1 h2 h3 => lv_isub X.1.1 X.1.2.1 d  (k r s' hr H locs h1 h2 h3)
theorem gg_imul (X : CX p s0 m args meth c D cl tys nw A cc nL ret Ts own) (pc : Nat) {x y : Int32} (d : decode cc pc = .ok (.imul, 1))  (k : GG p l e R s0 m args below meth c D cl tys A w nc ns Q res (F0 m (pc + 1) ls (.int (x * y) :: rest)) s) : GG p l e R s0 m args below meth c D cl tys A w nc ns Q res (F0 m pc ls (.int y :: .int x :: rest)) s := fun r s' hr H locs h1 h2 h3 => lv_imul X.1.1 X.1.2.1 d  (k r s' hr H locs h1 h2 h3)
theorem gg_iand (X : CX p s0 m args meth c D cl tys nw A cc nL ret Ts own) (pc : Nat) {x y : Int32} (d : decode cc pc = .ok (.iand, 1))  (k : GG p l e R s0 m args below meth c D cl tys A w nc ns Q res (F0 m (pc + 1) ls (.int (x &&& y) :: rest)) s) : GG p l e R s0 m args below meth c D cl tys A w nc ns Q res (F0 m pc ls (.int y :: .int x :: rest)) s := fun r s' hr H locs h1 h2 h3 => lv_iand X.1.1 X.1.2.1 d  (k r s' hr H locs h1 h2 h3)
theorem gg_ior (X : CX p s0 m args meth c D cl tys nw A cc nL ret Ts own) (pc : Nat) {x y : Int32} (d : decode cc pc = .ok (.ior, 1))  (k : GG p l e R s0 m args below meth c D cl tys A w nc ns Q res (F0 m (pc + 1) ls (.int (x ||| y) :: rest)) s) : GG p l e R s0 m args below meth c D cl tys A w nc ns Q res (F0 m pc ls (.int y :: .int x :: rest)) s := fun r s' hr H locs h1 h2 h3 => lv_ior X.1.1 X.1.2.1 d  (k r s' hr H locs h1 h2 h3)
theorem gg_ixor (X : CX p s0 m args meth c D cl tys nw A cc nL ret Ts own) (pc : Nat) {x y : Int32} (d : decode cc pc = .ok (.ixor, 1))  (k : GG p l e R s0 m args below meth c D cl tys A w nc ns Q res (F0 m (pc + 1) ls (.int (x ^^^ y) :: rest)) s) : GG p l e R s0 m args below meth c D cl tys A w nc ns Q res (F0 m pc ls (.int y :: .int x :: rest)) s := fun r s' hr H locs h1 h2 h3 => lv_ixor X.1.1 X.1.2.1 d  (k r s' hr H locs h1 h2 h3)
theorem gg_ishl (X : CX p s0 m args meth c D cl tys nw A cc nL ret Ts own) (pc : Nat) {x y : Int32} (d : decode cc pc = .ok (.ishl, 1))  (k : GG p l e R s0 m args below meth c D cl tys A w nc ns Q res (F0 m (pc + 1) ls (.int (x <<< (y &&& 31)) :: rest)) s) : GG p l e R s0 m args below meth c D cl tys A w nc ns Q res (F0 m pc ls (.int y :: .int x :: rest)) s := fun r s' hr H locs h1 h2 h3 => lv_ishl X.1.1 X.1.2.1 d  (k r s' hr H locs h1 h2 h3)
theorem gg_ishr (X : CX p s0 m args meth c D cl tys nw A cc nL ret Ts own) (pc : Nat) {x y : Int32} (d : decode cc pc = .ok (.ishr, 1))  (k : GG p l e R s0 m args below meth c D cl tys A w nc ns Q res (F0 m (pc + 1) ls (.int (x >>> (y &&& 31)) :: rest)) s) : GG p l e R s0 m args below meth c D cl tys A w nc ns Q res (F0 m pc ls (.int y :: .int x :: rest)) s := fun r s' hr H locs h1 h2 h3 => lv_ishr X.1.1 X.1.2.1 d  (k r s' hr H locs h1 h2 h3)
theorem gg_iushr (X : CX p s0 m args meth c D cl tys nw A cc nL ret Ts own) (pc : Nat) {x y : Int32} (d : decode cc pc = .ok (.iushr, 1))  (k : GG p l e R s0 m args below meth c D cl tys A w nc ns Q res (F0 m (pc + 1) ls (.int ((x.toUInt32 >>> (y.toUInt32 &&& Int32.toUInt32 31)).toInt32) :: rest)) s) : GG p l e R s0 m args below meth c D cl tys A w nc ns Q res (F0 m pc ls (.int y :: .int x :: rest)) s := fun r s' hr H locs h1 h2 h3 => lv_iushr X.1.1 X.1.2.1 d rfl (k r s' hr H locs h1 h2 h3)
theorem gg_ineg (X : CX p s0 m args meth c D cl tys nw A cc nL ret Ts own) (pc : Nat) {x : Int32} (d : decode cc pc = .ok (.ineg, 1))  (k : GG p l e R s0 m args below meth c D cl tys A w nc ns Q res (F0 m (pc + 1) ls (.int (-x) :: rest)) s) : GG p l e R s0 m args below meth c D cl tys A w nc ns Q res (F0 m pc ls (.int x :: rest)) s := fun r s' hr H locs h1 h2 h3 => lv_ineg X.1.1 X.1.2.1 d  (k r s' hr H locs h1 h2 h3)
theorem gg_idivk (X : CX p s0 m args meth c D cl tys nw A cc nL ret Ts own) (pc : Nat) {x y : Int32} (d : decode cc pc = .ok (.idiv, 1)) (hne : ¬ y = 0) (k : GG p l e R s0 m args below meth c D cl tys A w nc ns Q res (F0 m (pc + 1) ls (.int (x / y) :: rest)) s) : GG p l e R s0 m args below meth c D cl tys A w nc ns Q res (F0 m pc ls (.int y :: .int x :: rest)) s := fun r s' hr H locs h1 h2 h3 => lv_idiv X.1.1 X.1.2.1 d hne (k r s' hr H locs h1 h2 h3)
theorem gg_iremk (X : CX p s0 m args meth c D cl tys nw A cc nL ret Ts own) (pc : Nat) {x y : Int32} (d : decode cc pc = .ok (.irem, 1)) (hne : ¬ y = 0) (k : GG p l e R s0 m args below meth c D cl tys A w nc ns Q res (F0 m (pc + 1) ls (.int (x - x / y * y) :: rest)) s) : GG p l e R s0 m args below meth c D cl tys A w nc ns Q res (F0 m pc ls (.int y :: .int x :: rest)) s := fun r s' hr H locs h1 h2 h3 => lv_irem X.1.1 X.1.2.1 d hne (k r s' hr H locs h1 h2 h3)
theorem gg_idiv (X : CX p s0 m args meth c D cl tys nw A cc nL ret Ts own) (pc : Nat) {x y : Int32} (d : decode cc pc = .ok (.idiv, 1)) (k : ¬ y = 0 → GG p l e R s0 m args below meth c D cl tys A w nc ns Q res (F0 m (pc + 1) ls (.int (x / y) :: rest)) s) : GG p l e R s0 m args below meth c D cl tys A w nc ns Q (nz y res) (F0 m pc ls (.int y :: .int x :: rest)) s := by
  intro r s' hr H locs h1 h2 h3
  unfold nz at hr
  by_cases h : y = 0
  · rw [if_pos h] at hr; cases hr
  · rw [if_neg h] at hr; exact lv_idiv X.1.1 X.1.2.1 d h (k h r s' hr H locs h1 h2 h3)
theorem gg_irem (X : CX p s0 m args meth c D cl tys nw A cc nL ret Ts own) (pc : Nat) {x y : Int32} (d : decode cc pc = .ok (.irem, 1)) (k : ¬ y = 0 → GG p l e R s0 m args below meth c D cl tys A w nc ns Q res (F0 m (pc + 1) ls (.int (x - x / y * y) :: rest)) s) : GG p l e R s0 m args below meth c D cl tys A w nc ns Q (nz y res) (F0 m pc ls (.int y :: .int x :: rest)) s := by
  intro r s' hr H locs h1 h2 h3
  unfold nz at hr
  by_cases h : y = 0
  · rw [if_pos h] at hr; cases hr
  · rw [if_neg h] at hr; exact lv_irem X.1.1 X.1.2.1 d h (k h r s' hr H locs h1 h2 h3)
theorem gg_dup (X : CX p s0 m args meth c D cl tys nw A cc nL ret Ts own) (pc : Nat) {va : Value} (d : decode cc pc = .ok (.dup, 1)) (ha : va.category = 1) (k : GG p l e R s0 m args below meth c D cl tys A w nc ns Q res (F0 m (pc + 1) ls (va :: va :: rest)) s) : GG p l e R s0 m args below meth c D cl tys A w nc ns Q res (F0 m pc ls (va :: rest)) s := fun r s' hr H locs h1 h2 h3 => lv_dup X.1.1 X.1.2.1 d ha (k r s' hr H locs h1 h2 h3)
theorem gg_pop (X : CX p s0 m args meth c D cl tys nw A cc nL ret Ts own) (pc : Nat) {va : Value} (d : decode cc pc = .ok (.pop, 1)) (ha : va.category = 1) (k : GG p l e R s0 m args below meth c D cl tys A w nc ns Q res (F0 m (pc + 1) ls (rest)) s) : GG p l e R s0 m args below meth c D cl tys A w nc ns Q res (F0 m pc ls (va :: rest)) s := fun r s' hr H locs h1 h2 h3 => lv_pop X.1.1 X.1.2.1 d ha (k r s' hr H locs h1 h2 h3)
theorem gg_dup2 (X : CX p s0 m args meth c D cl tys nw A cc nL ret Ts own) (pc : Nat) {va vb : Value} (d : decode cc pc = .ok (.dup2, 1)) (ha : va.category = 1) (hb : vb.category = 1) (k : GG p l e R s0 m args below meth c D cl tys A w nc ns Q res (F0 m (pc + 1) ls (va :: vb :: va :: vb :: rest)) s) : GG p l e R s0 m args below meth c D cl tys A w nc ns Q res (F0 m pc ls (va :: vb :: rest)) s := fun r s' hr H locs h1 h2 h3 => lv_dup2_11 X.1.1 X.1.2.1 d ha hb (k r s' hr H locs h1 h2 h3)
theorem gg_if_eq (X : CX p s0 m args meth c D cl tys nw A cc nL ret Ts own) (pc : Nat) {x : Int32} {off : Int} (tgt : Nat) {resT resF : Option (ρ × σ)} (d : decode cc pc = .ok (.ifCond .eq off, 3)) (ht : (pc : Int) + off = (tgt : Int)) (kt : x = 0 → GG p l e R s0 m args below meth c D cl tys A w nc ns Q resT (F0 m tgt ls rest) s) (kf : ¬ x = 0 → GG p l e R s0 m args below meth c D cl tys A w nc ns Q resF (F0 m (pc + 3) ls rest) s) : GG p l e R s0 m args below meth c D cl tys A w nc ns Q (if x = 0 then resT else resF) (F0 m pc ls (.int x :: rest)) s := by
  intro r s' hr H locs h1 h2 h3
  refine lv_if_eq X.1.1 X.1.2.1 d ht (fun h => ?_) (fun h => ?_)
  · rw [if_pos h] at hr; exact kt h r s' hr H locs h1 h2 h3
  · rw [if_neg h] at hr; exact kf h r s' hr H locs h1 h2 h3
theorem gg_icmp_eq (X : CX p s0 m args meth c D cl tys nw A cc nL ret Ts own) (pc : Nat) {x y : Int32} {off : Int} (tgt : Nat) {resT resF : Option (ρ × σ)} (d : decode cc pc = .ok (.if_icmp .eq off, 3)) (ht : (pc : Int) + off = (tgt : Int)) (kt : x = y → GG p l e R s0 m args below meth c D cl tys A w nc ns Q resT (F0 m tgt ls rest) s) (kf : ¬ x = y → GG p l e R s0 m args below meth c D cl tys A w nc ns Q resF (F0 m (pc + 3) ls rest) s) : GG p l e R s0 m args below meth c D cl tys A w nc ns Q (if x = y then resT else resF) (F0 m pc ls (.int y :: .int x :: rest)) s := by
  intro r s' hr H locs h1 h2 h3
  refine lv_icmp_eq X.1.1 X.1.2.1 d ht (fun h => ?_) (fun h => ?_)
  · rw [if_pos h] at hr; exact kt h r s' hr H locs h1 h2 h3
  · rw [if_neg h] at hr; exact kf h r s' hr H locs h1 h2 h3
theorem gg_if_lt (X : CX p s0 m args meth c D cl tys nw A cc nL ret Ts own) (pc : Nat) {x : Int32} {off : Int} (tgt : Nat) {resT resF : Option (ρ × σ)} (d : decode cc pc = .ok (.ifCond .lt off, 3)) (ht : (pc : Int) + off = (tgt : Int)) (kt : x < 0 → GG p l e R s0 m args below meth c D cl tys A w nc ns Q resT (F0 m tgt ls rest) s) (kf : ¬ x < 0 → GG p l e R s0 m args below meth c D cl tys A w nc ns Q resF (F0 m (pc + 3) ls rest) s) : GG p l e R s0 m args below meth c D cl tys A w nc ns Q (if x < 0 then resT else resF) (F0 m pc ls (.int x :: rest)) s := by
  intro r s' hr H locs h1 h2 h3
  refine lv_if_lt X.1.1 X.1.2.1 d ht (fun h => ?_) (fun h => ?_)
  · rw [if_pos h] at hr; exact kt h r s' hr H locs h1 h2 h3
  · rw [if_neg h] at hr; exact kf h r s' hr H locs h1 h2 h3
theorem gg_icmp_lt (X : CX p s0 m args meth c D cl tys nw A cc nL ret Ts own) (pc : Nat) {x y : Int32} {off : Int} (tgt : Nat) {resT resF : Option (ρ × σ)} (d : decode cc pc = .ok (.if_icmp .lt off, 3)) (ht : (pc : Int) + off = (tgt : Int)) (kt : x < y → GG p l e R s0 m args below meth c D cl tys A w nc ns Q resT (F0 m tgt ls rest) s) (kf : ¬ x < y → GG p l e R s0 m args below meth c D cl tys A w nc ns Q resF (F0 m (pc + 3) ls rest) s) : GG p l e R s0 m args below meth c D cl tys A w nc ns Q (if x < y then resT else resF) (F0 m pc ls (.int y :: .int x :: rest)) s := by
  intro r s' hr H locs h1 h2 h3
  refine lv_icmp_lt X.1.1 X.1.2.1 d ht (fun h => ?_) (fun h => ?_)
  · rw [if_pos h] at hr; exact kt h r s' hr H locs h1 h2 h3
  · rw [if_neg h] at hr; exact kf h r s' hr H locs h1 h2 h3
theorem gg_if_ge (X : CX p s0 m args meth c D cl tys nw A cc nL ret Ts own) (pc : Nat) {x : Int32} {off : Int} (tgt : Nat) {resT resF : Option (ρ × σ)} (d : decode cc pc = .ok (.ifCond .ge off, 3)) (ht : (pc : Int) + off = (tgt : Int)) (kt : 0 ≤ x → GG p l e R s0 m args below meth c D cl tys A w nc ns Q resT (F0 m tgt ls rest) s) (kf : ¬ 0 ≤ x → GG p l e R s0 m args below meth c D cl tys A w nc ns Q resF (F0 m (pc + 3) ls rest) s) : GG p l e R s0 m args below meth c D cl tys A w nc ns Q (if 0 ≤ x then resT else resF) (F0 m pc ls (.int x :: rest)) s := by
  intro r s' hr H locs h1 h2 h3
  refine lv_if_ge X.1.1 X.1.2.1 d ht (fun h => ?_) (fun h => ?_)
  · rw [if_pos h] at hr; exact kt h r s' hr H locs h1 h2 h3
  · rw [if_neg h] at hr; exact kf h r s' hr H locs h1 h2 h3
theorem gg_icmp_ge (X : CX p s0 m args meth c D cl tys nw A cc nL ret Ts own) (pc : Nat) {x y : Int32} {off : Int} (tgt : Nat) {resT resF : Option (ρ × σ)} (d : decode cc pc = .ok (.if_icmp .ge off, 3)) (ht : (pc : Int) + off = (tgt : Int)) (kt : y ≤ x → GG p l e R s0 m args below meth c D cl tys A w nc ns Q resT (F0 m tgt ls rest) s) (kf : ¬ y ≤ x → GG p l e R s0 m args below meth c D cl tys A w nc ns Q resF (F0 m (pc + 3) ls rest) s) : GG p l e R s0 m args below meth c D cl tys A w nc ns Q (if y ≤ x then resT else resF) (F0 m pc ls (.int y :: .int x :: rest)) s := by
  intro r s' hr H locs h1 h2 h3
  refine lv_icmp_ge X.1.1 X.1.2.1 d ht (fun h => ?_) (fun h => ?_)
  · rw [if_pos h] at hr; exact kt h r s' hr H locs h1 h2 h3
  · rw [if_neg h] at hr; exact kf h r s' hr H locs h1 h2 h3
theorem gg_if_gt (X : CX p s0 m args meth c D cl tys nw A cc nL ret Ts own) (pc : Nat) {x : Int32} {off : Int} (tgt : Nat) {resT resF : Option (ρ × σ)} (d : decode cc pc = .ok (.ifCond .gt off, 3)) (ht : (pc : Int) + off = (tgt : Int)) (kt : 0 < x → GG p l e R s0 m args below meth c D cl tys A w nc ns Q resT (F0 m tgt ls rest) s) (kf : ¬ 0 < x → GG p l e R s0 m args below meth c D cl tys A w nc ns Q resF (F0 m (pc + 3) ls rest) s) : GG p l e R s0 m args below meth c D cl tys A w nc ns Q (if 0 < x then resT else resF) (F0 m pc ls (.int x :: rest)) s := by
  intro r s' hr H locs h1 h2 h3
  refine lv_if_gt X.1.1 X.1.2.1 d ht (fun h => ?_) (fun h => ?_)
  · rw [if_pos h] at hr; exact kt h r s' hr H locs h1 h2 h3
  · rw [if_neg h] at hr; exact kf h r s' hr H locs h1 h2 h3
theorem gg_icmp_gt (X : CX p s0 m args meth c D cl tys nw A cc nL ret Ts own) (pc : Nat) {x y : Int32} {off : Int} (tgt : Nat) {resT resF : Option (ρ × σ)} (d : decode cc pc = .ok (.if_icmp .gt off, 3)) (ht : (pc : Int) + off = (tgt : Int)) (kt : y < x → GG p l e R s0 m args below meth c D cl tys A w nc ns Q resT (F0 m tgt ls rest) s) (kf : ¬ y < x → GG p l e R s0 m args below meth c D cl tys A w nc ns Q resF (F0 m (pc + 3) ls rest) s) : GG p l e R s0 m args below meth c D cl tys A w nc ns Q (if y < x then resT else resF) (F0 m pc ls (.int y :: .int x :: rest)) s := by
  intro r s' hr H locs h1 h2 h3
  refine lv_icmp_gt X.1.1 X.1.2.1 d ht (fun h => ?_) (fun h => ?_)
  · rw [if_pos h] at hr; exact kt h r s' hr H locs h1 h2 h3
  · rw [if_neg h] at hr; exact kf h r s' hr H locs h1 h2 h3
theorem gg_if_le (X : CX p s0 m args meth c D cl tys nw A cc nL ret Ts own) (pc : Nat) {x : Int32} {off : Int} (tgt : Nat) {resT resF : Option (ρ × σ)} (d : decode cc pc = .ok (.ifCond .le off, 3)) (ht : (pc : Int) + off = (tgt : Int)) (kt : x ≤ 0 → GG p l e R s0 m args below meth c D cl tys A w nc ns Q resT (F0 m tgt ls rest) s) (kf : ¬ x ≤ 0 → GG p l e R s0 m args below meth c D cl tys A w nc ns Q resF (F0 m (pc + 3) ls rest) s) : GG p l e R s0 m args below meth c D cl tys A w nc ns Q (if x ≤ 0 then resT else resF) (F0 m pc ls (.int x :: rest)) s := by
  intro r s' hr H locs h1 h2 h3
  refine lv_if_le X.1.1 X.1.2.1 d ht (fun h => ?_) (fun h => ?_)
  · rw [if_pos h] at hr; exact kt h r s' hr H locs h1 h2 h3
  · rw [if_neg h] at hr; exact kf h r s' hr H locs h1 h2 h3
theorem gg_icmp_le (X : CX p s0 m args meth c D cl tys nw A cc nL ret Ts own) (pc : Nat) {x y : Int32} {off : Int} (tgt : Nat) {resT resF : Option (ρ × σ)} (d : decode cc pc = .ok (.if_icmp .le off, 3)) (ht : (pc : Int) + off = (tgt : Int)) (kt : x ≤ y → GG p l e R s0 m args below meth c D cl tys A w nc ns Q resT (F0 m tgt ls rest) s) (kf : ¬ x ≤ y → GG p l e R s0 m args below meth c D cl tys A w nc ns Q resF (F0 m (pc + 3) ls rest) s) : GG p l e R s0 m args below meth c D cl tys A w nc ns Q (if x ≤ y then resT else resF) (F0 m pc ls (.int y :: .int x :: rest)) s := by
  intro r s' hr H locs h1 h2 h3
  refine lv_icmp_le X.1.1 X.1.2.1 d ht (fun h => ?_) (fun h => ?_)
  · rw [if_pos h] at hr; exact kt h r s' hr H locs h1 h2 h3
  · rw [if_neg h] at hr; exact kf h r s' hr H locs h1 h2 h3
theorem gg_if_ne (X : CX p s0 m args meth c D cl tys nw A cc nL ret Ts own) (pc : Nat) {x : Int32} {off : Int} (tgt : Nat) {resT resF : Option (ρ × σ)} (d : decode cc pc = .ok (.ifCond .ne off, 3)) (ht : (pc : Int) + off = (tgt : Int)) (kt : ¬ x = 0 → GG p l e R s0 m args below meth c D cl tys A w nc ns Q resF (F0 m tgt ls rest) s) (kf : x = 0 → GG p l e R s0 m args below meth c D cl tys A w nc ns Q resT (F0 m (pc + 3) ls rest) s) : GG p l e R s0 m args below meth c D cl tys A w nc ns Q (if x = 0 then resT else resF) (F0 m pc ls (.int x :: rest)) s := by
  intro r s' hr H locs h1 h2 h3
  refine lv_if_ne X.1.1 X.1.2.1 d ht (fun h => ?_) (fun h => ?_)
  · rw [if_neg h] at hr; exact kt h r s' hr H locs h1 h2 h3
  · rw [if_pos h] at hr; exact kf h r s' hr H locs h1 h2 h3
theorem gg_icmp_ne (X : CX p s0 m args meth c D cl tys nw A cc nL ret Ts own) (pc : Nat) {x y : Int32} {off : Int} (tgt : Nat) {resT resF : Option (ρ × σ)} (d : decode cc pc = .ok (.if_icmp .ne off, 3)) (ht : (pc : Int) + off = (tgt : Int)) (kt : ¬ x = y → GG p l e R s0 m args below meth c D cl tys A w nc ns Q resF (F0 m tgt ls rest) s) (kf : x = y → GG p l e R s0 m args below meth c D cl tys A w nc ns Q resT (F0 m (pc + 3) ls rest) s) : GG p l e R s0 m args below meth c D cl tys A w nc ns Q (if x = y then resT else resF) (F0 m pc ls (.int y :: .int x :: rest)) s := by
  intro r s' hr H locs h1 h2 h3
  refine lv_icmp_ne X.1.1 X.1.2.1 d ht (fun h => ?_) (fun h => ?_)
  · rw [if_neg h] at hr; exact kt h r s' hr H locs h1 h2 h3
  · rw [if_pos h] at hr; exact kf h r s' hr H locs h1 h2 h3
theorem gg_goto (X : CX p s0 m args meth c D cl tys nw A cc nL ret Ts own) (pc : Nat) {off : Int} (tgt : Nat) (d : decode cc pc = .ok (.goto off, 3)) (ht : (pc : Int) + off = (tgt : Int)) (k : GG p l e R s0 m args below meth c D cl tys A w nc ns Q res (F0 m tgt ls rest) s) : GG p l e R s0 m args below meth c D cl tys A w nc ns Q res (F0 m pc ls rest) s := fun r s' hr H locs h1 h2 h3 => lv_goto X.1.1 X.1.2.1 d ht (k r s' hr H locs h1 h2 h3)
theorem gg_eqc {x k : Int32} {g : JFrame} {resT resF : Option (ρ × σ)} (kt : x = k → GG p l e R s0 m args below meth c D cl tys A w nc ns Q resT (g) s) (kf : ¬ x = k → GG p l e R s0 m args below meth c D cl tys A w nc ns Q resF (g) s) : GG p l e R s0 m args below meth c D cl tys A w nc ns Q (if x = k then resT else resF) (g) s := by
  intro r s' hr H locs h1 h2 h3
  by_cases h : x = k
  · rw [if_pos h] at hr; exact kt h r s' hr H locs h1 h2 h3
  · rw [if_neg h] at hr; exact kf h r s' hr H locs h1 h2 h3
theorem gg_tin (X : CX p s0 m args meth c D cl tys nw A cc nL ret Ts own) (pc : Nat) {dflt lo hi off : Int} {offs : Array Int} {len : Nat} {x k : Int32} (tgt : Nat) (d : decode cc pc = .ok (.tableswitch dflt lo hi offs, len)) (h : x = k) (h1 : ¬ k.toInt < lo) (h2 : ¬ hi < k.toInt) (ho : offs[(k.toInt - lo).toNat]? = some off) (ht : (pc : Int) + off = (tgt : Int)) (kk : GG p l e R s0 m args below meth c D cl tys A w nc ns Q res (F0 m tgt ls rest) s) : GG p l e R s0 m args below meth c D cl tys A w nc ns Q res (F0 m pc ls (.int x :: rest)) s := by
  subst h
  exact fun r s' hr H locs g1 g2 g3 => lv_tableIn X.1.1 X.1.2.1 d h1 h2 ho ht (kk r s' hr H locs g1 g2 g3)
theorem gg_tout (X : CX p s0 m args meth c D cl tys nw A cc nL ret Ts own) (pc : Nat) {dflt lo hi : Int} {offs : Array Int} {len : Nat} {x : Int32} (tgt : Nat) (d : decode cc pc = .ok (.tableswitch dflt lo hi offs, len)) (h : x.toInt < lo ∨ hi < x.toInt) (ht : (pc : Int) + dflt = (tgt : Int)) (kk : GG p l e R s0 m args below meth c D cl tys A w nc ns Q res (F0 m tgt ls rest) s) : GG p l e R s0 m args below meth c D cl tys A w nc ns Q res (F0 m pc ls (.int x :: rest)) s := fun r s' hr H locs g1 g2 g3 => lv_tableOut X.1.1 X.1.2.1 d h ht (kk r s' hr H locs g1 g2 g3)
theorem gg_iret {r0 : Int32} (X : CX p s0 m args meth c D cl tys nw A cc nL (some .int) Ts own) (pc : Nat) (d : decode cc pc = .ok (.ireturn, 1)) : GG p l e R s0 m args below meth c D cl tys A w 0 0 (QM below args s0 D cl tys A w rvI) (some (r0, s)) (F0 m pc ls [.int r0]) s := by
  intro r s' hr H locs h1 h2 h3
  cases hr
  exact W.iret X.1.1 X.1.2.1 X.2.1 (fun t ht hW => ⟨rfl, by rw [ht]; exact h1, va_K.moved hW.alike X.2.2.2.1, h2, h3.F ht⟩) h3.2.2 d X.2.2.1
theorem gg_zretk {r0 : Int32} (X : CX p s0 m args meth c D cl tys nw A cc nL (some .boolean) Ts own) (pc : Nat) (hn : narrow .boolean (.int r0) = .int r0) (d : decode cc pc = .ok (.ireturn, 1)) : GG p l e R s0 m args below meth c D cl tys A w 0 0 (QM below args s0 D cl tys A w rvI) (some (r0, s)) (F0 m pc ls [.int r0]) s := by
  intro r s' hr H locs h1 h2 h3
  cases hr
  exact W.zret X.1.1 X.1.2.1 X.2.1 hn (fun t ht hW => ⟨rfl, by rw [ht]; exact h1, va_K.moved hW.alike X.2.2.2.1, h2, h3.F ht⟩) h3.2.2 d X.2.2.1
theorem nar_b {x : Int32} (h : vp_nar .boolean x = x) : narrow .boolean (.int x) = .int x := by
  have h2 : narrow .boolean (.int x) = .int (vp_nar .boolean x) := rfl
  rw [h2, h]
theorem gg_zret {r0 : Int32} (X : CX p s0 m args meth c D cl tys nw A cc nL (some .boolean) Ts own) (pc : Nat) (d : decode cc pc = .ok (.ireturn, 1)) : GG p l e R s0 m args below meth c D cl tys A w 0 0 (QM below args s0 D cl tys A w rvI) (bz r0 (some (r0, s))) (F0 m pc ls [.int r0]) s := by
  intro r s' hr
  unfold bz at hr
  by_cases h : vp_nar .boolean r0 = r0
  · rw [if_pos h] at hr; exact gg_zretk X pc (nar_b h) d r s' hr
  · rw [if_neg h] at hr; cases hr
theorem gg_vret (X : CX p s0 m args meth c D cl tys nw A cc nL none Ts own) (pc : Nat) (d : decode cc pc = .ok (.return_, 1)) : GG p l e R s0 m args below meth c D cl tys A w 0 0 (QM below args s0 D cl tys A w rvV) (some ((), s)) (F0 m pc ls []) s := by
  intro r s' hr H locs h1 h2 h3
  cases hr
  exact W.vret X.1.1 X.1.2.1 X.2.1 (fun t ht hW => ⟨rfl, by rw [ht]; exact h1, va_K.moved hW.alike X.2.2.2.1, h2, h3.F ht⟩) h3.2.2 d X.2.2.1
theorem gg_aret {r0 b : Nat} {ad : Nat → Nat} {cn : String} (X : CX p s0 m args meth c D cl tys nw A cc nL (some (.object cn)) Ts own) (pc : Nat) (d : decode cc pc = .ok (.areturn, 1)) : GG p l e R s0 m args below meth c D cl tys A w 0 0 (QM below args s0 D cl tys A w (rvR ad b)) (some (r0, s)) (F0 m pc ls [.ref (ad (b + r0))]) s := by
  intro r s' hr H locs h1 h2 h3
  cases hr
  exact W.aret X.1.1 X.1.2.1 X.2.1 (Or.inl ⟨_, rfl⟩) (Or.inr ⟨_, rfl⟩) (fun t ht hW => ⟨rfl, by rw [ht]; exact h1, va_K.moved hW.alike X.2.2.2.1, h2, h3.F ht⟩) h3.2.2 d X.2.2.1
theorem gg_get (X : CX p s0 m args meth c D cl tys nw A cc nL ret Ts own) (pc : Nat) {q0 a ci k N index : Nat} {C : String} {T : u_T} {fs : List Value} {v : Value} (hin : ∀ x ∈ u_ws C T N, x ∈ Ts) (he : (w s)[q0]? = some (a, .inr (ci, fs))) (hc : cl[ci]? = some (C, T, N)) (hk : k < N) (hv : fs[k]? = some v) (hlink : Cond.fieldLink own index (T k).1 (T k).2.1 (T k).2.2.1 ∈ Ts ∨ ∃ host, Cond.fieldLinkNest own index (T k).1 (T k).2.1 (T k).2.2.1 host ∈ nw) (d : decode cc pc = .ok (.getfield index, 3)) (kk : GG p l e R s0 m args below meth c D cl tys A w nc ns Q res (F0 m (pc + 3) ls (v :: rest)) s) : GG p l e R s0 m args below meth c D cl tys A w nc ns Q res (F0 m pc ls (.ref a :: rest)) s := by
  intro r s' hr H locs h1 h2 h3
  rcases hlink with hl | ⟨host, hl⟩
  · exact va_get X.1.1 X.1.2.1 X.1.2.2.2.2 hin X.1.2.2.2.1 X.2.2.2.1 h1 q0 he hc k hk (X.1.2.2.2.2 _ hl) (fun _ h => h) hv d (kk r s' hr H locs h1 h2 h3)
  · exact va_getN X.1.1 X.1.2.1 X.1.2.2.2.2 hin X.1.2.2.2.1 X.2.2.2.1 h1 q0 he hc k hk (va_Nw.use rfl (X.2.2.2.2.2 _ hl)) (fun _ h => h) hv d (kk r s' hr H locs h1 h2 h3)
theorem gg_put (X : CX p s0 m args meth c D cl tys nw A cc nL ret Ts own) (pc : Nat) {q0 a ci k N index : Nat} {C : String} {T : u_T} {fs : List Value} {v : Value} {ty : FieldType} {s2 : σ} {K : σ → Option (ρ × σ)} (hin : ∀ x ∈ u_ws C T N, x ∈ Ts) (ty0 : Nat → FieldType) (hty : ∀ k, k < N → parseFieldDescriptor (T k).2.2.1 = some (ty0 k)) (hnm : ∀ a, a < N → ∀ b, b < N → a ≠ b → (T a).2.1 ≠ (T b).2.1) (he : (w s)[q0]? = some (a, .inr (ci, fs))) (hc : cl[ci]? = some (C, T, N)) (hk : k < N) (hfin : (T k).2.2.2 = false) (hd : parseFieldDescriptor (T k).2.2.1 = some ty) (hl0 : k < fs.length) (hlink : Cond.fieldLink own index (T k).1 (T k).2.1 (T k).2.2.1 ∈ Ts ∨ ∃ host, Cond.fieldLinkNest own index (T k).1 (T k).2.1 (T k).2.2.1 host ∈ nw) (hset : (w s).set q0 (a, .inr (ci, fs.set k v)) = w s2) (hn : narrow ty v = v) (hfit : fits ty v = true) (d : decode cc pc = .ok (.putfield index, 3)) (kk : ∀ s1, GG p l e R s0 m args below meth c D cl tys A w nc ns Q (K s1) (F0 m (pc + 3) ls rest) s1) : GG p l e R s0 m args below meth c D cl tys A w nc ns Q (nm s2 K) (F0 m pc ls (v :: .ref a :: rest)) s := by
  intro r s' hr H locs h1 h2 h3
  rcases hlink with hl | ⟨host, hl⟩
  · exact va_put X.1.1 X.1.2.1 X.1.2.2.2.2 hin ty0 hty hnm X.1.2.2.2.1 X.2.2.2.1 h1 h2 h3 q0 he hc k hk (X.1.2.2.2.2 _ hl) (fun _ h => h) hfin hd hn hfit hl0 d (fun H1 locs1 g1 g2 g3 => kk s2 r s' hr H1 locs1 (by rw [← hset]; exact g1) (by rw [← hset]; exact g2) g3)
  · exact va_putN X.1.1 X.1.2.1 X.1.2.2.2.2 hin ty0 hty hnm X.1.2.2.2.1 X.2.2.2.1 h1 h2 h3 q0 he hc k hk (va_Nw.use rfl (X.2.2.2.2.2 _ hl)) (fun _ h => h) hfin hd hn hfit hl0 d (fun H1 locs1 g1 g2 g3 => kk s2 r s' hr H1 locs1 (by rw [← hset]; exact g1) (by rw [← hset]; exact g2) g3)
theorem gg_iald (X : CX p s0 m args meth c D cl tys nw A cc nL ret Ts own) (pc : Nat) {q0 t0 a n : Nat} {cA : ClassId} {f : Nat → Int32} {i : Int32} (he : (w s)[q0]? = some (a, .inl (cA, n, .inl f))) (ht : tys[t0]? = some (cA, .int)) (d : decode cc pc = .ok (.iaload, 1)) (kk : GG p l e R s0 m args below meth c D cl tys A w nc ns Q res (F0 m (pc + 1) ls (.int (f i.toNatClampNeg) :: rest)) s) : GG p l e R s0 m args below meth c D cl tys A w nc ns Q (ix i n res) (F0 m pc ls (.int i :: .ref a :: rest)) s := by
  intro r s' hr H locs h1 h2 h3
  unfold ix at hr
  by_cases hin : i < 0 ∨ n ≤ i.toNatClampNeg
  · rw [if_pos hin] at hr; cases hr
  · rw [if_neg hin] at hr
    exact va_iald X.1.1 X.1.2.1 X.2.2.2.1 h1 q0 t0 he ht hin d (kk r s' hr H locs h1 h2 h3)
theorem gg_zald (X : CX p s0 m args meth c D cl tys nw A cc nL ret Ts own) (pc : Nat) {q0 t0 a n : Nat} {cA : ClassId} {f : Nat → Int32} {i : Int32} (he : (w s)[q0]? = some (a, .inl (cA, n, .inl f))) (ht : tys[t0]? = some (cA, .boolean)) (d : decode cc pc = .ok (.baload, 1)) (kk : GG p l e R s0 m args below meth c D cl tys A w nc ns Q res (F0 m (pc + 1) ls (.int (f i.toNatClampNeg) :: rest)) s) : GG p l e R s0 m args below meth c D cl tys A w nc ns Q (ix i n res) (F0 m pc ls (.int i :: .ref a :: rest)) s := by
  intro r s' hr H locs h1 h2 h3
  unfold ix at hr
  by_cases hin : i < 0 ∨ n ≤ i.toNatClampNeg
  · rw [if_pos hin] at hr; cases hr
  · rw [if_neg hin] at hr
    exact va_zald X.1.1 X.1.2.1 X.2.2.2.1 h1 q0 t0 he ht hin d (kk r s' hr H locs h1 h2 h3)
theorem gg_aald (X : CX p s0 m args meth c D cl tys nw A cc nL ret Ts own) (pc : Nat) {q0 t0 a n : Nat} {cA : ClassId} {C : String} {f : Nat → Option Nat} {i : Int32} (he : (w s)[q0]? = some (a, .inl (cA, n, .inr (.inr (.inr (.inr f)))))) (ht : tys[t0]? = some (cA, .object C)) (d : decode cc pc = .ok (.aaload, 1)) (kk : vp_in i n → GG p l e R s0 m args below meth c D cl tys A w nc ns Q res (F0 m (pc + 1) ls (va_rf (f i.toNatClampNeg) :: rest)) s) : GG p l e R s0 m args below meth c D cl tys A w nc ns Q (ix i n res) (F0 m pc ls (.int i :: .ref a :: rest)) s := by
  intro r s' hr H locs h1 h2 h3
  unfold ix at hr
  by_cases hin : i < 0 ∨ n ≤ i.toNatClampNeg
  · rw [if_pos hin] at hr; cases hr
  · rw [if_neg hin] at hr
    exact va_aldq X.1.1 X.1.2.1 X.2.2.2.1 h1 q0 t0 he ht hin d (kk hin r s' hr H locs h1 h2 h3)
theorem gg_iast (X : CX p s0 m args meth c D cl tys nw A cc nL ret Ts own) (pc : Nat) {q0 t0 a n : Nat} {cA : ClassId} {f : Nat → Int32} {i x : Int32} {s2 : σ} {K : σ → Option (ρ × σ)} (he : (w s)[q0]? = some (a, .inl (cA, n, .inl f))) (ht : tys[t0]? = some (cA, .int)) (hset : (w s).set q0 (a, .inl (cA, n, .inl (upd f i.toNatClampNeg x))) = w s2) (d : decode cc pc = .ok (.iastore, 1)) (kk : ∀ s1, GG p l e R s0 m args below meth c D cl tys A w nc ns Q (K s1) (F0 m (pc + 1) ls rest) s1) : GG p l e R s0 m args below meth c D cl tys A w nc ns Q (ix i n (nm s2 K)) (F0 m pc ls (.int x :: .int i :: .ref a :: rest)) s := by
  intro r s' hr H locs h1 h2 h3
  unfold ix at hr
  by_cases hin : i < 0 ∨ n ≤ i.toNatClampNeg
  · rw [if_pos hin] at hr; cases hr
  · rw [if_neg hin] at hr
    exact va_iast X.1.1 X.1.2.1 X.2.2.2.1 h1 h2 h3 q0 t0 he ht hin d (fun H1 locs1 g1 g2 g3 => kk s2 r s' hr H1 locs1 (by rw [← hset]; exact g1) (by rw [← hset]; exact g2) g3)
theorem gg_zast (X : CX p s0 m args meth c D cl tys nw A cc nL ret Ts own) (pc : Nat) {q0 t0 a n : Nat} {cA : ClassId} {f : Nat → Int32} {i x : Int32} {s2 : σ} {K : σ → Option (ρ × σ)} (he : (w s)[q0]? = some (a, .inl (cA, n, .inl f))) (ht : tys[t0]? = some (cA, .boolean)) (hset : (w s).set q0 (a, .inl (cA, n, .inl (upd f i.toNatClampNeg (vp_nar .boolean x)))) = w s2) (d : decode cc pc = .ok (.bastore, 1)) (kk : ∀ s1, GG p l e R s0 m args below meth c D cl tys A w nc ns Q (K s1) (F0 m (pc + 1) ls rest) s1) : GG p l e R s0 m args below meth c D cl tys A w nc ns Q (ix i n (nm s2 K)) (F0 m pc ls (.int x :: .int i :: .ref a :: rest)) s := by
  intro r s' hr H locs h1 h2 h3
  unfold ix at hr
  by_cases hin : i < 0 ∨ n ≤ i.toNatClampNeg
  · rw [if_pos hin] at hr; cases hr
  · rw [if_neg hin] at hr
    exact va_zast X.1.1 X.1.2.1 X.2.2.2.1 h1 h2 h3 q0 t0 he ht hin d (fun H1 locs1 g1 g2 g3 => kk s2 r s' hr H1 locs1 (by rw [← hset]; exact g1) (by rw [← hset]; exact g2) g3)
theorem gg_alen (X : CX p s0 m args meth c D cl tys nw A cc nL ret Ts own) (pc : Nat) {q0 t0 a : Nat} {cA : ClassId} {x : vp_A} {ty : FieldType} (v : Int32) (he : (w s)[q0]? = some (a, .inl (cA, x))) (ht : tys[t0]? = some (cA, ty)) (hv : Int32.ofNat x.1 = v) (d : decode cc pc = .ok (.arraylength, 1)) (kk : GG p l e R s0 m args below meth c D cl tys A w nc ns Q res (F0 m (pc + 1) ls (.int v :: rest)) s) : GG p l e R s0 m args below meth c D cl tys A w nc ns Q res (F0 m pc ls (.ref a :: rest)) s := fun r s' hr H locs h1 h2 h3 => va_alen X.1.1 X.1.2.1 X.2.2.2.1 h1 q0 t0 he ht hv d (kk r s' hr H locs h1 h2 h3)
theorem gg_free (X : CX p s0 m args meth c D cl tys nw A cc nL ret Ts own) {H : Heap} {locs : List Loc} (h2 : va_D A (w s)) (h3 : va_S A s0.heap H locs) : ∀ q, va_A (w s) H.size q → A q := by
  intro q h
  rcases h with ⟨k, e, h⟩ | h
  · exact h2.2 k (q, e) h
  · exact X.2.2.2.2.1 q (Nat.le_trans h3.1 h)
theorem gg_run {ρ' : Type} (X : CX p s0 m args meth c D cl tys nw A cc nL ret Ts own) (pc : Nat) {rv' : ρ' → Option Value} {o : Option (ρ' × σ)} {K : ρ' → σ → Option (ρ × σ)} {st0 : List Value} {a : Array Value} (hr : ∀ r s1, o = some (r, s1) → ∀ (H : Heap) (locs : List Loc), va_P D cl (w s) H → va_D A (w s) → va_S A s0.heap H locs → va_Run p l e R s0 m args below meth c H locs nc ns 0 0 (F0 m pc ls st0) rest (Qx rv' w D cl tys (va_A (w s) H.size) r s1 a) (va_A (w s) H.size)) (kk : ∀ r s1, o = some (r, s1) → GG p l e R s0 m args below meth c D cl tys A w nc ns Q (K r s1) (F0 m (pc + 3) ls ((rv' r).toList ++ rest)) s1) : GG p l e R s0 m args below meth c D cl tys A w nc ns Q (bnd o K) (F0 m pc ls st0) s := by
  intro r s' hres H locs hP hD hS
  cases ho : o with
  | none => rw [ho] at hres; cases hres
  | some q =>
    obtain ⟨r1, s1⟩ := q
    rw [ho] at hres
    have hk := kk r1 s1 ho r s' hres
    have hrun := hr r1 s1 ho H locs hP hD hS
    have hfree := gg_free X hD hS
    intro T hT X0
    obtain ⟨v, st₀, t, T', L, h0, X', hL, e1, e2, ⟨hv, qP, qK, qD, hz, hkp⟩, st⟩ := hrun T hT X0
    cases hv
    rw [h0] at hz hkp
    obtain ⟨t2, a1, b1⟩ := hk T'.heap (locs ++ L) (by rw [e1]; exact qP) (qD.weaken (fun _ _ _ h => hfree _ h)) ⟨Nat.le_trans hS.1 (by rw [e1]; exact hz), fun q g1 g2 => by rw [e1, hkp q (Nat.lt_of_lt_of_le g1 hS.1) (fun z => g2 (hfree q z))]; exact hS.2.1 q g1 g2, fun q hq => by
      rcases List.mem_append.mp hq with h | h
      · exact hS.2.2 q h
      · exact hfree _ (hL q h)⟩ T' rfl X'
    exact ⟨t2, st t2 a1, b1⟩
def nwOne : Cond → Bool
  | .fieldLinkNest _ _ _ _ _ _ => true
  | .methodLinkNest _ _ _ _ => true
  | _ => false
def nwOk (nw : List Cond) : Bool := nw.all nwOne
theorem px_blind {sz : Nat} {av : List Value} (hg : nwOk nw = true) : FrameBlind (Px w D cl tys nw sz s av) := by
  intro a U g mk q
  obtain ⟨q0, q1, qP, qK, qD, qN⟩ := q
  exact ⟨q0, q1, qP, va_K.moved (u := U) (U := U.calling g mk a) (Vm.Alike.refl U.vm) qK, qD, fun x hx => by
    have h1 := qN x hx
    have h2 := List.all_eq_true.mp hg x hx
    cases x <;> first | exact va_Nw.same rfl (rfl : U.vm = (U.calling g mk a).vm) h1 | (exact absurd h2 (by simp [nwOne]))⟩
theorem nw_warm {U : State} (hg : nwOk nw = true) (hW : s0.WarmedH U.vm) (h : ∀ x ∈ nw, va_Nw x s0) : ∀ x ∈ nw, va_Nw x U := by
  intro x hx
  have h1 := h x hx
  have h2 := List.all_eq_true.mp hg x hx
  cases x <;> first | exact va_Nw.warmF hW h1 | exact va_Nw.warmM hW h1 | (exact absurd h2 (by simp [nwOne]))
theorem gg_callV {ρ' : Type} (X : CX p s0 m args meth c D cl tys nw A cc nL ret Ts own) (pc : Nat) {rv' : ρ' → Option Value} {o : Option (ρ' × σ)} {K : ρ' → σ → Option (ρ × σ)} {st0 : List Value} {q0 b ci N : Nat} {C : String} {T : u_T} {fs : List Value} {y : MethodName} {bytes : ByteArray} {maxL n index : Nat} {retc : Option FieldType} {ws : List Cond} {rm : Room} {host : String} (hg : nwOk nw = true) (As : List Value) (rest : List Value) (hM : ∀ r s1, o = some (r, s1) → ∀ sz, Met l y ws rm (Px w D cl tys nw sz s (.ref b :: As)) (Qx rv' w D cl tys (va_A (w s) sz) r s1) 0 0 (va_A (w s) sz)) (cw : CallW R s0 args own C index y bytes maxL retc ws rm 0 0 n) (he : (w s)[q0]? = some (b, .inr (ci, fs))) (hc : cl[ci]? = some (C, T, N)) (hn : As.length = n) (hsize : ls.size = nL) (hst : st0 = As.reverse ++ .ref b :: rest) (hroom : (rest.map fun v => v.category).sum ≤ 8) (hR : nc + 0 ≤ R.cells ∧ ns + 0 ≤ R.slots) (d : decode cc pc = .ok (.invokevirtual index, 3)) (kk : ∀ r s1, o = some (r, s1) → GG p l e R s0 m args below meth c D cl tys A w nc ns Q (K r s1) (F0 m (pc + 3) ls ((rv' r).toList ++ rest)) s1) : GG p l e R s0 m args below meth c D cl tys A w nc ns Q (bnd o K) (F0 m pc ls st0) s :=
  gg_run X pc (fun r s1 ho H locs hP hD hS => va_runV (As := As) (rest := rest) X.1 (hM r s1 ho H.size) cw ⟨px_blind hg, va_recv X.2.2.2.1 hP hc he, fun U hU hW => ⟨rfl, by rw [hU], by rw [hU]; exact hP, va_K.moved hW.alike X.2.2.2.1, hD.weaken (fun _ _ _ _ => trivial), nw_warm hg hW X.2.2.2.2.2⟩⟩ rfl hn hsize hst (lv_room hroom) d hR) kk
theorem gg_callVN {ρ' : Type} (X : CX p s0 m args meth c D cl tys nw A cc nL ret Ts own) (pc : Nat) {rv' : ρ' → Option Value} {o : Option (ρ' × σ)} {K : ρ' → σ → Option (ρ × σ)} {st0 : List Value} {q0 b ci N : Nat} {C : String} {T : u_T} {fs : List Value} {y : MethodName} {bytes : ByteArray} {maxL n index : Nat} {retc : Option FieldType} {ws : List Cond} {rm : Room} {host : String} (hg : nwOk nw = true) (As : List Value) (rest : List Value) (hM : ∀ r s1, o = some (r, s1) → ∀ sz, Met l y ws rm (Px w D cl tys nw sz s (.ref b :: As)) (Qx rv' w D cl tys (va_A (w s) sz) r s1) 0 0 (va_A (w s) sz)) (cw : va_CN R s0 args own index y host bytes maxL retc ws rm 0 0 n ∧ (Cond.instanceMethod y).before args s0 = true ∧ (Cond.selects C y y).before args s0 = true) (he : (w s)[q0]? = some (b, .inr (ci, fs))) (hc : cl[ci]? = some (C, T, N)) (hn : As.length = n) (hsize : ls.size = nL) (hst : st0 = As.reverse ++ .ref b :: rest) (hroom : (rest.map fun v => v.category).sum ≤ 8) (hR : nc + 0 ≤ R.cells ∧ ns + 0 ≤ R.slots) (d : decode cc pc = .ok (.invokevirtual index, 3)) (kk : ∀ r s1, o = some (r, s1) → GG p l e R s0 m args below meth c D cl tys A w nc ns Q (K r s1) (F0 m (pc + 3) ls ((rv' r).toList ++ rest)) s1) : GG p l e R s0 m args below meth c D cl tys A w nc ns Q (bnd o K) (F0 m pc ls st0) s :=
  gg_run X pc (fun r s1 ho H locs hP hD hS => va_runVN (As := As) (rest := rest) X.1 (hM r s1 ho H.size) cw ⟨px_blind hg, va_recv X.2.2.2.1 hP hc he, fun U hU hW => ⟨rfl, by rw [hU], by rw [hU]; exact hP, va_K.moved hW.alike X.2.2.2.1, hD.weaken (fun _ _ _ _ => trivial), nw_warm hg hW X.2.2.2.2.2⟩⟩ rfl hn hsize hst (lv_room hroom) d hR) kk
theorem gg_callS {ρ' : Type} (X : CX p s0 m args meth c D cl tys nw A cc nL ret Ts own) (pc : Nat) {rv' : ρ' → Option Value} {o : Option (ρ' × σ)} {K : ρ' → σ → Option (ρ × σ)} {st0 : List Value}  {y : MethodName} {bytes : ByteArray} {maxL n index : Nat} {retc : Option FieldType} {ws : List Cond} {rm : Room} {host : String} (hg : nwOk nw = true) (As : List Value) (rest : List Value) (hM : ∀ r s1, o = some (r, s1) → ∀ sz, Met l y ws rm (Px w D cl tys nw sz s As) (Qx rv' w D cl tys (va_A (w s) sz) r s1) 0 0 (va_A (w s) sz)) (cw : CallB R s0 args own index y bytes maxL retc ws rm 0 0 n ∧ (Cond.static y).before args s0 = true) (hn : As.length = n) (hsize : ls.size = nL) (hst : st0 = As.reverse ++ rest) (hroom : (rest.map fun v => v.category).sum ≤ 8) (hR : nc + 0 ≤ R.cells ∧ ns + 0 ≤ R.slots) (d : decode cc pc = .ok (.invokestatic index, 3)) (kk : ∀ r s1, o = some (r, s1) → GG p l e R s0 m args below meth c D cl tys A w nc ns Q (K r s1) (F0 m (pc + 3) ls ((rv' r).toList ++ rest)) s1) : GG p l e R s0 m args below meth c D cl tys A w nc ns Q (bnd o K) (F0 m pc ls st0) s :=
  gg_run X pc (fun r s1 ho H locs hP hD hS => va_runS (As := As) (rest := rest) X.1 (hM r s1 ho H.size) cw ⟨px_blind hg, fun U hU hW => ⟨rfl, by rw [hU], by rw [hU]; exact hP, va_K.moved hW.alike X.2.2.2.1, hD.weaken (fun _ _ _ _ => trivial), nw_warm hg hW X.2.2.2.2.2⟩⟩ rfl hn hsize hst (lv_room hroom) d hR) kk
theorem gg_callSN {ρ' : Type} (X : CX p s0 m args meth c D cl tys nw A cc nL ret Ts own) (pc : Nat) {rv' : ρ' → Option Value} {o : Option (ρ' × σ)} {K : ρ' → σ → Option (ρ × σ)} {st0 : List Value}  {y : MethodName} {bytes : ByteArray} {maxL n index : Nat} {retc : Option FieldType} {ws : List Cond} {rm : Room} {host : String} (hg : nwOk nw = true) (As : List Value) (rest : List Value) (hM : ∀ r s1, o = some (r, s1) → ∀ sz, Met l y ws rm (Px w D cl tys nw sz s As) (Qx rv' w D cl tys (va_A (w s) sz) r s1) 0 0 (va_A (w s) sz)) (cw : va_CN R s0 args own index y host bytes maxL retc ws rm 0 0 n ∧ (Cond.static y).before args s0 = true ∧ True) (hn : As.length = n) (hsize : ls.size = nL) (hst : st0 = As.reverse ++ rest) (hroom : (rest.map fun v => v.category).sum ≤ 8) (hR : nc + 0 ≤ R.cells ∧ ns + 0 ≤ R.slots) (d : decode cc pc = .ok (.invokestatic index, 3)) (kk : ∀ r s1, o = some (r, s1) → GG p l e R s0 m args below meth c D cl tys A w nc ns Q (K r s1) (F0 m (pc + 3) ls ((rv' r).toList ++ rest)) s1) : GG p l e R s0 m args below meth c D cl tys A w nc ns Q (bnd o K) (F0 m pc ls st0) s :=
  gg_run X pc (fun r s1 ho H locs hP hD hS => va_runSN (As := As) (rest := rest) X.1 (hM r s1 ho H.size) cw ⟨px_blind hg, fun U hU hW => ⟨rfl, by rw [hU], by rw [hU]; exact hP, va_K.moved hW.alike X.2.2.2.1, hD.weaken (fun _ _ _ _ => trivial), nw_warm hg hW X.2.2.2.2.2⟩⟩ rfl hn hsize hst (lv_room hroom) d hR) kk
theorem gg_show_i {pc : Nat} {r1 : Int32} (k : GG p l e R s0 m args below meth c D cl tys A w nc ns Q res (F0 m pc ls (.int r1 :: rest)) s) : GG p l e R s0 m args below meth c D cl tys A w nc ns Q res (F0 m pc ls ((rvI r1).toList ++ rest)) s := k
theorem gg_show_r {pc : Nat} {r1 : Nat} {ad : Nat → Nat} {b1 : Nat} (k : GG p l e R s0 m args below meth c D cl tys A w nc ns Q res (F0 m pc ls (.ref (ad (b1 + r1)) :: rest)) s) : GG p l e R s0 m args below meth c D cl tys A w nc ns Q res (F0 m pc ls ((rvR ad b1 r1).toList ++ rest)) s := k
theorem gg_show_v {pc : Nat} {r1 : Unit} (k : GG p l e R s0 m args below meth c D cl tys A w nc ns Q res (F0 m pc ls rest) s) : GG p l e R s0 m args below meth c D cl tys A w nc ns Q res (F0 m pc ls ((rvV r1).toList ++ rest)) s := k
end GGS
theorem met_of {l : Launch} {D : va_G} {cl : List vw_C} {tys : List (ClassId × FieldType)} {nw : List Cond} {σ : Type} {w : σ → va_W} {ρ : Type} {rv : ρ → Option Value} {res : Option (ρ × σ)} {s s' : σ} {r : ρ} {y : MethodName} {ws ws' : List Cond} {rm : Room} {cc : ByteArray} {nL : Nat} {ret : Option FieldType} {own : String} {sz : Nat} (av : List Value) (hy : plainName y.cls = true) (hw : ws = Cond.code y cc nL ret :: ws') (ho : y.cls = own) (hlen : (lg_sl av).length ≤ nL) (hF : res = some (r, s'))
    (body : ∀ (p : Program) (e : Env) (s0 : State) (m : MethodId) (args : Array Value) (below : List Frame) (meth : Method) (c : Code) (A : Nat → Prop) (ls : Array Slot), CX p s0 m args meth c D cl tys nw A cc nL ret ws own → lv_has ls nL (lv_args 0 av) → GG p l e rm s0 m args below meth c D cl tys A w 0 0 (QM below args s0 D cl tys A w rv) res (F0 m 0 ls []) s) :
    Met l y ws rm (Px w D cl tys nw sz s av) (Qx rv w D cl tys (va_A (w s) sz) r s') 0 0 (va_A (w s) sz) := by
  refine Met.ofW (cc := cc) (maxL := nL) (ret := ret) hy hw ?_
  intro p e s0 m args below meth c s₁ B hml hv
  obtain ⟨rfl, hsz, hP, hK, hD0, hN⟩ := hv
  have hts := atoms_spec (ws := ws) B.pre
  have hown : s0.vm.findClass own = some m.cls := by rw [← ho]; exact findClass_of_methodNamed B.named
  have hlocks := B.notSynchronized
  subst hsz
  have hD := hD0.self (sz := s0.heap.size)
  have hA : ∀ q : Nat, s0.heap.size ≤ q → va_A (w s) s0.heap.size q := fun q h => Or.inr h
  have hl := lv_entry av (n := nL) hlen
  rw [lg_entry_eq]
  exact body p e s0 m av.toArray below meth c _ _ ⟨⟨B.exec, B.bytes, hml, hown, hts⟩, B.returns, hlocks, hK, hA, hN⟩ hl r s' hF s0.heap [] hP hD va_S.rf
end
section
/-! what each method means: printed by wip/whole/main.py out of the bytecode -/
def f_W_isAddress_15  (s : eS) : Option (Int32 × eS) := (some ((0 : Int32), s))
def f_W_isAddress (a0 : Int32) (s : eS) : Option (Int32 × eS) := (if a0 < 0 then (f_W_isAddress_15 s) else (if (256 : Int32) ≤ a0 then (f_W_isAddress_15 s) else (some ((1 : Int32), s))))
def f_W_systemMayUse_29  (s : eS) : Option (Int32 × eS) := (some ((1 : Int32), s))
def f_W_systemMayUse (a1 : Int32) (s : eS) : Option (Int32 × eS) := bnd (f_W_isAddress a1 s) fun r1 s2 => (if r1 = 0 then (some ((0 : Int32), s2)) else ix (a1 / (16 : Int32)) 16 (nm (s2 1 (Int32.toNatClampNeg (a1 / (16 : Int32)))) fun v4 => (if v4 = (1 : Int32) then (f_W_systemMayUse_29 s2) else (if v4 < (5 : Int32) then (some ((0 : Int32), s2)) else (f_W_systemMayUse_29 s2)))))
def f_W_poke (a1 : Int32) (a2 : Int32) (s : eS) : Option (Int32 × eS) := bnd (f_W_systemMayUse a1 s) fun r1 s2 => (if r1 = 0 then (some ((0 : Int32), s2)) else ix a1 256 (nm (wr s2 0 (Int32.toNatClampNeg a1) a2) fun s4 => (some ((1 : Int32), s4))))
def f_W_peek (a1 : Int32) (s : eS) : Option (Int32 × eS) := bnd (f_W_systemMayUse a1 s) fun r1 s2 => (if r1 = 0 then (some ((0 : Int32), s2)) else ix a1 256 ((some ((s2 0 (Int32.toNatClampNeg a1)), s2))))
def f_W_bare (a1 : Int32) (s : eS) : Option (Int32 × eS) := bnd (f_W_isAddress a1 s) fun r1 s2 => (if r1 = 0 then (some ((0 : Int32), s2)) else ix a1 256 ((some ((s2 0 (Int32.toNatClampNeg a1)), s2))))
def f_C_put (n0 : Nat) (a1 : Int32) (a2 : Int32) (s : eS) : Option (Unit × eS) := (if a1 ≤ 0 then (some ((), s)) else (if (8 : Int32) ≤ a1 then (some ((), s)) else ix a1 8 (nm (wr s (10 + n0) (Int32.toNatClampNeg a1) a2) fun s1 => (some ((), s1)))))
def f_W_give_19  (s : eS) : Option (Int32 × eS) := (some ((0 : Int32), s))
def f_W_give (a1 : Int32) (a2 : Int32) (s : eS) : Option (Int32 × eS) := (if a1 < (1 : Int32) then (f_W_give_19 s) else (if (8 : Int32) ≤ a1 then (f_W_give_19 s) else (if (s 9 2) = (-1 : Int32) then bnd (f_C_put 6 a1 a2 s) fun _ s2 => (some ((1 : Int32), s2)) else (f_W_give_19 s))))
def f_C_get_19  (s : eS) : Option (Int32 × eS) := (some ((0 : Int32), s))
def f_C_get (n0 : Nat) (a1 : Int32) (s : eS) : Option (Int32 × eS) := (if a1 < 0 then (f_C_get_19 s) else (if (8 : Int32) ≤ a1 then (f_C_get_19 s) else ix a1 8 ((some ((s (10 + n0) (Int32.toNatClampNeg a1)), s)))))
def f_W_register (a1 : Int32) (s : eS) : Option (Int32 × eS) := bnd (f_C_get 6 a1 s) fun r1 s2 => (some (r1, s2))
def f_W_pc  (s : eS) : Option (Int32 × eS) := (some ((s 8 6), s))
def f_W_boot (a1 : Int32) (s : eS) : Option (Int32 × eS) := (if (s 9 2) = (-1 : Int32) then nm (wr s 8 6 a1) fun s1 => nm (wr s1 9 1 (0 : Int32)) fun s2 => (some ((1 : Int32), s2)) else (some ((0 : Int32), s)))
def f_W_halted  (s : eS) : Option (Int32 × eS) := (bz (s 9 1) (some ((s 9 1), s)))
def f_W_isRegion_14  (s : eS) : Option (Int32 × eS) := (some ((0 : Int32), s))
def f_W_isRegion (a0 : Int32) (s : eS) : Option (Int32 × eS) := (if a0 < 0 then (f_W_isRegion_14 s) else (if (16 : Int32) ≤ a0 then (f_W_isRegion_14 s) else (some ((1 : Int32), s))))
def f_W_allFree_2 : Nat → Int32 → Int32 → Int32 → eS → Option (Int32 × eS)
  | 0, _, _, _, _ => none
  | fl + 1, x1, x2, x3, s => (if x2 ≤ x3 then (some ((1 : Int32), s)) else ix (x1 + x3) 16 ((if (s 1 (Int32.toNatClampNeg (x1 + x3))) = 0 then nm (x3 + (1 : Int32)) fun v1 => (f_W_allFree_2 fl x1 x2 v1 s) else (some ((0 : Int32), s)))))
def f_W_allFree (a1 : Int32) (a2 : Int32) (s : eS) : Option (Int32 × eS) := nm (0 : Int32) fun v1 => (f_W_allFree_2 fu a1 a2 v1 s)
def f_W_leastAbsent_2 : Nat → Int32 → eS → Option (Int32 × eS)
  | 0, _, _ => none
  | fl + 1, x1, s => (if (3 : Int32) ≤ x1 then (some ((3 : Int32), s)) else ix x1 3 ((if (s 3 (Int32.toNatClampNeg x1)) = 0 then (some (x1, s)) else nm (x1 + (1 : Int32)) fun v2 => (f_W_leastAbsent_2 fl v2 s))))
def f_W_leastAbsent  (s : eS) : Option (Int32 × eS) := nm (0 : Int32) fun v1 => (f_W_leastAbsent_2 fu v1 s)
def f_V_become_17 : Nat → Nat → Int32 → eS → Option (Unit × eS)
  | 0, _, _, _ => none
  | fl + 1, m0, x2, s => (if (2 : Int32) ≤ x2 then (some ((), s)) else ix x2 2 (nm (wr s 6 (2 * m0 + (Int32.toNatClampNeg x2)) (0 : Int32)) fun s2 => nm (x2 + (1 : Int32)) fun v3 => (f_V_become_17 fl m0 v3 s2)))
def f_V_become (n0 : Nat) (a1 : Int32) (s : eS) : Option (Unit × eS) := nm (wr s 3 n0 a1) fun s1 => nm (wr s1 4 n0 (0 : Int32)) fun s2 => nm (wr s2 5 n0 (0 : Int32)) fun s3 => nm (0 : Int32) fun v4 => (f_V_become_17 fu n0 v4 s3)
def f_W_mix (a0 : Int32) (a1 : Int32) (s : eS) : Option (Int32 × eS) := nm ((a0 ^^^ a1) * (1390208809 : Int32)) fun v1 => (some ((v1 ^^^ (((Int32.toUInt32 v1) >>> ((Int32.toUInt32 (15 : Int32)) &&& Int32.toUInt32 31)).toInt32)), s))
def f_V_add (n0 : Nat) (a1 : Int32) (s : eS) : Option (Unit × eS) := bnd (f_W_mix (s 4 n0) a1 s) fun r1 s2 => nm (wr s2 4 n0 r1) fun s4 => (some ((), s4))
def f_W_create_28  (s : eS) : Option (Int32 × eS) := (some ((-2 : Int32), s))
def f_W_create_59 : Nat → Int32 → Int32 → Int32 → Int32 → eS → Option (Int32 × eS)
  | 0, _, _, _, _, _ => none
  | fl + 1, x1, x2, x3, x4, s => (if x2 ≤ x4 then ix x3 3 (nm (Int32.toNatClampNeg x3) fun t2 => bnd (f_V_become t2 (1 : Int32) s) fun _ s5 => bnd (f_V_add t2 (1 : Int32) s5) fun _ s8 => bnd (f_V_add t2 x1 s8) fun _ s11 => bnd (f_V_add t2 x2 s11) fun _ s14 => (some (x3, s14))) else ix (x1 + x4) 16 (nm (wr s 1 (Int32.toNatClampNeg (x1 + x4)) ((2 : Int32) + x3)) fun s16 => nm (x4 + (1 : Int32)) fun v17 => (f_W_create_59 fl x1 x2 x3 v17 s16)))
def f_W_create_22 (x1 : Int32) (x2 : Int32) (s : eS) : Option (Int32 × eS) := nz x2 ((if (x1 - x1 / x2 * x2) = 0 then bnd (f_W_allFree x1 x2 s) fun r1 s2 => (if r1 = 0 then (some ((-4 : Int32), s2)) else bnd (f_W_leastAbsent s2) fun r4 s5 => nm r4 fun v7 => (if v7 = (3 : Int32) then (some ((-5 : Int32), s5)) else nm (0 : Int32) fun v8 => (f_W_create_59 fu x1 x2 v7 v8 s5))) else (f_W_create_28 s)))
def f_W_create (a1 : Int32) (a2 : Int32) (s : eS) : Option (Int32 × eS) := bnd (f_W_isRegion a1 s) fun r1 s2 => (if r1 = 0 then (f_W_create_28 s2) else (if a2 = (1 : Int32) then (f_W_create_22 a1 a2 s2) else (if a2 = (2 : Int32) then (f_W_create_22 a1 a2 s2) else (if a2 = (4 : Int32) then (f_W_create_22 a1 a2 s2) else (f_W_create_28 s2)))))
def f_W_isEnclave_13  (s : eS) : Option (Int32 × eS) := (some ((0 : Int32), s))
def f_W_isEnclave (a0 : Int32) (s : eS) : Option (Int32 × eS) := (if a0 < 0 then (f_W_isEnclave_13 s) else (if (3 : Int32) ≤ a0 then (f_W_isEnclave_13 s) else (some ((1 : Int32), s))))
def f_W_load_21  (s : eS) : Option (Int32 × eS) := (some ((-2 : Int32), s))
def f_W_load_66  (s : eS) : Option (Int32 × eS) := (some ((-4 : Int32), s))
def f_W_load_108 : Nat → Int32 → Int32 → Nat → Int32 → eS → Option (Int32 × eS)
  | 0, _, _, _, _, _ => none
  | fl + 1, x2, x3, m4, x5, s => (if (16 : Int32) ≤ x5 then (some ((0 : Int32), s)) else ix ((x3 * (16 : Int32)) + x5) 256 (nm (s 0 (Int32.toNatClampNeg ((x3 * (16 : Int32)) + x5))) fun v1 => ix ((x2 * (16 : Int32)) + x5) 256 (nm (wr s 0 (Int32.toNatClampNeg ((x2 * (16 : Int32)) + x5)) v1) fun s2 => bnd (f_V_add m4 v1 s2) fun _ s4 => nm (x5 + (1 : Int32)) fun v6 => (f_W_load_108 fl x2 x3 m4 v6 s4))))
def f_W_load (a1 : Int32) (a2 : Int32) (a3 : Int32) (s : eS) : Option (Int32 × eS) := bnd (f_W_isEnclave a1 s) fun r1 s2 => (if r1 = 0 then (f_W_load_21 s2) else bnd (f_W_isRegion a2 s2) fun r4 s5 => (if r4 = 0 then (f_W_load_21 s5) else bnd (f_W_isRegion a3 s5) fun r7 s8 => (if r7 = 0 then (f_W_load_21 s8) else ix a1 3 (nm (Int32.toNatClampNeg a1) fun t11 => (if (s8 3 t11) = (1 : Int32) then ix a2 16 ((if (s8 1 (Int32.toNatClampNeg a2)) = ((2 : Int32) + a1) then ix a3 16 ((if (s8 1 (Int32.toNatClampNeg a3)) = (1 : Int32) then (if (s8 5 t11) < (8 : Int32) then nm (wr s8 5 t11 ((s8 5 t11) + (1 : Int32))) fun s13 => bnd (f_V_add t11 (2 : Int32) s13) fun _ s15 => bnd (f_V_add t11 a2 s15) fun _ s18 => nm (0 : Int32) fun v20 => (f_W_load_108 fu a2 a3 t11 v20 s18) else (some ((-5 : Int32), s8))) else (f_W_load_66 s8))) else (f_W_load_66 s8))) else (some ((-3 : Int32), s8)))))))
def f_V_threadCount_4 : Nat → Nat → Int32 → Int32 → eS → Option (Int32 × eS)
  | 0, _, _, _, _ => none
  | fl + 1, m0, x1, x2, s => (if (2 : Int32) ≤ x2 then (some (x1, s)) else ix x2 2 ((if (s 6 (2 * m0 + (Int32.toNatClampNeg x2))) = 0 then nm (x2 + (1 : Int32)) fun v2 => (f_V_threadCount_4 fl m0 x1 v2 s) else nm (x1 + (1 : Int32)) fun v3 => nm (x2 + (1 : Int32)) fun v4 => (f_V_threadCount_4 fl m0 v3 v4 s))))
def f_V_threadCount (n0 : Nat) (s : eS) : Option (Int32 × eS) := nm (0 : Int32) fun v1 => nm (0 : Int32) fun v2 => (f_V_threadCount_4 fu n0 v1 v2 s)
def f_W_addThread_14  (s : eS) : Option (Int32 × eS) := (some ((-2 : Int32), s))
def f_W_addThread (a1 : Int32) (a2 : Int32) (s : eS) : Option (Int32 × eS) := bnd (f_W_isEnclave a1 s) fun r1 s2 => (if r1 = 0 then (f_W_addThread_14 s2) else bnd (f_W_isAddress a2 s2) fun r4 s5 => (if r4 = 0 then (f_W_addThread_14 s5) else ix a1 3 (nm (Int32.toNatClampNeg a1) fun t8 => (if (s5 3 t8) = (1 : Int32) then ix (a2 / (16 : Int32)) 16 ((if (s5 1 (Int32.toNatClampNeg (a2 / (16 : Int32)))) = ((2 : Int32) + a1) then bnd (f_V_threadCount t8 s5) fun r10 s11 => nm r10 fun v13 => (if v13 < (2 : Int32) then ix v13 2 (nm (wr s11 6 (2 * t8 + (Int32.toNatClampNeg v13)) (1 : Int32)) fun s15 => ix v13 2 (nm (wr s15 7 (2 * t8 + (Int32.toNatClampNeg v13)) a2) fun s17 => bnd (f_V_add t8 (3 : Int32) s17) fun _ s19 => bnd (f_V_add t8 a2 s19) fun _ s22 => (some (v13, s22)))) else (some ((-5 : Int32), s11))) else (some ((-4 : Int32), s5)))) else (some ((-3 : Int32), s5))))))
def f_W_seal_32  (s : eS) : Option (Int32 × eS) := (some ((-3 : Int32), s))
def f_W_seal (a1 : Int32) (s : eS) : Option (Int32 × eS) := bnd (f_W_isEnclave a1 s) fun r1 s2 => (if r1 = 0 then (some ((-2 : Int32), s2)) else ix a1 3 (nm (Int32.toNatClampNeg a1) fun t5 => (if (s2 3 t5) = (1 : Int32) then bnd (f_V_threadCount t5 s2) fun r7 s8 => (if r7 = 0 then (f_W_seal_32 s8) else nm (wr s8 3 t5 (2 : Int32)) fun s10 => bnd (f_V_add t5 (4 : Int32) s10) fun _ s12 => (some ((0 : Int32), s12))) else (f_W_seal_32 s2))))
def f_W_sharedWith_4 : Nat → Int32 → Int32 → Int32 → eS → Option (Int32 × eS)
  | 0, _, _, _, _ => none
  | fl + 1, x1, x2, x3, s => (if (16 : Int32) ≤ x3 then (some (x2, s)) else ix x3 16 ((if (s 1 (Int32.toNatClampNeg x3)) = ((5 : Int32) + x1) then nm (x2 + (1 : Int32)) fun v2 => nm (x3 + (1 : Int32)) fun v3 => (f_W_sharedWith_4 fl x1 v2 v3 s) else nm (x3 + (1 : Int32)) fun v1 => (f_W_sharedWith_4 fl x1 x2 v1 s))))
def f_W_sharedWith (a1 : Int32) (s : eS) : Option (Int32 × eS) := nm (0 : Int32) fun v1 => nm (0 : Int32) fun v2 => (f_W_sharedWith_4 fu a1 v1 v2 s)
def f_W_share_14  (s : eS) : Option (Int32 × eS) := (some ((-2 : Int32), s))
def f_W_share (a1 : Int32) (a2 : Int32) (s : eS) : Option (Int32 × eS) := bnd (f_W_isEnclave a1 s) fun r1 s2 => (if r1 = 0 then (f_W_share_14 s2) else bnd (f_W_isRegion a2 s2) fun r4 s5 => (if r4 = 0 then (f_W_share_14 s5) else ix a1 3 ((if (s5 3 (Int32.toNatClampNeg a1)) = 0 then (some ((-3 : Int32), s5)) else ix a2 16 ((if (s5 1 (Int32.toNatClampNeg a2)) = (1 : Int32) then bnd (f_W_sharedWith a1 s5) fun r8 s9 => (if r8 < (2 : Int32) then ix a2 16 (nm (wr s9 1 (Int32.toNatClampNeg a2) ((5 : Int32) + a1)) fun s11 => (some ((0 : Int32), s11))) else (some ((-5 : Int32), s9))) else (some ((-4 : Int32), s5))))))))
def f_W_isThread_13  (s : eS) : Option (Int32 × eS) := (some ((0 : Int32), s))
def f_W_isThread (a0 : Int32) (s : eS) : Option (Int32 × eS) := (if a0 < 0 then (f_W_isThread_13 s) else (if (2 : Int32) ≤ a0 then (f_W_isThread_13 s) else (some ((1 : Int32), s))))
def f_W_refusalToStart_14  (s : eS) : Option (Int32 × eS) := (some ((-2 : Int32), s))
def f_W_refusalToStart_52  (s : eS) : Option (Int32 × eS) := (some ((-3 : Int32), s))
def f_W_refusalToStart (a1 : Int32) (a2 : Int32) (a3 : Int32) (s : eS) : Option (Int32 × eS) := bnd (f_W_isEnclave a1 s) fun r1 s2 => (if r1 = 0 then (f_W_refusalToStart_14 s2) else bnd (f_W_isThread a2 s2) fun r4 s5 => (if r4 = 0 then (f_W_refusalToStart_14 s5) else ix a1 3 (nm (Int32.toNatClampNeg a1) fun t8 => (if (s5 3 t8) = (2 : Int32) then ix a2 2 ((if (s5 6 (2 * t8 + (Int32.toNatClampNeg a2))) = a3 then (some ((0 : Int32), s5)) else (f_W_refusalToStart_52 s5))) else (f_W_refusalToStart_52 s5)))))
def f_C_start_2 : Nat → Nat → Int32 → Int32 → Int32 → eS → Option (Unit × eS)
  | 0, _, _, _, _, _ => none
  | fl + 1, m0, x1, x2, x3, s => (if (8 : Int32) ≤ x3 then bnd (f_C_put m0 (1 : Int32) x2 s) fun _ s2 => nm (wr s2 8 m0 x1) fun s4 => (some ((), s4)) else bnd (f_C_put m0 x3 (0 : Int32) s) fun _ s6 => nm (x3 + (1 : Int32)) fun v8 => (f_C_start_2 fl m0 x1 x2 v8 s6))
def f_C_start (n0 : Nat) (a1 : Int32) (a2 : Int32) (s : eS) : Option (Unit × eS) := nm (0 : Int32) fun v1 => (f_C_start_2 fu n0 a1 a2 v1 s)
def f_W_handOver (a1 : Int32) (a2 : Int32) (s : eS) : Option (Unit × eS) := ix a1 3 (ix a2 2 (nm (wr s 6 (2 * (Int32.toNatClampNeg a1) + (Int32.toNatClampNeg a2)) (2 : Int32)) fun s3 => nm (wr s3 9 2 ((a1 * (2 : Int32)) + a2)) fun s4 => (some ((), s4))))
def f_W_enter_47 (x4 : Int32) (s : eS) : Option (Int32 × eS) := (some (x4, s))
def f_W_enter (a1 : Int32) (a2 : Int32) (a3 : Int32) (s : eS) : Option (Int32 × eS) := bnd (f_W_refusalToStart a1 a2 (1 : Int32) s) fun r1 s2 => nm r1 fun v4 => (if v4 = 0 then ix a1 3 (ix a2 2 (nm (2 * (Int32.toNatClampNeg a1) + (Int32.toNatClampNeg a2)) fun t7 => bnd (f_C_start t7 (s2 7 t7) a3 s2) fun _ s10 => bnd (f_W_handOver a1 a2 s10) fun _ s13 => (f_W_enter_47 v4 s13))) else (f_W_enter_47 v4 s2))
def f_W_resume_18 (x3 : Int32) (s : eS) : Option (Int32 × eS) := (some (x3, s))
def f_W_resume (a1 : Int32) (a2 : Int32) (s : eS) : Option (Int32 × eS) := bnd (f_W_refusalToStart a1 a2 (3 : Int32) s) fun r1 s2 => nm r1 fun v4 => (if v4 = 0 then bnd (f_W_handOver a1 a2 s2) fun _ s6 => (f_W_resume_18 v4 s6) else (f_W_resume_18 v4 s2))
def f_W_stop (a1 : Int32) (s : eS) : Option (Int32 × eS) := bnd (f_W_isEnclave a1 s) fun r1 s2 => (if r1 = 0 then (some ((-2 : Int32), s2)) else ix a1 3 ((if (s2 3 (Int32.toNatClampNeg a1)) = (2 : Int32) then ix a1 3 (nm (wr s2 3 (Int32.toNatClampNeg a1) (3 : Int32)) fun s6 => (some ((0 : Int32), s6))) else (some ((-3 : Int32), s2)))))
def f_W_free_2 : Nat → Int32 → Int32 → eS → Option (Unit × eS)
  | 0, _, _, _ => none
  | fl + 1, x1, x2, s => (if (16 : Int32) ≤ x2 then ix x1 16 (nm (wr s 1 (Int32.toNatClampNeg x1) (0 : Int32)) fun s1 => (some ((), s1))) else ix ((x1 * (16 : Int32)) + x2) 256 (nm (wr s 0 (Int32.toNatClampNeg ((x1 * (16 : Int32)) + x2)) (0 : Int32)) fun s2 => nm (x2 + (1 : Int32)) fun v3 => (f_W_free_2 fl x1 v3 s2)))
def f_W_free (a1 : Int32) (s : eS) : Option (Unit × eS) := nm (0 : Int32) fun v1 => (f_W_free_2 fu a1 v1 s)
def f_W_destroy_29  (s : eS) : Option (Int32 × eS) := (some ((-3 : Int32), s))
def f_W_destroy_34 : Nat → Int32 → Int32 → eS → Option (Int32 × eS)
  | 0, _, _, _ => none
  | fl + 1, x1, x3, s => (if (16 : Int32) ≤ x3 then ix x1 3 (bnd (f_V_become (Int32.toNatClampNeg x1) (0 : Int32) s) fun _ s3 => (some ((0 : Int32), s3))) else ix x3 16 ((if (s 1 (Int32.toNatClampNeg x3)) = ((2 : Int32) + x1) then bnd (f_W_free x3 s) fun _ s9 => nm (x3 + (1 : Int32)) fun v11 => (f_W_destroy_34 fl x1 v11 s9) else ix x3 16 ((if (s 1 (Int32.toNatClampNeg x3)) = ((5 : Int32) + x1) then ix x3 16 (nm (wr s 1 (Int32.toNatClampNeg x3) (1 : Int32)) fun s6 => nm (x3 + (1 : Int32)) fun v7 => (f_W_destroy_34 fl x1 v7 s6)) else nm (x3 + (1 : Int32)) fun v5 => (f_W_destroy_34 fl x1 v5 s))))))
def f_W_destroy (a1 : Int32) (s : eS) : Option (Int32 × eS) := bnd (f_W_isEnclave a1 s) fun r1 s2 => (if r1 = 0 then (some ((-2 : Int32), s2)) else ix a1 3 (nm (s2 3 (Int32.toNatClampNeg a1)) fun v5 => (if v5 = 0 then (f_W_destroy_29 s2) else (if v5 = (2 : Int32) then (f_W_destroy_29 s2) else nm (0 : Int32) fun v6 => (f_W_destroy_34 fu a1 v6 s2)))))
def f_W_claim (a1 : Int32) (s : eS) : Option (Int32 × eS) := bnd (f_W_isRegion a1 s) fun r1 s2 => (if r1 = 0 then (some ((-2 : Int32), s2)) else ix a1 16 ((if (s2 1 (Int32.toNatClampNeg a1)) = 0 then ix a1 16 (nm (wr s2 1 (Int32.toNatClampNeg a1) (1 : Int32)) fun s4 => (some ((0 : Int32), s4))) else (some ((-4 : Int32), s2)))))
def f_W_giveUp (a1 : Int32) (s : eS) : Option (Int32 × eS) := bnd (f_W_isRegion a1 s) fun r1 s2 => (if r1 = 0 then (some ((-2 : Int32), s2)) else ix a1 16 ((if (s2 1 (Int32.toNatClampNeg a1)) = (1 : Int32) then bnd (f_W_free a1 s2) fun _ s5 => (some ((0 : Int32), s5)) else (some ((-4 : Int32), s2)))))
def f_W_systemCall (a1 : Int32) (a2 : Int32) (a3 : Int32) (a4 : Int32) (s : eS) : Option (Int32 × eS) := (if a1 = (1 : Int32) then bnd (f_W_create a2 a3 s) fun r2 s3 => (some (r2, s3)) else (if a1 = (2 : Int32) then bnd (f_W_load a2 a3 a4 s) fun r6 s7 => (some (r6, s7)) else (if a1 = (3 : Int32) then bnd (f_W_addThread a2 a3 s) fun r10 s11 => (some (r10, s11)) else (if a1 = (4 : Int32) then bnd (f_W_seal a2 s) fun r14 s15 => (some (r14, s15)) else (if a1 = (5 : Int32) then bnd (f_W_share a2 a3 s) fun r18 s19 => (some (r18, s19)) else (if a1 = (6 : Int32) then bnd (f_W_enter a2 a3 a4 s) fun r22 s23 => (some (r22, s23)) else (if a1 = (7 : Int32) then bnd (f_W_resume a2 a3 s) fun r26 s27 => (some (r26, s27)) else (if a1 = (8 : Int32) then bnd (f_W_stop a2 s) fun r30 s31 => (some (r30, s31)) else (if a1 = (9 : Int32) then bnd (f_W_destroy a2 s) fun r34 s35 => (some (r34, s35)) else (if a1 = (10 : Int32) then bnd (f_W_claim a2 s) fun r38 s39 => (some (r38, s39)) else (if a1 = (11 : Int32) then bnd (f_W_giveUp a2 s) fun r42 s43 => (some (r42, s43)) else (some ((-1 : Int32), s)))))))))))))
def f_W_call (a1 : Int32) (a2 : Int32) (a3 : Int32) (a4 : Int32) (s : eS) : Option (Int32 × eS) := (if (s 9 2) = (-1 : Int32) then bnd (f_W_systemCall a1 a2 a3 a4 s) fun r1 s2 => (some (r1, s2)) else (some ((-6 : Int32), s)))
def f_W_runningThread  (s : eS) : Option (Nat × eS) := ix ((s 9 2) / (2 : Int32)) 3 (ix ((s 9 2) - (s 9 2) / (2 : Int32) * (2 : Int32)) 2 ((some ((2 * (Int32.toNatClampNeg ((s 9 2) / (2 : Int32))) + (Int32.toNatClampNeg ((s 9 2) - (s 9 2) / (2 : Int32) * (2 : Int32)))), s))))
def f_W_leave (a1 : Int32) (a2 : Int32) (a3 : Int32) (s : eS) : Option (Unit × eS) := bnd (f_W_runningThread s) fun r1 s2 => nm (wr s2 6 r1 a1) fun s4 => ix (0 : Int32) 5 (ix (0 : Int32) 5 (nm (wr s4 2 (Int32.toNatClampNeg (0 : Int32)) ((s4 2 (Int32.toNatClampNeg (0 : Int32))) + (1 : Int32))) fun s5 => ix (1 : Int32) 5 (nm (wr s5 2 (Int32.toNatClampNeg (1 : Int32)) ((s5 9 2) / (2 : Int32))) fun s6 => ix (2 : Int32) 5 (nm (wr s6 2 (Int32.toNatClampNeg (2 : Int32)) a2) fun s7 => ix (3 : Int32) 5 (nm (wr s7 2 (Int32.toNatClampNeg (3 : Int32)) a3) fun s8 => ix (4 : Int32) 5 (nm (wr s8 2 (Int32.toNatClampNeg (4 : Int32)) (s8 9 4)) fun s9 => nm (wr s9 9 2 (-1 : Int32)) fun s10 => bnd (f_C_put 6 (1 : Int32) a2 s10) fun _ s12 => bnd (f_C_put 6 (2 : Int32) a3 s12) fun _ s15 => (some ((), s15))))))))
def f_W_enclaveMayUse_33  (s : eS) : Option (Int32 × eS) := (some ((1 : Int32), s))
def f_W_enclaveMayUse (a1 : Int32) (a2 : Int32) (s : eS) : Option (Int32 × eS) := bnd (f_W_isAddress a2 s) fun r1 s2 => (if r1 = 0 then (some ((0 : Int32), s2)) else ix (a2 / (16 : Int32)) 16 (nm (s2 1 (Int32.toNatClampNeg (a2 / (16 : Int32)))) fun v4 => (if v4 = ((2 : Int32) + a1) then (f_W_enclaveMayUse_33 s2) else (if v4 = ((5 : Int32) + a1) then (f_W_enclaveMayUse_33 s2) else (some ((0 : Int32), s2))))))
def f_W_runnerMayUse (a1 : Int32) (s : eS) : Option (Int32 × eS) := (if (s 9 2) = (-1 : Int32) then bnd (f_W_systemMayUse a1 s) fun r4 s5 => (bz r4 (some (r4, s5))) else bnd (f_W_enclaveMayUse ((s 9 2) / (2 : Int32)) a1 s) fun r1 s2 => (bz r1 (some (r1, s2))))
def f_W_fault (a1 : Int32) (s : eS) : Option (Unit × eS) := (if (s 9 2) = (-1 : Int32) then nm (wr s 9 1 (1 : Int32)) fun s4 => (some ((), s4)) else bnd (f_W_leave (1 : Int32) a1 (0 : Int32) s) fun _ s2 => (some ((), s2)))
def f_W_macOf (a1 : Int32) (a2 : Int32) (s : eS) : Option (Int32 × eS) := bnd (f_W_mix (s 9 0) a1 s) fun r1 s2 => bnd (f_W_mix r1 a2 s2) fun r4 s5 => bnd (f_W_mix r4 (s5 9 0) s5) fun r7 s8 => (some (r7, s8))
def f_W_enclaveCall (a1 : Int32) (a2 : Int32) (a3 : Int32) (a4 : Int32) (s : eS) : Option (Int32 × eS) := ix ((s 9 2) / (2 : Int32)) 3 (nm (s 4 (Int32.toNatClampNeg ((s 9 2) / (2 : Int32)))) fun v2 => (if a1 = (16 : Int32) then bnd (f_W_leave (1 : Int32) (1 : Int32) a2 s) fun _ s5 => (some ((0 : Int32), s5)) else (if a1 = (17 : Int32) then bnd (f_W_macOf v2 a2 s) fun r8 s9 => (some (r8, s9)) else (if a1 = (18 : Int32) then bnd (f_W_mix (s 9 0) v2 s) fun r12 s13 => bnd (f_W_mix r12 (18 : Int32) s13) fun r15 s16 => (some (r15, s16)) else (if a1 = (19 : Int32) then bnd (f_W_macOf a2 a3 s) fun r19 s20 => (if r19 = a4 then (some ((1 : Int32), s20)) else (some ((0 : Int32), s20))) else (some ((-1 : Int32), s)))))))
def f_W_obeyCall_65 (m1 : Nat) (x6 : Int32) (y0 : Int32) (s : eS) : Option (Unit × eS) := nm y0 fun v1 => (if (s 9 2) = x6 then bnd (f_C_put m1 (1 : Int32) v1 s) fun _ s3 => (some ((), s3)) else (some ((), s)))
def f_W_obeyCall (n1 : Nat) (a2 : Int32) (s : eS) : Option (Unit × eS) := bnd (f_C_get n1 (1 : Int32) s) fun r1 s2 => nm r1 fun v4 => bnd (f_C_get n1 (2 : Int32) s2) fun r5 s6 => nm r5 fun v8 => bnd (f_C_get n1 (3 : Int32) s6) fun r9 s10 => nm r9 fun v12 => nm (s10 9 2) fun v13 => nm (wr s10 8 n1 ((s10 8 n1) + (1 : Int32))) fun s14 => (if v13 = (-1 : Int32) then bnd (f_W_systemCall a2 v4 v8 v12 s14) fun r18 s19 => (f_W_obeyCall_65 n1 v13 r18 s19) else bnd (f_W_enclaveCall a2 v4 v8 v12 s14) fun r15 s16 => (f_W_obeyCall_65 n1 v13 r15 s16))
def f_W_branch (n0 : Nat) (a1 : Int32) (a2 : Int32) (s : eS) : Option (Unit × eS) := (if a1 = 0 then (some ((), s)) else nm (wr s 8 n0 ((s 8 n0) + a2)) fun s1 => (some ((), s1)))
def f_W_obey_56  (s : eS) : Option (Unit × eS) := bnd (f_W_fault (4 : Int32) s) fun _ s2 => (some ((), s2))
def f_W_obey_288 (x7 : Int32) (k0 : Nat) (y1 : Int32) (s : eS) : Option (Unit × eS) := bnd (f_W_branch k0 y1 x7 s) fun _ s2 => (some ((), s2))
def f_W_obey_313 (x7 : Int32) (k0 : Nat) (y1 : Int32) (s : eS) : Option (Unit × eS) := bnd (f_W_branch k0 y1 x7 s) fun _ s2 => (some ((), s2))
def f_W_obey_92 (m1 : Nat) (x3 : Int32) (x4 : Int32) (x5 : Int32) (x6 : Int32) (x7 : Int32) (s : eS) : Option (Unit × eS) := nm (wr s 8 m1 ((s 8 m1) + (1 : Int32))) fun s1 => (if x3 = (1 : Int32) then bnd (f_C_put m1 x4 x7 s1) fun _ s4 => (some ((), s4)) else (if x3 = (2 : Int32) then bnd (f_C_put m1 x4 (x5 + x7) s1) fun _ s8 => (some ((), s8)) else (if x3 = (3 : Int32) then bnd (f_C_put m1 x4 (x5 + x6) s1) fun _ s12 => (some ((), s12)) else (if x3 = (4 : Int32) then bnd (f_C_put m1 x4 (x5 - x6) s1) fun _ s16 => (some ((), s16)) else (if x3 = (5 : Int32) then bnd (f_C_put m1 x4 (x5 * x6) s1) fun _ s20 => (some ((), s20)) else (if x3 = (6 : Int32) then bnd (f_C_put m1 x4 (x5 ^^^ x6) s1) fun _ s24 => (some ((), s24)) else (if x3 = (7 : Int32) then ix (x5 + x7) 256 (bnd (f_C_put m1 x4 (s1 0 (Int32.toNatClampNeg (x5 + x7))) s1) fun _ s28 => (some ((), s28))) else (if x3 = (8 : Int32) then bnd (f_C_get m1 x4 s1) fun r31 s32 => ix (x5 + x7) 256 (nm (wr s32 0 (Int32.toNatClampNeg (x5 + x7)) r31) fun s34 => (some ((), s34))) else (if x3 = (9 : Int32) then bnd (f_C_get m1 x4 s1) fun r36 s37 => (if r36 = x5 then (f_W_obey_288 x7 m1 (1 : Int32) s37) else (f_W_obey_288 x7 m1 (0 : Int32) s37)) else bnd (f_C_get m1 x4 s1) fun r39 s40 => (if x5 ≤ r39 then (f_W_obey_313 x7 m1 (0 : Int32) s40) else (f_W_obey_313 x7 m1 (1 : Int32) s40)))))))))))
def f_W_obey_74 (m1 : Nat) (x3 : Int32) (x4 : Int32) (x5 : Int32) (x6 : Int32) (x7 : Int32) (s : eS) : Option (Unit × eS) := bnd (f_W_runnerMayUse (x5 + x7) s) fun r1 s2 => (if r1 = 0 then bnd (f_W_fault (3 : Int32) s2) fun _ s5 => (some ((), s5)) else (f_W_obey_92 m1 x3 x4 x5 x6 x7 s2))
def f_W_obey (n1 : Nat) (a2 : Int32) (s : eS) : Option (Unit × eS) := nm (a2 &&& (15 : Int32)) fun v1 => nm ((a2 >>> ((4 : Int32) &&& 31)) &&& (7 : Int32)) fun v2 => bnd (f_C_get n1 ((a2 >>> ((7 : Int32) &&& 31)) &&& (7 : Int32)) s) fun r3 s4 => nm r3 fun v6 => bnd (f_C_get n1 ((a2 >>> ((10 : Int32) &&& 31)) &&& (7 : Int32)) s4) fun r7 s8 => nm r7 fun v10 => nm (a2 >>> ((16 : Int32) &&& 31)) fun v11 => (if v1 < (1 : Int32) then (f_W_obey_56 s8) else (if v1 ≤ (10 : Int32) then (if v1 = (7 : Int32) then (f_W_obey_74 n1 v1 v2 v6 v10 v11 s8) else (if v1 = (8 : Int32) then (f_W_obey_74 n1 v1 v2 v6 v10 v11 s8) else (f_W_obey_92 n1 v1 v2 v6 v10 v11 s8))) else (f_W_obey_56 s8)))
def f_W_step_67 (k0 : Nat) (s : eS) : Option (Unit × eS) := nm k0 fun t1 => bnd (f_W_runnerMayUse (s 8 t1) s) fun r3 s4 => (if r3 = 0 then bnd (f_W_fault (3 : Int32) s4) fun _ s14 => (some ((), s14)) else ix (s4 8 t1) 256 (nm (s4 0 (Int32.toNatClampNeg (s4 8 t1))) fun v6 => (if (v6 &&& (15 : Int32)) = (11 : Int32) then bnd (f_W_obeyCall t1 (v6 >>> ((16 : Int32) &&& 31)) s4) fun _ s11 => (some ((), s11)) else bnd (f_W_obey t1 v6 s4) fun _ s8 => (some ((), s8)))))
def f_W_step_45  (s : eS) : Option (Unit × eS) := (if (s 9 2) = (-1 : Int32) then (f_W_step_67 6 s) else bnd (f_W_runningThread s) fun r1 s2 => (f_W_step_67 r1 s2))
def f_W_step  (s : eS) : Option (Unit × eS) := nm (wr s 9 4 ((s 9 4) + (1 : Int32))) fun s1 => (if (s1 9 2) = (-1 : Int32) then (f_W_step_45 s1) else (if (s1 9 3) ≤ 0 then (f_W_step_45 s1) else nz (s1 9 3) ((if ((s1 9 4) - (s1 9 4) / (s1 9 3) * (s1 9 3)) = 0 then bnd (f_W_leave (3 : Int32) (2 : Int32) (0 : Int32) s1) fun _ s3 => (some ((), s3)) else (f_W_step_45 s1)))))
def f_W_run_11  (s : eS) : Option (Int32 × eS) := (some ((0 : Int32), s))
def f_W_run_15 : Nat → Int32 → Int32 → eS → Option (Int32 × eS)
  | 0, _, _, _ => none
  | fl + 1, x1, x2, s => (if x1 ≤ x2 then (some (x1, s)) else (if (s 9 1) = 0 then bnd (f_W_step s) fun _ s2 => nm (x2 + (1 : Int32)) fun v4 => (f_W_run_15 fl x1 v4 s2) else (if (s 9 2) = (-1 : Int32) then (some (x2, s)) else bnd (f_W_step s) fun _ s6 => nm (x2 + (1 : Int32)) fun v8 => (f_W_run_15 fl x1 v8 s6))))
def f_W_run (a1 : Int32) (s : eS) : Option (Int32 × eS) := (if a1 < 0 then (f_W_run_11 s) else (if a1 ≤ (1000 : Int32) then nm (0 : Int32) fun v1 => (f_W_run_15 fu a1 v1 s) else (f_W_run_11 s)))
def f_W_period (a1 : Int32) (s : eS) : Option (Unit × eS) := nm (wr s 9 3 a1) fun s1 => (some ((), s1))
def f_W_tick  (s : eS) : Option (Int32 × eS) := (some ((s 9 4), s))
def f_W_running  (s : eS) : Option (Int32 × eS) := (some ((s 9 2), s))
def f_W_region (a1 : Int32) (s : eS) : Option (Int32 × eS) := bnd (f_W_isRegion a1 s) fun r1 s2 => (if r1 = 0 then (some ((-1 : Int32), s2)) else ix a1 16 ((some ((s2 1 (Int32.toNatClampNeg a1)), s2))))
def f_W_enclave (a1 : Int32) (s : eS) : Option (Int32 × eS) := bnd (f_W_isEnclave a1 s) fun r1 s2 => (if r1 = 0 then (some ((-1 : Int32), s2)) else ix a1 3 ((some ((s2 3 (Int32.toNatClampNeg a1)), s2))))
def f_W_thread_31  (s : eS) : Option (Int32 × eS) := (some ((0 : Int32), s))
def f_W_thread (a1 : Int32) (a2 : Int32) (s : eS) : Option (Int32 × eS) := bnd (f_W_isEnclave a1 s) fun r1 s2 => (if r1 = 0 then (f_W_thread_31 s2) else bnd (f_W_isThread a2 s2) fun r4 s5 => (if r4 = 0 then (f_W_thread_31 s5) else ix a1 3 (ix a2 2 ((some ((s5 6 (2 * (Int32.toNatClampNeg a1) + (Int32.toNatClampNeg a2))), s5))))))
def f_W_kept_14  (s : eS) : Option (Int32 × eS) := (some ((0 : Int32), s))
def f_W_kept_49 (x3 : Int32) (m4 : Nat) (s : eS) : Option (Int32 × eS) := (if x3 = (8 : Int32) then (some ((s 8 m4), s)) else bnd (f_C_get m4 x3 s) fun r1 s2 => (some (r1, s2)))
def f_W_kept (a1 : Int32) (a2 : Int32) (a3 : Int32) (s : eS) : Option (Int32 × eS) := bnd (f_W_isEnclave a1 s) fun r1 s2 => (if r1 = 0 then (f_W_kept_14 s2) else bnd (f_W_isThread a2 s2) fun r4 s5 => (if r4 = 0 then (f_W_kept_14 s5) else ix a1 3 (ix a2 2 (nm (2 * (Int32.toNatClampNeg a1) + (Int32.toNatClampNeg a2)) fun t9 => (if (s5 6 t9) = (2 : Int32) then (f_W_kept_49 a3 t9 s5) else (if (s5 6 t9) = (3 : Int32) then (f_W_kept_49 a3 t9 s5) else (some ((0 : Int32), s5))))))))
def f_W_measure (a1 : Int32) (s : eS) : Option (Int32 × eS) := bnd (f_W_isEnclave a1 s) fun r1 s2 => (if r1 = 0 then (some ((0 : Int32), s2)) else ix a1 3 ((some ((s2 4 (Int32.toNatClampNeg a1)), s2))))
def f_W_vouch (a1 : Int32) (a2 : Int32) (a3 : Int32) (s : eS) : Option (Int32 × eS) := bnd (f_W_macOf a1 a2 s) fun r1 s2 => (if r1 = a3 then (some ((1 : Int32), s2)) else (some ((0 : Int32), s2)))
def f_W_exit_22  (s : eS) : Option (Int32 × eS) := (some ((0 : Int32), s))
def f_W_exit (a1 : Int32) (s : eS) : Option (Int32 × eS) := (if a1 < 0 then (f_W_exit_22 s) else (if (5 : Int32) ≤ a1 then (f_W_exit_22 s) else ix a1 5 ((some ((s 2 (Int32.toNatClampNeg a1)), s)))))
def f_M_outside_9  (s : eS) : Option (Int32 × eS) := (some ((1 : Int32), s))
def f_M_outside (a0 : Int32) (a1 : Int32) (s : eS) : Option (Int32 × eS) := (if a0 < 0 then (f_M_outside_9 s) else (if a0 ≤ a1 then (some ((0 : Int32), s)) else (f_M_outside_9 s)))
def f_M_kind_2 : Nat → Int32 → Int32 → eS → Option (Int32 × eS)
  | 0, _, _, _ => none
  | fl + 1, x1, x2, s => (if (3 : Int32) ≤ x2 then ix x1 16 ((if (s 2 (Int32.toNatClampNeg x1)) ≤ 0 then ix x1 16 ((if (s 1 (Int32.toNatClampNeg x1)) = 0 then (some ((0 : Int32), s)) else (some ((1 : Int32), s)))) else ix x1 16 ((some (((4 : Int32) + (s 2 (Int32.toNatClampNeg x1))), s))))) else ix x2 3 ((if (s 3 (Int32.toNatClampNeg x2)) ≤ 0 then nm (x2 + (1 : Int32)) fun v1 => (f_M_kind_2 fl x1 v1 s) else ix x2 3 ((if x1 < (s 4 (Int32.toNatClampNeg x2)) then nm (x2 + (1 : Int32)) fun v2 => (f_M_kind_2 fl x1 v2 s) else ix x2 3 (ix x2 3 ((if ((s 4 (Int32.toNatClampNeg x2)) + (s 5 (Int32.toNatClampNeg x2))) ≤ x1 then nm (x2 + (1 : Int32)) fun v3 => (f_M_kind_2 fl x1 v3 s) else (some (((2 : Int32) + x2), s))))))))))
def f_M_kind (a1 : Int32) (s : eS) : Option (Int32 × eS) := nm (0 : Int32) fun v1 => (f_M_kind_2 fu a1 v1 s)
def f_M_uses_63  (s : eS) : Option (Int32 × eS) := (some ((1 : Int32), s))
def f_M_uses_37  (s : eS) : Option (Int32 × eS) := (some ((1 : Int32), s))
def f_M_uses (a1 : Int32) (a2 : Int32) (s : eS) : Option (Int32 × eS) := bnd (f_M_outside a2 (255 : Int32) s) fun r1 s2 => (if r1 = 0 then bnd (f_M_kind (a2 / (16 : Int32)) s2) fun r4 s5 => nm r4 fun v7 => (if a1 = (6 : Int32) then (if v7 = (1 : Int32) then (f_M_uses_37 s5) else (if v7 < (5 : Int32) then (some ((0 : Int32), s5)) else (f_M_uses_37 s5))) else (if v7 = ((2 : Int32) + (a1 / (2 : Int32))) then (f_M_uses_63 s5) else (if v7 = ((5 : Int32) + (a1 / (2 : Int32))) then (f_M_uses_63 s5) else (some ((0 : Int32), s5))))) else (some ((0 : Int32), s2)))
def f_M_mix (a0 : Int32) (a1 : Int32) (s : eS) : Option (Int32 × eS) := nm ((a0 ^^^ a1) * (1390208809 : Int32)) fun v1 => (some ((v1 ^^^ (((Int32.toUInt32 v1) >>> ((Int32.toUInt32 (15 : Int32)) &&& Int32.toUInt32 31)).toInt32)), s))
def f_M_mac (a1 : Int32) (a2 : Int32) (s : eS) : Option (Int32 × eS) := bnd (f_M_mix (s 13 0) a1 s) fun r1 s2 => nm r1 fun v4 => bnd (f_M_mix v4 a2 s2) fun r5 s6 => nm r5 fun v8 => bnd (f_M_mix v8 (s6 13 0) s6) fun r9 s10 => (some (r9, s10))
def f_M_add (a1 : Int32) (a2 : Int32) (s : eS) : Option (Unit × eS) := ix a1 3 (ix (((160 : Int32) * a1) + (s 8 (Int32.toNatClampNeg a1))) 480 (nm (wr s 7 (Int32.toNatClampNeg (((160 : Int32) * a1) + (s 8 (Int32.toNatClampNeg a1)))) a2) fun s1 => ix a1 3 (ix a1 3 (nm (wr s1 8 (Int32.toNatClampNeg a1) ((s1 8 (Int32.toNatClampNeg a1)) + (1 : Int32))) fun s2 => (some ((), s2))))))
def f_M_measured_4 : Nat → Int32 → Int32 → Int32 → eS → Option (Int32 × eS)
  | 0, _, _, _, _ => none
  | fl + 1, x1, x2, x3, s => ix x1 3 ((if (s 8 (Int32.toNatClampNeg x1)) ≤ x3 then (some (x2, s)) else ix (((160 : Int32) * x1) + x3) 480 (bnd (f_M_mix x2 (s 7 (Int32.toNatClampNeg (((160 : Int32) * x1) + x3))) s) fun r1 s2 => nm r1 fun v4 => nm (x3 + (1 : Int32)) fun v5 => (f_M_measured_4 fl x1 v4 v5 s2))))
def f_M_measured (a1 : Int32) (s : eS) : Option (Int32 × eS) := nm (0 : Int32) fun v1 => nm (0 : Int32) fun v2 => (f_M_measured_4 fu a1 v1 v2 s)
def f_M_bad_146  (s : eS) : Option (Int32 × eS) := (some ((0 : Int32), s))
def f_M_bad_142  (s : eS) : Option (Int32 × eS) := (some ((1 : Int32), s))
def f_M_bad_134 (x2 : Int32) (s : eS) : Option (Int32 × eS) := bnd (f_M_outside x2 (1 : Int32) s) fun r1 s2 => (if r1 = 0 then (f_M_bad_146 s2) else (f_M_bad_142 s2))
def f_M_bad_122 (x0 : Int32) (x2 : Int32) (s : eS) : Option (Int32 × eS) := (if x0 = (6 : Int32) then (f_M_bad_134 x2 s) else (if x0 = (7 : Int32) then (f_M_bad_134 x2 s) else (f_M_bad_146 s)))
def f_M_bad_108 (x0 : Int32) (x2 : Int32) (s : eS) : Option (Int32 × eS) := (if x0 = (5 : Int32) then bnd (f_M_outside x2 (15 : Int32) s) fun r1 s2 => (if r1 = 0 then (f_M_bad_122 x0 x2 s2) else (f_M_bad_142 s2)) else (f_M_bad_122 x0 x2 s))
def f_M_bad_87  (s : eS) : Option (Int32 × eS) := (some ((1 : Int32), s))
def f_M_bad_35  (s : eS) : Option (Int32 × eS) := (some ((1 : Int32), s))
def f_M_bad_29 (x1 : Int32) (x2 : Int32) (s : eS) : Option (Int32 × eS) := nz x2 ((if (x1 - x1 / x2 * x2) = 0 then (some ((0 : Int32), s)) else (f_M_bad_35 s)))
def f_M_bad (a0 : Int32) (a1 : Int32) (a2 : Int32) (a3 : Int32) (s : eS) : Option (Int32 × eS) := (if a0 = (1 : Int32) then bnd (f_M_outside a1 (15 : Int32) s) fun r16 s17 => (if r16 = 0 then (if a2 = (1 : Int32) then (f_M_bad_29 a1 a2 s17) else (if a2 = (2 : Int32) then (f_M_bad_29 a1 a2 s17) else (if a2 = (4 : Int32) then (f_M_bad_29 a1 a2 s17) else (f_M_bad_35 s17)))) else (f_M_bad_35 s17)) else (if a0 < (10 : Int32) then bnd (f_M_outside a1 (2 : Int32) s) fun r1 s2 => (if r1 = 0 then (if a0 = (2 : Int32) then bnd (f_M_outside a2 (15 : Int32) s2) fun r7 s8 => (if r7 = 0 then bnd (f_M_outside a3 (15 : Int32) s8) fun r10 s11 => (if r10 = 0 then (some ((0 : Int32), s11)) else (f_M_bad_87 s11)) else (f_M_bad_87 s8)) else (if a0 = (3 : Int32) then bnd (f_M_outside a2 (255 : Int32) s2) fun r4 s5 => (if r4 = 0 then (f_M_bad_108 a0 a2 s5) else (f_M_bad_142 s5)) else (f_M_bad_108 a0 a2 s2))) else (some ((1 : Int32), s2))) else bnd (f_M_outside a1 (15 : Int32) s) fun r13 s14 => (bz r13 (some (r13, s14)))))
def f_M_wrongState_85  (s : eS) : Option (Int32 × eS) := (some ((1 : Int32), s))
def f_M_wrongState_130  (s : eS) : Option (Int32 × eS) := (some ((1 : Int32), s))
def f_M_wrongState_160  (s : eS) : Option (Int32 × eS) := (some ((1 : Int32), s))
def f_M_wrongState_201  (s : eS) : Option (Int32 × eS) := (some ((1 : Int32), s))
def f_M_wrongState (a1 : Int32) (a2 : Int32) (a3 : Int32) (s : eS) : Option (Int32 × eS) := (if a1 = (2 : Int32) then ix a2 3 ((if (s 3 (Int32.toNatClampNeg a2)) = (1 : Int32) then (some ((0 : Int32), s)) else (some ((1 : Int32), s)))) else (if a1 = (3 : Int32) then ix a2 3 ((if (s 3 (Int32.toNatClampNeg a2)) = (1 : Int32) then (some ((0 : Int32), s)) else (some ((1 : Int32), s)))) else (if a1 = (4 : Int32) then ix a2 3 ((if (s 3 (Int32.toNatClampNeg a2)) = (1 : Int32) then ix ((2 : Int32) * a2) 6 ((if (s 9 (Int32.toNatClampNeg ((2 : Int32) * a2))) = 0 then (f_M_wrongState_85 s) else (some ((0 : Int32), s)))) else (f_M_wrongState_85 s))) else (if a1 = (5 : Int32) then ix a2 3 ((if (s 3 (Int32.toNatClampNeg a2)) = 0 then (some ((1 : Int32), s)) else (some ((0 : Int32), s)))) else (if a1 = (6 : Int32) then ix a2 3 ((if (s 3 (Int32.toNatClampNeg a2)) = (2 : Int32) then ix (((2 : Int32) * a2) + a3) 6 ((if (s 9 (Int32.toNatClampNeg (((2 : Int32) * a2) + a3))) = (1 : Int32) then (some ((0 : Int32), s)) else (f_M_wrongState_130 s))) else (f_M_wrongState_130 s))) else (if a1 = (7 : Int32) then ix a2 3 ((if (s 3 (Int32.toNatClampNeg a2)) = (2 : Int32) then ix (((2 : Int32) * a2) + a3) 6 ((if (s 9 (Int32.toNatClampNeg (((2 : Int32) * a2) + a3))) = (3 : Int32) then (some ((0 : Int32), s)) else (f_M_wrongState_160 s))) else (f_M_wrongState_160 s))) else (if a1 = (8 : Int32) then ix a2 3 ((if (s 3 (Int32.toNatClampNeg a2)) = (2 : Int32) then (some ((0 : Int32), s)) else (some ((1 : Int32), s)))) else (if a1 = (9 : Int32) then ix a2 3 ((if (s 3 (Int32.toNatClampNeg a2)) = 0 then (f_M_wrongState_201 s) else ix a2 3 ((if (s 3 (Int32.toNatClampNeg a2)) = (2 : Int32) then (f_M_wrongState_201 s) else (some ((0 : Int32), s)))))) else (some ((0 : Int32), s))))))))))
def f_M_taken_63 : Nat → Int32 → Int32 → Int32 → eS → Option (Int32 × eS)
  | 0, _, _, _, _ => none
  | fl + 1, x2, x3, x5, s => (if (x2 + x3) ≤ x5 then (some ((0 : Int32), s)) else bnd (f_M_kind x5 s) fun r1 s2 => (if r1 = 0 then nm (x5 + (1 : Int32)) fun v4 => (f_M_taken_63 fl x2 x3 v4 s2) else (some ((1 : Int32), s2))))
def f_M_taken_111  (s : eS) : Option (Int32 × eS) := (some ((1 : Int32), s))
def f_M_taken (a1 : Int32) (a2 : Int32) (a3 : Int32) (a4 : Int32) (s : eS) : Option (Int32 × eS) := (if a1 = (1 : Int32) then nm a2 fun v2 => (f_M_taken_63 fu a2 a3 v2 s) else (if a1 = (2 : Int32) then bnd (f_M_kind a3 s) fun r4 s5 => (if r4 = ((2 : Int32) + a2) then bnd (f_M_kind a4 s5) fun r7 s8 => (if r7 = (1 : Int32) then (some ((0 : Int32), s8)) else (f_M_taken_111 s8)) else (f_M_taken_111 s5)) else (if a1 = (3 : Int32) then bnd (f_M_kind (a3 / (16 : Int32)) s) fun r11 s12 => (if r11 = ((2 : Int32) + a2) then (some ((0 : Int32), s12)) else (some ((1 : Int32), s12))) else (if a1 = (4 : Int32) then (some ((0 : Int32), s)) else (if a1 = (5 : Int32) then bnd (f_M_kind a3 s) fun r16 s17 => (if r16 = (1 : Int32) then (some ((0 : Int32), s17)) else (some ((1 : Int32), s17))) else (if a1 = (6 : Int32) then (some ((0 : Int32), s)) else (if a1 = (7 : Int32) then (some ((0 : Int32), s)) else (if a1 = (8 : Int32) then (some ((0 : Int32), s)) else (if a1 = (9 : Int32) then (some ((0 : Int32), s)) else (if a1 = (10 : Int32) then bnd (f_M_kind a2 s) fun r24 s25 => (if r24 = 0 then (some ((0 : Int32), s25)) else (some ((1 : Int32), s25))) else (if a1 = (11 : Int32) then bnd (f_M_kind a2 s) fun r28 s29 => (if r28 = (1 : Int32) then (some ((0 : Int32), s29)) else (some ((1 : Int32), s29))) else (some ((0 : Int32), s)))))))))))))
def f_M_full_130  (s : eS) : Option (Int32 × eS) := (some ((0 : Int32), s))
def f_M_full_126  (s : eS) : Option (Int32 × eS) := (some ((1 : Int32), s))
def f_M_full_108 (x1 : Int32) (x2 : Int32) (s : eS) : Option (Int32 × eS) := (if x1 = (3 : Int32) then ix (((2 : Int32) * x2) + (1 : Int32)) 6 ((if (s 9 (Int32.toNatClampNeg (((2 : Int32) * x2) + (1 : Int32)))) ≤ 0 then (f_M_full_130 s) else (f_M_full_126 s))) else (f_M_full_130 s))
def f_M_full_48 : Nat → Int32 → Int32 → Int32 → eS → Option (Int32 × eS)
  | 0, _, _, _, _ => none
  | fl + 1, x2, x3, x4, s => (if (16 : Int32) ≤ x4 then (if x3 < (2 : Int32) then (some ((0 : Int32), s)) else (some ((1 : Int32), s))) else bnd (f_M_kind x4 s) fun r1 s2 => (if r1 = ((5 : Int32) + x2) then nm (x3 + (1 : Int32)) fun v6 => nm (x4 + (1 : Int32)) fun v7 => (f_M_full_48 fl x2 v6 v7 s2) else nm x3 fun v4 => nm (x4 + (1 : Int32)) fun v5 => (f_M_full_48 fl x2 v4 v5 s2)))
def f_M_full_36  (s : eS) : Option (Int32 × eS) := (some ((0 : Int32), s))
def f_M_full (a1 : Int32) (a2 : Int32) (s : eS) : Option (Int32 × eS) := (if a1 = (1 : Int32) then ix (0 : Int32) 3 ((if (s 3 (Int32.toNatClampNeg (0 : Int32))) ≤ 0 then (f_M_full_36 s) else ix (1 : Int32) 3 ((if (s 3 (Int32.toNatClampNeg (1 : Int32))) ≤ 0 then (f_M_full_36 s) else ix (2 : Int32) 3 ((if (s 3 (Int32.toNatClampNeg (2 : Int32))) ≤ 0 then (f_M_full_36 s) else (some ((1 : Int32), s)))))))) else (if a1 = (5 : Int32) then nm (0 : Int32) fun v1 => nm (0 : Int32) fun v2 => (f_M_full_48 fu a2 v1 v2 s) else (if a1 = (2 : Int32) then ix a2 3 ((if (8 : Int32) ≤ (s 6 (Int32.toNatClampNeg a2)) then (f_M_full_126 s) else (f_M_full_108 a1 a2 s))) else (f_M_full_108 a1 a2 s))))
def f_M_create_27 (x1 : Int32) (x2 : Int32) (y0 : Int32) (s : eS) : Option (Int32 × eS) := nm y0 fun v1 => ix v1 3 (nm (wr s 3 (Int32.toNatClampNeg v1) (1 : Int32)) fun s2 => ix v1 3 (nm (wr s2 4 (Int32.toNatClampNeg v1) x1) fun s3 => ix v1 3 (nm (wr s3 5 (Int32.toNatClampNeg v1) x2) fun s4 => ix v1 3 (nm (wr s4 6 (Int32.toNatClampNeg v1) (0 : Int32)) fun s5 => ix v1 3 (nm (wr s5 8 (Int32.toNatClampNeg v1) (0 : Int32)) fun s6 => bnd (f_M_add v1 (1 : Int32) s6) fun _ s8 => bnd (f_M_add v1 x1 s8) fun _ s11 => bnd (f_M_add v1 x2 s11) fun _ s14 => (some (v1, s14)))))))
def f_M_create (a1 : Int32) (a2 : Int32) (s : eS) : Option (Int32 × eS) := ix (0 : Int32) 3 ((if (s 3 (Int32.toNatClampNeg (0 : Int32))) = 0 then (f_M_create_27 a1 a2 (0 : Int32) s) else ix (1 : Int32) 3 ((if (s 3 (Int32.toNatClampNeg (1 : Int32))) = 0 then (f_M_create_27 a1 a2 (1 : Int32) s) else (f_M_create_27 a1 a2 (2 : Int32) s)))))
def f_M_thread_16  (s : eS) : Option (Int32 × eS) := (some ((0 : Int32), s))
def f_M_thread (a1 : Int32) (a2 : Int32) (s : eS) : Option (Int32 × eS) := bnd (f_M_outside a1 (2 : Int32) s) fun r1 s2 => (if r1 = 0 then bnd (f_M_outside a2 (1 : Int32) s2) fun r4 s5 => (if r4 = 0 then ix (((2 : Int32) * a1) + a2) 6 ((some ((s5 9 (Int32.toNatClampNeg (((2 : Int32) * a1) + a2))), s5))) else (f_M_thread_16 s5)) else (f_M_thread_16 s2))
def f_M_append (a1 : Int32) (a2 : Int32) (a3 : Int32) (s : eS) : Option (Int32 × eS) := ix (((2 : Int32) * a1) + a2) 6 (nm (wr s 9 (Int32.toNatClampNeg (((2 : Int32) * a1) + a2)) (1 : Int32)) fun s1 => ix (((2 : Int32) * a1) + a2) 6 (nm (wr s1 10 (Int32.toNatClampNeg (((2 : Int32) * a1) + a2)) a3) fun s2 => bnd (f_M_add a1 (3 : Int32) s2) fun _ s4 => bnd (f_M_add a1 a3 s4) fun _ s7 => (some (a2, s7))))
def f_M_load_25 : Nat → Int32 → Int32 → Int32 → Int32 → eS → Option (Unit × eS)
  | 0, _, _, _, _, _ => none
  | fl + 1, x1, x2, x3, x4, s => (if (16 : Int32) ≤ x4 then (some ((), s)) else ix (((16 : Int32) * x3) + x4) 256 (ix (((16 : Int32) * x2) + x4) 256 (nm (wr s 0 (Int32.toNatClampNeg (((16 : Int32) * x2) + x4)) (s 0 (Int32.toNatClampNeg (((16 : Int32) * x3) + x4)))) fun s1 => ix (((16 : Int32) * x2) + x4) 256 (bnd (f_M_add x1 (s1 0 (Int32.toNatClampNeg (((16 : Int32) * x2) + x4))) s1) fun _ s3 => nm (x4 + (1 : Int32)) fun v5 => (f_M_load_25 fl x1 x2 x3 v5 s3)))))
def f_M_load (a1 : Int32) (a2 : Int32) (a3 : Int32) (s : eS) : Option (Unit × eS) := ix a1 3 (ix a1 3 (nm (wr s 6 (Int32.toNatClampNeg a1) ((s 6 (Int32.toNatClampNeg a1)) + (1 : Int32))) fun s1 => bnd (f_M_add a1 (2 : Int32) s1) fun _ s3 => bnd (f_M_add a1 a2 s3) fun _ s6 => nm (0 : Int32) fun v8 => (f_M_load_25 fu a1 a2 a3 v8 s6)))
def f_M_wipe_2 : Nat → Int32 → Int32 → eS → Option (Unit × eS)
  | 0, _, _, _ => none
  | fl + 1, x1, x2, s => (if (16 : Int32) ≤ x2 then (some ((), s)) else ix (((16 : Int32) * x1) + x2) 256 (nm (wr s 0 (Int32.toNatClampNeg (((16 : Int32) * x1) + x2)) (0 : Int32)) fun s1 => nm (x2 + (1 : Int32)) fun v2 => (f_M_wipe_2 fl x1 v2 s1)))
def f_M_wipe (a1 : Int32) (s : eS) : Option (Unit × eS) := nm (0 : Int32) fun v1 => (f_M_wipe_2 fu a1 v1 s)
def f_M_destroy_2 : Nat → Int32 → Int32 → eS → Option (Unit × eS)
  | 0, _, _, _ => none
  | fl + 1, x1, x2, s => (if (16 : Int32) ≤ x2 then ix x1 3 (nm (wr s 3 (Int32.toNatClampNeg x1) (0 : Int32)) fun s1 => ix ((2 : Int32) * x1) 6 (nm (wr s1 9 (Int32.toNatClampNeg ((2 : Int32) * x1)) (0 : Int32)) fun s2 => ix (((2 : Int32) * x1) + (1 : Int32)) 6 (nm (wr s2 9 (Int32.toNatClampNeg (((2 : Int32) * x1) + (1 : Int32))) (0 : Int32)) fun s3 => (some ((), s3))))) else bnd (f_M_kind x2 s) fun r4 s5 => (if r4 = ((2 : Int32) + x1) then bnd (f_M_wipe x2 s5) fun _ s11 => ix x2 16 ((if (s11 2 (Int32.toNatClampNeg x2)) = ((1 : Int32) + x1) then ix x2 16 (nm (wr s11 2 (Int32.toNatClampNeg x2) (0 : Int32)) fun s14 => nm (x2 + (1 : Int32)) fun v15 => (f_M_destroy_2 fl x1 v15 s14)) else nm (x2 + (1 : Int32)) fun v13 => (f_M_destroy_2 fl x1 v13 s11))) else ix x2 16 ((if (s5 2 (Int32.toNatClampNeg x2)) = ((1 : Int32) + x1) then ix x2 16 (nm (wr s5 2 (Int32.toNatClampNeg x2) (0 : Int32)) fun s8 => nm (x2 + (1 : Int32)) fun v9 => (f_M_destroy_2 fl x1 v9 s8)) else nm (x2 + (1 : Int32)) fun v7 => (f_M_destroy_2 fl x1 v7 s5)))))
def f_M_destroy (a1 : Int32) (s : eS) : Option (Unit × eS) := nm (0 : Int32) fun v1 => (f_M_destroy_2 fu a1 v1 s)
def f_M_perform_131 : Nat → Int32 → Int32 → eS → Option (Unit × eS)
  | 0, _, _, _ => none
  | fl + 1, x4, x5, s => (if (8 : Int32) ≤ x5 then (some ((), s)) else (if x5 = (1 : Int32) then ix (((8 : Int32) * (s 13 1)) + x5) 56 (nm (wr s 11 (Int32.toNatClampNeg (((8 : Int32) * (s 13 1)) + x5)) x4) fun s3 => nm (x5 + (1 : Int32)) fun v4 => (f_M_perform_131 fl x4 v4 s3)) else ix (((8 : Int32) * (s 13 1)) + x5) 56 (nm (wr s 11 (Int32.toNatClampNeg (((8 : Int32) * (s 13 1)) + x5)) (0 : Int32)) fun s1 => nm (x5 + (1 : Int32)) fun v2 => (f_M_perform_131 fl x4 v2 s1))))
def f_M_perform (a1 : Int32) (a2 : Int32) (a3 : Int32) (a4 : Int32) (s : eS) : Option (Unit × eS) := (if a1 = (2 : Int32) then bnd (f_M_load a2 a3 a4 s) fun _ s3 => (some ((), s3)) else (if a1 = (3 : Int32) then ix a2 16 (nm (wr s 1 (Int32.toNatClampNeg a2) (vp_nar .boolean (0 : Int32))) fun s6 => bnd (f_M_wipe a2 s6) fun _ s8 => (some ((), s8))) else (if a1 = (4 : Int32) then ix a2 3 (nm (wr s 3 (Int32.toNatClampNeg a2) (2 : Int32)) fun s11 => bnd (f_M_add a2 (4 : Int32) s11) fun _ s13 => (some ((), s13))) else (if a1 = (5 : Int32) then ix a3 16 (nm (wr s 2 (Int32.toNatClampNeg a3) ((1 : Int32) + a2)) fun s16 => (some ((), s16))) else (if a1 = (6 : Int32) then nm (wr s 13 1 (((2 : Int32) * a2) + a3)) fun s18 => ix (s18 13 1) 6 (nm (wr s18 9 (Int32.toNatClampNeg (s18 13 1)) (2 : Int32)) fun s19 => ix (s19 13 1) 6 (ix (s19 13 1) 7 (nm (wr s19 12 (Int32.toNatClampNeg (s19 13 1)) (s19 10 (Int32.toNatClampNeg (s19 13 1)))) fun s20 => nm (0 : Int32) fun v21 => (f_M_perform_131 fu a4 v21 s20)))) else (if a1 = (7 : Int32) then nm (wr s 13 1 (((2 : Int32) * a2) + a3)) fun s23 => ix (s23 13 1) 6 (nm (wr s23 9 (Int32.toNatClampNeg (s23 13 1)) (2 : Int32)) fun s24 => (some ((), s24))) else (if a1 = (8 : Int32) then ix a2 3 (nm (wr s 3 (Int32.toNatClampNeg a2) (3 : Int32)) fun s26 => (some ((), s26))) else (if a1 = (9 : Int32) then bnd (f_M_destroy a2 s) fun _ s29 => (some ((), s29)) else (if a1 = (10 : Int32) then ix a2 16 (nm (wr s 1 (Int32.toNatClampNeg a2) (vp_nar .boolean (1 : Int32))) fun s32 => (some ((), s32))) else ix a2 16 (nm (wr s 1 (Int32.toNatClampNeg a2) (vp_nar .boolean (0 : Int32))) fun s33 => bnd (f_M_wipe a2 s33) fun _ s35 => (some ((), s35))))))))))))
def f_M_system (a1 : Int32) (a2 : Int32) (a3 : Int32) (a4 : Int32) (s : eS) : Option (Int32 × eS) := bnd (f_M_outside (a1 - (1 : Int32)) (10 : Int32) s) fun r1 s2 => (if r1 = 0 then bnd (f_M_bad a1 a2 a3 a4 s2) fun r4 s5 => (if r4 = 0 then bnd (f_M_wrongState a1 a2 a3 s5) fun r7 s8 => (if r7 = 0 then bnd (f_M_taken a1 a2 a3 a4 s8) fun r10 s11 => (if r10 = 0 then bnd (f_M_full a1 a2 s11) fun r13 s14 => (if r13 = 0 then (if a1 = (1 : Int32) then bnd (f_M_create a2 a3 s14) fun r28 s29 => (some (r28, s29)) else (if a1 = (3 : Int32) then bnd (f_M_thread a2 (0 : Int32) s14) fun r19 s20 => (if r19 = 0 then bnd (f_M_append a2 (0 : Int32) a3 s20) fun r25 s26 => (some (r25, s26)) else bnd (f_M_append a2 (1 : Int32) a3 s20) fun r22 s23 => (some (r22, s23))) else bnd (f_M_perform a1 a2 a3 a4 s14) fun _ s17 => (some ((0 : Int32), s17)))) else (some ((-5 : Int32), s14))) else (some ((-4 : Int32), s11))) else (some ((-3 : Int32), s8))) else (some ((-2 : Int32), s5))) else (some ((-1 : Int32), s2)))
def f_M_leave (a1 : Int32) (a2 : Int32) (s : eS) : Option (Unit × eS) := nm (wr s 13 5 ((s 13 5) + (1 : Int32))) fun s1 => nm (wr s1 13 6 ((s1 13 1) / (2 : Int32))) fun s2 => nm (wr s2 13 7 a1) fun s3 => nm (wr s3 13 8 a2) fun s4 => nm (wr s4 13 9 (s4 13 4)) fun s5 => nm (wr s5 13 1 (6 : Int32)) fun s6 => ix (49 : Int32) 56 (nm (wr s6 11 (Int32.toNatClampNeg (49 : Int32)) a1) fun s7 => ix (50 : Int32) 56 (nm (wr s7 11 (Int32.toNatClampNeg (50 : Int32)) a2) fun s8 => (some ((), s8))))
def f_M_fault (a1 : Int32) (s : eS) : Option (Unit × eS) := (if (s 13 1) = (6 : Int32) then nm (wr s 13 2 (1 : Int32)) fun s5 => (some ((), s5)) else ix (s 13 1) 6 (nm (wr s 9 (Int32.toNatClampNeg (s 13 1)) (1 : Int32)) fun s1 => bnd (f_M_leave a1 (0 : Int32) s1) fun _ s3 => (some ((), s3))))
def f_M_put (a1 : Int32) (a2 : Int32) (s : eS) : Option (Unit × eS) := (if a1 ≤ 0 then (some ((), s)) else ix (((8 : Int32) * (s 13 1)) + a1) 56 (nm (wr s 11 (Int32.toNatClampNeg (((8 : Int32) * (s 13 1)) + a1)) a2) fun s1 => (some ((), s1))))
def f_M_access_56  (s : eS) : Option (Unit × eS) := ix (s 13 1) 7 (ix (s 13 1) 7 (nm (wr s 12 (Int32.toNatClampNeg (s 13 1)) ((s 12 (Int32.toNatClampNeg (s 13 1))) + (1 : Int32))) fun s1 => (some ((), s1))))
def f_M_access (a1 : Int32) (a2 : Int32) (a3 : Int32) (s : eS) : Option (Unit × eS) := bnd (f_M_uses (s 13 1) a3 s) fun r1 s2 => (if r1 = 0 then bnd (f_M_fault (3 : Int32) s2) fun _ s9 => (some ((), s9)) else (if a1 = 0 then ix (((8 : Int32) * (s2 13 1)) + a2) 56 (ix a3 256 (nm (wr s2 0 (Int32.toNatClampNeg a3) (s2 11 (Int32.toNatClampNeg (((8 : Int32) * (s2 13 1)) + a2)))) fun s4 => (f_M_access_56 s4))) else ix a3 256 (bnd (f_M_put a2 (s2 0 (Int32.toNatClampNeg a3)) s2) fun _ s6 => (f_M_access_56 s6))))
def f_M_ask_216 (x5 : Int32) (s : eS) : Option (Unit × eS) := bnd (f_M_put (1 : Int32) x5 s) fun _ s2 => (some ((), s2))
def f_M_ask_214 (y0 : Int32) (s : eS) : Option (Unit × eS) := nm y0 fun v1 => (f_M_ask_216 v1 s)
def f_M_ask (a1 : Int32) (s : eS) : Option (Unit × eS) := ix (((8 : Int32) * (s 13 1)) + (1 : Int32)) 56 (nm (s 11 (Int32.toNatClampNeg (((8 : Int32) * (s 13 1)) + (1 : Int32)))) fun v1 => ix (((8 : Int32) * (s 13 1)) + (2 : Int32)) 56 (nm (s 11 (Int32.toNatClampNeg (((8 : Int32) * (s 13 1)) + (2 : Int32)))) fun v2 => ix (((8 : Int32) * (s 13 1)) + (3 : Int32)) 56 (nm (s 11 (Int32.toNatClampNeg (((8 : Int32) * (s 13 1)) + (3 : Int32)))) fun v3 => ix (s 13 1) 7 (ix (s 13 1) 7 (nm (wr s 12 (Int32.toNatClampNeg (s 13 1)) ((s 12 (Int32.toNatClampNeg (s 13 1))) + (1 : Int32))) fun s4 => nm (-1 : Int32) fun v5 => (if (s4 13 1) = (6 : Int32) then bnd (f_M_system a1 v1 v2 v3 s4) fun r31 s32 => nm r31 fun v34 => (if (s32 13 1) = (6 : Int32) then bnd (f_M_put (1 : Int32) v34 s32) fun _ s36 => (some ((), s36)) else (some ((), s32))) else (if a1 = (16 : Int32) then ix (s4 13 1) 6 (nm (wr s4 9 (Int32.toNatClampNeg (s4 13 1)) (1 : Int32)) fun s27 => bnd (f_M_leave (1 : Int32) v1 s27) fun _ s29 => (some ((), s29))) else (if a1 = (17 : Int32) then bnd (f_M_measured ((s4 13 1) / (2 : Int32)) s4) fun r20 s21 => bnd (f_M_mac r20 v1 s21) fun r23 s24 => nm r23 fun v26 => (f_M_ask_216 v26 s24) else (if a1 = (18 : Int32) then bnd (f_M_measured ((s4 13 1) / (2 : Int32)) s4) fun r9 s10 => bnd (f_M_mix (s4 13 0) r9 s10) fun r12 s13 => nm r12 fun v15 => bnd (f_M_mix v15 (18 : Int32) s13) fun r16 s17 => nm r16 fun v19 => (f_M_ask_216 v19 s17) else (if a1 = (19 : Int32) then bnd (f_M_mac v1 v2 s4) fun r6 s7 => (if r6 = v3 then (f_M_ask_214 (1 : Int32) s7) else (f_M_ask_214 (0 : Int32) s7)) else (f_M_ask_216 v5 s4)))))))))))
def f_M_step_279 (x5 : Int32) (x6 : Int32) (x8 : Int32) (y1 : Int32) (s : eS) : Option (Unit × eS) := bnd (f_M_access y1 x5 (x6 + x8) s) fun _ s2 => (some ((), s2))
def f_M_step_267 (x3 : Int32) (x5 : Int32) (x6 : Int32) (x8 : Int32) (s : eS) : Option (Unit × eS) := (if x3 = (7 : Int32) then (f_M_step_279 x5 x6 x8 (1 : Int32) s) else (f_M_step_279 x5 x6 x8 (0 : Int32) s))
def f_M_step_376 (y1 : Int32) (y2 : Int32) (s : eS) : Option (Unit × eS) := ix y1 7 (nm (wr s 12 (Int32.toNatClampNeg y1) y2) fun s1 => (some ((), s1)))
def f_M_step_349 (x1 : Int32) (x8 : Int32) (y0 : Int32) (s : eS) : Option (Unit × eS) := nm y0 fun v1 => (if v1 = 0 then (f_M_step_376 (s 13 1) (x1 + (1 : Int32)) s) else (f_M_step_376 (s 13 1) ((x1 + (1 : Int32)) + x8) s))
def f_M_step_304 (x1 : Int32) (x3 : Int32) (x4 : Int32) (x5 : Int32) (x6 : Int32) (x8 : Int32) (s : eS) : Option (Unit × eS) := ix (x4 + x5) 56 (nm (s 11 (Int32.toNatClampNeg (x4 + x5))) fun v1 => (if x3 = (9 : Int32) then (if v1 = x6 then (f_M_step_349 x1 x8 (1 : Int32) s) else (f_M_step_349 x1 x8 (0 : Int32) s)) else (if x6 ≤ v1 then (f_M_step_349 x1 x8 (0 : Int32) s) else (f_M_step_349 x1 x8 (1 : Int32) s))))
def f_M_step_255 (x1 : Int32) (x3 : Int32) (x4 : Int32) (x5 : Int32) (x6 : Int32) (x8 : Int32) (s : eS) : Option (Unit × eS) := (if x3 = (7 : Int32) then (f_M_step_267 x3 x5 x6 x8 s) else (if x3 = (8 : Int32) then (f_M_step_267 x3 x5 x6 x8 s) else (if x3 = (9 : Int32) then (f_M_step_304 x1 x3 x4 x5 x6 x8 s) else (if x3 = (10 : Int32) then (f_M_step_304 x1 x3 x4 x5 x6 x8 s) else (if x3 = (11 : Int32) then bnd (f_M_ask x8 s) fun _ s5 => (some ((), s5)) else bnd (f_M_fault (4 : Int32) s) fun _ s2 => (some ((), s2)))))))
def f_M_step_230 (x1 : Int32) (x5 : Int32) (y0 : Int32) (s : eS) : Option (Unit × eS) := nm y0 fun v1 => bnd (f_M_put x5 v1 s) fun _ s3 => ix (s3 13 1) 7 (nm (wr s3 12 (Int32.toNatClampNeg (s3 13 1)) (x1 + (1 : Int32))) fun s5 => (some ((), s5)))
def f_M_step_55  (s : eS) : Option (Unit × eS) := ix (s 13 1) 7 (nm (s 12 (Int32.toNatClampNeg (s 13 1))) fun v1 => bnd (f_M_uses (s 13 1) v1 s) fun r2 s3 => (if r2 = 0 then bnd (f_M_fault (3 : Int32) s3) fun _ s13 => (some ((), s13)) else ix v1 256 (nm (s3 0 (Int32.toNatClampNeg v1)) fun v5 => nm (v5 &&& (15 : Int32)) fun v6 => nm ((8 : Int32) * (s3 13 1)) fun v7 => nm ((v5 >>> ((4 : Int32) &&& 31)) &&& (7 : Int32)) fun v8 => ix (v7 + ((v5 >>> ((7 : Int32) &&& 31)) &&& (7 : Int32))) 56 (nm (s3 11 (Int32.toNatClampNeg (v7 + ((v5 >>> ((7 : Int32) &&& 31)) &&& (7 : Int32))))) fun v9 => ix (v7 + ((v5 >>> ((10 : Int32) &&& 31)) &&& (7 : Int32))) 56 (nm (s3 11 (Int32.toNatClampNeg (v7 + ((v5 >>> ((10 : Int32) &&& 31)) &&& (7 : Int32))))) fun v10 => nm (v5 >>> ((16 : Int32) &&& 31)) fun v11 => (if v6 < (1 : Int32) then (f_M_step_255 v1 v6 v7 v8 v9 v11 s3) else (if (6 : Int32) < v6 then (f_M_step_255 v1 v6 v7 v8 v9 v11 s3) else (if v6 = (1 : Int32) then (f_M_step_230 v1 v8 v11 s3) else (if v6 = (2 : Int32) then (f_M_step_230 v1 v8 (v9 + v11) s3) else (if v6 = (3 : Int32) then (f_M_step_230 v1 v8 (v9 + v10) s3) else (if v6 = (4 : Int32) then (f_M_step_230 v1 v8 (v9 - v10) s3) else (if v6 = (5 : Int32) then (f_M_step_230 v1 v8 (v9 * v10) s3) else (f_M_step_230 v1 v8 (v9 ^^^ v10) s3)))))))))))))
def f_M_step  (s : eS) : Option (Unit × eS) := nm (wr s 13 4 ((s 13 4) + (1 : Int32))) fun s1 => (if (6 : Int32) ≤ (s1 13 1) then (f_M_step_55 s1) else (if (s1 13 3) ≤ 0 then (f_M_step_55 s1) else nz (s1 13 3) ((if ((s1 13 4) - (s1 13 4) / (s1 13 3) * (s1 13 3)) = 0 then ix (s1 13 1) 6 (nm (wr s1 9 (Int32.toNatClampNeg (s1 13 1)) (3 : Int32)) fun s2 => bnd (f_M_leave (2 : Int32) (0 : Int32) s2) fun _ s4 => (some ((), s4))) else (f_M_step_55 s1)))))
def f_M_poke (a1 : Int32) (a2 : Int32) (s : eS) : Option (Int32 × eS) := bnd (f_M_uses (6 : Int32) a1 s) fun r1 s2 => (if r1 = 0 then (some ((0 : Int32), s2)) else ix a1 256 (nm (wr s2 0 (Int32.toNatClampNeg a1) a2) fun s4 => (some ((1 : Int32), s4))))
def f_M_peek (a1 : Int32) (s : eS) : Option (Int32 × eS) := bnd (f_M_uses (6 : Int32) a1 s) fun r1 s2 => (if r1 = 0 then (some ((0 : Int32), s2)) else ix a1 256 ((some ((s2 0 (Int32.toNatClampNeg a1)), s2))))
def f_M_bare (a1 : Int32) (s : eS) : Option (Int32 × eS) := bnd (f_M_outside a1 (255 : Int32) s) fun r1 s2 => (if r1 = 0 then ix a1 256 ((some ((s2 0 (Int32.toNatClampNeg a1)), s2))) else (some ((0 : Int32), s2)))
def f_M_give_20  (s : eS) : Option (Int32 × eS) := (some ((0 : Int32), s))
def f_M_give (a1 : Int32) (a2 : Int32) (s : eS) : Option (Int32 × eS) := (if a1 < (1 : Int32) then (f_M_give_20 s) else (if (7 : Int32) < a1 then (f_M_give_20 s) else (if (6 : Int32) ≤ (s 13 1) then ix ((48 : Int32) + a1) 56 (nm (wr s 11 (Int32.toNatClampNeg ((48 : Int32) + a1)) a2) fun s1 => (some ((1 : Int32), s1))) else (f_M_give_20 s))))
def f_M_register (a1 : Int32) (s : eS) : Option (Int32 × eS) := bnd (f_M_outside a1 (7 : Int32) s) fun r1 s2 => (if r1 = 0 then ix ((48 : Int32) + a1) 56 ((some ((s2 11 (Int32.toNatClampNeg ((48 : Int32) + a1))), s2))) else (some ((0 : Int32), s2)))
def f_M_pc  (s : eS) : Option (Int32 × eS) := ix (6 : Int32) 7 ((some ((s 12 (Int32.toNatClampNeg (6 : Int32))), s)))
def f_M_boot (a1 : Int32) (s : eS) : Option (Int32 × eS) := (if (6 : Int32) ≤ (s 13 1) then ix (6 : Int32) 7 (nm (wr s 12 (Int32.toNatClampNeg (6 : Int32)) a1) fun s1 => nm (wr s1 13 2 (0 : Int32)) fun s2 => (some ((1 : Int32), s2))) else (some ((0 : Int32), s)))
def f_M_halted  (s : eS) : Option (Int32 × eS) := (bz (s 13 2) (some ((s 13 2), s)))
def f_M_call (a1 : Int32) (a2 : Int32) (a3 : Int32) (a4 : Int32) (s : eS) : Option (Int32 × eS) := (if (6 : Int32) ≤ (s 13 1) then bnd (f_M_system a1 a2 a3 a4 s) fun r1 s2 => (some (r1, s2)) else (some ((-6 : Int32), s)))
def f_M_run_45 (x2 : Int32) (s : eS) : Option (Int32 × eS) := (some (x2, s))
def f_M_run_14 : Nat → Int32 → Int32 → eS → Option (Int32 × eS)
  | 0, _, _, _ => none
  | fl + 1, x1, x2, s => (if x1 ≤ x2 then (f_M_run_45 x2 s) else (if (s 13 1) = (6 : Int32) then (if (s 13 2) = 0 then bnd (f_M_step s) fun _ s6 => nm (x2 + (1 : Int32)) fun v8 => (f_M_run_14 fl x1 v8 s6) else (f_M_run_45 x2 s)) else bnd (f_M_step s) fun _ s2 => nm (x2 + (1 : Int32)) fun v4 => (f_M_run_14 fl x1 v4 s2)))
def f_M_run (a1 : Int32) (s : eS) : Option (Int32 × eS) := nm (0 : Int32) fun v1 => bnd (f_M_outside a1 (1000 : Int32) s) fun r2 s3 => (if r2 = 0 then (f_M_run_14 fu a1 v1 s3) else (some ((0 : Int32), s3)))
def f_M_period (a1 : Int32) (s : eS) : Option (Unit × eS) := nm (wr s 13 3 a1) fun s1 => (some ((), s1))
def f_M_tick  (s : eS) : Option (Int32 × eS) := (some ((s 13 4), s))
def f_M_running  (s : eS) : Option (Int32 × eS) := (if (s 13 1) = (6 : Int32) then (some ((-1 : Int32), s)) else (some ((s 13 1), s)))
def f_M_region (a1 : Int32) (s : eS) : Option (Int32 × eS) := bnd (f_M_outside a1 (15 : Int32) s) fun r1 s2 => (if r1 = 0 then bnd (f_M_kind a1 s2) fun r4 s5 => (some (r4, s5)) else (some ((-1 : Int32), s2)))
def f_M_enclave (a1 : Int32) (s : eS) : Option (Int32 × eS) := bnd (f_M_outside a1 (2 : Int32) s) fun r1 s2 => (if r1 = 0 then ix a1 3 ((some ((s2 3 (Int32.toNatClampNeg a1)), s2))) else (some ((-1 : Int32), s2)))
def f_M_kept_19  (s : eS) : Option (Int32 × eS) := (some ((0 : Int32), s))
def f_M_kept (a1 : Int32) (a2 : Int32) (a3 : Int32) (s : eS) : Option (Int32 × eS) := bnd (f_M_thread a1 a2 s) fun r1 s2 => (if r1 < (2 : Int32) then (f_M_kept_19 s2) else bnd (f_M_outside a3 (8 : Int32) s2) fun r4 s5 => (if r4 = 0 then (if a3 = (8 : Int32) then ix (((2 : Int32) * a1) + a2) 7 ((some ((s5 12 (Int32.toNatClampNeg (((2 : Int32) * a1) + a2))), s5))) else ix ((((16 : Int32) * a1) + ((8 : Int32) * a2)) + a3) 56 ((some ((s5 11 (Int32.toNatClampNeg ((((16 : Int32) * a1) + ((8 : Int32) * a2)) + a3))), s5)))) else (f_M_kept_19 s5)))
def f_M_measure_17  (s : eS) : Option (Int32 × eS) := (some ((0 : Int32), s))
def f_M_measure (a1 : Int32) (s : eS) : Option (Int32 × eS) := bnd (f_M_outside a1 (2 : Int32) s) fun r1 s2 => (if r1 = 0 then ix a1 3 ((if (s2 3 (Int32.toNatClampNeg a1)) = 0 then (f_M_measure_17 s2) else bnd (f_M_measured a1 s2) fun r4 s5 => (some (r4, s5)))) else (f_M_measure_17 s2))
def f_M_vouch (a1 : Int32) (a2 : Int32) (a3 : Int32) (s : eS) : Option (Int32 × eS) := bnd (f_M_mac a1 a2 s) fun r1 s2 => (if r1 = a3 then (some ((1 : Int32), s2)) else (some ((0 : Int32), s2)))
def f_M_exit (a1 : Int32) (s : eS) : Option (Int32 × eS) := (if a1 = 0 then (some ((s 13 5), s)) else (if a1 = (1 : Int32) then (some ((s 13 6), s)) else (if a1 = (2 : Int32) then (some ((s 13 7), s)) else (if a1 = (3 : Int32) then (some ((s 13 8), s)) else (if a1 = (4 : Int32) then (some ((s 13 9), s)) else (some ((0 : Int32), s)))))))
end
section
-- ===== PART A: goes FIRST, ahead of the names: the tables' words, and 'selects' of the private methods out of them =====
/-- a private method of a class that the tables say can be made, by its rows of tables_1 -/
def lw_okq (q : MethodName × Nat) : Prop := (q.1.cls ≠ "java/lang/invoke/MethodHandle" ∧ q.1.cls ≠ "java/lang/invoke/VarHandle") ∧ Cond.instantiable q.1.cls q.2 ∈ tables_1 ∧ Cond.privateMethod q.1 ∈ tables_1 ∧ Cond.instanceMethod q.1 ∈ tables_1
theorem lw_p0 : lw_okq (⟨"EnclaveWarden$Enclave", "become", "(I)V"⟩, 4) := ⟨⟨by decide +kernel, by decide +kernel⟩, List.mem_of_getElem? (i := 16) (by decide +kernel), List.mem_of_getElem? (i := 58) (by decide +kernel), List.mem_of_getElem? (i := 59) (by decide +kernel)⟩
theorem lw_p1 : lw_okq (⟨"EnclaveWarden", "systemMayUse", "(I)Z"⟩, 10) := ⟨⟨by decide +kernel, by decide +kernel⟩, List.mem_of_getElem? (i := 7) (by decide +kernel), List.mem_of_getElem? (i := 116) (by decide +kernel), List.mem_of_getElem? (i := 117) (by decide +kernel)⟩
theorem lw_p2 : lw_okq (⟨"EnclaveWarden$Core", "put", "(II)V"⟩, 2) := ⟨⟨by decide +kernel, by decide +kernel⟩, List.mem_of_getElem? (i := 29) (by decide +kernel), List.mem_of_getElem? (i := 135) (by decide +kernel), List.mem_of_getElem? (i := 136) (by decide +kernel)⟩
theorem lw_p3 : lw_okq (⟨"EnclaveWarden$Core", "get", "(I)I"⟩, 2) := ⟨⟨by decide +kernel, by decide +kernel⟩, List.mem_of_getElem? (i := 29) (by decide +kernel), List.mem_of_getElem? (i := 143) (by decide +kernel), List.mem_of_getElem? (i := 144) (by decide +kernel)⟩
theorem lw_p4 : lw_okq (⟨"EnclaveWarden", "systemCall", "(IIII)I"⟩, 10) := ⟨⟨by decide +kernel, by decide +kernel⟩, List.mem_of_getElem? (i := 7) (by decide +kernel), List.mem_of_getElem? (i := 163) (by decide +kernel), List.mem_of_getElem? (i := 164) (by decide +kernel)⟩
theorem lw_p5 : lw_okq (⟨"EnclaveWarden", "create", "(II)I"⟩, 10) := ⟨⟨by decide +kernel, by decide +kernel⟩, List.mem_of_getElem? (i := 7) (by decide +kernel), List.mem_of_getElem? (i := 167) (by decide +kernel), List.mem_of_getElem? (i := 168) (by decide +kernel)⟩
theorem lw_p6 : lw_okq (⟨"EnclaveWarden", "allFree", "(II)Z"⟩, 10) := ⟨⟨by decide +kernel, by decide +kernel⟩, List.mem_of_getElem? (i := 7) (by decide +kernel), List.mem_of_getElem? (i := 174) (by decide +kernel), List.mem_of_getElem? (i := 175) (by decide +kernel)⟩
theorem lw_p7 : lw_okq (⟨"EnclaveWarden", "leastAbsent", "()I"⟩, 10) := ⟨⟨by decide +kernel, by decide +kernel⟩, List.mem_of_getElem? (i := 7) (by decide +kernel), List.mem_of_getElem? (i := 178) (by decide +kernel), List.mem_of_getElem? (i := 179) (by decide +kernel)⟩
theorem lw_p8 : lw_okq (⟨"EnclaveWarden$Enclave", "add", "(I)V"⟩, 4) := ⟨⟨by decide +kernel, by decide +kernel⟩, List.mem_of_getElem? (i := 16) (by decide +kernel), List.mem_of_getElem? (i := 183) (by decide +kernel), List.mem_of_getElem? (i := 184) (by decide +kernel)⟩
theorem lw_p9 : lw_okq (⟨"EnclaveWarden", "load", "(III)I"⟩, 10) := ⟨⟨by decide +kernel, by decide +kernel⟩, List.mem_of_getElem? (i := 7) (by decide +kernel), List.mem_of_getElem? (i := 191) (by decide +kernel), List.mem_of_getElem? (i := 192) (by decide +kernel)⟩
theorem lw_p10 : lw_okq (⟨"EnclaveWarden", "addThread", "(II)I"⟩, 10) := ⟨⟨by decide +kernel, by decide +kernel⟩, List.mem_of_getElem? (i := 7) (by decide +kernel), List.mem_of_getElem? (i := 198) (by decide +kernel), List.mem_of_getElem? (i := 199) (by decide +kernel)⟩
theorem lw_p11 : lw_okq (⟨"EnclaveWarden$Enclave", "threadCount", "()I"⟩, 4) := ⟨⟨by decide +kernel, by decide +kernel⟩, List.mem_of_getElem? (i := 16) (by decide +kernel), List.mem_of_getElem? (i := 202) (by decide +kernel), List.mem_of_getElem? (i := 203) (by decide +kernel)⟩
theorem lw_p12 : lw_okq (⟨"EnclaveWarden", "seal", "(I)I"⟩, 10) := ⟨⟨by decide +kernel, by decide +kernel⟩, List.mem_of_getElem? (i := 7) (by decide +kernel), List.mem_of_getElem? (i := 206) (by decide +kernel), List.mem_of_getElem? (i := 207) (by decide +kernel)⟩
theorem lw_p13 : lw_okq (⟨"EnclaveWarden", "share", "(II)I"⟩, 10) := ⟨⟨by decide +kernel, by decide +kernel⟩, List.mem_of_getElem? (i := 7) (by decide +kernel), List.mem_of_getElem? (i := 210) (by decide +kernel), List.mem_of_getElem? (i := 211) (by decide +kernel)⟩
theorem lw_p14 : lw_okq (⟨"EnclaveWarden", "sharedWith", "(I)I"⟩, 10) := ⟨⟨by decide +kernel, by decide +kernel⟩, List.mem_of_getElem? (i := 7) (by decide +kernel), List.mem_of_getElem? (i := 214) (by decide +kernel), List.mem_of_getElem? (i := 215) (by decide +kernel)⟩
theorem lw_p15 : lw_okq (⟨"EnclaveWarden", "enter", "(III)I"⟩, 10) := ⟨⟨by decide +kernel, by decide +kernel⟩, List.mem_of_getElem? (i := 7) (by decide +kernel), List.mem_of_getElem? (i := 218) (by decide +kernel), List.mem_of_getElem? (i := 219) (by decide +kernel)⟩
def lw_privs_1 : List (MethodName × Nat) := [(⟨"EnclaveWarden$Enclave", "become", "(I)V"⟩, 4), (⟨"EnclaveWarden", "systemMayUse", "(I)Z"⟩, 10), (⟨"EnclaveWarden$Core", "put", "(II)V"⟩, 2), (⟨"EnclaveWarden$Core", "get", "(I)I"⟩, 2), (⟨"EnclaveWarden", "systemCall", "(IIII)I"⟩, 10), (⟨"EnclaveWarden", "create", "(II)I"⟩, 10), (⟨"EnclaveWarden", "allFree", "(II)Z"⟩, 10), (⟨"EnclaveWarden", "leastAbsent", "()I"⟩, 10), (⟨"EnclaveWarden$Enclave", "add", "(I)V"⟩, 4), (⟨"EnclaveWarden", "load", "(III)I"⟩, 10), (⟨"EnclaveWarden", "addThread", "(II)I"⟩, 10), (⟨"EnclaveWarden$Enclave", "threadCount", "()I"⟩, 4), (⟨"EnclaveWarden", "seal", "(I)I"⟩, 10), (⟨"EnclaveWarden", "share", "(II)I"⟩, 10), (⟨"EnclaveWarden", "sharedWith", "(I)I"⟩, 10), (⟨"EnclaveWarden", "enter", "(III)I"⟩, 10)]
theorem lw_r1 : ∀ q ∈ lw_privs_1, lw_okq q := List.forall_mem_cons.mpr ⟨lw_p0, List.forall_mem_cons.mpr ⟨lw_p1, List.forall_mem_cons.mpr ⟨lw_p2, List.forall_mem_cons.mpr ⟨lw_p3, List.forall_mem_cons.mpr ⟨lw_p4, List.forall_mem_cons.mpr ⟨lw_p5, List.forall_mem_cons.mpr ⟨lw_p6, List.forall_mem_cons.mpr ⟨lw_p7, List.forall_mem_cons.mpr ⟨lw_p8, List.forall_mem_cons.mpr ⟨lw_p9, List.forall_mem_cons.mpr ⟨lw_p10, List.forall_mem_cons.mpr ⟨lw_p11, List.forall_mem_cons.mpr ⟨lw_p12, List.forall_mem_cons.mpr ⟨lw_p13, List.forall_mem_cons.mpr ⟨lw_p14, List.forall_mem_cons.mpr ⟨lw_p15, fun _ h => absurd h List.not_mem_nil⟩⟩⟩⟩⟩⟩⟩⟩⟩⟩⟩⟩⟩⟩⟩⟩
theorem lw_p16 : lw_okq (⟨"EnclaveWarden", "refusalToStart", "(III)I"⟩, 10) := ⟨⟨by decide +kernel, by decide +kernel⟩, List.mem_of_getElem? (i := 7) (by decide +kernel), List.mem_of_getElem? (i := 222) (by decide +kernel), List.mem_of_getElem? (i := 223) (by decide +kernel)⟩
theorem lw_p17 : lw_okq (⟨"EnclaveWarden$Core", "start", "(II)V"⟩, 2) := ⟨⟨by decide +kernel, by decide +kernel⟩, List.mem_of_getElem? (i := 29) (by decide +kernel), List.mem_of_getElem? (i := 229) (by decide +kernel), List.mem_of_getElem? (i := 230) (by decide +kernel)⟩
theorem lw_p18 : lw_okq (⟨"EnclaveWarden", "handOver", "(II)V"⟩, 10) := ⟨⟨by decide +kernel, by decide +kernel⟩, List.mem_of_getElem? (i := 7) (by decide +kernel), List.mem_of_getElem? (i := 234) (by decide +kernel), List.mem_of_getElem? (i := 235) (by decide +kernel)⟩
theorem lw_p19 : lw_okq (⟨"EnclaveWarden", "resume", "(II)I"⟩, 10) := ⟨⟨by decide +kernel, by decide +kernel⟩, List.mem_of_getElem? (i := 7) (by decide +kernel), List.mem_of_getElem? (i := 238) (by decide +kernel), List.mem_of_getElem? (i := 239) (by decide +kernel)⟩
theorem lw_p20 : lw_okq (⟨"EnclaveWarden", "stop", "(I)I"⟩, 10) := ⟨⟨by decide +kernel, by decide +kernel⟩, List.mem_of_getElem? (i := 7) (by decide +kernel), List.mem_of_getElem? (i := 242) (by decide +kernel), List.mem_of_getElem? (i := 243) (by decide +kernel)⟩
theorem lw_p21 : lw_okq (⟨"EnclaveWarden", "destroy", "(I)I"⟩, 10) := ⟨⟨by decide +kernel, by decide +kernel⟩, List.mem_of_getElem? (i := 7) (by decide +kernel), List.mem_of_getElem? (i := 246) (by decide +kernel), List.mem_of_getElem? (i := 247) (by decide +kernel)⟩
theorem lw_p22 : lw_okq (⟨"EnclaveWarden", "free", "(I)V"⟩, 10) := ⟨⟨by decide +kernel, by decide +kernel⟩, List.mem_of_getElem? (i := 7) (by decide +kernel), List.mem_of_getElem? (i := 250) (by decide +kernel), List.mem_of_getElem? (i := 251) (by decide +kernel)⟩
theorem lw_p23 : lw_okq (⟨"EnclaveWarden", "claim", "(I)I"⟩, 10) := ⟨⟨by decide +kernel, by decide +kernel⟩, List.mem_of_getElem? (i := 7) (by decide +kernel), List.mem_of_getElem? (i := 254) (by decide +kernel), List.mem_of_getElem? (i := 255) (by decide +kernel)⟩
theorem lw_p24 : lw_okq (⟨"EnclaveWarden", "giveUp", "(I)I"⟩, 10) := ⟨⟨by decide +kernel, by decide +kernel⟩, List.mem_of_getElem? (i := 7) (by decide +kernel), List.mem_of_getElem? (i := 258) (by decide +kernel), List.mem_of_getElem? (i := 259) (by decide +kernel)⟩
theorem lw_p25 : lw_okq (⟨"EnclaveWarden", "step", "()V"⟩, 10) := ⟨⟨by decide +kernel, by decide +kernel⟩, List.mem_of_getElem? (i := 7) (by decide +kernel), List.mem_of_getElem? (i := 266) (by decide +kernel), List.mem_of_getElem? (i := 267) (by decide +kernel)⟩
theorem lw_p26 : lw_okq (⟨"EnclaveWarden", "leave", "(III)V"⟩, 10) := ⟨⟨by decide +kernel, by decide +kernel⟩, List.mem_of_getElem? (i := 7) (by decide +kernel), List.mem_of_getElem? (i := 270) (by decide +kernel), List.mem_of_getElem? (i := 271) (by decide +kernel)⟩
theorem lw_p27 : lw_okq (⟨"EnclaveWarden", "runningThread", "()LEnclaveWarden$EnclaveThread;"⟩, 10) := ⟨⟨by decide +kernel, by decide +kernel⟩, List.mem_of_getElem? (i := 7) (by decide +kernel), List.mem_of_getElem? (i := 274) (by decide +kernel), List.mem_of_getElem? (i := 275) (by decide +kernel)⟩
theorem lw_p28 : lw_okq (⟨"EnclaveWarden", "runnerMayUse", "(I)Z"⟩, 10) := ⟨⟨by decide +kernel, by decide +kernel⟩, List.mem_of_getElem? (i := 7) (by decide +kernel), List.mem_of_getElem? (i := 278) (by decide +kernel), List.mem_of_getElem? (i := 279) (by decide +kernel)⟩
theorem lw_p29 : lw_okq (⟨"EnclaveWarden", "enclaveMayUse", "(II)Z"⟩, 10) := ⟨⟨by decide +kernel, by decide +kernel⟩, List.mem_of_getElem? (i := 7) (by decide +kernel), List.mem_of_getElem? (i := 282) (by decide +kernel), List.mem_of_getElem? (i := 283) (by decide +kernel)⟩
theorem lw_p30 : lw_okq (⟨"EnclaveWarden", "fault", "(I)V"⟩, 10) := ⟨⟨by decide +kernel, by decide +kernel⟩, List.mem_of_getElem? (i := 7) (by decide +kernel), List.mem_of_getElem? (i := 286) (by decide +kernel), List.mem_of_getElem? (i := 287) (by decide +kernel)⟩
theorem lw_p31 : lw_okq (⟨"EnclaveWarden", "obeyCall", "(LEnclaveWarden$Core;I)V"⟩, 10) := ⟨⟨by decide +kernel, by decide +kernel⟩, List.mem_of_getElem? (i := 7) (by decide +kernel), List.mem_of_getElem? (i := 290) (by decide +kernel), List.mem_of_getElem? (i := 291) (by decide +kernel)⟩
def lw_privs_2 : List (MethodName × Nat) := [(⟨"EnclaveWarden", "refusalToStart", "(III)I"⟩, 10), (⟨"EnclaveWarden$Core", "start", "(II)V"⟩, 2), (⟨"EnclaveWarden", "handOver", "(II)V"⟩, 10), (⟨"EnclaveWarden", "resume", "(II)I"⟩, 10), (⟨"EnclaveWarden", "stop", "(I)I"⟩, 10), (⟨"EnclaveWarden", "destroy", "(I)I"⟩, 10), (⟨"EnclaveWarden", "free", "(I)V"⟩, 10), (⟨"EnclaveWarden", "claim", "(I)I"⟩, 10), (⟨"EnclaveWarden", "giveUp", "(I)I"⟩, 10), (⟨"EnclaveWarden", "step", "()V"⟩, 10), (⟨"EnclaveWarden", "leave", "(III)V"⟩, 10), (⟨"EnclaveWarden", "runningThread", "()LEnclaveWarden$EnclaveThread;"⟩, 10), (⟨"EnclaveWarden", "runnerMayUse", "(I)Z"⟩, 10), (⟨"EnclaveWarden", "enclaveMayUse", "(II)Z"⟩, 10), (⟨"EnclaveWarden", "fault", "(I)V"⟩, 10), (⟨"EnclaveWarden", "obeyCall", "(LEnclaveWarden$Core;I)V"⟩, 10)]
theorem lw_r2 : ∀ q ∈ lw_privs_2, lw_okq q := List.forall_mem_cons.mpr ⟨lw_p16, List.forall_mem_cons.mpr ⟨lw_p17, List.forall_mem_cons.mpr ⟨lw_p18, List.forall_mem_cons.mpr ⟨lw_p19, List.forall_mem_cons.mpr ⟨lw_p20, List.forall_mem_cons.mpr ⟨lw_p21, List.forall_mem_cons.mpr ⟨lw_p22, List.forall_mem_cons.mpr ⟨lw_p23, List.forall_mem_cons.mpr ⟨lw_p24, List.forall_mem_cons.mpr ⟨lw_p25, List.forall_mem_cons.mpr ⟨lw_p26, List.forall_mem_cons.mpr ⟨lw_p27, List.forall_mem_cons.mpr ⟨lw_p28, List.forall_mem_cons.mpr ⟨lw_p29, List.forall_mem_cons.mpr ⟨lw_p30, List.forall_mem_cons.mpr ⟨lw_p31, fun _ h => absurd h List.not_mem_nil⟩⟩⟩⟩⟩⟩⟩⟩⟩⟩⟩⟩⟩⟩⟩⟩
theorem lw_p32 : lw_okq (⟨"EnclaveWarden", "enclaveCall", "(IIII)I"⟩, 10) := ⟨⟨by decide +kernel, by decide +kernel⟩, List.mem_of_getElem? (i := 7) (by decide +kernel), List.mem_of_getElem? (i := 294) (by decide +kernel), List.mem_of_getElem? (i := 295) (by decide +kernel)⟩
theorem lw_p33 : lw_okq (⟨"EnclaveWarden", "macOf", "(II)I"⟩, 10) := ⟨⟨by decide +kernel, by decide +kernel⟩, List.mem_of_getElem? (i := 7) (by decide +kernel), List.mem_of_getElem? (i := 298) (by decide +kernel), List.mem_of_getElem? (i := 299) (by decide +kernel)⟩
theorem lw_p34 : lw_okq (⟨"EnclaveWarden", "obey", "(LEnclaveWarden$Core;I)V"⟩, 10) := ⟨⟨by decide +kernel, by decide +kernel⟩, List.mem_of_getElem? (i := 7) (by decide +kernel), List.mem_of_getElem? (i := 303) (by decide +kernel), List.mem_of_getElem? (i := 304) (by decide +kernel)⟩
theorem lw_p35 : lw_okq (⟨"EnclaveWardenModel", "uses", "(II)Z"⟩, 23) := ⟨⟨by decide +kernel, by decide +kernel⟩, List.mem_of_getElem? (i := 353) (by decide +kernel), List.mem_of_getElem? (i := 434) (by decide +kernel), List.mem_of_getElem? (i := 435) (by decide +kernel)⟩
theorem lw_p36 : lw_okq (⟨"EnclaveWardenModel", "kind", "(I)I"⟩, 23) := ⟨⟨by decide +kernel, by decide +kernel⟩, List.mem_of_getElem? (i := 353) (by decide +kernel), List.mem_of_getElem? (i := 441) (by decide +kernel), List.mem_of_getElem? (i := 442) (by decide +kernel)⟩
theorem lw_p37 : lw_okq (⟨"EnclaveWardenModel", "system", "(IIII)I"⟩, 23) := ⟨⟨by decide +kernel, by decide +kernel⟩, List.mem_of_getElem? (i := 353) (by decide +kernel), List.mem_of_getElem? (i := 477) (by decide +kernel), List.mem_of_getElem? (i := 478) (by decide +kernel)⟩
theorem lw_p38 : lw_okq (⟨"EnclaveWardenModel", "wrongState", "(III)Z"⟩, 23) := ⟨⟨by decide +kernel, by decide +kernel⟩, List.mem_of_getElem? (i := 353) (by decide +kernel), List.mem_of_getElem? (i := 484) (by decide +kernel), List.mem_of_getElem? (i := 485) (by decide +kernel)⟩
theorem lw_p39 : lw_okq (⟨"EnclaveWardenModel", "taken", "(IIII)Z"⟩, 23) := ⟨⟨by decide +kernel, by decide +kernel⟩, List.mem_of_getElem? (i := 353) (by decide +kernel), List.mem_of_getElem? (i := 488) (by decide +kernel), List.mem_of_getElem? (i := 489) (by decide +kernel)⟩
theorem lw_p40 : lw_okq (⟨"EnclaveWardenModel", "full", "(II)Z"⟩, 23) := ⟨⟨by decide +kernel, by decide +kernel⟩, List.mem_of_getElem? (i := 353) (by decide +kernel), List.mem_of_getElem? (i := 492) (by decide +kernel), List.mem_of_getElem? (i := 493) (by decide +kernel)⟩
theorem lw_p41 : lw_okq (⟨"EnclaveWardenModel", "create", "(II)I"⟩, 23) := ⟨⟨by decide +kernel, by decide +kernel⟩, List.mem_of_getElem? (i := 353) (by decide +kernel), List.mem_of_getElem? (i := 496) (by decide +kernel), List.mem_of_getElem? (i := 497) (by decide +kernel)⟩
theorem lw_p42 : lw_okq (⟨"EnclaveWardenModel", "add", "(II)V"⟩, 23) := ⟨⟨by decide +kernel, by decide +kernel⟩, List.mem_of_getElem? (i := 353) (by decide +kernel), List.mem_of_getElem? (i := 500) (by decide +kernel), List.mem_of_getElem? (i := 501) (by decide +kernel)⟩
theorem lw_p43 : lw_okq (⟨"EnclaveWardenModel", "append", "(III)I"⟩, 23) := ⟨⟨by decide +kernel, by decide +kernel⟩, List.mem_of_getElem? (i := 353) (by decide +kernel), List.mem_of_getElem? (i := 508) (by decide +kernel), List.mem_of_getElem? (i := 509) (by decide +kernel)⟩
theorem lw_p44 : lw_okq (⟨"EnclaveWardenModel", "perform", "(IIII)V"⟩, 23) := ⟨⟨by decide +kernel, by decide +kernel⟩, List.mem_of_getElem? (i := 353) (by decide +kernel), List.mem_of_getElem? (i := 512) (by decide +kernel), List.mem_of_getElem? (i := 513) (by decide +kernel)⟩
theorem lw_p45 : lw_okq (⟨"EnclaveWardenModel", "load", "(III)V"⟩, 23) := ⟨⟨by decide +kernel, by decide +kernel⟩, List.mem_of_getElem? (i := 353) (by decide +kernel), List.mem_of_getElem? (i := 516) (by decide +kernel), List.mem_of_getElem? (i := 517) (by decide +kernel)⟩
theorem lw_p46 : lw_okq (⟨"EnclaveWardenModel", "destroy", "(I)V"⟩, 23) := ⟨⟨by decide +kernel, by decide +kernel⟩, List.mem_of_getElem? (i := 353) (by decide +kernel), List.mem_of_getElem? (i := 520) (by decide +kernel), List.mem_of_getElem? (i := 521) (by decide +kernel)⟩
theorem lw_p47 : lw_okq (⟨"EnclaveWardenModel", "wipe", "(I)V"⟩, 23) := ⟨⟨by decide +kernel, by decide +kernel⟩, List.mem_of_getElem? (i := 353) (by decide +kernel), List.mem_of_getElem? (i := 524) (by decide +kernel), List.mem_of_getElem? (i := 525) (by decide +kernel)⟩
def lw_privs_3 : List (MethodName × Nat) := [(⟨"EnclaveWarden", "enclaveCall", "(IIII)I"⟩, 10), (⟨"EnclaveWarden", "macOf", "(II)I"⟩, 10), (⟨"EnclaveWarden", "obey", "(LEnclaveWarden$Core;I)V"⟩, 10), (⟨"EnclaveWardenModel", "uses", "(II)Z"⟩, 23), (⟨"EnclaveWardenModel", "kind", "(I)I"⟩, 23), (⟨"EnclaveWardenModel", "system", "(IIII)I"⟩, 23), (⟨"EnclaveWardenModel", "wrongState", "(III)Z"⟩, 23), (⟨"EnclaveWardenModel", "taken", "(IIII)Z"⟩, 23), (⟨"EnclaveWardenModel", "full", "(II)Z"⟩, 23), (⟨"EnclaveWardenModel", "create", "(II)I"⟩, 23), (⟨"EnclaveWardenModel", "add", "(II)V"⟩, 23), (⟨"EnclaveWardenModel", "append", "(III)I"⟩, 23), (⟨"EnclaveWardenModel", "perform", "(IIII)V"⟩, 23), (⟨"EnclaveWardenModel", "load", "(III)V"⟩, 23), (⟨"EnclaveWardenModel", "destroy", "(I)V"⟩, 23), (⟨"EnclaveWardenModel", "wipe", "(I)V"⟩, 23)]
theorem lw_r3 : ∀ q ∈ lw_privs_3, lw_okq q := List.forall_mem_cons.mpr ⟨lw_p32, List.forall_mem_cons.mpr ⟨lw_p33, List.forall_mem_cons.mpr ⟨lw_p34, List.forall_mem_cons.mpr ⟨lw_p35, List.forall_mem_cons.mpr ⟨lw_p36, List.forall_mem_cons.mpr ⟨lw_p37, List.forall_mem_cons.mpr ⟨lw_p38, List.forall_mem_cons.mpr ⟨lw_p39, List.forall_mem_cons.mpr ⟨lw_p40, List.forall_mem_cons.mpr ⟨lw_p41, List.forall_mem_cons.mpr ⟨lw_p42, List.forall_mem_cons.mpr ⟨lw_p43, List.forall_mem_cons.mpr ⟨lw_p44, List.forall_mem_cons.mpr ⟨lw_p45, List.forall_mem_cons.mpr ⟨lw_p46, List.forall_mem_cons.mpr ⟨lw_p47, fun _ h => absurd h List.not_mem_nil⟩⟩⟩⟩⟩⟩⟩⟩⟩⟩⟩⟩⟩⟩⟩⟩
theorem lw_p48 : lw_okq (⟨"EnclaveWardenModel", "step", "()V"⟩, 23) := ⟨⟨by decide +kernel, by decide +kernel⟩, List.mem_of_getElem? (i := 353) (by decide +kernel), List.mem_of_getElem? (i := 532) (by decide +kernel), List.mem_of_getElem? (i := 533) (by decide +kernel)⟩
theorem lw_p49 : lw_okq (⟨"EnclaveWardenModel", "leave", "(II)V"⟩, 23) := ⟨⟨by decide +kernel, by decide +kernel⟩, List.mem_of_getElem? (i := 353) (by decide +kernel), List.mem_of_getElem? (i := 536) (by decide +kernel), List.mem_of_getElem? (i := 537) (by decide +kernel)⟩
theorem lw_p50 : lw_okq (⟨"EnclaveWardenModel", "fault", "(I)V"⟩, 23) := ⟨⟨by decide +kernel, by decide +kernel⟩, List.mem_of_getElem? (i := 353) (by decide +kernel), List.mem_of_getElem? (i := 540) (by decide +kernel), List.mem_of_getElem? (i := 541) (by decide +kernel)⟩
theorem lw_p51 : lw_okq (⟨"EnclaveWardenModel", "put", "(II)V"⟩, 23) := ⟨⟨by decide +kernel, by decide +kernel⟩, List.mem_of_getElem? (i := 353) (by decide +kernel), List.mem_of_getElem? (i := 544) (by decide +kernel), List.mem_of_getElem? (i := 545) (by decide +kernel)⟩
theorem lw_p52 : lw_okq (⟨"EnclaveWardenModel", "access", "(ZII)V"⟩, 23) := ⟨⟨by decide +kernel, by decide +kernel⟩, List.mem_of_getElem? (i := 353) (by decide +kernel), List.mem_of_getElem? (i := 548) (by decide +kernel), List.mem_of_getElem? (i := 549) (by decide +kernel)⟩
theorem lw_p53 : lw_okq (⟨"EnclaveWardenModel", "ask", "(I)V"⟩, 23) := ⟨⟨by decide +kernel, by decide +kernel⟩, List.mem_of_getElem? (i := 353) (by decide +kernel), List.mem_of_getElem? (i := 552) (by decide +kernel), List.mem_of_getElem? (i := 553) (by decide +kernel)⟩
theorem lw_p54 : lw_okq (⟨"EnclaveWardenModel", "measured", "(I)I"⟩, 23) := ⟨⟨by decide +kernel, by decide +kernel⟩, List.mem_of_getElem? (i := 353) (by decide +kernel), List.mem_of_getElem? (i := 556) (by decide +kernel), List.mem_of_getElem? (i := 557) (by decide +kernel)⟩
theorem lw_p55 : lw_okq (⟨"EnclaveWardenModel", "mac", "(II)I"⟩, 23) := ⟨⟨by decide +kernel, by decide +kernel⟩, List.mem_of_getElem? (i := 353) (by decide +kernel), List.mem_of_getElem? (i := 564) (by decide +kernel), List.mem_of_getElem? (i := 565) (by decide +kernel)⟩
def lw_privs_4 : List (MethodName × Nat) := [(⟨"EnclaveWardenModel", "step", "()V"⟩, 23), (⟨"EnclaveWardenModel", "leave", "(II)V"⟩, 23), (⟨"EnclaveWardenModel", "fault", "(I)V"⟩, 23), (⟨"EnclaveWardenModel", "put", "(II)V"⟩, 23), (⟨"EnclaveWardenModel", "access", "(ZII)V"⟩, 23), (⟨"EnclaveWardenModel", "ask", "(I)V"⟩, 23), (⟨"EnclaveWardenModel", "measured", "(I)I"⟩, 23), (⟨"EnclaveWardenModel", "mac", "(II)I"⟩, 23)]
theorem lw_r4 : ∀ q ∈ lw_privs_4, lw_okq q := List.forall_mem_cons.mpr ⟨lw_p48, List.forall_mem_cons.mpr ⟨lw_p49, List.forall_mem_cons.mpr ⟨lw_p50, List.forall_mem_cons.mpr ⟨lw_p51, List.forall_mem_cons.mpr ⟨lw_p52, List.forall_mem_cons.mpr ⟨lw_p53, List.forall_mem_cons.mpr ⟨lw_p54, List.forall_mem_cons.mpr ⟨lw_p55, fun _ h => absurd h List.not_mem_nil⟩⟩⟩⟩⟩⟩⟩⟩
def lw_privs : List (MethodName × Nat) := lw_privs_1 ++ (lw_privs_2 ++ (lw_privs_3 ++ (lw_privs_4)))
def lw_tbl : List Cond := k2_sels lw_privs ++ tables_1
theorem lw_privs_ok : ∀ q ∈ lw_privs, lw_okq q := by
  show ∀ q ∈ lw_privs_1 ++ (lw_privs_2 ++ (lw_privs_3 ++ (lw_privs_4))), lw_okq q
  exact List.forall_mem_append.mpr ⟨lw_r1, List.forall_mem_append.mpr ⟨lw_r2, List.forall_mem_append.mpr ⟨lw_r3, lw_r4⟩⟩⟩
abbrev R_W : String := "EnclaveWarden"
def T_W : u_T := fun k => match k with
  | 0 => ("EnclaveWarden", "secret", "I", true)
  | 1 => ("EnclaveWarden", "memory", "[I", true)
  | 2 => ("EnclaveWarden", "kinds", "[I", true)
  | 3 => ("EnclaveWarden", "enclaves", "[LEnclaveWarden$Enclave;", true)
  | 4 => ("EnclaveWarden", "system", "LEnclaveWarden$Core;", true)
  | 5 => ("EnclaveWarden", "exits", "[I", true)
  | 6 => ("EnclaveWarden", "halted", "Z", false)
  | 7 => ("EnclaveWarden", "running", "I", false)
  | 8 => ("EnclaveWarden", "period", "I", false)
  | _ => ("EnclaveWarden", "tick", "I", false)
def ty_W : Nat → FieldType := fun k => match k with
  | 0 => .int
  | 1 => .array .int
  | 2 => .array .int
  | 3 => .array (.object "EnclaveWarden$Enclave")
  | 4 => .object "EnclaveWarden$Core"
  | 5 => .array .int
  | 6 => .boolean
  | 7 => .int
  | 8 => .int
  | _ => .int
theorem nm_W : ∀ a, a < 10 → ∀ b, b < 10 → a ≠ b → (T_W a).2.1 ≠ (T_W b).2.1 := by decide +kernel
theorem tyok_W : ∀ k, k < 10 → parseFieldDescriptor (T_W k).2.2.1 = some (ty_W k) := by decide +kernel
abbrev R_V : String := "EnclaveWarden$Enclave"
def T_V : u_T := fun k => match k with
  | 0 => ("EnclaveWarden$Enclave", "threads", "[LEnclaveWarden$EnclaveThread;", true)
  | 1 => ("EnclaveWarden$Enclave", "state", "I", false)
  | 2 => ("EnclaveWarden$Enclave", "measure", "I", false)
  | _ => ("EnclaveWarden$Enclave", "loads", "I", false)
def ty_V : Nat → FieldType := fun k => match k with
  | 0 => .array (.object "EnclaveWarden$EnclaveThread")
  | 1 => .int
  | 2 => .int
  | _ => .int
theorem nm_V : ∀ a, a < 4 → ∀ b, b < 4 → a ≠ b → (T_V a).2.1 ≠ (T_V b).2.1 := by decide +kernel
theorem tyok_V : ∀ k, k < 4 → parseFieldDescriptor (T_V k).2.2.1 = some (ty_V k) := by decide +kernel
abbrev R_T : String := "EnclaveWarden$EnclaveThread"
def T_T : u_T := fun k => match k with
  | 0 => ("EnclaveWarden$EnclaveThread", "core", "LEnclaveWarden$Core;", true)
  | 1 => ("EnclaveWarden$EnclaveThread", "state", "I", false)
  | _ => ("EnclaveWarden$EnclaveThread", "entry", "I", false)
def ty_T : Nat → FieldType := fun k => match k with
  | 0 => .object "EnclaveWarden$Core"
  | 1 => .int
  | _ => .int
theorem nm_T : ∀ a, a < 3 → ∀ b, b < 3 → a ≠ b → (T_T a).2.1 ≠ (T_T b).2.1 := by decide +kernel
theorem tyok_T : ∀ k, k < 3 → parseFieldDescriptor (T_T k).2.2.1 = some (ty_T k) := by decide +kernel
abbrev R_C : String := "EnclaveWarden$Core"
def T_C : u_T := fun k => match k with
  | 0 => ("EnclaveWarden$Core", "registers", "[I", true)
  | _ => ("EnclaveWarden$Core", "pc", "I", false)
def ty_C : Nat → FieldType := fun k => match k with
  | 0 => .array .int
  | _ => .int
theorem nm_C : ∀ a, a < 2 → ∀ b, b < 2 → a ≠ b → (T_C a).2.1 ≠ (T_C b).2.1 := by decide +kernel
theorem tyok_C : ∀ k, k < 2 → parseFieldDescriptor (T_C k).2.2.1 = some (ty_C k) := by decide +kernel
abbrev R_M : String := "EnclaveWardenModel"
def T_M : u_T := fun k => match k with
  | 0 => ("EnclaveWardenModel", "secret", "I", false)
  | 1 => ("EnclaveWardenModel", "memory", "[I", false)
  | 2 => ("EnclaveWardenModel", "own", "[Z", false)
  | 3 => ("EnclaveWardenModel", "partner", "[I", false)
  | 4 => ("EnclaveWardenModel", "stateOf", "[I", false)
  | 5 => ("EnclaveWardenModel", "from", "[I", false)
  | 6 => ("EnclaveWardenModel", "size", "[I", false)
  | 7 => ("EnclaveWardenModel", "loads", "[I", false)
  | 8 => ("EnclaveWardenModel", "added", "[I", false)
  | 9 => ("EnclaveWardenModel", "count", "[I", false)
  | 10 => ("EnclaveWardenModel", "phase", "[I", false)
  | 11 => ("EnclaveWardenModel", "entry", "[I", false)
  | 12 => ("EnclaveWardenModel", "reg", "[I", false)
  | 13 => ("EnclaveWardenModel", "place", "[I", false)
  | 14 => ("EnclaveWardenModel", "who", "I", false)
  | 15 => ("EnclaveWardenModel", "stopped", "Z", false)
  | 16 => ("EnclaveWardenModel", "rhythm", "I", false)
  | 17 => ("EnclaveWardenModel", "ticks", "I", false)
  | 18 => ("EnclaveWardenModel", "exits", "I", false)
  | 19 => ("EnclaveWardenModel", "exitEnclave", "I", false)
  | 20 => ("EnclaveWardenModel", "exitKind", "I", false)
  | 21 => ("EnclaveWardenModel", "exitValue", "I", false)
  | _ => ("EnclaveWardenModel", "exitTick", "I", false)
def ty_M : Nat → FieldType := fun k => match k with
  | 0 => .int
  | 1 => .array .int
  | 2 => .array .boolean
  | 3 => .array .int
  | 4 => .array .int
  | 5 => .array .int
  | 6 => .array .int
  | 7 => .array .int
  | 8 => .array .int
  | 9 => .array .int
  | 10 => .array .int
  | 11 => .array .int
  | 12 => .array .int
  | 13 => .array .int
  | 14 => .int
  | 15 => .boolean
  | 16 => .int
  | 17 => .int
  | 18 => .int
  | 19 => .int
  | 20 => .int
  | 21 => .int
  | _ => .int
theorem nm_M : ∀ a, a < 23 → ∀ b, b < 23 → a ≠ b → (T_M a).2.1 ≠ (T_M b).2.1 := by decide +kernel
theorem tyok_M : ∀ k, k < 23 → parseFieldDescriptor (T_M k).2.2.1 = some (ty_M k) := by decide +kernel
abbrev vwCl : List vw_C := [(R_W, T_W, 10), (R_V, T_V, 4), (R_T, T_T, 3), (R_C, T_C, 2), (R_M, T_M, 23)]
def WS : List Cond := lw_tbl.filter goodWord
theorem ws_good {w : Cond} (h : w ∈ WS) : (w.onTables && w.keeps) = true ∨ ∃ ty, w = .arrayClass ty := good_of_word (List.mem_filter.mp h).2
theorem ws_tbl {w : Cond} (h : w ∈ tables_1) (hg : goodWord w = true) : w ∈ WS := List.mem_filter.mpr ⟨List.mem_append_right _ h, hg⟩
theorem ws_sel {w : Cond} (h : w ∈ k2_sels lw_privs) (hg : goodWord w = true) : w ∈ WS := List.mem_filter.mpr ⟨List.mem_append_left _ h, hg⟩
theorem gwB {c0 cy : Cond} (h : cy ∈ WS) : GoodIn (c0 :: WS) (cy :: WS) := fun w hw => by
  have h2 : w ∈ WS := by
    rcases List.mem_cons.mp hw with rfl | q
    · exact h
    · exact q
  exact ⟨List.mem_cons_of_mem _ h2, ws_good h2⟩
theorem gwV {c0 cy : Cond} {own C : String} {idx : Nat} {y : MethodName} (h1 : Cond.methodLink own idx y ∈ WS) (h2 : Cond.instanceMethod y ∈ WS) (h3 : Cond.selects C y y ∈ WS) (h4 : Cond.initialized C ∈ WS) (h5 : cy ∈ WS) : GoodIn (c0 :: WS) (wsV own idx C y (cy :: WS)) := fun w hw => by
  have hm : w ∈ WS := by
    unfold wsV at hw
    rcases List.mem_append.mp hw with q | q
    · simp only [List.mem_cons, List.not_mem_nil, or_false] at q
      rcases q with rfl | rfl | rfl | rfl
      · exact h1
      · exact h2
      · exact h3
      · exact h4
    · rcases List.mem_cons.mp q with rfl | q
      · exact h5
      · exact q
  exact ⟨List.mem_cons_of_mem _ hm, ws_good hm⟩
theorem gwS {c0 cy : Cond} {own : String} {idx : Nat} {y : MethodName} (h1 : Cond.methodLink own idx y ∈ WS) (h2 : Cond.static y ∈ WS) (h4 : Cond.initialized own ∈ WS) (h5 : cy ∈ WS) : GoodIn (c0 :: WS) (wsS own idx y (cy :: WS)) := fun w hw => by
  have hm : w ∈ WS := by
    unfold wsS at hw
    rcases List.mem_append.mp hw with q | q
    · simp only [List.mem_cons, List.not_mem_nil, or_false] at q
      rcases q with rfl | rfl | rfl
      · exact h1
      · exact h2
      · exact h4
    · rcases List.mem_cons.mp q with rfl | q
      · exact h5
      · exact q
  exact ⟨List.mem_cons_of_mem _ hm, ws_good hm⟩
abbrev y_W_isAddress : MethodName := ⟨"EnclaveWarden", "isAddress", "(I)Z"⟩
abbrev rm_W_isAddress : Room := { frames := 0, cells := 0, slots := 0, locals := 0 }
abbrev y_W_systemMayUse : MethodName := ⟨"EnclaveWarden", "systemMayUse", "(I)Z"⟩
abbrev rm_W_systemMayUse : Room := { frames := 1, cells := 0, slots := 0, locals := 20 }
abbrev y_W_poke : MethodName := ⟨"EnclaveWarden", "poke", "(II)Z"⟩
abbrev rm_W_poke : Room := { frames := 2, cells := 0, slots := 0, locals := 42 }
abbrev y_W_peek : MethodName := ⟨"EnclaveWarden", "peek", "(I)I"⟩
abbrev rm_W_peek : Room := { frames := 2, cells := 0, slots := 0, locals := 42 }
abbrev y_W_bare : MethodName := ⟨"EnclaveWarden", "bare", "(I)I"⟩
abbrev rm_W_bare : Room := { frames := 1, cells := 0, slots := 0, locals := 20 }
abbrev y_C_put : MethodName := ⟨"EnclaveWarden$Core", "put", "(II)V"⟩
abbrev rm_C_put : Room := { frames := 0, cells := 0, slots := 0, locals := 0 }
abbrev y_W_give : MethodName := ⟨"EnclaveWarden", "give", "(II)Z"⟩
abbrev rm_W_give : Room := { frames := 1, cells := 0, slots := 0, locals := 22 }
abbrev y_C_get : MethodName := ⟨"EnclaveWarden$Core", "get", "(I)I"⟩
abbrev rm_C_get : Room := { frames := 0, cells := 0, slots := 0, locals := 0 }
abbrev y_W_register : MethodName := ⟨"EnclaveWarden", "register", "(I)I"⟩
abbrev rm_W_register : Room := { frames := 1, cells := 0, slots := 0, locals := 21 }
abbrev y_W_pc : MethodName := ⟨"EnclaveWarden", "pc", "()I"⟩
abbrev rm_W_pc : Room := { frames := 0, cells := 0, slots := 0, locals := 0 }
abbrev y_W_boot : MethodName := ⟨"EnclaveWarden", "boot", "(I)Z"⟩
abbrev rm_W_boot : Room := { frames := 0, cells := 0, slots := 0, locals := 0 }
abbrev y_W_halted : MethodName := ⟨"EnclaveWarden", "halted", "()Z"⟩
abbrev rm_W_halted : Room := { frames := 0, cells := 0, slots := 0, locals := 0 }
abbrev y_W_isRegion : MethodName := ⟨"EnclaveWarden", "isRegion", "(I)Z"⟩
abbrev rm_W_isRegion : Room := { frames := 0, cells := 0, slots := 0, locals := 0 }
abbrev y_W_allFree : MethodName := ⟨"EnclaveWarden", "allFree", "(II)Z"⟩
abbrev rm_W_allFree : Room := { frames := 0, cells := 0, slots := 0, locals := 0 }
abbrev y_W_leastAbsent : MethodName := ⟨"EnclaveWarden", "leastAbsent", "()I"⟩
abbrev rm_W_leastAbsent : Room := { frames := 0, cells := 0, slots := 0, locals := 0 }
abbrev y_V_become : MethodName := ⟨"EnclaveWarden$Enclave", "become", "(I)V"⟩
abbrev rm_V_become : Room := { frames := 0, cells := 0, slots := 0, locals := 0 }
abbrev y_W_mix : MethodName := ⟨"EnclaveWarden", "mix", "(II)I"⟩
abbrev rm_W_mix : Room := { frames := 0, cells := 0, slots := 0, locals := 0 }
abbrev y_V_add : MethodName := ⟨"EnclaveWarden$Enclave", "add", "(I)V"⟩
abbrev rm_V_add : Room := { frames := 1, cells := 0, slots := 0, locals := 22 }
abbrev y_W_create : MethodName := ⟨"EnclaveWarden", "create", "(II)I"⟩
abbrev rm_W_create : Room := { frames := 2, cells := 0, slots := 0, locals := 43 }
abbrev y_W_isEnclave : MethodName := ⟨"EnclaveWarden", "isEnclave", "(I)Z"⟩
abbrev rm_W_isEnclave : Room := { frames := 0, cells := 0, slots := 0, locals := 0 }
abbrev y_W_load : MethodName := ⟨"EnclaveWarden", "load", "(III)I"⟩
abbrev rm_W_load : Room := { frames := 2, cells := 0, slots := 0, locals := 43 }
abbrev y_V_threadCount : MethodName := ⟨"EnclaveWarden$Enclave", "threadCount", "()I"⟩
abbrev rm_V_threadCount : Room := { frames := 0, cells := 0, slots := 0, locals := 0 }
abbrev y_W_addThread : MethodName := ⟨"EnclaveWarden", "addThread", "(II)I"⟩
abbrev rm_W_addThread : Room := { frames := 2, cells := 0, slots := 0, locals := 43 }
abbrev y_W_seal : MethodName := ⟨"EnclaveWarden", "seal", "(I)I"⟩
abbrev rm_W_seal : Room := { frames := 2, cells := 0, slots := 0, locals := 43 }
abbrev y_W_sharedWith : MethodName := ⟨"EnclaveWarden", "sharedWith", "(I)I"⟩
abbrev rm_W_sharedWith : Room := { frames := 0, cells := 0, slots := 0, locals := 0 }
abbrev y_W_share : MethodName := ⟨"EnclaveWarden", "share", "(II)I"⟩
abbrev rm_W_share : Room := { frames := 1, cells := 0, slots := 0, locals := 23 }
abbrev y_W_isThread : MethodName := ⟨"EnclaveWarden", "isThread", "(I)Z"⟩
abbrev rm_W_isThread : Room := { frames := 0, cells := 0, slots := 0, locals := 0 }
abbrev y_W_refusalToStart : MethodName := ⟨"EnclaveWarden", "refusalToStart", "(III)I"⟩
abbrev rm_W_refusalToStart : Room := { frames := 1, cells := 0, slots := 0, locals := 20 }
abbrev y_C_start : MethodName := ⟨"EnclaveWarden$Core", "start", "(II)V"⟩
abbrev rm_C_start : Room := { frames := 1, cells := 0, slots := 0, locals := 22 }
abbrev y_W_handOver : MethodName := ⟨"EnclaveWarden", "handOver", "(II)V"⟩
abbrev rm_W_handOver : Room := { frames := 0, cells := 0, slots := 0, locals := 0 }
abbrev y_W_enter : MethodName := ⟨"EnclaveWarden", "enter", "(III)I"⟩
abbrev rm_W_enter : Room := { frames := 2, cells := 0, slots := 0, locals := 45 }
abbrev y_W_resume : MethodName := ⟨"EnclaveWarden", "resume", "(II)I"⟩
abbrev rm_W_resume : Room := { frames := 2, cells := 0, slots := 0, locals := 44 }
abbrev y_W_stop : MethodName := ⟨"EnclaveWarden", "stop", "(I)I"⟩
abbrev rm_W_stop : Room := { frames := 1, cells := 0, slots := 0, locals := 20 }
abbrev y_W_free : MethodName := ⟨"EnclaveWarden", "free", "(I)V"⟩
abbrev rm_W_free : Room := { frames := 0, cells := 0, slots := 0, locals := 0 }
abbrev y_W_destroy : MethodName := ⟨"EnclaveWarden", "destroy", "(I)I"⟩
abbrev rm_W_destroy : Room := { frames := 1, cells := 0, slots := 0, locals := 22 }
abbrev y_W_claim : MethodName := ⟨"EnclaveWarden", "claim", "(I)I"⟩
abbrev rm_W_claim : Room := { frames := 1, cells := 0, slots := 0, locals := 20 }
abbrev y_W_giveUp : MethodName := ⟨"EnclaveWarden", "giveUp", "(I)I"⟩
abbrev rm_W_giveUp : Room := { frames := 1, cells := 0, slots := 0, locals := 22 }
abbrev y_W_systemCall : MethodName := ⟨"EnclaveWarden", "systemCall", "(IIII)I"⟩
abbrev rm_W_systemCall : Room := { frames := 3, cells := 0, slots := 0, locals := 70 }
abbrev y_W_call : MethodName := ⟨"EnclaveWarden", "call", "(IIII)I"⟩
abbrev rm_W_call : Room := { frames := 4, cells := 0, slots := 0, locals := 94 }
abbrev y_W_runningThread : MethodName := ⟨"EnclaveWarden", "runningThread", "()LEnclaveWarden$EnclaveThread;"⟩
abbrev rm_W_runningThread : Room := { frames := 0, cells := 0, slots := 0, locals := 0 }
abbrev y_W_leave : MethodName := ⟨"EnclaveWarden", "leave", "(III)V"⟩
abbrev rm_W_leave : Room := { frames := 1, cells := 0, slots := 0, locals := 22 }
abbrev y_W_enclaveMayUse : MethodName := ⟨"EnclaveWarden", "enclaveMayUse", "(II)Z"⟩
abbrev rm_W_enclaveMayUse : Room := { frames := 1, cells := 0, slots := 0, locals := 20 }
abbrev y_W_runnerMayUse : MethodName := ⟨"EnclaveWarden", "runnerMayUse", "(I)Z"⟩
abbrev rm_W_runnerMayUse : Room := { frames := 2, cells := 0, slots := 0, locals := 43 }
abbrev y_W_fault : MethodName := ⟨"EnclaveWarden", "fault", "(I)V"⟩
abbrev rm_W_fault : Room := { frames := 2, cells := 0, slots := 0, locals := 45 }
abbrev y_W_macOf : MethodName := ⟨"EnclaveWarden", "macOf", "(II)I"⟩
abbrev rm_W_macOf : Room := { frames := 1, cells := 0, slots := 0, locals := 22 }
abbrev y_W_enclaveCall : MethodName := ⟨"EnclaveWarden", "enclaveCall", "(IIII)I"⟩
abbrev rm_W_enclaveCall : Room := { frames := 2, cells := 0, slots := 0, locals := 45 }
abbrev y_W_obeyCall : MethodName := ⟨"EnclaveWarden", "obeyCall", "(LEnclaveWarden$Core;I)V"⟩
abbrev rm_W_obeyCall : Room := { frames := 4, cells := 0, slots := 0, locals := 94 }
abbrev y_W_branch : MethodName := ⟨"EnclaveWarden", "branch", "(LEnclaveWarden$Core;ZI)V"⟩
abbrev rm_W_branch : Room := { frames := 0, cells := 0, slots := 0, locals := 0 }
abbrev y_W_obey : MethodName := ⟨"EnclaveWarden", "obey", "(LEnclaveWarden$Core;I)V"⟩
abbrev rm_W_obey : Room := { frames := 3, cells := 0, slots := 0, locals := 66 }
abbrev y_W_step : MethodName := ⟨"EnclaveWarden", "step", "()V"⟩
abbrev rm_W_step : Room := { frames := 5, cells := 0, slots := 0, locals := 121 }
abbrev y_W_run : MethodName := ⟨"EnclaveWarden", "run", "(I)I"⟩
abbrev rm_W_run : Room := { frames := 6, cells := 0, slots := 0, locals := 143 }
abbrev y_W_period : MethodName := ⟨"EnclaveWarden", "period", "(I)V"⟩
abbrev rm_W_period : Room := { frames := 0, cells := 0, slots := 0, locals := 0 }
abbrev y_W_tick : MethodName := ⟨"EnclaveWarden", "tick", "()I"⟩
abbrev rm_W_tick : Room := { frames := 0, cells := 0, slots := 0, locals := 0 }
abbrev y_W_running : MethodName := ⟨"EnclaveWarden", "running", "()I"⟩
abbrev rm_W_running : Room := { frames := 0, cells := 0, slots := 0, locals := 0 }
abbrev y_W_region : MethodName := ⟨"EnclaveWarden", "region", "(I)I"⟩
abbrev rm_W_region : Room := { frames := 1, cells := 0, slots := 0, locals := 20 }
abbrev y_W_enclave : MethodName := ⟨"EnclaveWarden", "enclave", "(I)I"⟩
abbrev rm_W_enclave : Room := { frames := 1, cells := 0, slots := 0, locals := 20 }
abbrev y_W_thread : MethodName := ⟨"EnclaveWarden", "thread", "(II)I"⟩
abbrev rm_W_thread : Room := { frames := 1, cells := 0, slots := 0, locals := 20 }
abbrev y_W_kept : MethodName := ⟨"EnclaveWarden", "kept", "(III)I"⟩
abbrev rm_W_kept : Room := { frames := 1, cells := 0, slots := 0, locals := 21 }
abbrev y_W_measure : MethodName := ⟨"EnclaveWarden", "measure", "(I)I"⟩
abbrev rm_W_measure : Room := { frames := 1, cells := 0, slots := 0, locals := 20 }
abbrev y_W_vouch : MethodName := ⟨"EnclaveWarden", "vouch", "(III)Z"⟩
abbrev rm_W_vouch : Room := { frames := 2, cells := 0, slots := 0, locals := 44 }
abbrev y_W_exit : MethodName := ⟨"EnclaveWarden", "exit", "(I)I"⟩
abbrev rm_W_exit : Room := { frames := 0, cells := 0, slots := 0, locals := 0 }
abbrev y_M_outside : MethodName := ⟨"EnclaveWardenModel", "outside", "(II)Z"⟩
abbrev rm_M_outside : Room := { frames := 0, cells := 0, slots := 0, locals := 0 }
abbrev y_M_kind : MethodName := ⟨"EnclaveWardenModel", "kind", "(I)I"⟩
abbrev rm_M_kind : Room := { frames := 0, cells := 0, slots := 0, locals := 0 }
abbrev y_M_uses : MethodName := ⟨"EnclaveWardenModel", "uses", "(II)Z"⟩
abbrev rm_M_uses : Room := { frames := 1, cells := 0, slots := 0, locals := 22 }
abbrev y_M_mix : MethodName := ⟨"EnclaveWardenModel", "mix", "(II)I"⟩
abbrev rm_M_mix : Room := { frames := 0, cells := 0, slots := 0, locals := 0 }
abbrev y_M_mac : MethodName := ⟨"EnclaveWardenModel", "mac", "(II)I"⟩
abbrev rm_M_mac : Room := { frames := 1, cells := 0, slots := 0, locals := 22 }
abbrev y_M_add : MethodName := ⟨"EnclaveWardenModel", "add", "(II)V"⟩
abbrev rm_M_add : Room := { frames := 0, cells := 0, slots := 0, locals := 0 }
abbrev y_M_measured : MethodName := ⟨"EnclaveWardenModel", "measured", "(I)I"⟩
abbrev rm_M_measured : Room := { frames := 1, cells := 0, slots := 0, locals := 22 }
abbrev y_M_bad : MethodName := ⟨"EnclaveWardenModel", "bad", "(IIII)Z"⟩
abbrev rm_M_bad : Room := { frames := 1, cells := 0, slots := 0, locals := 21 }
abbrev y_M_wrongState : MethodName := ⟨"EnclaveWardenModel", "wrongState", "(III)Z"⟩
abbrev rm_M_wrongState : Room := { frames := 0, cells := 0, slots := 0, locals := 0 }
abbrev y_M_taken : MethodName := ⟨"EnclaveWardenModel", "taken", "(IIII)Z"⟩
abbrev rm_M_taken : Room := { frames := 1, cells := 0, slots := 0, locals := 22 }
abbrev y_M_full : MethodName := ⟨"EnclaveWardenModel", "full", "(II)Z"⟩
abbrev rm_M_full : Room := { frames := 1, cells := 0, slots := 0, locals := 22 }
abbrev y_M_create : MethodName := ⟨"EnclaveWardenModel", "create", "(II)I"⟩
abbrev rm_M_create : Room := { frames := 1, cells := 0, slots := 0, locals := 22 }
abbrev y_M_thread : MethodName := ⟨"EnclaveWardenModel", "thread", "(II)I"⟩
abbrev rm_M_thread : Room := { frames := 1, cells := 0, slots := 0, locals := 21 }
abbrev y_M_append : MethodName := ⟨"EnclaveWardenModel", "append", "(III)I"⟩
abbrev rm_M_append : Room := { frames := 1, cells := 0, slots := 0, locals := 22 }
abbrev y_M_load : MethodName := ⟨"EnclaveWardenModel", "load", "(III)V"⟩
abbrev rm_M_load : Room := { frames := 1, cells := 0, slots := 0, locals := 22 }
abbrev y_M_wipe : MethodName := ⟨"EnclaveWardenModel", "wipe", "(I)V"⟩
abbrev rm_M_wipe : Room := { frames := 0, cells := 0, slots := 0, locals := 0 }
abbrev y_M_destroy : MethodName := ⟨"EnclaveWardenModel", "destroy", "(I)V"⟩
abbrev rm_M_destroy : Room := { frames := 1, cells := 0, slots := 0, locals := 22 }
abbrev y_M_perform : MethodName := ⟨"EnclaveWardenModel", "perform", "(IIII)V"⟩
abbrev rm_M_perform : Room := { frames := 2, cells := 0, slots := 0, locals := 46 }
abbrev y_M_system : MethodName := ⟨"EnclaveWardenModel", "system", "(IIII)I"⟩
abbrev rm_M_system : Room := { frames := 3, cells := 0, slots := 0, locals := 71 }
abbrev y_M_leave : MethodName := ⟨"EnclaveWardenModel", "leave", "(II)V"⟩
abbrev rm_M_leave : Room := { frames := 0, cells := 0, slots := 0, locals := 0 }
abbrev y_M_fault : MethodName := ⟨"EnclaveWardenModel", "fault", "(I)V"⟩
abbrev rm_M_fault : Room := { frames := 1, cells := 0, slots := 0, locals := 22 }
abbrev y_M_put : MethodName := ⟨"EnclaveWardenModel", "put", "(II)V"⟩
abbrev rm_M_put : Room := { frames := 0, cells := 0, slots := 0, locals := 0 }
abbrev y_M_access : MethodName := ⟨"EnclaveWardenModel", "access", "(ZII)V"⟩
abbrev rm_M_access : Room := { frames := 2, cells := 0, slots := 0, locals := 45 }
abbrev y_M_ask : MethodName := ⟨"EnclaveWardenModel", "ask", "(I)V"⟩
abbrev rm_M_ask : Room := { frames := 4, cells := 0, slots := 0, locals := 95 }
abbrev y_M_step : MethodName := ⟨"EnclaveWardenModel", "step", "()V"⟩
abbrev rm_M_step : Room := { frames := 5, cells := 0, slots := 0, locals := 120 }
abbrev y_M_poke : MethodName := ⟨"EnclaveWardenModel", "poke", "(II)Z"⟩
abbrev rm_M_poke : Room := { frames := 2, cells := 0, slots := 0, locals := 45 }
abbrev y_M_peek : MethodName := ⟨"EnclaveWardenModel", "peek", "(I)I"⟩
abbrev rm_M_peek : Room := { frames := 2, cells := 0, slots := 0, locals := 45 }
abbrev y_M_bare : MethodName := ⟨"EnclaveWardenModel", "bare", "(I)I"⟩
abbrev rm_M_bare : Room := { frames := 1, cells := 0, slots := 0, locals := 21 }
abbrev y_M_give : MethodName := ⟨"EnclaveWardenModel", "give", "(II)Z"⟩
abbrev rm_M_give : Room := { frames := 0, cells := 0, slots := 0, locals := 0 }
abbrev y_M_register : MethodName := ⟨"EnclaveWardenModel", "register", "(I)I"⟩
abbrev rm_M_register : Room := { frames := 1, cells := 0, slots := 0, locals := 21 }
abbrev y_M_pc : MethodName := ⟨"EnclaveWardenModel", "pc", "()I"⟩
abbrev rm_M_pc : Room := { frames := 0, cells := 0, slots := 0, locals := 0 }
abbrev y_M_boot : MethodName := ⟨"EnclaveWardenModel", "boot", "(I)Z"⟩
abbrev rm_M_boot : Room := { frames := 0, cells := 0, slots := 0, locals := 0 }
abbrev y_M_halted : MethodName := ⟨"EnclaveWardenModel", "halted", "()Z"⟩
abbrev rm_M_halted : Room := { frames := 0, cells := 0, slots := 0, locals := 0 }
abbrev y_M_call : MethodName := ⟨"EnclaveWardenModel", "call", "(IIII)I"⟩
abbrev rm_M_call : Room := { frames := 4, cells := 0, slots := 0, locals := 95 }
abbrev y_M_run : MethodName := ⟨"EnclaveWardenModel", "run", "(I)I"⟩
abbrev rm_M_run : Room := { frames := 6, cells := 0, slots := 0, locals := 150 }
abbrev y_M_period : MethodName := ⟨"EnclaveWardenModel", "period", "(I)V"⟩
abbrev rm_M_period : Room := { frames := 0, cells := 0, slots := 0, locals := 0 }
abbrev y_M_tick : MethodName := ⟨"EnclaveWardenModel", "tick", "()I"⟩
abbrev rm_M_tick : Room := { frames := 0, cells := 0, slots := 0, locals := 0 }
abbrev y_M_running : MethodName := ⟨"EnclaveWardenModel", "running", "()I"⟩
abbrev rm_M_running : Room := { frames := 0, cells := 0, slots := 0, locals := 0 }
abbrev y_M_region : MethodName := ⟨"EnclaveWardenModel", "region", "(I)I"⟩
abbrev rm_M_region : Room := { frames := 1, cells := 0, slots := 0, locals := 22 }
abbrev y_M_enclave : MethodName := ⟨"EnclaveWardenModel", "enclave", "(I)I"⟩
abbrev rm_M_enclave : Room := { frames := 1, cells := 0, slots := 0, locals := 21 }
abbrev y_M_kept : MethodName := ⟨"EnclaveWardenModel", "kept", "(III)I"⟩
abbrev rm_M_kept : Room := { frames := 2, cells := 0, slots := 0, locals := 43 }
abbrev y_M_measure : MethodName := ⟨"EnclaveWardenModel", "measure", "(I)I"⟩
abbrev rm_M_measure : Room := { frames := 2, cells := 0, slots := 0, locals := 45 }
abbrev y_M_vouch : MethodName := ⟨"EnclaveWardenModel", "vouch", "(III)Z"⟩
abbrev rm_M_vouch : Room := { frames := 2, cells := 0, slots := 0, locals := 45 }
abbrev y_M_exit : MethodName := ⟨"EnclaveWardenModel", "exit", "(I)I"⟩
abbrev rm_M_exit : Room := { frames := 0, cells := 0, slots := 0, locals := 0 }
def nwE : List Cond := [Cond.methodLinkNest "EnclaveWarden" 26 ⟨"EnclaveWarden$Enclave", "<init>", "()V"⟩ "EnclaveWarden",
  Cond.methodLinkNest "EnclaveWarden$Enclave" 17 ⟨"EnclaveWarden$EnclaveThread", "<init>", "()V"⟩ "EnclaveWarden",
  Cond.methodLinkNest "EnclaveWarden$EnclaveThread" 11 ⟨"EnclaveWarden$Core", "<init>", "()V"⟩ "EnclaveWarden",
  Cond.fieldLinkNest "EnclaveWarden" 65 "EnclaveWarden$Core" "pc" "I" "EnclaveWarden",
  Cond.fieldLinkNest "EnclaveWarden" 94 "EnclaveWarden$EnclaveThread" "core" "LEnclaveWarden$Core;" "EnclaveWarden",
  Cond.fieldLinkNest "EnclaveWarden$Enclave" 32 "EnclaveWarden$EnclaveThread" "state" "I" "EnclaveWarden",
  Cond.fieldLinkNest "EnclaveWarden" 91 "EnclaveWarden$EnclaveThread" "state" "I" "EnclaveWarden",
  Cond.fieldLinkNest "EnclaveWarden" 194 "EnclaveWarden$EnclaveThread" "entry" "I" "EnclaveWarden",
  Cond.fieldLinkNest "EnclaveWarden" 87 "EnclaveWarden$Enclave" "threads" "[LEnclaveWarden$EnclaveThread;" "EnclaveWarden",
  Cond.fieldLinkNest "EnclaveWarden" 81 "EnclaveWarden$Enclave" "state" "I" "EnclaveWarden",
  Cond.fieldLinkNest "EnclaveWarden" 97 "EnclaveWarden$Enclave" "measure" "I" "EnclaveWarden",
  Cond.fieldLinkNest "EnclaveWarden" 188 "EnclaveWarden$Enclave" "loads" "I" "EnclaveWarden",
  Cond.methodLinkNest "EnclaveWarden" 29 ⟨"EnclaveWarden$Core", "<init>", "()V"⟩ "EnclaveWarden",
  Cond.methodLinkNest "EnclaveWarden" 57 ⟨"EnclaveWarden$Core", "put", "(II)V"⟩ "EnclaveWarden",
  Cond.methodLinkNest "EnclaveWarden" 61 ⟨"EnclaveWarden$Core", "get", "(I)I"⟩ "EnclaveWarden",
  Cond.methodLinkNest "EnclaveWarden" 182 ⟨"EnclaveWarden$Enclave", "become", "(I)V"⟩ "EnclaveWarden",
  Cond.methodLinkNest "EnclaveWarden" 185 ⟨"EnclaveWarden$Enclave", "add", "(I)V"⟩ "EnclaveWarden",
  Cond.methodLinkNest "EnclaveWarden$Enclave" 33 ⟨"EnclaveWarden", "mix", "(II)I"⟩ "EnclaveWarden",
  Cond.methodLinkNest "EnclaveWarden" 191 ⟨"EnclaveWarden$Enclave", "threadCount", "()I"⟩ "EnclaveWarden",
  Cond.methodLinkNest "EnclaveWarden" 203 ⟨"EnclaveWarden$Core", "start", "(II)V"⟩ "EnclaveWarden"]
theorem nwOk_E : nwOk nwE = true := rfl
theorem nwOk_M : nwOk ([] : List Cond) = true := rfl
theorem nw_0 : Cond.methodLinkNest "EnclaveWarden" 26 ⟨"EnclaveWarden$Enclave", "<init>", "()V"⟩ "EnclaveWarden" ∈ nwE := List.mem_of_getElem? (i := 0) rfl
theorem nw_1 : Cond.methodLinkNest "EnclaveWarden$Enclave" 17 ⟨"EnclaveWarden$EnclaveThread", "<init>", "()V"⟩ "EnclaveWarden" ∈ nwE := List.mem_of_getElem? (i := 1) rfl
theorem nw_2 : Cond.methodLinkNest "EnclaveWarden$EnclaveThread" 11 ⟨"EnclaveWarden$Core", "<init>", "()V"⟩ "EnclaveWarden" ∈ nwE := List.mem_of_getElem? (i := 2) rfl
theorem nw_3 : Cond.fieldLinkNest "EnclaveWarden" 65 "EnclaveWarden$Core" "pc" "I" "EnclaveWarden" ∈ nwE := List.mem_of_getElem? (i := 3) rfl
theorem nw_4 : Cond.fieldLinkNest "EnclaveWarden" 94 "EnclaveWarden$EnclaveThread" "core" "LEnclaveWarden$Core;" "EnclaveWarden" ∈ nwE := List.mem_of_getElem? (i := 4) rfl
theorem nw_5 : Cond.fieldLinkNest "EnclaveWarden$Enclave" 32 "EnclaveWarden$EnclaveThread" "state" "I" "EnclaveWarden" ∈ nwE := List.mem_of_getElem? (i := 5) rfl
theorem nw_6 : Cond.fieldLinkNest "EnclaveWarden" 91 "EnclaveWarden$EnclaveThread" "state" "I" "EnclaveWarden" ∈ nwE := List.mem_of_getElem? (i := 6) rfl
theorem nw_7 : Cond.fieldLinkNest "EnclaveWarden" 194 "EnclaveWarden$EnclaveThread" "entry" "I" "EnclaveWarden" ∈ nwE := List.mem_of_getElem? (i := 7) rfl
theorem nw_8 : Cond.fieldLinkNest "EnclaveWarden" 87 "EnclaveWarden$Enclave" "threads" "[LEnclaveWarden$EnclaveThread;" "EnclaveWarden" ∈ nwE := List.mem_of_getElem? (i := 8) rfl
theorem nw_9 : Cond.fieldLinkNest "EnclaveWarden" 81 "EnclaveWarden$Enclave" "state" "I" "EnclaveWarden" ∈ nwE := List.mem_of_getElem? (i := 9) rfl
theorem nw_10 : Cond.fieldLinkNest "EnclaveWarden" 97 "EnclaveWarden$Enclave" "measure" "I" "EnclaveWarden" ∈ nwE := List.mem_of_getElem? (i := 10) rfl
theorem nw_11 : Cond.fieldLinkNest "EnclaveWarden" 188 "EnclaveWarden$Enclave" "loads" "I" "EnclaveWarden" ∈ nwE := List.mem_of_getElem? (i := 11) rfl
theorem nw_12 : Cond.methodLinkNest "EnclaveWarden" 29 ⟨"EnclaveWarden$Core", "<init>", "()V"⟩ "EnclaveWarden" ∈ nwE := List.mem_of_getElem? (i := 12) rfl
theorem nw_13 : Cond.methodLinkNest "EnclaveWarden" 57 ⟨"EnclaveWarden$Core", "put", "(II)V"⟩ "EnclaveWarden" ∈ nwE := List.mem_of_getElem? (i := 13) rfl
theorem nw_14 : Cond.methodLinkNest "EnclaveWarden" 61 ⟨"EnclaveWarden$Core", "get", "(I)I"⟩ "EnclaveWarden" ∈ nwE := List.mem_of_getElem? (i := 14) rfl
theorem nw_15 : Cond.methodLinkNest "EnclaveWarden" 182 ⟨"EnclaveWarden$Enclave", "become", "(I)V"⟩ "EnclaveWarden" ∈ nwE := List.mem_of_getElem? (i := 15) rfl
theorem nw_16 : Cond.methodLinkNest "EnclaveWarden" 185 ⟨"EnclaveWarden$Enclave", "add", "(I)V"⟩ "EnclaveWarden" ∈ nwE := List.mem_of_getElem? (i := 16) rfl
theorem nw_17 : Cond.methodLinkNest "EnclaveWarden$Enclave" 33 ⟨"EnclaveWarden", "mix", "(II)I"⟩ "EnclaveWarden" ∈ nwE := List.mem_of_getElem? (i := 17) rfl
theorem nw_18 : Cond.methodLinkNest "EnclaveWarden" 191 ⟨"EnclaveWarden$Enclave", "threadCount", "()I"⟩ "EnclaveWarden" ∈ nwE := List.mem_of_getElem? (i := 18) rfl
theorem nw_19 : Cond.methodLinkNest "EnclaveWarden" 203 ⟨"EnclaveWarden$Core", "start", "(II)V"⟩ "EnclaveWarden" ∈ nwE := List.mem_of_getElem? (i := 19) rfl
theorem w_1 : Cond.initialized "EnclaveWarden" ∈ WS := ws_tbl (show _ ∈ tables_1 from List.mem_append_left _ (show _ ∈ tables_1_1 from List.mem_of_getElem? (i := 1) (by decide +kernel))) (by decide +kernel)
theorem w_2 : Cond.initialized "EnclaveWarden$Enclave" ∈ WS := ws_tbl (show _ ∈ tables_1 from List.mem_append_left _ (show _ ∈ tables_1_1 from List.mem_of_getElem? (i := 2) (by decide +kernel))) (by decide +kernel)
theorem w_4 : Cond.initialized "EnclaveWarden$Core" ∈ WS := ws_tbl (show _ ∈ tables_1 from List.mem_append_left _ (show _ ∈ tables_1_1 from List.mem_of_getElem? (i := 4) (by decide +kernel))) (by decide +kernel)
theorem w_5 : Cond.initialized "EnclaveWardenModel" ∈ WS := ws_tbl (show _ ∈ tables_1 from List.mem_append_left _ (show _ ∈ tables_1_1 from List.mem_of_getElem? (i := 5) (by decide +kernel))) (by decide +kernel)
theorem w_34 : Cond.fieldLink "EnclaveWarden$Core" 9 "EnclaveWarden$Core" "registers" "[I" ∈ WS := ws_tbl (show _ ∈ tables_1 from List.mem_append_left _ (show _ ∈ tables_1_1 from List.mem_of_getElem? (i := 34) (by decide +kernel))) (by decide +kernel)
theorem w_35 : Cond.fieldLink "EnclaveWarden$Core" 15 "EnclaveWarden$Core" "pc" "I" ∈ WS := ws_tbl (show _ ∈ tables_1 from List.mem_append_left _ (show _ ∈ tables_1_1 from List.mem_of_getElem? (i := 35) (by decide +kernel))) (by decide +kernel)
theorem w_37 : Cond.laysFinal "EnclaveWarden$Core" "EnclaveWarden$Core" "registers" "[I" ∈ WS := ws_tbl (show _ ∈ tables_1 from List.mem_append_left _ (show _ ∈ tables_1_1 from List.mem_of_getElem? (i := 37) (by decide +kernel))) (by decide +kernel)
theorem w_39 : Cond.lays "EnclaveWarden$Core" "EnclaveWarden$Core" "pc" "I" ∈ WS := ws_tbl (show _ ∈ tables_1 from List.mem_append_left _ (show _ ∈ tables_1_1 from List.mem_of_getElem? (i := 39) (by decide +kernel))) (by decide +kernel)
theorem w_50 : Cond.laysFinal "EnclaveWarden$EnclaveThread" "EnclaveWarden$EnclaveThread" "core" "LEnclaveWarden$Core;" ∈ WS := ws_tbl (show _ ∈ tables_1 from List.mem_append_left _ (show _ ∈ tables_1_1 from List.mem_of_getElem? (i := 50) (by decide +kernel))) (by decide +kernel)
theorem w_52 : Cond.lays "EnclaveWarden$EnclaveThread" "EnclaveWarden$EnclaveThread" "state" "I" ∈ WS := ws_tbl (show _ ∈ tables_1 from List.mem_append_left _ (show _ ∈ tables_1_1 from List.mem_of_getElem? (i := 52) (by decide +kernel))) (by decide +kernel)
theorem w_54 : Cond.lays "EnclaveWarden$EnclaveThread" "EnclaveWarden$EnclaveThread" "entry" "I" ∈ WS := ws_tbl (show _ ∈ tables_1 from List.mem_append_left _ (show _ ∈ tables_1_1 from List.mem_of_getElem? (i := 54) (by decide +kernel))) (by decide +kernel)
theorem w_59 : Cond.instanceMethod ⟨"EnclaveWarden$Enclave", "become", "(I)V"⟩ ∈ WS := ws_tbl (show _ ∈ tables_1 from List.mem_append_left _ (show _ ∈ tables_1_1 from List.mem_of_getElem? (i := 59) (by decide +kernel))) (by decide +kernel)
theorem w_60 : Cond.code ⟨"EnclaveWarden$Enclave", "become", "(I)V"⟩ prog_3_method_2_code 3 none ∈ WS := ws_tbl (show _ ∈ tables_1 from List.mem_append_left _ (show _ ∈ tables_1_1 from List.mem_of_getElem? (i := 60) rfl)) (by decide +kernel)
theorem w_61 : Cond.fieldLink "EnclaveWarden$Enclave" 11 "EnclaveWarden$Enclave" "threads" "[LEnclaveWarden$EnclaveThread;" ∈ WS := ws_tbl (show _ ∈ tables_1 from List.mem_append_left _ (show _ ∈ tables_1_1 from List.mem_of_getElem? (i := 61) (by decide +kernel))) (by decide +kernel)
theorem w_63 : Cond.fieldLink "EnclaveWarden$Enclave" 22 "EnclaveWarden$Enclave" "state" "I" ∈ WS := ws_tbl (show _ ∈ tables_1 from List.mem_append_left _ (show _ ∈ tables_1_1 from List.mem_of_getElem? (i := 63) (by decide +kernel))) (by decide +kernel)
theorem w_65 : Cond.fieldLink "EnclaveWarden$Enclave" 26 "EnclaveWarden$Enclave" "measure" "I" ∈ WS := ws_tbl (show _ ∈ tables_1 from List.mem_append_left _ (show _ ∈ tables_1_1 from List.mem_of_getElem? (i := 65) (by decide +kernel))) (by decide +kernel)
theorem w_67 : Cond.fieldLink "EnclaveWarden$Enclave" 29 "EnclaveWarden$Enclave" "loads" "I" ∈ WS := ws_tbl (show _ ∈ tables_1 from List.mem_append_left _ (show _ ∈ tables_1_1 from List.mem_of_getElem? (i := 67) (by decide +kernel))) (by decide +kernel)
theorem w_69 : Cond.laysFinal "EnclaveWarden$Enclave" "EnclaveWarden$Enclave" "threads" "[LEnclaveWarden$EnclaveThread;" ∈ WS := ws_tbl (show _ ∈ tables_1 from List.mem_append_left _ (show _ ∈ tables_1_1 from List.mem_of_getElem? (i := 69) (by decide +kernel))) (by decide +kernel)
theorem w_71 : Cond.lays "EnclaveWarden$Enclave" "EnclaveWarden$Enclave" "state" "I" ∈ WS := ws_tbl (show _ ∈ tables_1 from List.mem_append_left _ (show _ ∈ tables_1_1 from List.mem_of_getElem? (i := 71) (by decide +kernel))) (by decide +kernel)
theorem w_73 : Cond.lays "EnclaveWarden$Enclave" "EnclaveWarden$Enclave" "measure" "I" ∈ WS := ws_tbl (show _ ∈ tables_1 from List.mem_append_left _ (show _ ∈ tables_1_1 from List.mem_of_getElem? (i := 73) (by decide +kernel))) (by decide +kernel)
theorem w_75 : Cond.lays "EnclaveWarden$Enclave" "EnclaveWarden$Enclave" "loads" "I" ∈ WS := ws_tbl (show _ ∈ tables_1 from List.mem_append_left _ (show _ ∈ tables_1_1 from List.mem_of_getElem? (i := 75) (by decide +kernel))) (by decide +kernel)
theorem w_80 : Cond.fieldLink "EnclaveWarden" 7 "EnclaveWarden" "secret" "I" ∈ WS := ws_tbl (show _ ∈ tables_1 from List.mem_append_left _ (show _ ∈ tables_1_1 from List.mem_of_getElem? (i := 80) (by decide +kernel))) (by decide +kernel)
theorem w_81 : Cond.fieldLink "EnclaveWarden" 13 "EnclaveWarden" "memory" "[I" ∈ WS := ws_tbl (show _ ∈ tables_1 from List.mem_append_left _ (show _ ∈ tables_1_1 from List.mem_of_getElem? (i := 81) (by decide +kernel))) (by decide +kernel)
theorem w_82 : Cond.fieldLink "EnclaveWarden" 17 "EnclaveWarden" "kinds" "[I" ∈ WS := ws_tbl (show _ ∈ tables_1 from List.mem_append_left _ (show _ ∈ tables_1_1 from List.mem_of_getElem? (i := 82) (by decide +kernel))) (by decide +kernel)
theorem w_83 : Cond.fieldLink "EnclaveWarden" 22 "EnclaveWarden" "enclaves" "[LEnclaveWarden$Enclave;" ∈ WS := ws_tbl (show _ ∈ tables_1 from List.mem_append_left _ (show _ ∈ tables_1_1 from List.mem_of_getElem? (i := 83) (by decide +kernel))) (by decide +kernel)
theorem w_84 : Cond.fieldLink "EnclaveWarden" 30 "EnclaveWarden" "system" "LEnclaveWarden$Core;" ∈ WS := ws_tbl (show _ ∈ tables_1 from List.mem_append_left _ (show _ ∈ tables_1_1 from List.mem_of_getElem? (i := 84) (by decide +kernel))) (by decide +kernel)
theorem w_85 : Cond.fieldLink "EnclaveWarden" 34 "EnclaveWarden" "exits" "[I" ∈ WS := ws_tbl (show _ ∈ tables_1 from List.mem_append_left _ (show _ ∈ tables_1_1 from List.mem_of_getElem? (i := 85) (by decide +kernel))) (by decide +kernel)
theorem w_86 : Cond.fieldLink "EnclaveWarden" 37 "EnclaveWarden" "halted" "Z" ∈ WS := ws_tbl (show _ ∈ tables_1 from List.mem_append_left _ (show _ ∈ tables_1_1 from List.mem_of_getElem? (i := 86) (by decide +kernel))) (by decide +kernel)
theorem w_87 : Cond.fieldLink "EnclaveWarden" 41 "EnclaveWarden" "running" "I" ∈ WS := ws_tbl (show _ ∈ tables_1 from List.mem_append_left _ (show _ ∈ tables_1_1 from List.mem_of_getElem? (i := 87) (by decide +kernel))) (by decide +kernel)
theorem w_88 : Cond.fieldLink "EnclaveWarden" 44 "EnclaveWarden" "period" "I" ∈ WS := ws_tbl (show _ ∈ tables_1 from List.mem_append_left _ (show _ ∈ tables_1_1 from List.mem_of_getElem? (i := 88) (by decide +kernel))) (by decide +kernel)
theorem w_89 : Cond.fieldLink "EnclaveWarden" 47 "EnclaveWarden" "tick" "I" ∈ WS := ws_tbl (show _ ∈ tables_1 from List.mem_append_left _ (show _ ∈ tables_1_1 from List.mem_of_getElem? (i := 89) (by decide +kernel))) (by decide +kernel)
theorem w_90 : Cond.laysFinal "EnclaveWarden" "EnclaveWarden" "secret" "I" ∈ WS := ws_tbl (show _ ∈ tables_1 from List.mem_append_left _ (show _ ∈ tables_1_1 from List.mem_of_getElem? (i := 90) (by decide +kernel))) (by decide +kernel)
theorem w_92 : Cond.laysFinal "EnclaveWarden" "EnclaveWarden" "memory" "[I" ∈ WS := ws_tbl (show _ ∈ tables_1 from List.mem_append_left _ (show _ ∈ tables_1_1 from List.mem_of_getElem? (i := 92) (by decide +kernel))) (by decide +kernel)
theorem w_94 : Cond.laysFinal "EnclaveWarden" "EnclaveWarden" "kinds" "[I" ∈ WS := ws_tbl (show _ ∈ tables_1 from List.mem_append_left _ (show _ ∈ tables_1_1 from List.mem_of_getElem? (i := 94) (by decide +kernel))) (by decide +kernel)
theorem w_96 : Cond.laysFinal "EnclaveWarden" "EnclaveWarden" "enclaves" "[LEnclaveWarden$Enclave;" ∈ WS := ws_tbl (show _ ∈ tables_1 from List.mem_append_left _ (show _ ∈ tables_1_1 from List.mem_of_getElem? (i := 96) (by decide +kernel))) (by decide +kernel)
theorem w_98 : Cond.laysFinal "EnclaveWarden" "EnclaveWarden" "system" "LEnclaveWarden$Core;" ∈ WS := ws_tbl (show _ ∈ tables_1 from List.mem_append_left _ (show _ ∈ tables_1_1 from List.mem_of_getElem? (i := 98) (by decide +kernel))) (by decide +kernel)
theorem w_100 : Cond.laysFinal "EnclaveWarden" "EnclaveWarden" "exits" "[I" ∈ WS := ws_tbl (show _ ∈ tables_1 from List.mem_append_left _ (show _ ∈ tables_1_1 from List.mem_of_getElem? (i := 100) (by decide +kernel))) (by decide +kernel)
theorem w_102 : Cond.lays "EnclaveWarden" "EnclaveWarden" "halted" "Z" ∈ WS := ws_tbl (show _ ∈ tables_1 from List.mem_append_left _ (show _ ∈ tables_1_1 from List.mem_of_getElem? (i := 102) (by decide +kernel))) (by decide +kernel)
theorem w_104 : Cond.lays "EnclaveWarden" "EnclaveWarden" "running" "I" ∈ WS := ws_tbl (show _ ∈ tables_1 from List.mem_append_left _ (show _ ∈ tables_1_1 from List.mem_of_getElem? (i := 104) (by decide +kernel))) (by decide +kernel)
theorem w_106 : Cond.lays "EnclaveWarden" "EnclaveWarden" "period" "I" ∈ WS := ws_tbl (show _ ∈ tables_1 from List.mem_append_left _ (show _ ∈ tables_1_1 from List.mem_of_getElem? (i := 106) (by decide +kernel))) (by decide +kernel)
theorem w_108 : Cond.lays "EnclaveWarden" "EnclaveWarden" "tick" "I" ∈ WS := ws_tbl (show _ ∈ tables_1 from List.mem_append_left _ (show _ ∈ tables_1_1 from List.mem_of_getElem? (i := 108) (by decide +kernel))) (by decide +kernel)
theorem w_115 : Cond.methodLink "EnclaveWarden" 50 ⟨"EnclaveWarden", "systemMayUse", "(I)Z"⟩ ∈ WS := ws_tbl (show _ ∈ tables_1 from List.mem_append_left _ (show _ ∈ tables_1_1 from List.mem_of_getElem? (i := 115) (by decide +kernel))) (by decide +kernel)
theorem w_117 : Cond.instanceMethod ⟨"EnclaveWarden", "systemMayUse", "(I)Z"⟩ ∈ WS := ws_tbl (show _ ∈ tables_1 from List.mem_append_left _ (show _ ∈ tables_1_1 from List.mem_of_getElem? (i := 117) (by decide +kernel))) (by decide +kernel)
theorem w_118 : Cond.code ⟨"EnclaveWarden", "systemMayUse", "(I)Z"⟩ prog_1_method_28_code 3 (Option.some .boolean) ∈ WS := ws_tbl (show _ ∈ tables_1 from List.mem_append_left _ (show _ ∈ tables_1_1 from List.mem_of_getElem? (i := 118) rfl)) (by decide +kernel)
theorem w_119 : Cond.methodLink "EnclaveWarden" 54 ⟨"EnclaveWarden", "isAddress", "(I)Z"⟩ ∈ WS := ws_tbl (show _ ∈ tables_1 from List.mem_append_left _ (show _ ∈ tables_1_1 from List.mem_of_getElem? (i := 119) (by decide +kernel))) (by decide +kernel)
theorem w_120 : Cond.static ⟨"EnclaveWarden", "isAddress", "(I)Z"⟩ ∈ WS := ws_tbl (show _ ∈ tables_1 from List.mem_append_left _ (show _ ∈ tables_1_1 from List.mem_of_getElem? (i := 120) (by decide +kernel))) (by decide +kernel)
theorem w_121 : Cond.code ⟨"EnclaveWarden", "isAddress", "(I)Z"⟩ prog_1_method_22_code 1 (Option.some .boolean) ∈ WS := ws_tbl (show _ ∈ tables_1 from List.mem_append_left _ (show _ ∈ tables_1_1 from List.mem_of_getElem? (i := 121) rfl)) (by decide +kernel)
theorem w_136 : Cond.instanceMethod ⟨"EnclaveWarden$Core", "put", "(II)V"⟩ ∈ WS := ws_tbl (show _ ∈ tables_1 from List.mem_append_left _ (show _ ∈ tables_1_1 from List.mem_of_getElem? (i := 136) (by decide +kernel))) (by decide +kernel)
theorem w_137 : Cond.code ⟨"EnclaveWarden$Core", "put", "(II)V"⟩ prog_2_method_3_code 3 none ∈ WS := ws_tbl (show _ ∈ tables_1 from List.mem_append_left _ (show _ ∈ tables_1_1 from List.mem_of_getElem? (i := 137) rfl)) (by decide +kernel)
theorem w_144 : Cond.instanceMethod ⟨"EnclaveWarden$Core", "get", "(I)I"⟩ ∈ WS := ws_tbl (show _ ∈ tables_1 from List.mem_append_left _ (show _ ∈ tables_1_1 from List.mem_of_getElem? (i := 144) (by decide +kernel))) (by decide +kernel)
theorem w_145 : Cond.code ⟨"EnclaveWarden$Core", "get", "(I)I"⟩ prog_2_method_2_code 2 (Option.some .int) ∈ WS := ws_tbl (show _ ∈ tables_1 from List.mem_append_left _ (show _ ∈ tables_1_1 from List.mem_of_getElem? (i := 145) rfl)) (by decide +kernel)
theorem w_162 : Cond.methodLink "EnclaveWarden" 68 ⟨"EnclaveWarden", "systemCall", "(IIII)I"⟩ ∈ WS := ws_tbl (show _ ∈ tables_1 from List.mem_append_left _ (show _ ∈ tables_1_1 from List.mem_of_getElem? (i := 162) (by decide +kernel))) (by decide +kernel)
theorem w_164 : Cond.instanceMethod ⟨"EnclaveWarden", "systemCall", "(IIII)I"⟩ ∈ WS := ws_tbl (show _ ∈ tables_1 from List.mem_append_left _ (show _ ∈ tables_1_1 from List.mem_of_getElem? (i := 164) (by decide +kernel))) (by decide +kernel)
theorem w_165 : Cond.code ⟨"EnclaveWarden", "systemCall", "(IIII)I"⟩ prog_1_method_39_code 5 (Option.some .int) ∈ WS := ws_tbl (show _ ∈ tables_1 from List.mem_append_left _ (show _ ∈ tables_1_1 from List.mem_of_getElem? (i := 165) rfl)) (by decide +kernel)
theorem w_166 : Cond.methodLink "EnclaveWarden" 141 ⟨"EnclaveWarden", "create", "(II)I"⟩ ∈ WS := ws_tbl (show _ ∈ tables_1 from List.mem_append_left _ (show _ ∈ tables_1_1 from List.mem_of_getElem? (i := 166) (by decide +kernel))) (by decide +kernel)
theorem w_168 : Cond.instanceMethod ⟨"EnclaveWarden", "create", "(II)I"⟩ ∈ WS := ws_tbl (show _ ∈ tables_1 from List.mem_append_left _ (show _ ∈ tables_1_1 from List.mem_of_getElem? (i := 168) (by decide +kernel))) (by decide +kernel)
theorem w_169 : Cond.code ⟨"EnclaveWarden", "create", "(II)I"⟩ prog_1_method_40_code 5 (Option.some .int) ∈ WS := ws_tbl (show _ ∈ tables_1 from List.mem_append_left _ (show _ ∈ tables_1_1 from List.mem_of_getElem? (i := 169) rfl)) (by decide +kernel)
theorem w_170 : Cond.methodLink "EnclaveWarden" 75 ⟨"EnclaveWarden", "isRegion", "(I)Z"⟩ ∈ WS := ws_tbl (show _ ∈ tables_1 from List.mem_append_left _ (show _ ∈ tables_1_1 from List.mem_of_getElem? (i := 170) (by decide +kernel))) (by decide +kernel)
theorem w_171 : Cond.static ⟨"EnclaveWarden", "isRegion", "(I)Z"⟩ ∈ WS := ws_tbl (show _ ∈ tables_1 from List.mem_append_left _ (show _ ∈ tables_1_1 from List.mem_of_getElem? (i := 171) (by decide +kernel))) (by decide +kernel)
theorem w_172 : Cond.code ⟨"EnclaveWarden", "isRegion", "(I)Z"⟩ prog_1_method_23_code 1 (Option.some .boolean) ∈ WS := ws_tbl (show _ ∈ tables_1 from List.mem_append_left _ (show _ ∈ tables_1_1 from List.mem_of_getElem? (i := 172) rfl)) (by decide +kernel)
theorem w_173 : Cond.methodLink "EnclaveWarden" 175 ⟨"EnclaveWarden", "allFree", "(II)Z"⟩ ∈ WS := ws_tbl (show _ ∈ tables_1 from List.mem_append_left _ (show _ ∈ tables_1_1 from List.mem_of_getElem? (i := 173) (by decide +kernel))) (by decide +kernel)
theorem w_175 : Cond.instanceMethod ⟨"EnclaveWarden", "allFree", "(II)Z"⟩ ∈ WS := ws_tbl (show _ ∈ tables_1 from List.mem_append_left _ (show _ ∈ tables_1_1 from List.mem_of_getElem? (i := 175) (by decide +kernel))) (by decide +kernel)
theorem w_176 : Cond.code ⟨"EnclaveWarden", "allFree", "(II)Z"⟩ prog_1_method_41_code 4 (Option.some .boolean) ∈ WS := ws_tbl (show _ ∈ tables_1 from List.mem_append_left _ (show _ ∈ tables_1_1 from List.mem_of_getElem? (i := 176) rfl)) (by decide +kernel)
theorem w_177 : Cond.methodLink "EnclaveWarden" 178 ⟨"EnclaveWarden", "leastAbsent", "()I"⟩ ∈ WS := ws_tbl (show _ ∈ tables_1 from List.mem_append_left _ (show _ ∈ tables_1_1 from List.mem_of_getElem? (i := 177) (by decide +kernel))) (by decide +kernel)
theorem w_179 : Cond.instanceMethod ⟨"EnclaveWarden", "leastAbsent", "()I"⟩ ∈ WS := ws_tbl (show _ ∈ tables_1 from List.mem_append_left _ (show _ ∈ tables_1_1 from List.mem_of_getElem? (i := 179) (by decide +kernel))) (by decide +kernel)
theorem w_180 : Cond.code ⟨"EnclaveWarden", "leastAbsent", "()I"⟩ prog_1_method_42_code 2 (Option.some .int) ∈ WS := ws_tbl (show _ ∈ tables_1 from List.mem_append_left _ (show _ ∈ tables_1_1 from List.mem_of_getElem? (i := 180) rfl)) (by decide +kernel)
theorem w_184 : Cond.instanceMethod ⟨"EnclaveWarden$Enclave", "add", "(I)V"⟩ ∈ WS := ws_tbl (show _ ∈ tables_1 from List.mem_append_left _ (show _ ∈ tables_1_1 from List.mem_of_getElem? (i := 184) (by decide +kernel))) (by decide +kernel)
theorem w_185 : Cond.code ⟨"EnclaveWarden$Enclave", "add", "(I)V"⟩ prog_3_method_3_code 2 none ∈ WS := ws_tbl (show _ ∈ tables_1 from List.mem_append_left _ (show _ ∈ tables_1_1 from List.mem_of_getElem? (i := 185) rfl)) (by decide +kernel)
theorem w_187 : Cond.static ⟨"EnclaveWarden", "mix", "(II)I"⟩ ∈ WS := ws_tbl (show _ ∈ tables_1 from List.mem_append_left _ (show _ ∈ tables_1_1 from List.mem_of_getElem? (i := 187) (by decide +kernel))) (by decide +kernel)
theorem w_188 : Cond.code ⟨"EnclaveWarden", "mix", "(II)I"⟩ prog_1_method_26_code 3 (Option.some .int) ∈ WS := ws_tbl (show _ ∈ tables_1 from List.mem_append_left _ (show _ ∈ tables_1_1 from List.mem_of_getElem? (i := 188) rfl)) (by decide +kernel)
theorem w_189 : Cond.constant "EnclaveWarden" 104 (1390208809) ∈ WS := ws_tbl (show _ ∈ tables_1 from List.mem_append_left _ (show _ ∈ tables_1_1 from List.mem_of_getElem? (i := 189) (by decide +kernel))) (by decide +kernel)
theorem w_190 : Cond.methodLink "EnclaveWarden" 144 ⟨"EnclaveWarden", "load", "(III)I"⟩ ∈ WS := ws_tbl (show _ ∈ tables_1 from List.mem_append_left _ (show _ ∈ tables_1_1 from List.mem_of_getElem? (i := 190) (by decide +kernel))) (by decide +kernel)
theorem w_192 : Cond.instanceMethod ⟨"EnclaveWarden", "load", "(III)I"⟩ ∈ WS := ws_tbl (show _ ∈ tables_1 from List.mem_append_left _ (show _ ∈ tables_1_1 from List.mem_of_getElem? (i := 192) (by decide +kernel))) (by decide +kernel)
theorem w_193 : Cond.code ⟨"EnclaveWarden", "load", "(III)I"⟩ prog_1_method_43_code 7 (Option.some .int) ∈ WS := ws_tbl (show _ ∈ tables_1 from List.mem_append_left _ (show _ ∈ tables_1_1 from List.mem_of_getElem? (i := 193) rfl)) (by decide +kernel)
theorem w_194 : Cond.methodLink "EnclaveWarden" 78 ⟨"EnclaveWarden", "isEnclave", "(I)Z"⟩ ∈ WS := ws_tbl (show _ ∈ tables_1 from List.mem_append_left _ (show _ ∈ tables_1_1 from List.mem_of_getElem? (i := 194) (by decide +kernel))) (by decide +kernel)
theorem w_195 : Cond.static ⟨"EnclaveWarden", "isEnclave", "(I)Z"⟩ ∈ WS := ws_tbl (show _ ∈ tables_1 from List.mem_append_left _ (show _ ∈ tables_1_1 from List.mem_of_getElem? (i := 195) (by decide +kernel))) (by decide +kernel)
theorem w_196 : Cond.code ⟨"EnclaveWarden", "isEnclave", "(I)Z"⟩ prog_1_method_24_code 1 (Option.some .boolean) ∈ WS := ws_tbl (show _ ∈ tables_1 from List.mem_append_left _ (show _ ∈ tables_1_1 from List.mem_of_getElem? (i := 196) rfl)) (by decide +kernel)
theorem w_197 : Cond.methodLink "EnclaveWarden" 148 ⟨"EnclaveWarden", "addThread", "(II)I"⟩ ∈ WS := ws_tbl (show _ ∈ tables_1 from List.mem_append_left _ (show _ ∈ tables_1_1 from List.mem_of_getElem? (i := 197) (by decide +kernel))) (by decide +kernel)
theorem w_199 : Cond.instanceMethod ⟨"EnclaveWarden", "addThread", "(II)I"⟩ ∈ WS := ws_tbl (show _ ∈ tables_1 from List.mem_append_left _ (show _ ∈ tables_1_1 from List.mem_of_getElem? (i := 199) (by decide +kernel))) (by decide +kernel)
theorem w_200 : Cond.code ⟨"EnclaveWarden", "addThread", "(II)I"⟩ prog_1_method_44_code 5 (Option.some .int) ∈ WS := ws_tbl (show _ ∈ tables_1 from List.mem_append_left _ (show _ ∈ tables_1_1 from List.mem_of_getElem? (i := 200) rfl)) (by decide +kernel)
theorem w_203 : Cond.instanceMethod ⟨"EnclaveWarden$Enclave", "threadCount", "()I"⟩ ∈ WS := ws_tbl (show _ ∈ tables_1 from List.mem_append_left _ (show _ ∈ tables_1_1 from List.mem_of_getElem? (i := 203) (by decide +kernel))) (by decide +kernel)
theorem w_204 : Cond.code ⟨"EnclaveWarden$Enclave", "threadCount", "()I"⟩ prog_3_method_4_code 3 (Option.some .int) ∈ WS := ws_tbl (show _ ∈ tables_1 from List.mem_append_left _ (show _ ∈ tables_1_1 from List.mem_of_getElem? (i := 204) rfl)) (by decide +kernel)
theorem w_205 : Cond.methodLink "EnclaveWarden" 151 ⟨"EnclaveWarden", "seal", "(I)I"⟩ ∈ WS := ws_tbl (show _ ∈ tables_1 from List.mem_append_left _ (show _ ∈ tables_1_1 from List.mem_of_getElem? (i := 205) (by decide +kernel))) (by decide +kernel)
theorem w_207 : Cond.instanceMethod ⟨"EnclaveWarden", "seal", "(I)I"⟩ ∈ WS := ws_tbl (show _ ∈ tables_1 from List.mem_append_left _ (show _ ∈ tables_1_1 from List.mem_of_getElem? (i := 207) (by decide +kernel))) (by decide +kernel)
theorem w_208 : Cond.code ⟨"EnclaveWarden", "seal", "(I)I"⟩ prog_1_method_45_code 3 (Option.some .int) ∈ WS := ws_tbl (show _ ∈ tables_1 from List.mem_append_left _ (show _ ∈ tables_1_1 from List.mem_of_getElem? (i := 208) rfl)) (by decide +kernel)
theorem w_209 : Cond.methodLink "EnclaveWarden" 154 ⟨"EnclaveWarden", "share", "(II)I"⟩ ∈ WS := ws_tbl (show _ ∈ tables_1 from List.mem_append_left _ (show _ ∈ tables_1_1 from List.mem_of_getElem? (i := 209) (by decide +kernel))) (by decide +kernel)
theorem w_211 : Cond.instanceMethod ⟨"EnclaveWarden", "share", "(II)I"⟩ ∈ WS := ws_tbl (show _ ∈ tables_1 from List.mem_append_left _ (show _ ∈ tables_1_1 from List.mem_of_getElem? (i := 211) (by decide +kernel))) (by decide +kernel)
theorem w_212 : Cond.code ⟨"EnclaveWarden", "share", "(II)I"⟩ prog_1_method_46_code 3 (Option.some .int) ∈ WS := ws_tbl (show _ ∈ tables_1 from List.mem_append_left _ (show _ ∈ tables_1_1 from List.mem_of_getElem? (i := 212) rfl)) (by decide +kernel)
theorem w_213 : Cond.methodLink "EnclaveWarden" 197 ⟨"EnclaveWarden", "sharedWith", "(I)I"⟩ ∈ WS := ws_tbl (show _ ∈ tables_1 from List.mem_append_left _ (show _ ∈ tables_1_1 from List.mem_of_getElem? (i := 213) (by decide +kernel))) (by decide +kernel)
theorem w_215 : Cond.instanceMethod ⟨"EnclaveWarden", "sharedWith", "(I)I"⟩ ∈ WS := ws_tbl (show _ ∈ tables_1 from List.mem_append_left _ (show _ ∈ tables_1_1 from List.mem_of_getElem? (i := 215) (by decide +kernel))) (by decide +kernel)
theorem w_216 : Cond.code ⟨"EnclaveWarden", "sharedWith", "(I)I"⟩ prog_1_method_47_code 4 (Option.some .int) ∈ WS := ws_tbl (show _ ∈ tables_1 from List.mem_append_left _ (show _ ∈ tables_1_1 from List.mem_of_getElem? (i := 216) rfl)) (by decide +kernel)
theorem w_217 : Cond.methodLink "EnclaveWarden" 157 ⟨"EnclaveWarden", "enter", "(III)I"⟩ ∈ WS := ws_tbl (show _ ∈ tables_1 from List.mem_append_left _ (show _ ∈ tables_1_1 from List.mem_of_getElem? (i := 217) (by decide +kernel))) (by decide +kernel)
theorem w_219 : Cond.instanceMethod ⟨"EnclaveWarden", "enter", "(III)I"⟩ ∈ WS := ws_tbl (show _ ∈ tables_1 from List.mem_append_left _ (show _ ∈ tables_1_1 from List.mem_of_getElem? (i := 219) (by decide +kernel))) (by decide +kernel)
theorem w_220 : Cond.code ⟨"EnclaveWarden", "enter", "(III)I"⟩ prog_1_method_48_code 6 (Option.some .int) ∈ WS := ws_tbl (show _ ∈ tables_1 from List.mem_append_left _ (show _ ∈ tables_1_1 from List.mem_of_getElem? (i := 220) rfl)) (by decide +kernel)
theorem w_221 : Cond.methodLink "EnclaveWarden" 200 ⟨"EnclaveWarden", "refusalToStart", "(III)I"⟩ ∈ WS := ws_tbl (show _ ∈ tables_1 from List.mem_append_left _ (show _ ∈ tables_1_1 from List.mem_of_getElem? (i := 221) (by decide +kernel))) (by decide +kernel)
theorem w_223 : Cond.instanceMethod ⟨"EnclaveWarden", "refusalToStart", "(III)I"⟩ ∈ WS := ws_tbl (show _ ∈ tables_1 from List.mem_append_left _ (show _ ∈ tables_1_1 from List.mem_of_getElem? (i := 223) (by decide +kernel))) (by decide +kernel)
theorem w_224 : Cond.code ⟨"EnclaveWarden", "refusalToStart", "(III)I"⟩ prog_1_method_50_code 5 (Option.some .int) ∈ WS := ws_tbl (show _ ∈ tables_1 from List.mem_append_left _ (show _ ∈ tables_1_1 from List.mem_of_getElem? (i := 224) rfl)) (by decide +kernel)
theorem w_225 : Cond.methodLink "EnclaveWarden" 84 ⟨"EnclaveWarden", "isThread", "(I)Z"⟩ ∈ WS := ws_tbl (show _ ∈ tables_1 from List.mem_append_left _ (show _ ∈ tables_1_1 from List.mem_of_getElem? (i := 225) (by decide +kernel))) (by decide +kernel)
theorem w_226 : Cond.static ⟨"EnclaveWarden", "isThread", "(I)Z"⟩ ∈ WS := ws_tbl (show _ ∈ tables_1 from List.mem_append_left _ (show _ ∈ tables_1_1 from List.mem_of_getElem? (i := 226) (by decide +kernel))) (by decide +kernel)
theorem w_227 : Cond.code ⟨"EnclaveWarden", "isThread", "(I)Z"⟩ prog_1_method_25_code 1 (Option.some .boolean) ∈ WS := ws_tbl (show _ ∈ tables_1 from List.mem_append_left _ (show _ ∈ tables_1_1 from List.mem_of_getElem? (i := 227) rfl)) (by decide +kernel)
theorem w_230 : Cond.instanceMethod ⟨"EnclaveWarden$Core", "start", "(II)V"⟩ ∈ WS := ws_tbl (show _ ∈ tables_1 from List.mem_append_left _ (show _ ∈ tables_1_1 from List.mem_of_getElem? (i := 230) (by decide +kernel))) (by decide +kernel)
theorem w_231 : Cond.code ⟨"EnclaveWarden$Core", "start", "(II)V"⟩ prog_2_method_4_code 4 none ∈ WS := ws_tbl (show _ ∈ tables_1 from List.mem_append_left _ (show _ ∈ tables_1_1 from List.mem_of_getElem? (i := 231) rfl)) (by decide +kernel)
theorem w_232 : Cond.methodLink "EnclaveWarden$Core" 19 ⟨"EnclaveWarden$Core", "put", "(II)V"⟩ ∈ WS := ws_tbl (show _ ∈ tables_1 from List.mem_append_left _ (show _ ∈ tables_1_1 from List.mem_of_getElem? (i := 232) (by decide +kernel))) (by decide +kernel)
theorem w_233 : Cond.methodLink "EnclaveWarden" 206 ⟨"EnclaveWarden", "handOver", "(II)V"⟩ ∈ WS := ws_tbl (show _ ∈ tables_1 from List.mem_append_left _ (show _ ∈ tables_1_1 from List.mem_of_getElem? (i := 233) (by decide +kernel))) (by decide +kernel)
theorem w_235 : Cond.instanceMethod ⟨"EnclaveWarden", "handOver", "(II)V"⟩ ∈ WS := ws_tbl (show _ ∈ tables_1 from List.mem_append_left _ (show _ ∈ tables_1_1 from List.mem_of_getElem? (i := 235) (by decide +kernel))) (by decide +kernel)
theorem w_236 : Cond.code ⟨"EnclaveWarden", "handOver", "(II)V"⟩ prog_1_method_51_code 3 none ∈ WS := ws_tbl (show _ ∈ tables_1 from List.mem_append_left _ (show _ ∈ tables_1_1 from List.mem_of_getElem? (i := 236) rfl)) (by decide +kernel)
theorem w_237 : Cond.methodLink "EnclaveWarden" 160 ⟨"EnclaveWarden", "resume", "(II)I"⟩ ∈ WS := ws_tbl (show _ ∈ tables_1 from List.mem_append_left _ (show _ ∈ tables_1_1 from List.mem_of_getElem? (i := 237) (by decide +kernel))) (by decide +kernel)
theorem w_239 : Cond.instanceMethod ⟨"EnclaveWarden", "resume", "(II)I"⟩ ∈ WS := ws_tbl (show _ ∈ tables_1 from List.mem_append_left _ (show _ ∈ tables_1_1 from List.mem_of_getElem? (i := 239) (by decide +kernel))) (by decide +kernel)
theorem w_240 : Cond.code ⟨"EnclaveWarden", "resume", "(II)I"⟩ prog_1_method_49_code 4 (Option.some .int) ∈ WS := ws_tbl (show _ ∈ tables_1 from List.mem_append_right _ (List.mem_append_left _ (show _ ∈ tables_1_2 from List.mem_of_getElem? (i := 0) rfl))) (by decide +kernel)
theorem w_241 : Cond.methodLink "EnclaveWarden" 163 ⟨"EnclaveWarden", "stop", "(I)I"⟩ ∈ WS := ws_tbl (show _ ∈ tables_1 from List.mem_append_right _ (List.mem_append_left _ (show _ ∈ tables_1_2 from List.mem_of_getElem? (i := 1) (by decide +kernel)))) (by decide +kernel)
theorem w_243 : Cond.instanceMethod ⟨"EnclaveWarden", "stop", "(I)I"⟩ ∈ WS := ws_tbl (show _ ∈ tables_1 from List.mem_append_right _ (List.mem_append_left _ (show _ ∈ tables_1_2 from List.mem_of_getElem? (i := 3) (by decide +kernel)))) (by decide +kernel)
theorem w_244 : Cond.code ⟨"EnclaveWarden", "stop", "(I)I"⟩ prog_1_method_52_code 2 (Option.some .int) ∈ WS := ws_tbl (show _ ∈ tables_1 from List.mem_append_right _ (List.mem_append_left _ (show _ ∈ tables_1_2 from List.mem_of_getElem? (i := 4) rfl))) (by decide +kernel)
theorem w_245 : Cond.methodLink "EnclaveWarden" 166 ⟨"EnclaveWarden", "destroy", "(I)I"⟩ ∈ WS := ws_tbl (show _ ∈ tables_1 from List.mem_append_right _ (List.mem_append_left _ (show _ ∈ tables_1_2 from List.mem_of_getElem? (i := 5) (by decide +kernel)))) (by decide +kernel)
theorem w_247 : Cond.instanceMethod ⟨"EnclaveWarden", "destroy", "(I)I"⟩ ∈ WS := ws_tbl (show _ ∈ tables_1 from List.mem_append_right _ (List.mem_append_left _ (show _ ∈ tables_1_2 from List.mem_of_getElem? (i := 7) (by decide +kernel)))) (by decide +kernel)
theorem w_248 : Cond.code ⟨"EnclaveWarden", "destroy", "(I)I"⟩ prog_1_method_53_code 4 (Option.some .int) ∈ WS := ws_tbl (show _ ∈ tables_1 from List.mem_append_right _ (List.mem_append_left _ (show _ ∈ tables_1_2 from List.mem_of_getElem? (i := 8) rfl))) (by decide +kernel)
theorem w_249 : Cond.methodLink "EnclaveWarden" 209 ⟨"EnclaveWarden", "free", "(I)V"⟩ ∈ WS := ws_tbl (show _ ∈ tables_1 from List.mem_append_right _ (List.mem_append_left _ (show _ ∈ tables_1_2 from List.mem_of_getElem? (i := 9) (by decide +kernel)))) (by decide +kernel)
theorem w_251 : Cond.instanceMethod ⟨"EnclaveWarden", "free", "(I)V"⟩ ∈ WS := ws_tbl (show _ ∈ tables_1 from List.mem_append_right _ (List.mem_append_left _ (show _ ∈ tables_1_2 from List.mem_of_getElem? (i := 11) (by decide +kernel)))) (by decide +kernel)
theorem w_252 : Cond.code ⟨"EnclaveWarden", "free", "(I)V"⟩ prog_1_method_56_code 3 none ∈ WS := ws_tbl (show _ ∈ tables_1 from List.mem_append_right _ (List.mem_append_left _ (show _ ∈ tables_1_2 from List.mem_of_getElem? (i := 12) rfl))) (by decide +kernel)
theorem w_253 : Cond.methodLink "EnclaveWarden" 169 ⟨"EnclaveWarden", "claim", "(I)I"⟩ ∈ WS := ws_tbl (show _ ∈ tables_1 from List.mem_append_right _ (List.mem_append_left _ (show _ ∈ tables_1_2 from List.mem_of_getElem? (i := 13) (by decide +kernel)))) (by decide +kernel)
theorem w_255 : Cond.instanceMethod ⟨"EnclaveWarden", "claim", "(I)I"⟩ ∈ WS := ws_tbl (show _ ∈ tables_1 from List.mem_append_right _ (List.mem_append_left _ (show _ ∈ tables_1_2 from List.mem_of_getElem? (i := 15) (by decide +kernel)))) (by decide +kernel)
theorem w_256 : Cond.code ⟨"EnclaveWarden", "claim", "(I)I"⟩ prog_1_method_54_code 2 (Option.some .int) ∈ WS := ws_tbl (show _ ∈ tables_1 from List.mem_append_right _ (List.mem_append_left _ (show _ ∈ tables_1_2 from List.mem_of_getElem? (i := 16) rfl))) (by decide +kernel)
theorem w_257 : Cond.methodLink "EnclaveWarden" 172 ⟨"EnclaveWarden", "giveUp", "(I)I"⟩ ∈ WS := ws_tbl (show _ ∈ tables_1 from List.mem_append_right _ (List.mem_append_left _ (show _ ∈ tables_1_2 from List.mem_of_getElem? (i := 17) (by decide +kernel)))) (by decide +kernel)
theorem w_259 : Cond.instanceMethod ⟨"EnclaveWarden", "giveUp", "(I)I"⟩ ∈ WS := ws_tbl (show _ ∈ tables_1 from List.mem_append_right _ (List.mem_append_left _ (show _ ∈ tables_1_2 from List.mem_of_getElem? (i := 19) (by decide +kernel)))) (by decide +kernel)
theorem w_260 : Cond.code ⟨"EnclaveWarden", "giveUp", "(I)I"⟩ prog_1_method_55_code 2 (Option.some .int) ∈ WS := ws_tbl (show _ ∈ tables_1 from List.mem_append_right _ (List.mem_append_left _ (show _ ∈ tables_1_2 from List.mem_of_getElem? (i := 20) rfl))) (by decide +kernel)
theorem w_265 : Cond.methodLink "EnclaveWarden" 72 ⟨"EnclaveWarden", "step", "()V"⟩ ∈ WS := ws_tbl (show _ ∈ tables_1 from List.mem_append_right _ (List.mem_append_left _ (show _ ∈ tables_1_2 from List.mem_of_getElem? (i := 25) (by decide +kernel)))) (by decide +kernel)
theorem w_267 : Cond.instanceMethod ⟨"EnclaveWarden", "step", "()V"⟩ ∈ WS := ws_tbl (show _ ∈ tables_1 from List.mem_append_right _ (List.mem_append_left _ (show _ ∈ tables_1_2 from List.mem_of_getElem? (i := 27) (by decide +kernel)))) (by decide +kernel)
theorem w_268 : Cond.code ⟨"EnclaveWarden", "step", "()V"⟩ prog_1_method_32_code 3 none ∈ WS := ws_tbl (show _ ∈ tables_1 from List.mem_append_right _ (List.mem_append_left _ (show _ ∈ tables_1_2 from List.mem_of_getElem? (i := 28) rfl))) (by decide +kernel)
theorem w_269 : Cond.methodLink "EnclaveWarden" 112 ⟨"EnclaveWarden", "leave", "(III)V"⟩ ∈ WS := ws_tbl (show _ ∈ tables_1 from List.mem_append_right _ (List.mem_append_left _ (show _ ∈ tables_1_2 from List.mem_of_getElem? (i := 29) (by decide +kernel)))) (by decide +kernel)
theorem w_271 : Cond.instanceMethod ⟨"EnclaveWarden", "leave", "(III)V"⟩ ∈ WS := ws_tbl (show _ ∈ tables_1 from List.mem_append_right _ (List.mem_append_left _ (show _ ∈ tables_1_2 from List.mem_of_getElem? (i := 31) (by decide +kernel)))) (by decide +kernel)
theorem w_272 : Cond.code ⟨"EnclaveWarden", "leave", "(III)V"⟩ prog_1_method_37_code 4 none ∈ WS := ws_tbl (show _ ∈ tables_1 from List.mem_append_right _ (List.mem_append_left _ (show _ ∈ tables_1_2 from List.mem_of_getElem? (i := 32) rfl))) (by decide +kernel)
theorem w_273 : Cond.methodLink "EnclaveWarden" 116 ⟨"EnclaveWarden", "runningThread", "()LEnclaveWarden$EnclaveThread;"⟩ ∈ WS := ws_tbl (show _ ∈ tables_1 from List.mem_append_right _ (List.mem_append_left _ (show _ ∈ tables_1_2 from List.mem_of_getElem? (i := 33) (by decide +kernel)))) (by decide +kernel)
theorem w_275 : Cond.instanceMethod ⟨"EnclaveWarden", "runningThread", "()LEnclaveWarden$EnclaveThread;"⟩ ∈ WS := ws_tbl (show _ ∈ tables_1 from List.mem_append_right _ (List.mem_append_left _ (show _ ∈ tables_1_2 from List.mem_of_getElem? (i := 35) (by decide +kernel)))) (by decide +kernel)
theorem w_276 : Cond.code ⟨"EnclaveWarden", "runningThread", "()LEnclaveWarden$EnclaveThread;"⟩ prog_1_method_31_code 1 (Option.some (.object "EnclaveWarden$EnclaveThread")) ∈ WS := ws_tbl (show _ ∈ tables_1 from List.mem_append_right _ (List.mem_append_left _ (show _ ∈ tables_1_2 from List.mem_of_getElem? (i := 36) rfl))) (by decide +kernel)
theorem w_277 : Cond.methodLink "EnclaveWarden" 120 ⟨"EnclaveWarden", "runnerMayUse", "(I)Z"⟩ ∈ WS := ws_tbl (show _ ∈ tables_1 from List.mem_append_right _ (List.mem_append_left _ (show _ ∈ tables_1_2 from List.mem_of_getElem? (i := 37) (by decide +kernel)))) (by decide +kernel)
theorem w_279 : Cond.instanceMethod ⟨"EnclaveWarden", "runnerMayUse", "(I)Z"⟩ ∈ WS := ws_tbl (show _ ∈ tables_1 from List.mem_append_right _ (List.mem_append_left _ (show _ ∈ tables_1_2 from List.mem_of_getElem? (i := 39) (by decide +kernel)))) (by decide +kernel)
theorem w_280 : Cond.code ⟨"EnclaveWarden", "runnerMayUse", "(I)Z"⟩ prog_1_method_30_code 2 (Option.some .boolean) ∈ WS := ws_tbl (show _ ∈ tables_1 from List.mem_append_right _ (List.mem_append_left _ (show _ ∈ tables_1_2 from List.mem_of_getElem? (i := 40) rfl))) (by decide +kernel)
theorem w_281 : Cond.methodLink "EnclaveWarden" 108 ⟨"EnclaveWarden", "enclaveMayUse", "(II)Z"⟩ ∈ WS := ws_tbl (show _ ∈ tables_1 from List.mem_append_right _ (List.mem_append_left _ (show _ ∈ tables_1_2 from List.mem_of_getElem? (i := 41) (by decide +kernel)))) (by decide +kernel)
theorem w_283 : Cond.instanceMethod ⟨"EnclaveWarden", "enclaveMayUse", "(II)Z"⟩ ∈ WS := ws_tbl (show _ ∈ tables_1 from List.mem_append_right _ (List.mem_append_left _ (show _ ∈ tables_1_2 from List.mem_of_getElem? (i := 43) (by decide +kernel)))) (by decide +kernel)
theorem w_284 : Cond.code ⟨"EnclaveWarden", "enclaveMayUse", "(II)Z"⟩ prog_1_method_29_code 4 (Option.some .boolean) ∈ WS := ws_tbl (show _ ∈ tables_1 from List.mem_append_right _ (List.mem_append_left _ (show _ ∈ tables_1_2 from List.mem_of_getElem? (i := 44) rfl))) (by decide +kernel)
theorem w_285 : Cond.methodLink "EnclaveWarden" 123 ⟨"EnclaveWarden", "fault", "(I)V"⟩ ∈ WS := ws_tbl (show _ ∈ tables_1 from List.mem_append_right _ (List.mem_append_left _ (show _ ∈ tables_1_2 from List.mem_of_getElem? (i := 45) (by decide +kernel)))) (by decide +kernel)
theorem w_287 : Cond.instanceMethod ⟨"EnclaveWarden", "fault", "(I)V"⟩ ∈ WS := ws_tbl (show _ ∈ tables_1 from List.mem_append_right _ (List.mem_append_left _ (show _ ∈ tables_1_2 from List.mem_of_getElem? (i := 47) (by decide +kernel)))) (by decide +kernel)
theorem w_288 : Cond.code ⟨"EnclaveWarden", "fault", "(I)V"⟩ prog_1_method_36_code 2 none ∈ WS := ws_tbl (show _ ∈ tables_1 from List.mem_append_right _ (List.mem_append_left _ (show _ ∈ tables_1_2 from List.mem_of_getElem? (i := 48) rfl))) (by decide +kernel)
theorem w_289 : Cond.methodLink "EnclaveWarden" 127 ⟨"EnclaveWarden", "obeyCall", "(LEnclaveWarden$Core;I)V"⟩ ∈ WS := ws_tbl (show _ ∈ tables_1 from List.mem_append_right _ (List.mem_append_left _ (show _ ∈ tables_1_2 from List.mem_of_getElem? (i := 49) (by decide +kernel)))) (by decide +kernel)
theorem w_291 : Cond.instanceMethod ⟨"EnclaveWarden", "obeyCall", "(LEnclaveWarden$Core;I)V"⟩ ∈ WS := ws_tbl (show _ ∈ tables_1 from List.mem_append_right _ (List.mem_append_left _ (show _ ∈ tables_1_2 from List.mem_of_getElem? (i := 51) (by decide +kernel)))) (by decide +kernel)
theorem w_292 : Cond.code ⟨"EnclaveWarden", "obeyCall", "(LEnclaveWarden$Core;I)V"⟩ prog_1_method_35_code 8 none ∈ WS := ws_tbl (show _ ∈ tables_1 from List.mem_append_right _ (List.mem_append_left _ (show _ ∈ tables_1_2 from List.mem_of_getElem? (i := 52) rfl))) (by decide +kernel)
theorem w_293 : Cond.methodLink "EnclaveWarden" 138 ⟨"EnclaveWarden", "enclaveCall", "(IIII)I"⟩ ∈ WS := ws_tbl (show _ ∈ tables_1 from List.mem_append_right _ (List.mem_append_left _ (show _ ∈ tables_1_2 from List.mem_of_getElem? (i := 53) (by decide +kernel)))) (by decide +kernel)
theorem w_295 : Cond.instanceMethod ⟨"EnclaveWarden", "enclaveCall", "(IIII)I"⟩ ∈ WS := ws_tbl (show _ ∈ tables_1 from List.mem_append_right _ (List.mem_append_left _ (show _ ∈ tables_1_2 from List.mem_of_getElem? (i := 55) (by decide +kernel)))) (by decide +kernel)
theorem w_296 : Cond.code ⟨"EnclaveWarden", "enclaveCall", "(IIII)I"⟩ prog_1_method_38_code 6 (Option.some .int) ∈ WS := ws_tbl (show _ ∈ tables_1 from List.mem_append_right _ (List.mem_append_left _ (show _ ∈ tables_1_2 from List.mem_of_getElem? (i := 56) rfl))) (by decide +kernel)
theorem w_297 : Cond.methodLink "EnclaveWarden" 100 ⟨"EnclaveWarden", "macOf", "(II)I"⟩ ∈ WS := ws_tbl (show _ ∈ tables_1 from List.mem_append_right _ (List.mem_append_left _ (show _ ∈ tables_1_2 from List.mem_of_getElem? (i := 57) (by decide +kernel)))) (by decide +kernel)
theorem w_299 : Cond.instanceMethod ⟨"EnclaveWarden", "macOf", "(II)I"⟩ ∈ WS := ws_tbl (show _ ∈ tables_1 from List.mem_append_right _ (List.mem_append_left _ (show _ ∈ tables_1_2 from List.mem_of_getElem? (i := 59) (by decide +kernel)))) (by decide +kernel)
theorem w_300 : Cond.code ⟨"EnclaveWarden", "macOf", "(II)I"⟩ prog_1_method_27_code 3 (Option.some .int) ∈ WS := ws_tbl (show _ ∈ tables_1 from List.mem_append_right _ (List.mem_append_left _ (show _ ∈ tables_1_2 from List.mem_of_getElem? (i := 60) rfl))) (by decide +kernel)
theorem w_301 : Cond.methodLink "EnclaveWarden" 105 ⟨"EnclaveWarden", "mix", "(II)I"⟩ ∈ WS := ws_tbl (show _ ∈ tables_1 from List.mem_append_right _ (List.mem_append_left _ (show _ ∈ tables_1_2 from List.mem_of_getElem? (i := 61) (by decide +kernel)))) (by decide +kernel)
theorem w_302 : Cond.methodLink "EnclaveWarden" 131 ⟨"EnclaveWarden", "obey", "(LEnclaveWarden$Core;I)V"⟩ ∈ WS := ws_tbl (show _ ∈ tables_1 from List.mem_append_right _ (List.mem_append_left _ (show _ ∈ tables_1_2 from List.mem_of_getElem? (i := 62) (by decide +kernel)))) (by decide +kernel)
theorem w_304 : Cond.instanceMethod ⟨"EnclaveWarden", "obey", "(LEnclaveWarden$Core;I)V"⟩ ∈ WS := ws_tbl (show _ ∈ tables_1 from List.mem_append_right _ (List.mem_append_left _ (show _ ∈ tables_1_2 from List.mem_of_getElem? (i := 64) (by decide +kernel)))) (by decide +kernel)
theorem w_305 : Cond.code ⟨"EnclaveWarden", "obey", "(LEnclaveWarden$Core;I)V"⟩ prog_1_method_33_code 8 none ∈ WS := ws_tbl (show _ ∈ tables_1 from List.mem_append_right _ (List.mem_append_left _ (show _ ∈ tables_1_2 from List.mem_of_getElem? (i := 65) rfl))) (by decide +kernel)
theorem w_306 : Cond.methodLink "EnclaveWarden" 134 ⟨"EnclaveWarden", "branch", "(LEnclaveWarden$Core;ZI)V"⟩ ∈ WS := ws_tbl (show _ ∈ tables_1 from List.mem_append_right _ (List.mem_append_left _ (show _ ∈ tables_1_2 from List.mem_of_getElem? (i := 66) (by decide +kernel)))) (by decide +kernel)
theorem w_307 : Cond.static ⟨"EnclaveWarden", "branch", "(LEnclaveWarden$Core;ZI)V"⟩ ∈ WS := ws_tbl (show _ ∈ tables_1 from List.mem_append_right _ (List.mem_append_left _ (show _ ∈ tables_1_2 from List.mem_of_getElem? (i := 67) (by decide +kernel)))) (by decide +kernel)
theorem w_308 : Cond.code ⟨"EnclaveWarden", "branch", "(LEnclaveWarden$Core;ZI)V"⟩ prog_1_method_34_code 3 none ∈ WS := ws_tbl (show _ ∈ tables_1 from List.mem_append_right _ (List.mem_append_left _ (show _ ∈ tables_1_2 from List.mem_of_getElem? (i := 68) rfl))) (by decide +kernel)
theorem w_358 : Cond.fieldLink "EnclaveWardenModel" 54 "EnclaveWardenModel" "secret" "I" ∈ WS := ws_tbl (show _ ∈ tables_1 from List.mem_append_right _ (List.mem_append_left _ (show _ ∈ tables_1_2 from List.mem_of_getElem? (i := 118) (by decide +kernel)))) (by decide +kernel)
theorem w_359 : Cond.fieldLink "EnclaveWardenModel" 7 "EnclaveWardenModel" "memory" "[I" ∈ WS := ws_tbl (show _ ∈ tables_1 from List.mem_append_right _ (List.mem_append_left _ (show _ ∈ tables_1_2 from List.mem_of_getElem? (i := 119) (by decide +kernel)))) (by decide +kernel)
theorem w_360 : Cond.fieldLink "EnclaveWardenModel" 13 "EnclaveWardenModel" "own" "[Z" ∈ WS := ws_tbl (show _ ∈ tables_1 from List.mem_append_right _ (List.mem_append_left _ (show _ ∈ tables_1_2 from List.mem_of_getElem? (i := 120) (by decide +kernel)))) (by decide +kernel)
theorem w_361 : Cond.fieldLink "EnclaveWardenModel" 17 "EnclaveWardenModel" "partner" "[I" ∈ WS := ws_tbl (show _ ∈ tables_1 from List.mem_append_right _ (List.mem_append_left _ (show _ ∈ tables_1_2 from List.mem_of_getElem? (i := 121) (by decide +kernel)))) (by decide +kernel)
theorem w_362 : Cond.fieldLink "EnclaveWardenModel" 20 "EnclaveWardenModel" "stateOf" "[I" ∈ WS := ws_tbl (show _ ∈ tables_1 from List.mem_append_right _ (List.mem_append_left _ (show _ ∈ tables_1_2 from List.mem_of_getElem? (i := 122) (by decide +kernel)))) (by decide +kernel)
theorem w_363 : Cond.fieldLink "EnclaveWardenModel" 23 "EnclaveWardenModel" "from" "[I" ∈ WS := ws_tbl (show _ ∈ tables_1 from List.mem_append_right _ (List.mem_append_left _ (show _ ∈ tables_1_2 from List.mem_of_getElem? (i := 123) (by decide +kernel)))) (by decide +kernel)
theorem w_364 : Cond.fieldLink "EnclaveWardenModel" 26 "EnclaveWardenModel" "size" "[I" ∈ WS := ws_tbl (show _ ∈ tables_1 from List.mem_append_right _ (List.mem_append_left _ (show _ ∈ tables_1_2 from List.mem_of_getElem? (i := 124) (by decide +kernel)))) (by decide +kernel)
theorem w_365 : Cond.fieldLink "EnclaveWardenModel" 29 "EnclaveWardenModel" "loads" "[I" ∈ WS := ws_tbl (show _ ∈ tables_1 from List.mem_append_right _ (List.mem_append_left _ (show _ ∈ tables_1_2 from List.mem_of_getElem? (i := 125) (by decide +kernel)))) (by decide +kernel)
theorem w_366 : Cond.fieldLink "EnclaveWardenModel" 32 "EnclaveWardenModel" "added" "[I" ∈ WS := ws_tbl (show _ ∈ tables_1 from List.mem_append_right _ (List.mem_append_left _ (show _ ∈ tables_1_2 from List.mem_of_getElem? (i := 126) (by decide +kernel)))) (by decide +kernel)
theorem w_367 : Cond.fieldLink "EnclaveWardenModel" 35 "EnclaveWardenModel" "count" "[I" ∈ WS := ws_tbl (show _ ∈ tables_1 from List.mem_append_right _ (List.mem_append_left _ (show _ ∈ tables_1_2 from List.mem_of_getElem? (i := 127) (by decide +kernel)))) (by decide +kernel)
theorem w_368 : Cond.fieldLink "EnclaveWardenModel" 38 "EnclaveWardenModel" "phase" "[I" ∈ WS := ws_tbl (show _ ∈ tables_1 from List.mem_append_right _ (List.mem_append_left _ (show _ ∈ tables_1_2 from List.mem_of_getElem? (i := 128) (by decide +kernel)))) (by decide +kernel)
theorem w_369 : Cond.fieldLink "EnclaveWardenModel" 41 "EnclaveWardenModel" "entry" "[I" ∈ WS := ws_tbl (show _ ∈ tables_1 from List.mem_append_right _ (List.mem_append_left _ (show _ ∈ tables_1_2 from List.mem_of_getElem? (i := 129) (by decide +kernel)))) (by decide +kernel)
theorem w_370 : Cond.fieldLink "EnclaveWardenModel" 44 "EnclaveWardenModel" "reg" "[I" ∈ WS := ws_tbl (show _ ∈ tables_1 from List.mem_append_right _ (List.mem_append_left _ (show _ ∈ tables_1_2 from List.mem_of_getElem? (i := 130) (by decide +kernel)))) (by decide +kernel)
theorem w_371 : Cond.fieldLink "EnclaveWardenModel" 47 "EnclaveWardenModel" "place" "[I" ∈ WS := ws_tbl (show _ ∈ tables_1 from List.mem_append_right _ (List.mem_append_left _ (show _ ∈ tables_1_2 from List.mem_of_getElem? (i := 131) (by decide +kernel)))) (by decide +kernel)
theorem w_372 : Cond.fieldLink "EnclaveWardenModel" 50 "EnclaveWardenModel" "who" "I" ∈ WS := ws_tbl (show _ ∈ tables_1 from List.mem_append_right _ (List.mem_append_left _ (show _ ∈ tables_1_2 from List.mem_of_getElem? (i := 132) (by decide +kernel)))) (by decide +kernel)
theorem w_373 : Cond.fieldLink "EnclaveWardenModel" 131 "EnclaveWardenModel" "stopped" "Z" ∈ WS := ws_tbl (show _ ∈ tables_1 from List.mem_append_right _ (List.mem_append_left _ (show _ ∈ tables_1_2 from List.mem_of_getElem? (i := 133) (by decide +kernel)))) (by decide +kernel)
theorem w_374 : Cond.fieldLink "EnclaveWardenModel" 138 "EnclaveWardenModel" "rhythm" "I" ∈ WS := ws_tbl (show _ ∈ tables_1 from List.mem_append_right _ (List.mem_append_left _ (show _ ∈ tables_1_2 from List.mem_of_getElem? (i := 134) (by decide +kernel)))) (by decide +kernel)
theorem w_375 : Cond.fieldLink "EnclaveWardenModel" 125 "EnclaveWardenModel" "ticks" "I" ∈ WS := ws_tbl (show _ ∈ tables_1 from List.mem_append_right _ (List.mem_append_left _ (show _ ∈ tables_1_2 from List.mem_of_getElem? (i := 135) (by decide +kernel)))) (by decide +kernel)
theorem w_376 : Cond.fieldLink "EnclaveWardenModel" 113 "EnclaveWardenModel" "exits" "I" ∈ WS := ws_tbl (show _ ∈ tables_1 from List.mem_append_right _ (List.mem_append_left _ (show _ ∈ tables_1_2 from List.mem_of_getElem? (i := 136) (by decide +kernel)))) (by decide +kernel)
theorem w_377 : Cond.fieldLink "EnclaveWardenModel" 116 "EnclaveWardenModel" "exitEnclave" "I" ∈ WS := ws_tbl (show _ ∈ tables_1 from List.mem_append_right _ (List.mem_append_left _ (show _ ∈ tables_1_2 from List.mem_of_getElem? (i := 137) (by decide +kernel)))) (by decide +kernel)
theorem w_378 : Cond.fieldLink "EnclaveWardenModel" 119 "EnclaveWardenModel" "exitKind" "I" ∈ WS := ws_tbl (show _ ∈ tables_1 from List.mem_append_right _ (List.mem_append_left _ (show _ ∈ tables_1_2 from List.mem_of_getElem? (i := 138) (by decide +kernel)))) (by decide +kernel)
theorem w_379 : Cond.fieldLink "EnclaveWardenModel" 122 "EnclaveWardenModel" "exitValue" "I" ∈ WS := ws_tbl (show _ ∈ tables_1 from List.mem_append_right _ (List.mem_append_left _ (show _ ∈ tables_1_2 from List.mem_of_getElem? (i := 139) (by decide +kernel)))) (by decide +kernel)
theorem w_380 : Cond.fieldLink "EnclaveWardenModel" 128 "EnclaveWardenModel" "exitTick" "I" ∈ WS := ws_tbl (show _ ∈ tables_1 from List.mem_append_right _ (List.mem_append_left _ (show _ ∈ tables_1_2 from List.mem_of_getElem? (i := 140) (by decide +kernel)))) (by decide +kernel)
theorem w_381 : Cond.lays "EnclaveWardenModel" "EnclaveWardenModel" "secret" "I" ∈ WS := ws_tbl (show _ ∈ tables_1 from List.mem_append_right _ (List.mem_append_left _ (show _ ∈ tables_1_2 from List.mem_of_getElem? (i := 141) (by decide +kernel)))) (by decide +kernel)
theorem w_383 : Cond.lays "EnclaveWardenModel" "EnclaveWardenModel" "memory" "[I" ∈ WS := ws_tbl (show _ ∈ tables_1 from List.mem_append_right _ (List.mem_append_left _ (show _ ∈ tables_1_2 from List.mem_of_getElem? (i := 143) (by decide +kernel)))) (by decide +kernel)
theorem w_385 : Cond.lays "EnclaveWardenModel" "EnclaveWardenModel" "own" "[Z" ∈ WS := ws_tbl (show _ ∈ tables_1 from List.mem_append_right _ (List.mem_append_left _ (show _ ∈ tables_1_2 from List.mem_of_getElem? (i := 145) (by decide +kernel)))) (by decide +kernel)
theorem w_387 : Cond.lays "EnclaveWardenModel" "EnclaveWardenModel" "partner" "[I" ∈ WS := ws_tbl (show _ ∈ tables_1 from List.mem_append_right _ (List.mem_append_left _ (show _ ∈ tables_1_2 from List.mem_of_getElem? (i := 147) (by decide +kernel)))) (by decide +kernel)
theorem w_389 : Cond.lays "EnclaveWardenModel" "EnclaveWardenModel" "stateOf" "[I" ∈ WS := ws_tbl (show _ ∈ tables_1 from List.mem_append_right _ (List.mem_append_left _ (show _ ∈ tables_1_2 from List.mem_of_getElem? (i := 149) (by decide +kernel)))) (by decide +kernel)
theorem w_391 : Cond.lays "EnclaveWardenModel" "EnclaveWardenModel" "from" "[I" ∈ WS := ws_tbl (show _ ∈ tables_1 from List.mem_append_right _ (List.mem_append_left _ (show _ ∈ tables_1_2 from List.mem_of_getElem? (i := 151) (by decide +kernel)))) (by decide +kernel)
theorem w_393 : Cond.lays "EnclaveWardenModel" "EnclaveWardenModel" "size" "[I" ∈ WS := ws_tbl (show _ ∈ tables_1 from List.mem_append_right _ (List.mem_append_left _ (show _ ∈ tables_1_2 from List.mem_of_getElem? (i := 153) (by decide +kernel)))) (by decide +kernel)
theorem w_395 : Cond.lays "EnclaveWardenModel" "EnclaveWardenModel" "loads" "[I" ∈ WS := ws_tbl (show _ ∈ tables_1 from List.mem_append_right _ (List.mem_append_left _ (show _ ∈ tables_1_2 from List.mem_of_getElem? (i := 155) (by decide +kernel)))) (by decide +kernel)
theorem w_397 : Cond.lays "EnclaveWardenModel" "EnclaveWardenModel" "added" "[I" ∈ WS := ws_tbl (show _ ∈ tables_1 from List.mem_append_right _ (List.mem_append_left _ (show _ ∈ tables_1_2 from List.mem_of_getElem? (i := 157) (by decide +kernel)))) (by decide +kernel)
theorem w_399 : Cond.lays "EnclaveWardenModel" "EnclaveWardenModel" "count" "[I" ∈ WS := ws_tbl (show _ ∈ tables_1 from List.mem_append_right _ (List.mem_append_left _ (show _ ∈ tables_1_2 from List.mem_of_getElem? (i := 159) (by decide +kernel)))) (by decide +kernel)
theorem w_401 : Cond.lays "EnclaveWardenModel" "EnclaveWardenModel" "phase" "[I" ∈ WS := ws_tbl (show _ ∈ tables_1 from List.mem_append_right _ (List.mem_append_left _ (show _ ∈ tables_1_2 from List.mem_of_getElem? (i := 161) (by decide +kernel)))) (by decide +kernel)
theorem w_403 : Cond.lays "EnclaveWardenModel" "EnclaveWardenModel" "entry" "[I" ∈ WS := ws_tbl (show _ ∈ tables_1 from List.mem_append_right _ (List.mem_append_left _ (show _ ∈ tables_1_2 from List.mem_of_getElem? (i := 163) (by decide +kernel)))) (by decide +kernel)
theorem w_405 : Cond.lays "EnclaveWardenModel" "EnclaveWardenModel" "reg" "[I" ∈ WS := ws_tbl (show _ ∈ tables_1 from List.mem_append_right _ (List.mem_append_left _ (show _ ∈ tables_1_2 from List.mem_of_getElem? (i := 165) (by decide +kernel)))) (by decide +kernel)
theorem w_407 : Cond.lays "EnclaveWardenModel" "EnclaveWardenModel" "place" "[I" ∈ WS := ws_tbl (show _ ∈ tables_1 from List.mem_append_right _ (List.mem_append_left _ (show _ ∈ tables_1_2 from List.mem_of_getElem? (i := 167) (by decide +kernel)))) (by decide +kernel)
theorem w_409 : Cond.lays "EnclaveWardenModel" "EnclaveWardenModel" "who" "I" ∈ WS := ws_tbl (show _ ∈ tables_1 from List.mem_append_right _ (List.mem_append_left _ (show _ ∈ tables_1_2 from List.mem_of_getElem? (i := 169) (by decide +kernel)))) (by decide +kernel)
theorem w_411 : Cond.lays "EnclaveWardenModel" "EnclaveWardenModel" "stopped" "Z" ∈ WS := ws_tbl (show _ ∈ tables_1 from List.mem_append_right _ (List.mem_append_left _ (show _ ∈ tables_1_2 from List.mem_of_getElem? (i := 171) (by decide +kernel)))) (by decide +kernel)
theorem w_413 : Cond.lays "EnclaveWardenModel" "EnclaveWardenModel" "rhythm" "I" ∈ WS := ws_tbl (show _ ∈ tables_1 from List.mem_append_right _ (List.mem_append_left _ (show _ ∈ tables_1_2 from List.mem_of_getElem? (i := 173) (by decide +kernel)))) (by decide +kernel)
theorem w_415 : Cond.lays "EnclaveWardenModel" "EnclaveWardenModel" "ticks" "I" ∈ WS := ws_tbl (show _ ∈ tables_1 from List.mem_append_right _ (List.mem_append_left _ (show _ ∈ tables_1_2 from List.mem_of_getElem? (i := 175) (by decide +kernel)))) (by decide +kernel)
theorem w_417 : Cond.lays "EnclaveWardenModel" "EnclaveWardenModel" "exits" "I" ∈ WS := ws_tbl (show _ ∈ tables_1 from List.mem_append_right _ (List.mem_append_left _ (show _ ∈ tables_1_2 from List.mem_of_getElem? (i := 177) (by decide +kernel)))) (by decide +kernel)
theorem w_419 : Cond.lays "EnclaveWardenModel" "EnclaveWardenModel" "exitEnclave" "I" ∈ WS := ws_tbl (show _ ∈ tables_1 from List.mem_append_right _ (List.mem_append_left _ (show _ ∈ tables_1_2 from List.mem_of_getElem? (i := 179) (by decide +kernel)))) (by decide +kernel)
theorem w_421 : Cond.lays "EnclaveWardenModel" "EnclaveWardenModel" "exitKind" "I" ∈ WS := ws_tbl (show _ ∈ tables_1 from List.mem_append_right _ (List.mem_append_left _ (show _ ∈ tables_1_2 from List.mem_of_getElem? (i := 181) (by decide +kernel)))) (by decide +kernel)
theorem w_423 : Cond.lays "EnclaveWardenModel" "EnclaveWardenModel" "exitValue" "I" ∈ WS := ws_tbl (show _ ∈ tables_1 from List.mem_append_right _ (List.mem_append_left _ (show _ ∈ tables_1_2 from List.mem_of_getElem? (i := 183) (by decide +kernel)))) (by decide +kernel)
theorem w_425 : Cond.lays "EnclaveWardenModel" "EnclaveWardenModel" "exitTick" "I" ∈ WS := ws_tbl (show _ ∈ tables_1 from List.mem_append_right _ (List.mem_append_left _ (show _ ∈ tables_1_2 from List.mem_of_getElem? (i := 185) (by decide +kernel)))) (by decide +kernel)
theorem w_433 : Cond.methodLink "EnclaveWardenModel" 141 ⟨"EnclaveWardenModel", "uses", "(II)Z"⟩ ∈ WS := ws_tbl (show _ ∈ tables_1 from List.mem_append_right _ (List.mem_append_left _ (show _ ∈ tables_1_2 from List.mem_of_getElem? (i := 193) (by decide +kernel)))) (by decide +kernel)
theorem w_435 : Cond.instanceMethod ⟨"EnclaveWardenModel", "uses", "(II)Z"⟩ ∈ WS := ws_tbl (show _ ∈ tables_1 from List.mem_append_right _ (List.mem_append_left _ (show _ ∈ tables_1_2 from List.mem_of_getElem? (i := 195) (by decide +kernel)))) (by decide +kernel)
theorem w_436 : Cond.code ⟨"EnclaveWardenModel", "uses", "(II)Z"⟩ prog_6_method_4_code 4 (Option.some .boolean) ∈ WS := ws_tbl (show _ ∈ tables_1 from List.mem_append_right _ (List.mem_append_left _ (show _ ∈ tables_1_2 from List.mem_of_getElem? (i := 196) rfl))) (by decide +kernel)
theorem w_437 : Cond.methodLink "EnclaveWardenModel" 57 ⟨"EnclaveWardenModel", "outside", "(II)Z"⟩ ∈ WS := ws_tbl (show _ ∈ tables_1 from List.mem_append_right _ (List.mem_append_left _ (show _ ∈ tables_1_2 from List.mem_of_getElem? (i := 197) (by decide +kernel)))) (by decide +kernel)
theorem w_438 : Cond.static ⟨"EnclaveWardenModel", "outside", "(II)Z"⟩ ∈ WS := ws_tbl (show _ ∈ tables_1 from List.mem_append_right _ (List.mem_append_left _ (show _ ∈ tables_1_2 from List.mem_of_getElem? (i := 198) (by decide +kernel)))) (by decide +kernel)
theorem w_439 : Cond.code ⟨"EnclaveWardenModel", "outside", "(II)Z"⟩ prog_6_method_2_code 2 (Option.some .boolean) ∈ WS := ws_tbl (show _ ∈ tables_1 from List.mem_append_right _ (List.mem_append_left _ (show _ ∈ tables_1_2 from List.mem_of_getElem? (i := 199) rfl))) (by decide +kernel)
theorem w_440 : Cond.methodLink "EnclaveWardenModel" 61 ⟨"EnclaveWardenModel", "kind", "(I)I"⟩ ∈ WS := ws_tbl (show _ ∈ tables_1 from List.mem_append_right _ (List.mem_append_left _ (show _ ∈ tables_1_2 from List.mem_of_getElem? (i := 200) (by decide +kernel)))) (by decide +kernel)
theorem w_442 : Cond.instanceMethod ⟨"EnclaveWardenModel", "kind", "(I)I"⟩ ∈ WS := ws_tbl (show _ ∈ tables_1 from List.mem_append_right _ (List.mem_append_left _ (show _ ∈ tables_1_2 from List.mem_of_getElem? (i := 202) (by decide +kernel)))) (by decide +kernel)
theorem w_443 : Cond.code ⟨"EnclaveWardenModel", "kind", "(I)I"⟩ prog_6_method_3_code 3 (Option.some .int) ∈ WS := ws_tbl (show _ ∈ tables_1 from List.mem_append_right _ (List.mem_append_left _ (show _ ∈ tables_1_2 from List.mem_of_getElem? (i := 203) rfl))) (by decide +kernel)
theorem w_476 : Cond.methodLink "EnclaveWardenModel" 157 ⟨"EnclaveWardenModel", "system", "(IIII)I"⟩ ∈ WS := ws_tbl (show _ ∈ tables_1 from List.mem_append_right _ (List.mem_append_left _ (show _ ∈ tables_1_2 from List.mem_of_getElem? (i := 236) (by decide +kernel)))) (by decide +kernel)
theorem w_478 : Cond.instanceMethod ⟨"EnclaveWardenModel", "system", "(IIII)I"⟩ ∈ WS := ws_tbl (show _ ∈ tables_1 from List.mem_append_right _ (List.mem_append_left _ (show _ ∈ tables_1_2 from List.mem_of_getElem? (i := 238) (by decide +kernel)))) (by decide +kernel)
theorem w_479 : Cond.code ⟨"EnclaveWardenModel", "system", "(IIII)I"⟩ prog_6_method_13_code 5 (Option.some .int) ∈ WS := ws_tbl (show _ ∈ tables_1 from List.mem_append_right _ (List.mem_append_left _ (show _ ∈ tables_1_2 from List.mem_of_getElem? (i := 239) rfl))) (by decide +kernel)
theorem w_480 : Cond.methodLink "EnclaveWardenModel" 70 ⟨"EnclaveWardenModel", "bad", "(IIII)Z"⟩ ∈ WS := ws_tbl (show _ ∈ tables_1 from List.mem_append_right _ (List.mem_append_right _ ((show _ ∈ tables_1_3 from List.mem_of_getElem? (i := 0) (by decide +kernel))))) (by decide +kernel)
theorem w_481 : Cond.static ⟨"EnclaveWardenModel", "bad", "(IIII)Z"⟩ ∈ WS := ws_tbl (show _ ∈ tables_1 from List.mem_append_right _ (List.mem_append_right _ ((show _ ∈ tables_1_3 from List.mem_of_getElem? (i := 1) (by decide +kernel))))) (by decide +kernel)
theorem w_482 : Cond.code ⟨"EnclaveWardenModel", "bad", "(IIII)Z"⟩ prog_6_method_9_code 4 (Option.some .boolean) ∈ WS := ws_tbl (show _ ∈ tables_1 from List.mem_append_right _ (List.mem_append_right _ ((show _ ∈ tables_1_3 from List.mem_of_getElem? (i := 2) rfl)))) (by decide +kernel)
theorem w_483 : Cond.methodLink "EnclaveWardenModel" 74 ⟨"EnclaveWardenModel", "wrongState", "(III)Z"⟩ ∈ WS := ws_tbl (show _ ∈ tables_1 from List.mem_append_right _ (List.mem_append_right _ ((show _ ∈ tables_1_3 from List.mem_of_getElem? (i := 3) (by decide +kernel))))) (by decide +kernel)
theorem w_485 : Cond.instanceMethod ⟨"EnclaveWardenModel", "wrongState", "(III)Z"⟩ ∈ WS := ws_tbl (show _ ∈ tables_1 from List.mem_append_right _ (List.mem_append_right _ ((show _ ∈ tables_1_3 from List.mem_of_getElem? (i := 5) (by decide +kernel))))) (by decide +kernel)
theorem w_486 : Cond.code ⟨"EnclaveWardenModel", "wrongState", "(III)Z"⟩ prog_6_method_10_code 4 (Option.some .boolean) ∈ WS := ws_tbl (show _ ∈ tables_1 from List.mem_append_right _ (List.mem_append_right _ ((show _ ∈ tables_1_3 from List.mem_of_getElem? (i := 6) rfl)))) (by decide +kernel)
theorem w_487 : Cond.methodLink "EnclaveWardenModel" 78 ⟨"EnclaveWardenModel", "taken", "(IIII)Z"⟩ ∈ WS := ws_tbl (show _ ∈ tables_1 from List.mem_append_right _ (List.mem_append_right _ ((show _ ∈ tables_1_3 from List.mem_of_getElem? (i := 7) (by decide +kernel))))) (by decide +kernel)
theorem w_489 : Cond.instanceMethod ⟨"EnclaveWardenModel", "taken", "(IIII)Z"⟩ ∈ WS := ws_tbl (show _ ∈ tables_1 from List.mem_append_right _ (List.mem_append_right _ ((show _ ∈ tables_1_3 from List.mem_of_getElem? (i := 9) (by decide +kernel))))) (by decide +kernel)
theorem w_490 : Cond.code ⟨"EnclaveWardenModel", "taken", "(IIII)Z"⟩ prog_6_method_11_code 6 (Option.some .boolean) ∈ WS := ws_tbl (show _ ∈ tables_1 from List.mem_append_right _ (List.mem_append_right _ ((show _ ∈ tables_1_3 from List.mem_of_getElem? (i := 10) rfl)))) (by decide +kernel)
theorem w_491 : Cond.methodLink "EnclaveWardenModel" 81 ⟨"EnclaveWardenModel", "full", "(II)Z"⟩ ∈ WS := ws_tbl (show _ ∈ tables_1 from List.mem_append_right _ (List.mem_append_right _ ((show _ ∈ tables_1_3 from List.mem_of_getElem? (i := 11) (by decide +kernel))))) (by decide +kernel)
theorem w_493 : Cond.instanceMethod ⟨"EnclaveWardenModel", "full", "(II)Z"⟩ ∈ WS := ws_tbl (show _ ∈ tables_1 from List.mem_append_right _ (List.mem_append_right _ ((show _ ∈ tables_1_3 from List.mem_of_getElem? (i := 13) (by decide +kernel))))) (by decide +kernel)
theorem w_494 : Cond.code ⟨"EnclaveWardenModel", "full", "(II)Z"⟩ prog_6_method_12_code 5 (Option.some .boolean) ∈ WS := ws_tbl (show _ ∈ tables_1 from List.mem_append_right _ (List.mem_append_right _ ((show _ ∈ tables_1_3 from List.mem_of_getElem? (i := 14) rfl)))) (by decide +kernel)
theorem w_495 : Cond.methodLink "EnclaveWardenModel" 84 ⟨"EnclaveWardenModel", "create", "(II)I"⟩ ∈ WS := ws_tbl (show _ ∈ tables_1 from List.mem_append_right _ (List.mem_append_right _ ((show _ ∈ tables_1_3 from List.mem_of_getElem? (i := 15) (by decide +kernel))))) (by decide +kernel)
theorem w_497 : Cond.instanceMethod ⟨"EnclaveWardenModel", "create", "(II)I"⟩ ∈ WS := ws_tbl (show _ ∈ tables_1 from List.mem_append_right _ (List.mem_append_right _ ((show _ ∈ tables_1_3 from List.mem_of_getElem? (i := 17) (by decide +kernel))))) (by decide +kernel)
theorem w_498 : Cond.code ⟨"EnclaveWardenModel", "create", "(II)I"⟩ prog_6_method_14_code 4 (Option.some .int) ∈ WS := ws_tbl (show _ ∈ tables_1 from List.mem_append_right _ (List.mem_append_right _ ((show _ ∈ tables_1_3 from List.mem_of_getElem? (i := 18) rfl)))) (by decide +kernel)
theorem w_499 : Cond.methodLink "EnclaveWardenModel" 98 ⟨"EnclaveWardenModel", "add", "(II)V"⟩ ∈ WS := ws_tbl (show _ ∈ tables_1 from List.mem_append_right _ (List.mem_append_right _ ((show _ ∈ tables_1_3 from List.mem_of_getElem? (i := 19) (by decide +kernel))))) (by decide +kernel)
theorem w_501 : Cond.instanceMethod ⟨"EnclaveWardenModel", "add", "(II)V"⟩ ∈ WS := ws_tbl (show _ ∈ tables_1 from List.mem_append_right _ (List.mem_append_right _ ((show _ ∈ tables_1_3 from List.mem_of_getElem? (i := 21) (by decide +kernel))))) (by decide +kernel)
theorem w_502 : Cond.code ⟨"EnclaveWardenModel", "add", "(II)V"⟩ prog_6_method_7_code 3 none ∈ WS := ws_tbl (show _ ∈ tables_1 from List.mem_append_right _ (List.mem_append_right _ ((show _ ∈ tables_1_3 from List.mem_of_getElem? (i := 22) rfl)))) (by decide +kernel)
theorem w_503 : Cond.methodLink "EnclaveWardenModel" 87 ⟨"EnclaveWardenModel", "thread", "(II)I"⟩ ∈ WS := ws_tbl (show _ ∈ tables_1 from List.mem_append_right _ (List.mem_append_right _ ((show _ ∈ tables_1_3 from List.mem_of_getElem? (i := 23) (by decide +kernel))))) (by decide +kernel)
theorem w_504 : Cond.instanceMethod ⟨"EnclaveWardenModel", "thread", "(II)I"⟩ ∈ WS := ws_tbl (show _ ∈ tables_1 from List.mem_append_right _ (List.mem_append_right _ ((show _ ∈ tables_1_3 from List.mem_of_getElem? (i := 24) (by decide +kernel))))) (by decide +kernel)
theorem w_505 : Cond.selects "EnclaveWardenModel" ⟨"EnclaveWardenModel", "thread", "(II)I"⟩ ⟨"EnclaveWardenModel", "thread", "(II)I"⟩ ∈ WS := ws_tbl (show _ ∈ tables_1 from List.mem_append_right _ (List.mem_append_right _ ((show _ ∈ tables_1_3 from List.mem_of_getElem? (i := 25) (by decide +kernel))))) (by decide +kernel)
theorem w_506 : Cond.code ⟨"EnclaveWardenModel", "thread", "(II)I"⟩ prog_6_method_41_code 3 (Option.some .int) ∈ WS := ws_tbl (show _ ∈ tables_1 from List.mem_append_right _ (List.mem_append_right _ ((show _ ∈ tables_1_3 from List.mem_of_getElem? (i := 26) rfl)))) (by decide +kernel)
theorem w_507 : Cond.methodLink "EnclaveWardenModel" 90 ⟨"EnclaveWardenModel", "append", "(III)I"⟩ ∈ WS := ws_tbl (show _ ∈ tables_1 from List.mem_append_right _ (List.mem_append_right _ ((show _ ∈ tables_1_3 from List.mem_of_getElem? (i := 27) (by decide +kernel))))) (by decide +kernel)
theorem w_509 : Cond.instanceMethod ⟨"EnclaveWardenModel", "append", "(III)I"⟩ ∈ WS := ws_tbl (show _ ∈ tables_1 from List.mem_append_right _ (List.mem_append_right _ ((show _ ∈ tables_1_3 from List.mem_of_getElem? (i := 29) (by decide +kernel))))) (by decide +kernel)
theorem w_510 : Cond.code ⟨"EnclaveWardenModel", "append", "(III)I"⟩ prog_6_method_15_code 4 (Option.some .int) ∈ WS := ws_tbl (show _ ∈ tables_1 from List.mem_append_right _ (List.mem_append_right _ ((show _ ∈ tables_1_3 from List.mem_of_getElem? (i := 30) rfl)))) (by decide +kernel)
theorem w_511 : Cond.methodLink "EnclaveWardenModel" 94 ⟨"EnclaveWardenModel", "perform", "(IIII)V"⟩ ∈ WS := ws_tbl (show _ ∈ tables_1 from List.mem_append_right _ (List.mem_append_right _ ((show _ ∈ tables_1_3 from List.mem_of_getElem? (i := 31) (by decide +kernel))))) (by decide +kernel)
theorem w_513 : Cond.instanceMethod ⟨"EnclaveWardenModel", "perform", "(IIII)V"⟩ ∈ WS := ws_tbl (show _ ∈ tables_1 from List.mem_append_right _ (List.mem_append_right _ ((show _ ∈ tables_1_3 from List.mem_of_getElem? (i := 33) (by decide +kernel))))) (by decide +kernel)
theorem w_514 : Cond.code ⟨"EnclaveWardenModel", "perform", "(IIII)V"⟩ prog_6_method_16_code 6 none ∈ WS := ws_tbl (show _ ∈ tables_1 from List.mem_append_right _ (List.mem_append_right _ ((show _ ∈ tables_1_3 from List.mem_of_getElem? (i := 34) rfl)))) (by decide +kernel)
theorem w_515 : Cond.methodLink "EnclaveWardenModel" 102 ⟨"EnclaveWardenModel", "load", "(III)V"⟩ ∈ WS := ws_tbl (show _ ∈ tables_1 from List.mem_append_right _ (List.mem_append_right _ ((show _ ∈ tables_1_3 from List.mem_of_getElem? (i := 35) (by decide +kernel))))) (by decide +kernel)
theorem w_517 : Cond.instanceMethod ⟨"EnclaveWardenModel", "load", "(III)V"⟩ ∈ WS := ws_tbl (show _ ∈ tables_1 from List.mem_append_right _ (List.mem_append_right _ ((show _ ∈ tables_1_3 from List.mem_of_getElem? (i := 37) (by decide +kernel))))) (by decide +kernel)
theorem w_518 : Cond.code ⟨"EnclaveWardenModel", "load", "(III)V"⟩ prog_6_method_17_code 5 none ∈ WS := ws_tbl (show _ ∈ tables_1 from List.mem_append_right _ (List.mem_append_right _ ((show _ ∈ tables_1_3 from List.mem_of_getElem? (i := 38) rfl)))) (by decide +kernel)
theorem w_519 : Cond.methodLink "EnclaveWardenModel" 106 ⟨"EnclaveWardenModel", "destroy", "(I)V"⟩ ∈ WS := ws_tbl (show _ ∈ tables_1 from List.mem_append_right _ (List.mem_append_right _ ((show _ ∈ tables_1_3 from List.mem_of_getElem? (i := 39) (by decide +kernel))))) (by decide +kernel)
theorem w_521 : Cond.instanceMethod ⟨"EnclaveWardenModel", "destroy", "(I)V"⟩ ∈ WS := ws_tbl (show _ ∈ tables_1 from List.mem_append_right _ (List.mem_append_right _ ((show _ ∈ tables_1_3 from List.mem_of_getElem? (i := 41) (by decide +kernel))))) (by decide +kernel)
theorem w_522 : Cond.code ⟨"EnclaveWardenModel", "destroy", "(I)V"⟩ prog_6_method_19_code 3 none ∈ WS := ws_tbl (show _ ∈ tables_1 from List.mem_append_right _ (List.mem_append_right _ ((show _ ∈ tables_1_3 from List.mem_of_getElem? (i := 42) rfl)))) (by decide +kernel)
theorem w_523 : Cond.methodLink "EnclaveWardenModel" 110 ⟨"EnclaveWardenModel", "wipe", "(I)V"⟩ ∈ WS := ws_tbl (show _ ∈ tables_1 from List.mem_append_right _ (List.mem_append_right _ ((show _ ∈ tables_1_3 from List.mem_of_getElem? (i := 43) (by decide +kernel))))) (by decide +kernel)
theorem w_525 : Cond.instanceMethod ⟨"EnclaveWardenModel", "wipe", "(I)V"⟩ ∈ WS := ws_tbl (show _ ∈ tables_1 from List.mem_append_right _ (List.mem_append_right _ ((show _ ∈ tables_1_3 from List.mem_of_getElem? (i := 45) (by decide +kernel))))) (by decide +kernel)
theorem w_526 : Cond.code ⟨"EnclaveWardenModel", "wipe", "(I)V"⟩ prog_6_method_18_code 3 none ∈ WS := ws_tbl (show _ ∈ tables_1 from List.mem_append_right _ (List.mem_append_right _ ((show _ ∈ tables_1_3 from List.mem_of_getElem? (i := 46) rfl)))) (by decide +kernel)
theorem w_531 : Cond.methodLink "EnclaveWardenModel" 167 ⟨"EnclaveWardenModel", "step", "()V"⟩ ∈ WS := ws_tbl (show _ ∈ tables_1 from List.mem_append_right _ (List.mem_append_right _ ((show _ ∈ tables_1_3 from List.mem_of_getElem? (i := 51) (by decide +kernel))))) (by decide +kernel)
theorem w_533 : Cond.instanceMethod ⟨"EnclaveWardenModel", "step", "()V"⟩ ∈ WS := ws_tbl (show _ ∈ tables_1 from List.mem_append_right _ (List.mem_append_right _ ((show _ ∈ tables_1_3 from List.mem_of_getElem? (i := 53) (by decide +kernel))))) (by decide +kernel)
theorem w_534 : Cond.code ⟨"EnclaveWardenModel", "step", "()V"⟩ prog_6_method_22_code 11 none ∈ WS := ws_tbl (show _ ∈ tables_1 from List.mem_append_right _ (List.mem_append_right _ ((show _ ∈ tables_1_3 from List.mem_of_getElem? (i := 54) rfl)))) (by decide +kernel)
theorem w_535 : Cond.methodLink "EnclaveWardenModel" 135 ⟨"EnclaveWardenModel", "leave", "(II)V"⟩ ∈ WS := ws_tbl (show _ ∈ tables_1 from List.mem_append_right _ (List.mem_append_right _ ((show _ ∈ tables_1_3 from List.mem_of_getElem? (i := 55) (by decide +kernel))))) (by decide +kernel)
theorem w_537 : Cond.instanceMethod ⟨"EnclaveWardenModel", "leave", "(II)V"⟩ ∈ WS := ws_tbl (show _ ∈ tables_1 from List.mem_append_right _ (List.mem_append_right _ ((show _ ∈ tables_1_3 from List.mem_of_getElem? (i := 57) (by decide +kernel))))) (by decide +kernel)
theorem w_538 : Cond.code ⟨"EnclaveWardenModel", "leave", "(II)V"⟩ prog_6_method_20_code 3 none ∈ WS := ws_tbl (show _ ∈ tables_1 from List.mem_append_right _ (List.mem_append_right _ ((show _ ∈ tables_1_3 from List.mem_of_getElem? (i := 58) rfl)))) (by decide +kernel)
theorem w_539 : Cond.methodLink "EnclaveWardenModel" 144 ⟨"EnclaveWardenModel", "fault", "(I)V"⟩ ∈ WS := ws_tbl (show _ ∈ tables_1 from List.mem_append_right _ (List.mem_append_right _ ((show _ ∈ tables_1_3 from List.mem_of_getElem? (i := 59) (by decide +kernel))))) (by decide +kernel)
theorem w_541 : Cond.instanceMethod ⟨"EnclaveWardenModel", "fault", "(I)V"⟩ ∈ WS := ws_tbl (show _ ∈ tables_1 from List.mem_append_right _ (List.mem_append_right _ ((show _ ∈ tables_1_3 from List.mem_of_getElem? (i := 61) (by decide +kernel))))) (by decide +kernel)
theorem w_542 : Cond.code ⟨"EnclaveWardenModel", "fault", "(I)V"⟩ prog_6_method_21_code 2 none ∈ WS := ws_tbl (show _ ∈ tables_1 from List.mem_append_right _ (List.mem_append_right _ ((show _ ∈ tables_1_3 from List.mem_of_getElem? (i := 62) rfl)))) (by decide +kernel)
theorem w_543 : Cond.methodLink "EnclaveWardenModel" 147 ⟨"EnclaveWardenModel", "put", "(II)V"⟩ ∈ WS := ws_tbl (show _ ∈ tables_1 from List.mem_append_right _ (List.mem_append_right _ ((show _ ∈ tables_1_3 from List.mem_of_getElem? (i := 63) (by decide +kernel))))) (by decide +kernel)
theorem w_545 : Cond.instanceMethod ⟨"EnclaveWardenModel", "put", "(II)V"⟩ ∈ WS := ws_tbl (show _ ∈ tables_1 from List.mem_append_right _ (List.mem_append_right _ ((show _ ∈ tables_1_3 from List.mem_of_getElem? (i := 65) (by decide +kernel))))) (by decide +kernel)
theorem w_546 : Cond.code ⟨"EnclaveWardenModel", "put", "(II)V"⟩ prog_6_method_23_code 3 none ∈ WS := ws_tbl (show _ ∈ tables_1 from List.mem_append_right _ (List.mem_append_right _ ((show _ ∈ tables_1_3 from List.mem_of_getElem? (i := 66) rfl)))) (by decide +kernel)
theorem w_547 : Cond.methodLink "EnclaveWardenModel" 150 ⟨"EnclaveWardenModel", "access", "(ZII)V"⟩ ∈ WS := ws_tbl (show _ ∈ tables_1 from List.mem_append_right _ (List.mem_append_right _ ((show _ ∈ tables_1_3 from List.mem_of_getElem? (i := 67) (by decide +kernel))))) (by decide +kernel)
theorem w_549 : Cond.instanceMethod ⟨"EnclaveWardenModel", "access", "(ZII)V"⟩ ∈ WS := ws_tbl (show _ ∈ tables_1 from List.mem_append_right _ (List.mem_append_right _ ((show _ ∈ tables_1_3 from List.mem_of_getElem? (i := 69) (by decide +kernel))))) (by decide +kernel)
theorem w_550 : Cond.code ⟨"EnclaveWardenModel", "access", "(ZII)V"⟩ prog_6_method_24_code 4 none ∈ WS := ws_tbl (show _ ∈ tables_1 from List.mem_append_right _ (List.mem_append_right _ ((show _ ∈ tables_1_3 from List.mem_of_getElem? (i := 70) rfl)))) (by decide +kernel)
theorem w_551 : Cond.methodLink "EnclaveWardenModel" 154 ⟨"EnclaveWardenModel", "ask", "(I)V"⟩ ∈ WS := ws_tbl (show _ ∈ tables_1 from List.mem_append_right _ (List.mem_append_right _ ((show _ ∈ tables_1_3 from List.mem_of_getElem? (i := 71) (by decide +kernel))))) (by decide +kernel)
theorem w_553 : Cond.instanceMethod ⟨"EnclaveWardenModel", "ask", "(I)V"⟩ ∈ WS := ws_tbl (show _ ∈ tables_1 from List.mem_append_right _ (List.mem_append_right _ ((show _ ∈ tables_1_3 from List.mem_of_getElem? (i := 73) (by decide +kernel))))) (by decide +kernel)
theorem w_554 : Cond.code ⟨"EnclaveWardenModel", "ask", "(I)V"⟩ prog_6_method_25_code 6 none ∈ WS := ws_tbl (show _ ∈ tables_1 from List.mem_append_right _ (List.mem_append_right _ ((show _ ∈ tables_1_3 from List.mem_of_getElem? (i := 74) rfl)))) (by decide +kernel)
theorem w_555 : Cond.methodLink "EnclaveWardenModel" 161 ⟨"EnclaveWardenModel", "measured", "(I)I"⟩ ∈ WS := ws_tbl (show _ ∈ tables_1 from List.mem_append_right _ (List.mem_append_right _ ((show _ ∈ tables_1_3 from List.mem_of_getElem? (i := 75) (by decide +kernel))))) (by decide +kernel)
theorem w_557 : Cond.instanceMethod ⟨"EnclaveWardenModel", "measured", "(I)I"⟩ ∈ WS := ws_tbl (show _ ∈ tables_1 from List.mem_append_right _ (List.mem_append_right _ ((show _ ∈ tables_1_3 from List.mem_of_getElem? (i := 77) (by decide +kernel))))) (by decide +kernel)
theorem w_558 : Cond.code ⟨"EnclaveWardenModel", "measured", "(I)I"⟩ prog_6_method_8_code 4 (Option.some .int) ∈ WS := ws_tbl (show _ ∈ tables_1 from List.mem_append_right _ (List.mem_append_right _ ((show _ ∈ tables_1_3 from List.mem_of_getElem? (i := 78) rfl)))) (by decide +kernel)
theorem w_559 : Cond.methodLink "EnclaveWardenModel" 66 ⟨"EnclaveWardenModel", "mix", "(II)I"⟩ ∈ WS := ws_tbl (show _ ∈ tables_1 from List.mem_append_right _ (List.mem_append_right _ ((show _ ∈ tables_1_3 from List.mem_of_getElem? (i := 79) (by decide +kernel))))) (by decide +kernel)
theorem w_560 : Cond.static ⟨"EnclaveWardenModel", "mix", "(II)I"⟩ ∈ WS := ws_tbl (show _ ∈ tables_1 from List.mem_append_right _ (List.mem_append_right _ ((show _ ∈ tables_1_3 from List.mem_of_getElem? (i := 80) (by decide +kernel))))) (by decide +kernel)
theorem w_561 : Cond.code ⟨"EnclaveWardenModel", "mix", "(II)I"⟩ prog_6_method_5_code 3 (Option.some .int) ∈ WS := ws_tbl (show _ ∈ tables_1 from List.mem_append_right _ (List.mem_append_right _ ((show _ ∈ tables_1_3 from List.mem_of_getElem? (i := 81) rfl)))) (by decide +kernel)
theorem w_562 : Cond.constant "EnclaveWardenModel" 65 (1390208809) ∈ WS := ws_tbl (show _ ∈ tables_1 from List.mem_append_right _ (List.mem_append_right _ ((show _ ∈ tables_1_3 from List.mem_of_getElem? (i := 82) (by decide +kernel))))) (by decide +kernel)
theorem w_563 : Cond.methodLink "EnclaveWardenModel" 164 ⟨"EnclaveWardenModel", "mac", "(II)I"⟩ ∈ WS := ws_tbl (show _ ∈ tables_1 from List.mem_append_right _ (List.mem_append_right _ ((show _ ∈ tables_1_3 from List.mem_of_getElem? (i := 83) (by decide +kernel))))) (by decide +kernel)
theorem w_565 : Cond.instanceMethod ⟨"EnclaveWardenModel", "mac", "(II)I"⟩ ∈ WS := ws_tbl (show _ ∈ tables_1 from List.mem_append_right _ (List.mem_append_right _ ((show _ ∈ tables_1_3 from List.mem_of_getElem? (i := 85) (by decide +kernel))))) (by decide +kernel)
theorem w_566 : Cond.code ⟨"EnclaveWardenModel", "mac", "(II)I"⟩ prog_6_method_6_code 4 (Option.some .int) ∈ WS := ws_tbl (show _ ∈ tables_1 from List.mem_append_right _ (List.mem_append_right _ ((show _ ∈ tables_1_3 from List.mem_of_getElem? (i := 86) rfl)))) (by decide +kernel)
theorem ws_W_systemMayUse : Cond.selects "EnclaveWarden" ⟨"EnclaveWarden", "systemMayUse", "(I)Z"⟩ ⟨"EnclaveWarden", "systemMayUse", "(I)Z"⟩ ∈ WS := ws_sel (List.mem_of_getElem? (i := 1) (by decide +kernel)) (by decide +kernel)
theorem ws_C_put : Cond.selects "EnclaveWarden$Core" ⟨"EnclaveWarden$Core", "put", "(II)V"⟩ ⟨"EnclaveWarden$Core", "put", "(II)V"⟩ ∈ WS := ws_sel (List.mem_of_getElem? (i := 2) (by decide +kernel)) (by decide +kernel)
theorem ws_C_get : Cond.selects "EnclaveWarden$Core" ⟨"EnclaveWarden$Core", "get", "(I)I"⟩ ⟨"EnclaveWarden$Core", "get", "(I)I"⟩ ∈ WS := ws_sel (List.mem_of_getElem? (i := 3) (by decide +kernel)) (by decide +kernel)
theorem ws_W_systemCall : Cond.selects "EnclaveWarden" ⟨"EnclaveWarden", "systemCall", "(IIII)I"⟩ ⟨"EnclaveWarden", "systemCall", "(IIII)I"⟩ ∈ WS := ws_sel (List.mem_of_getElem? (i := 4) (by decide +kernel)) (by decide +kernel)
theorem ws_W_step : Cond.selects "EnclaveWarden" ⟨"EnclaveWarden", "step", "()V"⟩ ⟨"EnclaveWarden", "step", "()V"⟩ ∈ WS := ws_sel (List.mem_of_getElem? (i := 25) (by decide +kernel)) (by decide +kernel)
theorem ws_W_macOf : Cond.selects "EnclaveWarden" ⟨"EnclaveWarden", "macOf", "(II)I"⟩ ⟨"EnclaveWarden", "macOf", "(II)I"⟩ ∈ WS := ws_sel (List.mem_of_getElem? (i := 33) (by decide +kernel)) (by decide +kernel)
theorem ws_W_enclaveMayUse : Cond.selects "EnclaveWarden" ⟨"EnclaveWarden", "enclaveMayUse", "(II)Z"⟩ ⟨"EnclaveWarden", "enclaveMayUse", "(II)Z"⟩ ∈ WS := ws_sel (List.mem_of_getElem? (i := 29) (by decide +kernel)) (by decide +kernel)
theorem ws_W_leave : Cond.selects "EnclaveWarden" ⟨"EnclaveWarden", "leave", "(III)V"⟩ ⟨"EnclaveWarden", "leave", "(III)V"⟩ ∈ WS := ws_sel (List.mem_of_getElem? (i := 26) (by decide +kernel)) (by decide +kernel)
theorem ws_W_runningThread : Cond.selects "EnclaveWarden" ⟨"EnclaveWarden", "runningThread", "()LEnclaveWarden$EnclaveThread;"⟩ ⟨"EnclaveWarden", "runningThread", "()LEnclaveWarden$EnclaveThread;"⟩ ∈ WS := ws_sel (List.mem_of_getElem? (i := 27) (by decide +kernel)) (by decide +kernel)
theorem ws_W_runnerMayUse : Cond.selects "EnclaveWarden" ⟨"EnclaveWarden", "runnerMayUse", "(I)Z"⟩ ⟨"EnclaveWarden", "runnerMayUse", "(I)Z"⟩ ∈ WS := ws_sel (List.mem_of_getElem? (i := 28) (by decide +kernel)) (by decide +kernel)
theorem ws_W_obey : Cond.selects "EnclaveWarden" ⟨"EnclaveWarden", "obey", "(LEnclaveWarden$Core;I)V"⟩ ⟨"EnclaveWarden", "obey", "(LEnclaveWarden$Core;I)V"⟩ ∈ WS := ws_sel (List.mem_of_getElem? (i := 34) (by decide +kernel)) (by decide +kernel)
theorem ws_W_obeyCall : Cond.selects "EnclaveWarden" ⟨"EnclaveWarden", "obeyCall", "(LEnclaveWarden$Core;I)V"⟩ ⟨"EnclaveWarden", "obeyCall", "(LEnclaveWarden$Core;I)V"⟩ ∈ WS := ws_sel (List.mem_of_getElem? (i := 31) (by decide +kernel)) (by decide +kernel)
theorem ws_W_fault : Cond.selects "EnclaveWarden" ⟨"EnclaveWarden", "fault", "(I)V"⟩ ⟨"EnclaveWarden", "fault", "(I)V"⟩ ∈ WS := ws_sel (List.mem_of_getElem? (i := 30) (by decide +kernel)) (by decide +kernel)
theorem ws_W_enclaveCall : Cond.selects "EnclaveWarden" ⟨"EnclaveWarden", "enclaveCall", "(IIII)I"⟩ ⟨"EnclaveWarden", "enclaveCall", "(IIII)I"⟩ ∈ WS := ws_sel (List.mem_of_getElem? (i := 32) (by decide +kernel)) (by decide +kernel)
theorem ws_W_create : Cond.selects "EnclaveWarden" ⟨"EnclaveWarden", "create", "(II)I"⟩ ⟨"EnclaveWarden", "create", "(II)I"⟩ ∈ WS := ws_sel (List.mem_of_getElem? (i := 5) (by decide +kernel)) (by decide +kernel)
theorem ws_W_load : Cond.selects "EnclaveWarden" ⟨"EnclaveWarden", "load", "(III)I"⟩ ⟨"EnclaveWarden", "load", "(III)I"⟩ ∈ WS := ws_sel (List.mem_of_getElem? (i := 9) (by decide +kernel)) (by decide +kernel)
theorem ws_W_addThread : Cond.selects "EnclaveWarden" ⟨"EnclaveWarden", "addThread", "(II)I"⟩ ⟨"EnclaveWarden", "addThread", "(II)I"⟩ ∈ WS := ws_sel (List.mem_of_getElem? (i := 10) (by decide +kernel)) (by decide +kernel)
theorem ws_W_seal : Cond.selects "EnclaveWarden" ⟨"EnclaveWarden", "seal", "(I)I"⟩ ⟨"EnclaveWarden", "seal", "(I)I"⟩ ∈ WS := ws_sel (List.mem_of_getElem? (i := 12) (by decide +kernel)) (by decide +kernel)
theorem ws_W_share : Cond.selects "EnclaveWarden" ⟨"EnclaveWarden", "share", "(II)I"⟩ ⟨"EnclaveWarden", "share", "(II)I"⟩ ∈ WS := ws_sel (List.mem_of_getElem? (i := 13) (by decide +kernel)) (by decide +kernel)
theorem ws_W_enter : Cond.selects "EnclaveWarden" ⟨"EnclaveWarden", "enter", "(III)I"⟩ ⟨"EnclaveWarden", "enter", "(III)I"⟩ ∈ WS := ws_sel (List.mem_of_getElem? (i := 15) (by decide +kernel)) (by decide +kernel)
theorem ws_W_resume : Cond.selects "EnclaveWarden" ⟨"EnclaveWarden", "resume", "(II)I"⟩ ⟨"EnclaveWarden", "resume", "(II)I"⟩ ∈ WS := ws_sel (List.mem_of_getElem? (i := 19) (by decide +kernel)) (by decide +kernel)
theorem ws_W_stop : Cond.selects "EnclaveWarden" ⟨"EnclaveWarden", "stop", "(I)I"⟩ ⟨"EnclaveWarden", "stop", "(I)I"⟩ ∈ WS := ws_sel (List.mem_of_getElem? (i := 20) (by decide +kernel)) (by decide +kernel)
theorem ws_W_destroy : Cond.selects "EnclaveWarden" ⟨"EnclaveWarden", "destroy", "(I)I"⟩ ⟨"EnclaveWarden", "destroy", "(I)I"⟩ ∈ WS := ws_sel (List.mem_of_getElem? (i := 21) (by decide +kernel)) (by decide +kernel)
theorem ws_W_claim : Cond.selects "EnclaveWarden" ⟨"EnclaveWarden", "claim", "(I)I"⟩ ⟨"EnclaveWarden", "claim", "(I)I"⟩ ∈ WS := ws_sel (List.mem_of_getElem? (i := 23) (by decide +kernel)) (by decide +kernel)
theorem ws_W_giveUp : Cond.selects "EnclaveWarden" ⟨"EnclaveWarden", "giveUp", "(I)I"⟩ ⟨"EnclaveWarden", "giveUp", "(I)I"⟩ ∈ WS := ws_sel (List.mem_of_getElem? (i := 24) (by decide +kernel)) (by decide +kernel)
theorem ws_W_allFree : Cond.selects "EnclaveWarden" ⟨"EnclaveWarden", "allFree", "(II)Z"⟩ ⟨"EnclaveWarden", "allFree", "(II)Z"⟩ ∈ WS := ws_sel (List.mem_of_getElem? (i := 6) (by decide +kernel)) (by decide +kernel)
theorem ws_W_leastAbsent : Cond.selects "EnclaveWarden" ⟨"EnclaveWarden", "leastAbsent", "()I"⟩ ⟨"EnclaveWarden", "leastAbsent", "()I"⟩ ∈ WS := ws_sel (List.mem_of_getElem? (i := 7) (by decide +kernel)) (by decide +kernel)
theorem ws_V_become : Cond.selects "EnclaveWarden$Enclave" ⟨"EnclaveWarden$Enclave", "become", "(I)V"⟩ ⟨"EnclaveWarden$Enclave", "become", "(I)V"⟩ ∈ WS := ws_sel (List.mem_of_getElem? (i := 0) (by decide +kernel)) (by decide +kernel)
theorem ws_V_add : Cond.selects "EnclaveWarden$Enclave" ⟨"EnclaveWarden$Enclave", "add", "(I)V"⟩ ⟨"EnclaveWarden$Enclave", "add", "(I)V"⟩ ∈ WS := ws_sel (List.mem_of_getElem? (i := 8) (by decide +kernel)) (by decide +kernel)
theorem ws_V_threadCount : Cond.selects "EnclaveWarden$Enclave" ⟨"EnclaveWarden$Enclave", "threadCount", "()I"⟩ ⟨"EnclaveWarden$Enclave", "threadCount", "()I"⟩ ∈ WS := ws_sel (List.mem_of_getElem? (i := 11) (by decide +kernel)) (by decide +kernel)
theorem ws_W_sharedWith : Cond.selects "EnclaveWarden" ⟨"EnclaveWarden", "sharedWith", "(I)I"⟩ ⟨"EnclaveWarden", "sharedWith", "(I)I"⟩ ∈ WS := ws_sel (List.mem_of_getElem? (i := 14) (by decide +kernel)) (by decide +kernel)
theorem ws_W_refusalToStart : Cond.selects "EnclaveWarden" ⟨"EnclaveWarden", "refusalToStart", "(III)I"⟩ ⟨"EnclaveWarden", "refusalToStart", "(III)I"⟩ ∈ WS := ws_sel (List.mem_of_getElem? (i := 16) (by decide +kernel)) (by decide +kernel)
theorem ws_C_start : Cond.selects "EnclaveWarden$Core" ⟨"EnclaveWarden$Core", "start", "(II)V"⟩ ⟨"EnclaveWarden$Core", "start", "(II)V"⟩ ∈ WS := ws_sel (List.mem_of_getElem? (i := 17) (by decide +kernel)) (by decide +kernel)
theorem ws_W_handOver : Cond.selects "EnclaveWarden" ⟨"EnclaveWarden", "handOver", "(II)V"⟩ ⟨"EnclaveWarden", "handOver", "(II)V"⟩ ∈ WS := ws_sel (List.mem_of_getElem? (i := 18) (by decide +kernel)) (by decide +kernel)
theorem ws_W_free : Cond.selects "EnclaveWarden" ⟨"EnclaveWarden", "free", "(I)V"⟩ ⟨"EnclaveWarden", "free", "(I)V"⟩ ∈ WS := ws_sel (List.mem_of_getElem? (i := 22) (by decide +kernel)) (by decide +kernel)
theorem ws_M_kind : Cond.selects "EnclaveWardenModel" ⟨"EnclaveWardenModel", "kind", "(I)I"⟩ ⟨"EnclaveWardenModel", "kind", "(I)I"⟩ ∈ WS := ws_sel (List.mem_of_getElem? (i := 36) (by decide +kernel)) (by decide +kernel)
theorem ws_M_wrongState : Cond.selects "EnclaveWardenModel" ⟨"EnclaveWardenModel", "wrongState", "(III)Z"⟩ ⟨"EnclaveWardenModel", "wrongState", "(III)Z"⟩ ∈ WS := ws_sel (List.mem_of_getElem? (i := 38) (by decide +kernel)) (by decide +kernel)
theorem ws_M_taken : Cond.selects "EnclaveWardenModel" ⟨"EnclaveWardenModel", "taken", "(IIII)Z"⟩ ⟨"EnclaveWardenModel", "taken", "(IIII)Z"⟩ ∈ WS := ws_sel (List.mem_of_getElem? (i := 39) (by decide +kernel)) (by decide +kernel)
theorem ws_M_full : Cond.selects "EnclaveWardenModel" ⟨"EnclaveWardenModel", "full", "(II)Z"⟩ ⟨"EnclaveWardenModel", "full", "(II)Z"⟩ ∈ WS := ws_sel (List.mem_of_getElem? (i := 40) (by decide +kernel)) (by decide +kernel)
theorem ws_M_perform : Cond.selects "EnclaveWardenModel" ⟨"EnclaveWardenModel", "perform", "(IIII)V"⟩ ⟨"EnclaveWardenModel", "perform", "(IIII)V"⟩ ∈ WS := ws_sel (List.mem_of_getElem? (i := 44) (by decide +kernel)) (by decide +kernel)
theorem ws_M_append : Cond.selects "EnclaveWardenModel" ⟨"EnclaveWardenModel", "append", "(III)I"⟩ ⟨"EnclaveWardenModel", "append", "(III)I"⟩ ∈ WS := ws_sel (List.mem_of_getElem? (i := 43) (by decide +kernel)) (by decide +kernel)
theorem ws_M_create : Cond.selects "EnclaveWardenModel" ⟨"EnclaveWardenModel", "create", "(II)I"⟩ ⟨"EnclaveWardenModel", "create", "(II)I"⟩ ∈ WS := ws_sel (List.mem_of_getElem? (i := 41) (by decide +kernel)) (by decide +kernel)
theorem ws_M_add : Cond.selects "EnclaveWardenModel" ⟨"EnclaveWardenModel", "add", "(II)V"⟩ ⟨"EnclaveWardenModel", "add", "(II)V"⟩ ∈ WS := ws_sel (List.mem_of_getElem? (i := 42) (by decide +kernel)) (by decide +kernel)
theorem ws_M_load : Cond.selects "EnclaveWardenModel" ⟨"EnclaveWardenModel", "load", "(III)V"⟩ ⟨"EnclaveWardenModel", "load", "(III)V"⟩ ∈ WS := ws_sel (List.mem_of_getElem? (i := 45) (by decide +kernel)) (by decide +kernel)
theorem ws_M_wipe : Cond.selects "EnclaveWardenModel" ⟨"EnclaveWardenModel", "wipe", "(I)V"⟩ ⟨"EnclaveWardenModel", "wipe", "(I)V"⟩ ∈ WS := ws_sel (List.mem_of_getElem? (i := 47) (by decide +kernel)) (by decide +kernel)
theorem ws_M_destroy : Cond.selects "EnclaveWardenModel" ⟨"EnclaveWardenModel", "destroy", "(I)V"⟩ ⟨"EnclaveWardenModel", "destroy", "(I)V"⟩ ∈ WS := ws_sel (List.mem_of_getElem? (i := 46) (by decide +kernel)) (by decide +kernel)
theorem ws_M_leave : Cond.selects "EnclaveWardenModel" ⟨"EnclaveWardenModel", "leave", "(II)V"⟩ ⟨"EnclaveWardenModel", "leave", "(II)V"⟩ ∈ WS := ws_sel (List.mem_of_getElem? (i := 49) (by decide +kernel)) (by decide +kernel)
theorem ws_M_uses : Cond.selects "EnclaveWardenModel" ⟨"EnclaveWardenModel", "uses", "(II)Z"⟩ ⟨"EnclaveWardenModel", "uses", "(II)Z"⟩ ∈ WS := ws_sel (List.mem_of_getElem? (i := 35) (by decide +kernel)) (by decide +kernel)
theorem ws_M_fault : Cond.selects "EnclaveWardenModel" ⟨"EnclaveWardenModel", "fault", "(I)V"⟩ ⟨"EnclaveWardenModel", "fault", "(I)V"⟩ ∈ WS := ws_sel (List.mem_of_getElem? (i := 50) (by decide +kernel)) (by decide +kernel)
theorem ws_M_ask : Cond.selects "EnclaveWardenModel" ⟨"EnclaveWardenModel", "ask", "(I)V"⟩ ⟨"EnclaveWardenModel", "ask", "(I)V"⟩ ∈ WS := ws_sel (List.mem_of_getElem? (i := 53) (by decide +kernel)) (by decide +kernel)
theorem ws_M_access : Cond.selects "EnclaveWardenModel" ⟨"EnclaveWardenModel", "access", "(ZII)V"⟩ ⟨"EnclaveWardenModel", "access", "(ZII)V"⟩ ∈ WS := ws_sel (List.mem_of_getElem? (i := 52) (by decide +kernel)) (by decide +kernel)
theorem ws_M_put : Cond.selects "EnclaveWardenModel" ⟨"EnclaveWardenModel", "put", "(II)V"⟩ ⟨"EnclaveWardenModel", "put", "(II)V"⟩ ∈ WS := ws_sel (List.mem_of_getElem? (i := 51) (by decide +kernel)) (by decide +kernel)
theorem ws_M_mac : Cond.selects "EnclaveWardenModel" ⟨"EnclaveWardenModel", "mac", "(II)I"⟩ ⟨"EnclaveWardenModel", "mac", "(II)I"⟩ ∈ WS := ws_sel (List.mem_of_getElem? (i := 55) (by decide +kernel)) (by decide +kernel)
theorem ws_M_measured : Cond.selects "EnclaveWardenModel" ⟨"EnclaveWardenModel", "measured", "(I)I"⟩ ⟨"EnclaveWardenModel", "measured", "(I)I"⟩ ∈ WS := ws_sel (List.mem_of_getElem? (i := 54) (by decide +kernel)) (by decide +kernel)
theorem ws_M_system : Cond.selects "EnclaveWardenModel" ⟨"EnclaveWardenModel", "system", "(IIII)I"⟩ ⟨"EnclaveWardenModel", "system", "(IIII)I"⟩ ∈ WS := ws_sel (List.mem_of_getElem? (i := 37) (by decide +kernel)) (by decide +kernel)
theorem ws_M_step : Cond.selects "EnclaveWardenModel" ⟨"EnclaveWardenModel", "step", "()V"⟩ ⟨"EnclaveWardenModel", "step", "()V"⟩ ∈ WS := ws_sel (List.mem_of_getElem? (i := 48) (by decide +kernel)) (by decide +kernel)
theorem uw_W {c0 : Cond} : ∀ x ∈ u_ws R_W T_W 10, x ∈ c0 :: WS := by
  intro x hx
  obtain ⟨k, hk, rfl⟩ := List.mem_map.mp hx
  have hk := List.mem_range.mp hk
  rcases (show k = 0 ∨ k = 1 ∨ k = 2 ∨ k = 3 ∨ k = 4 ∨ k = 5 ∨ k = 6 ∨ k = 7 ∨ k = 8 ∨ k = 9 by omega) with rfl | rfl | rfl | rfl | rfl | rfl | rfl | rfl | rfl | rfl
  · exact List.mem_cons_of_mem _ w_90
  · exact List.mem_cons_of_mem _ w_92
  · exact List.mem_cons_of_mem _ w_94
  · exact List.mem_cons_of_mem _ w_96
  · exact List.mem_cons_of_mem _ w_98
  · exact List.mem_cons_of_mem _ w_100
  · exact List.mem_cons_of_mem _ w_102
  · exact List.mem_cons_of_mem _ w_104
  · exact List.mem_cons_of_mem _ w_106
  · exact List.mem_cons_of_mem _ w_108
theorem uw_V {c0 : Cond} : ∀ x ∈ u_ws R_V T_V 4, x ∈ c0 :: WS := by
  intro x hx
  obtain ⟨k, hk, rfl⟩ := List.mem_map.mp hx
  have hk := List.mem_range.mp hk
  rcases (show k = 0 ∨ k = 1 ∨ k = 2 ∨ k = 3 by omega) with rfl | rfl | rfl | rfl
  · exact List.mem_cons_of_mem _ w_69
  · exact List.mem_cons_of_mem _ w_71
  · exact List.mem_cons_of_mem _ w_73
  · exact List.mem_cons_of_mem _ w_75
theorem uw_T {c0 : Cond} : ∀ x ∈ u_ws R_T T_T 3, x ∈ c0 :: WS := by
  intro x hx
  obtain ⟨k, hk, rfl⟩ := List.mem_map.mp hx
  have hk := List.mem_range.mp hk
  rcases (show k = 0 ∨ k = 1 ∨ k = 2 by omega) with rfl | rfl | rfl
  · exact List.mem_cons_of_mem _ w_50
  · exact List.mem_cons_of_mem _ w_52
  · exact List.mem_cons_of_mem _ w_54
theorem uw_C {c0 : Cond} : ∀ x ∈ u_ws R_C T_C 2, x ∈ c0 :: WS := by
  intro x hx
  obtain ⟨k, hk, rfl⟩ := List.mem_map.mp hx
  have hk := List.mem_range.mp hk
  rcases (show k = 0 ∨ k = 1 by omega) with rfl | rfl
  · exact List.mem_cons_of_mem _ w_37
  · exact List.mem_cons_of_mem _ w_39
theorem uw_M {c0 : Cond} : ∀ x ∈ u_ws R_M T_M 23, x ∈ c0 :: WS := by
  intro x hx
  obtain ⟨k, hk, rfl⟩ := List.mem_map.mp hx
  have hk := List.mem_range.mp hk
  rcases (show k = 0 ∨ k = 1 ∨ k = 2 ∨ k = 3 ∨ k = 4 ∨ k = 5 ∨ k = 6 ∨ k = 7 ∨ k = 8 ∨ k = 9 ∨ k = 10 ∨ k = 11 ∨ k = 12 ∨ k = 13 ∨ k = 14 ∨ k = 15 ∨ k = 16 ∨ k = 17 ∨ k = 18 ∨ k = 19 ∨ k = 20 ∨ k = 21 ∨ k = 22 by omega) with rfl | rfl | rfl | rfl | rfl | rfl | rfl | rfl | rfl | rfl | rfl | rfl | rfl | rfl | rfl | rfl | rfl | rfl | rfl | rfl | rfl | rfl | rfl
  · exact List.mem_cons_of_mem _ w_381
  · exact List.mem_cons_of_mem _ w_383
  · exact List.mem_cons_of_mem _ w_385
  · exact List.mem_cons_of_mem _ w_387
  · exact List.mem_cons_of_mem _ w_389
  · exact List.mem_cons_of_mem _ w_391
  · exact List.mem_cons_of_mem _ w_393
  · exact List.mem_cons_of_mem _ w_395
  · exact List.mem_cons_of_mem _ w_397
  · exact List.mem_cons_of_mem _ w_399
  · exact List.mem_cons_of_mem _ w_401
  · exact List.mem_cons_of_mem _ w_403
  · exact List.mem_cons_of_mem _ w_405
  · exact List.mem_cons_of_mem _ w_407
  · exact List.mem_cons_of_mem _ w_409
  · exact List.mem_cons_of_mem _ w_411
  · exact List.mem_cons_of_mem _ w_413
  · exact List.mem_cons_of_mem _ w_415
  · exact List.mem_cons_of_mem _ w_417
  · exact List.mem_cons_of_mem _ w_419
  · exact List.mem_cons_of_mem _ w_421
  · exact List.mem_cons_of_mem _ w_423
  · exact List.mem_cons_of_mem _ w_425
end
