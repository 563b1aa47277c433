def aWs (M : aM) : List Cond := Cond.code (aMn M) (aMb M) (aMl M) (aMr M) :: aU
def aQc (G : aG) (Q : aQ) : Array Value → State → Outcome → State → Prop := fun _ st o t => ∃ (v : Option Value) (shp : List aSh) (D : aD), o = .returned (v.map (av G)) ∧ Q (.inl v) shp D ∧ aH G shp D t.heap ∧ va_F (aA G) st t
def aXc (G : aG) (Q : aQ) : String → State → State → Prop := fun E st t => ∃ (shp : List aSh) (D : aD), Q (.inr E) shp D ∧ aH G shp D t.heap ∧ va_F (aA G) st t
def aPc (G : aG) (args : List Value) (fr : Option Nat) (shp : List aSh) (D : aD) : Array Value → State → Prop := va_Pc (args.map (av G)) (fun U => (gs G).WarmedH U.vm ∧ aH G shp D U.heap ∧ ∀ n0 : Nat, fr = some n0 → U.heap.size = glo G + n0)
def AC (G : aG) (R : Room) (M : aM) (args : List Value) (fr : Option Nat) (shp : List aSh) (D : aD) (Q : aQ) : Prop := vx_Met (gl G) (aMn M) (aWs M) R (aPc G args fr shp D) (aQc G Q) (aXc G Q) R.cells R.slots (aA G)
def AW (G : aG) (R : Room) (M : aM) (fr : Option Nat) (kc ks pc : Nat) (al : List (Option Value)) (st : List Value) (shp : List aSh) (D : aD) (Q : aQ) : Prop :=
  ∀ (p : Program) (e : Env) (s : State) (m : MethodId) (args : Array Value) (below : List Frame) (meth : Method) (c : Code) (H : Heap) (locs : List Loc) (ls : Array Slot), aFix G fr p s m args meth c M → aH G shp D H → va_S (aA G) s.heap H locs → aLs G ls (aMl M) al →
    W p (gl G) e R s m args below meth c H locs kc ks (vx_MQ below (aQc G Q) (aXc G Q) args s R.cells R.slots (aA G)) (F0 m pc ls (st.map (av G)))
section AWR
variable {G : aG} {R : Room} {M : aM} {fr : Option Nat} {kc ks pc n : Nat} {al : List (Option Value)} {st : List Value} {shp : List aSh} {D : aD} {Q : aQ}
theorem aw_iconst {i : Int} {v : Int32} (hd : decode (aMb M) pc = .ok (.iconst i, 1)) (hn : pc + 1 = n) (hv : Int32.ofInt i = v) (K : AW G R M fr kc ks n al (.int v :: st) shp D Q) : AW G R M fr kc ks pc al (st) shp D Q := by
  subst hn
  intro p e s m args below meth c H locs ls F hH hS hl
  exact lv_iconst F.1 F.2.1 hd hv (K p e s m args below meth c H locs ls F hH hS hl)
theorem aw_bipush {i : Int} {v : Int32} (hd : decode (aMb M) pc = .ok (.bipush i, 2)) (hn : pc + 2 = n) (hv : (Int8.ofInt i).toInt32 = v) (K : AW G R M fr kc ks n al (.int v :: st) shp D Q) : AW G R M fr kc ks pc al (st) shp D Q := by
  subst hn
  intro p e s m args below meth c H locs ls F hH hS hl
  exact lv_bipush F.1 F.2.1 hd hv (K p e s m args below meth c H locs ls F hH hS hl)
theorem aw_sipush {i : Int} {v : Int32} (hd : decode (aMb M) pc = .ok (.sipush i, 3)) (hn : pc + 3 = n) (hv : (Int16.ofInt i).toInt32 = v) (K : AW G R M fr kc ks n al (.int v :: st) shp D Q) : AW G R M fr kc ks pc al (st) shp D Q := by
  subst hn
  intro p e s m args below meth c H locs ls F hH hS hl
  exact lv_sipush F.1 F.2.1 hd hv (K p e s m args below meth c H locs ls F hH hS hl)
theorem aw_lconst {i : Fin 2} {v : Int64} (hd : decode (aMb M) pc = .ok (.lconst i, 1)) (hn : pc + 1 = n) (hv : Int64.ofNat (i : Nat) = v) (K : AW G R M fr kc ks n al (.long v :: st) shp D Q) : AW G R M fr kc ks pc al (st) shp D Q := by
  subst hn
  intro p e s m args below meth c H locs ls F hH hS hl
  exact lv_lconst F.1 F.2.1 hd hv (K p e s m args below meth c H locs ls F hH hS hl)
theorem aw_ldcI {i : Nat} {v : Int32} (hd : decode (aMb M) pc = .ok (.ldc i, 2)) (hn : pc + 2 = n) (hc : Cond.constant (aMo M) i v ∈ aU) (K : AW G R M fr kc ks n al (.int v :: st) shp D Q) : AW G R M fr kc ks pc al (st) shp D Q := by
  subst hn
  intro p e s m args below meth c H locs ls F hH hS hl
  exact lv_ldc F.1 F.2.1 F.2.2.2.1 (F.2.2.2.2.1 _ hc) hd (K p e s m args below meth c H locs ls F hH hS hl)
theorem aw_ldc2 {i : Nat} {v : Int64} (hd : decode (aMb M) pc = .ok (.ldc2_w i, 3)) (hn : pc + 3 = n) (hc : Cond.constantLong (aMo M) i v ∈ aU) (K : AW G R M fr kc ks n al (.long v :: st) shp D Q) : AW G R M fr kc ks pc al (st) shp D Q := by
  subst hn
  intro p e s m args below meth c H locs ls F hH hS hl
  exact lv_ldc2 F.1 F.2.1 F.2.2.2.1 (F.2.2.2.2.1 _ hc) hd (K p e s m args below meth c H locs ls F hH hS hl)
theorem aw_iload_n {k : Fin 4} {i : Nat} {x : Int32} (hd : decode (aMb M) pc = .ok (.iload_n k, 1)) (hn : pc + 1 = n) (hi : (k : Nat) = i) (hx : al[i]? = some (some (.int x))) (K : AW G R M fr kc ks n al (.int x :: st) shp D Q) : AW G R M fr kc ks pc al (st) shp D Q := by
  subst hn
  intro p e s m args below meth c H locs ls F hH hS hl
  exact lv_iload_n F.1 F.2.1 hd hi (aLs_at hl hx) (K p e s m args below meth c H locs ls F hH hS hl)
theorem aw_iload {i : Nat} {x : Int32} (hd : decode (aMb M) pc = .ok (.iload i, 2)) (hn : pc + 2 = n) (hx : al[i]? = some (some (.int x))) (K : AW G R M fr kc ks n al (.int x :: st) shp D Q) : AW G R M fr kc ks pc al (st) shp D Q := by
  subst hn
  intro p e s m args below meth c H locs ls F hH hS hl
  exact lv_iload F.1 F.2.1 hd (aLs_at hl hx) (K p e s m args below meth c H locs ls F hH hS hl)
theorem aw_lload_n {k : Fin 4} {i : Nat} {x : Int64} (hd : decode (aMb M) pc = .ok (.lload_n k, 1)) (hn : pc + 1 = n) (hi : (k : Nat) = i) (hx : al[i]? = some (some (.long x))) (K : AW G R M fr kc ks n al (.long x :: st) shp D Q) : AW G R M fr kc ks pc al (st) shp D Q := by
  subst hn
  intro p e s m args below meth c H locs ls F hH hS hl
  exact lv_lload_n F.1 F.2.1 hd hi (aLs_at hl hx) (K p e s m args below meth c H locs ls F hH hS hl)
theorem aw_lload {i : Nat} {x : Int64} (hd : decode (aMb M) pc = .ok (.lload i, 2)) (hn : pc + 2 = n) (hx : al[i]? = some (some (.long x))) (K : AW G R M fr kc ks n al (.long x :: st) shp D Q) : AW G R M fr kc ks pc al (st) shp D Q := by
  subst hn
  intro p e s m args below meth c H locs ls F hH hS hl
  exact lv_lload F.1 F.2.1 hd (aLs_at hl hx) (K p e s m args below meth c H locs ls F hH hS hl)
theorem aw_aload_n {k : Fin 4} {i : Nat} {x : Nat} (hd : decode (aMb M) pc = .ok (.aload_n k, 1)) (hn : pc + 1 = n) (hi : (k : Nat) = i) (hx : al[i]? = some (some (.ref x))) (K : AW G R M fr kc ks n al (.ref x :: st) shp D Q) : AW G R M fr kc ks pc al (st) shp D Q := by
  subst hn
  intro p e s m args below meth c H locs ls F hH hS hl
  exact lv_aload_n F.1 F.2.1 hd hi (aLs_at hl hx) (K p e s m args below meth c H locs ls F hH hS hl)
theorem aw_aload {i : Nat} {x : Nat} (hd : decode (aMb M) pc = .ok (.aload i, 2)) (hn : pc + 2 = n) (hx : al[i]? = some (some (.ref x))) (K : AW G R M fr kc ks n al (.ref x :: st) shp D Q) : AW G R M fr kc ks pc al (st) shp D Q := by
  subst hn
  intro p e s m args below meth c H locs ls F hH hS hl
  exact lv_aload F.1 F.2.1 hd (aLs_at hl hx) (K p e s m args below meth c H locs ls F hH hS hl)
theorem aw_istore_n {k : Fin 4} {i : Nat} {x y : Int32} {al' : List (Option Value)} (hd : decode (aMb M) pc = .ok (.istore_n k, 1)) (hn : pc + 1 = n) (hi : (k : Nat) = i) (hy : y = x) (hlt : i < aMl M) (ha : aSt al i (.int y) = al') (K : AW G R M fr kc ks n al' st shp D Q) : AW G R M fr kc ks pc al (.int x :: st) shp D Q := by
  subst hn; subst hy; subst ha
  intro p e s m args below meth c H locs ls F hH hS hl
  exact lv_istore_n F.1 F.2.1 hd hi hl hlt rfl (fun ls' hl' => K p e s m args below meth c H locs ls' F hH hS (aLs_st hl'))
theorem aw_istore {i : Nat} {x y : Int32} {al' : List (Option Value)} (hd : decode (aMb M) pc = .ok (.istore i, 2)) (hn : pc + 2 = n) (hy : y = x) (hlt : i < aMl M) (ha : aSt al i (.int y) = al') (K : AW G R M fr kc ks n al' st shp D Q) : AW G R M fr kc ks pc al (.int x :: st) shp D Q := by
  subst hn; subst hy; subst ha
  intro p e s m args below meth c H locs ls F hH hS hl
  exact lv_istore F.1 F.2.1 hd hl hlt rfl (fun ls' hl' => K p e s m args below meth c H locs ls' F hH hS (aLs_st hl'))
theorem aw_astore_n {k : Fin 4} {i : Nat} {x y : Nat} {al' : List (Option Value)} (hd : decode (aMb M) pc = .ok (.astore_n k, 1)) (hn : pc + 1 = n) (hi : (k : Nat) = i) (hy : y = x) (hlt : i < aMl M) (ha : aSt al i (.ref y) = al') (K : AW G R M fr kc ks n al' st shp D Q) : AW G R M fr kc ks pc al (.ref x :: st) shp D Q := by
  subst hn; subst hy; subst ha
  intro p e s m args below meth c H locs ls F hH hS hl
  exact lv_astore_n F.1 F.2.1 hd hi hl hlt rfl (fun ls' hl' => K p e s m args below meth c H locs ls' F hH hS (aLs_st hl'))
theorem aw_astore {i : Nat} {x y : Nat} {al' : List (Option Value)} (hd : decode (aMb M) pc = .ok (.astore i, 2)) (hn : pc + 2 = n) (hy : y = x) (hlt : i < aMl M) (ha : aSt al i (.ref y) = al') (K : AW G R M fr kc ks n al' st shp D Q) : AW G R M fr kc ks pc al (.ref x :: st) shp D Q := by
  subst hn; subst hy; subst ha
  intro p e s m args below meth c H locs ls F hH hS hl
  exact lv_astore F.1 F.2.1 hd hl hlt rfl (fun ls' hl' => K p e s m args below meth c H locs ls' F hH hS (aLs_st hl'))
theorem aw_lstore_n {k : Fin 4} {i : Nat} {x y : Int64} {al' : List (Option Value)} (hd : decode (aMb M) pc = .ok (.lstore_n k, 1)) (hn : pc + 1 = n) (hi : (k : Nat) = i) (hy : y = x) (hlt : i + 1 < aMl M) (ha : aSl al i (.long y) = al') (K : AW G R M fr kc ks n al' st shp D Q) : AW G R M fr kc ks pc al (.long x :: st) shp D Q := by
  subst hn; subst hy; subst ha
  intro p e s m args below meth c H locs ls F hH hS hl
  exact lv_lstore_n F.1 F.2.1 hd hi hl hlt rfl (fun ls' hl' => K p e s m args below meth c H locs ls' F hH hS (aLs_sl hl'))
theorem aw_lstore {i : Nat} {x y : Int64} {al' : List (Option Value)} (hd : decode (aMb M) pc = .ok (.lstore i, 2)) (hn : pc + 2 = n) (hy : y = x) (hlt : i + 1 < aMl M) (ha : aSl al i (.long y) = al') (K : AW G R M fr kc ks n al' st shp D Q) : AW G R M fr kc ks pc al (.long x :: st) shp D Q := by
  subst hn; subst hy; subst ha
  intro p e s m args below meth c H locs ls F hH hS hl
  exact lv_lstore F.1 F.2.1 hd hl hlt rfl (fun ls' hl' => K p e s m args below meth c H locs ls' F hH hS (aLs_sl hl'))
theorem aw_iinc {i : Nat} {k : Int} {x y : Int32} {al' : List (Option Value)} (hd : decode (aMb M) pc = .ok (.iinc i k, 3)) (hn : pc + 3 = n) (hx : al[i]? = some (some (.int x))) (hy : y = x + Int32.ofInt k) (hlt : i < aMl M) (ha : aSt al i (.int y) = al') (K : AW G R M fr kc ks n al' st shp D Q) : AW G R M fr kc ks pc al st shp D Q := by
  subst hn; subst hy; subst ha
  intro p e s m args below meth c H locs ls F hH hS hl
  obtain ⟨k9, hk9⟩ := List.mem_iff_getElem?.mp (List.mem_map.mpr ⟨(i, Value.int x), aL_mem.mpr hx, rfl⟩ : (i, av G (.int x)) ∈ (aL al).map (fun q => (q.1, av G q.2)))
  exact lv_iinc F.1 F.2.1 hd hl hk9 rfl hlt rfl (fun ls' hl' => K p e s m args below meth c H locs ls' F hH hS (aLs_st hl'))
theorem aw_iadd {x y : Int32} (hd : decode (aMb M) pc = .ok (.iadd, 1)) (hn : pc + 1 = n) (K : AW G R M fr kc ks n al (.int (x + y) :: st) shp D Q) : AW G R M fr kc ks pc al (.int y :: .int x :: st) shp D Q := by
  subst hn
  intro p e s m args below meth c H locs ls F hH hS hl
  exact lv_iadd F.1 F.2.1 hd (K p e s m args below meth c H locs ls F hH hS hl)
theorem aw_isub {x y : Int32} (hd : decode (aMb M) pc = .ok (.isub, 1)) (hn : pc + 1 = n) (K : AW G R M fr kc ks n al (.int (x - y) :: st) shp D Q) : AW G R M fr kc ks pc al (.int y :: .int x :: st) shp D Q := by
  subst hn
  intro p e s m args below meth c H locs ls F hH hS hl
  exact lv_isub F.1 F.2.1 hd (K p e s m args below meth c H locs ls F hH hS hl)
theorem aw_imul {x y : Int32} (hd : decode (aMb M) pc = .ok (.imul, 1)) (hn : pc + 1 = n) (K : AW G R M fr kc ks n al (.int (x * y) :: st) shp D Q) : AW G R M fr kc ks pc al (.int y :: .int x :: st) shp D Q := by
  subst hn
  intro p e s m args below meth c H locs ls F hH hS hl
  exact lv_imul F.1 F.2.1 hd (K p e s m args below meth c H locs ls F hH hS hl)
theorem aw_iand {x y : Int32} (hd : decode (aMb M) pc = .ok (.iand, 1)) (hn : pc + 1 = n) (K : AW G R M fr kc ks n al (.int (x &&& y) :: st) shp D Q) : AW G R M fr kc ks pc al (.int y :: .int x :: st) shp D Q := by
  subst hn
  intro p e s m args below meth c H locs ls F hH hS hl
  exact lv_iand F.1 F.2.1 hd (K p e s m args below meth c H locs ls F hH hS hl)
theorem aw_ior {x y : Int32} (hd : decode (aMb M) pc = .ok (.ior, 1)) (hn : pc + 1 = n) (K : AW G R M fr kc ks n al (.int (x ||| y) :: st) shp D Q) : AW G R M fr kc ks pc al (.int y :: .int x :: st) shp D Q := by
  subst hn
  intro p e s m args below meth c H locs ls F hH hS hl
  exact lv_ior F.1 F.2.1 hd (K p e s m args below meth c H locs ls F hH hS hl)
theorem aw_ixor {x y : Int32} (hd : decode (aMb M) pc = .ok (.ixor, 1)) (hn : pc + 1 = n) (K : AW G R M fr kc ks n al (.int (x ^^^ y) :: st) shp D Q) : AW G R M fr kc ks pc al (.int y :: .int x :: st) shp D Q := by
  subst hn
  intro p e s m args below meth c H locs ls F hH hS hl
  exact lv_ixor F.1 F.2.1 hd (K p e s m args below meth c H locs ls F hH hS hl)
theorem aw_ishl {x y : Int32} (hd : decode (aMb M) pc = .ok (.ishl, 1)) (hn : pc + 1 = n) (K : AW G R M fr kc ks n al (.int (x <<< (y &&& 31)) :: st) shp D Q) : AW G R M fr kc ks pc al (.int y :: .int x :: st) shp D Q := by
  subst hn
  intro p e s m args below meth c H locs ls F hH hS hl
  exact lv_ishl F.1 F.2.1 hd (K p e s m args below meth c H locs ls F hH hS hl)
theorem aw_ishr {x y : Int32} (hd : decode (aMb M) pc = .ok (.ishr, 1)) (hn : pc + 1 = n) (K : AW G R M fr kc ks n al (.int (x >>> (y &&& 31)) :: st) shp D Q) : AW G R M fr kc ks pc al (.int y :: .int x :: st) shp D Q := by
  subst hn
  intro p e s m args below meth c H locs ls F hH hS hl
  exact lv_ishr F.1 F.2.1 hd (K p e s m args below meth c H locs ls F hH hS hl)
theorem aw_iushr {x y : Int32} (hd : decode (aMb M) pc = .ok (.iushr, 1)) (hn : pc + 1 = n) (K : AW G R M fr kc ks n al (.int (x.toUInt32 >>> (y.toUInt32 &&& Int32.toUInt32 31)).toInt32 :: st) shp D Q) : AW G R M fr kc ks pc al (.int y :: .int x :: st) shp D Q := by
  subst hn
  intro p e s m args below meth c H locs ls F hH hS hl
  exact lv_iushr F.1 F.2.1 hd rfl (K p e s m args below meth c H locs ls F hH hS hl)
theorem aw_idiv {x y : Int32} (hd : decode (aMb M) pc = .ok (.idiv, 1)) (hn : pc + 1 = n) (hne : ¬ y = 0) (K : AW G R M fr kc ks n al (.int (x / y) :: st) shp D Q) : AW G R M fr kc ks pc al (.int y :: .int x :: st) shp D Q := by
  subst hn
  intro p e s m args below meth c H locs ls F hH hS hl
  exact lv_idiv F.1 F.2.1 hd hne (K p e s m args below meth c H locs ls F hH hS hl)
theorem aw_irem {x y : Int32} (hd : decode (aMb M) pc = .ok (.irem, 1)) (hn : pc + 1 = n) (hne : ¬ y = 0) (K : AW G R M fr kc ks n al (.int (x - x / y * y) :: st) shp D Q) : AW G R M fr kc ks pc al (.int y :: .int x :: st) shp D Q := by
  subst hn
  intro p e s m args below meth c H locs ls F hH hS hl
  exact lv_irem F.1 F.2.1 hd hne (K p e s m args below meth c H locs ls F hH hS hl)
theorem aw_ineg {x : Int32} (hd : decode (aMb M) pc = .ok (.ineg, 1)) (hn : pc + 1 = n) (K : AW G R M fr kc ks n al (.int (-x) :: st) shp D Q) : AW G R M fr kc ks pc al (.int x :: st) shp D Q := by
  subst hn
  intro p e s m args below meth c H locs ls F hH hS hl
  exact lv_ineg F.1 F.2.1 hd (K p e s m args below meth c H locs ls F hH hS hl)
theorem aw_ladd {x y : Int64} (hd : decode (aMb M) pc = .ok (.ladd, 1)) (hn : pc + 1 = n) (K : AW G R M fr kc ks n al (.long (x + y) :: st) shp D Q) : AW G R M fr kc ks pc al (.long y :: .long x :: st) shp D Q := by
  subst hn
  intro p e s m args below meth c H locs ls F hH hS hl
  exact lv_ladd F.1 F.2.1 hd (K p e s m args below meth c H locs ls F hH hS hl)
theorem aw_lsub {x y : Int64} (hd : decode (aMb M) pc = .ok (.lsub, 1)) (hn : pc + 1 = n) (K : AW G R M fr kc ks n al (.long (x - y) :: st) shp D Q) : AW G R M fr kc ks pc al (.long y :: .long x :: st) shp D Q := by
  subst hn
  intro p e s m args below meth c H locs ls F hH hS hl
  exact lv_lsub F.1 F.2.1 hd (K p e s m args below meth c H locs ls F hH hS hl)
theorem aw_lmul {x y : Int64} (hd : decode (aMb M) pc = .ok (.lmul, 1)) (hn : pc + 1 = n) (K : AW G R M fr kc ks n al (.long (x * y) :: st) shp D Q) : AW G R M fr kc ks pc al (.long y :: .long x :: st) shp D Q := by
  subst hn
  intro p e s m args below meth c H locs ls F hH hS hl
  exact lv_lmul F.1 F.2.1 hd (K p e s m args below meth c H locs ls F hH hS hl)
theorem aw_lor {x y : Int64} (hd : decode (aMb M) pc = .ok (.lor, 1)) (hn : pc + 1 = n) (K : AW G R M fr kc ks n al (.long (x ||| y) :: st) shp D Q) : AW G R M fr kc ks pc al (.long y :: .long x :: st) shp D Q := by
  subst hn
  intro p e s m args below meth c H locs ls F hH hS hl
  exact lv_lor F.1 F.2.1 hd (K p e s m args below meth c H locs ls F hH hS hl)
theorem aw_lxor {x y : Int64} (hd : decode (aMb M) pc = .ok (.lxor, 1)) (hn : pc + 1 = n) (K : AW G R M fr kc ks n al (.long (x ^^^ y) :: st) shp D Q) : AW G R M fr kc ks pc al (.long y :: .long x :: st) shp D Q := by
  subst hn
  intro p e s m args below meth c H locs ls F hH hS hl
  exact lv_lxor F.1 F.2.1 hd (K p e s m args below meth c H locs ls F hH hS hl)
theorem aw_land {x y : Int64} (hd : decode (aMb M) pc = .ok (.land, 1)) (hn : pc + 1 = n) (K : AW G R M fr kc ks n al (.long (x &&& y) :: st) shp D Q) : AW G R M fr kc ks pc al (.long y :: .long x :: st) shp D Q := by
  subst hn
  intro p e s m args below meth c H locs ls F hH hS hl
  exact lv_land F.1 F.2.1 hd (K p e s m args below meth c H locs ls F hH hS hl)
theorem aw_ldiv {x y : Int64} (hd : decode (aMb M) pc = .ok (.ldiv, 1)) (hn : pc + 1 = n) (hne : ¬ y = 0) (K : AW G R M fr kc ks n al (.long (x / y) :: st) shp D Q) : AW G R M fr kc ks pc al (.long y :: .long x :: st) shp D Q := by
  subst hn
  intro p e s m args below meth c H locs ls F hH hS hl
  exact lv_ldiv F.1 F.2.1 hd hne (K p e s m args below meth c H locs ls F hH hS hl)
theorem aw_lushr {x : Int64} {y : Int32} (hd : decode (aMb M) pc = .ok (.lushr, 1)) (hn : pc + 1 = n) (K : AW G R M fr kc ks n al (.long (x.toUInt64 >>> (y.toInt64.toUInt64 &&& Int64.toUInt64 63)).toInt64 :: st) shp D Q) : AW G R M fr kc ks pc al (.int y :: .long x :: st) shp D Q := by
  subst hn
  intro p e s m args below meth c H locs ls F hH hS hl
  exact lv_lushr F.1 F.2.1 hd rfl (K p e s m args below meth c H locs ls F hH hS hl)
theorem aw_lshl {x : Int64} {y : Int32} (hd : decode (aMb M) pc = .ok (.lshl, 1)) (hn : pc + 1 = n) (K : AW G R M fr kc ks n al (.long (x <<< (y.toInt64 &&& 63)) :: st) shp D Q) : AW G R M fr kc ks pc al (.int y :: .long x :: st) shp D Q := by
  subst hn
  intro p e s m args below meth c H locs ls F hH hS hl
  exact lv_lshl F.1 F.2.1 hd rfl (K p e s m args below meth c H locs ls F hH hS hl)
theorem aw_lcmp {x y : Int64} (hd : decode (aMb M) pc = .ok (.lcmp, 1)) (hn : pc + 1 = n) (K : AW G R M fr kc ks n al (.int (lg_cmp x y) :: st) shp D Q) : AW G R M fr kc ks pc al (.long y :: .long x :: st) shp D Q := by
  subst hn
  intro p e s m args below meth c H locs ls F hH hS hl
  exact W.lcmp F.1 F.2.1 hd (K p e s m args below meth c H locs ls F hH hS hl)
theorem aw_i2l {x : Int32} (hd : decode (aMb M) pc = .ok (.i2l, 1)) (hn : pc + 1 = n) (K : AW G R M fr kc ks n al (.long x.toInt64 :: st) shp D Q) : AW G R M fr kc ks pc al (.int x :: st) shp D Q := by
  subst hn
  intro p e s m args below meth c H locs ls F hH hS hl
  exact lv_i2l F.1 F.2.1 hd rfl (K p e s m args below meth c H locs ls F hH hS hl)
theorem aw_l2i {x : Int64} (hd : decode (aMb M) pc = .ok (.l2i, 1)) (hn : pc + 1 = n) (K : AW G R M fr kc ks n al (.int x.toInt32 :: st) shp D Q) : AW G R M fr kc ks pc al (.long x :: st) shp D Q := by
  subst hn
  intro p e s m args below meth c H locs ls F hH hS hl
  exact lv_l2i F.1 F.2.1 hd rfl (K p e s m args below meth c H locs ls F hH hS hl)
theorem aw_i2b {x : Int32} (hd : decode (aMb M) pc = .ok (.i2b, 1)) (hn : pc + 1 = n) (K : AW G R M fr kc ks n al (.int x.toInt8.toInt32 :: st) shp D Q) : AW G R M fr kc ks pc al (.int x :: st) shp D Q := by
  subst hn
  intro p e s m args below meth c H locs ls F hH hS hl
  exact lv_i2b F.1 F.2.1 hd rfl (K p e s m args below meth c H locs ls F hH hS hl)
theorem aw_dup {v : Value} (hd : decode (aMb M) pc = .ok (.dup, 1)) (hn : pc + 1 = n) (hc : v.category = 1) (K : AW G R M fr kc ks n al (v :: v :: st) shp D Q) : AW G R M fr kc ks pc al (v :: st) shp D Q := by
  subst hn
  intro p e s m args below meth c H locs ls F hH hS hl
  exact lv_dup F.1 F.2.1 hd ((av_cat G v).trans hc) (K p e s m args below meth c H locs ls F hH hS hl)
theorem aw_pop {v : Value} (hd : decode (aMb M) pc = .ok (.pop, 1)) (hn : pc + 1 = n) (hc : v.category = 1) (K : AW G R M fr kc ks n al (st) shp D Q) : AW G R M fr kc ks pc al (v :: st) shp D Q := by
  subst hn
  intro p e s m args below meth c H locs ls F hH hS hl
  exact lv_pop F.1 F.2.1 hd ((av_cat G v).trans hc) (K p e s m args below meth c H locs ls F hH hS hl)
theorem aw_dup2 {v w : Value} (hd : decode (aMb M) pc = .ok (.dup2, 1)) (hn : pc + 1 = n) (hc : v.category = 1) (hc2 : w.category = 1) (K : AW G R M fr kc ks n al (v :: w :: v :: w :: st) shp D Q) : AW G R M fr kc ks pc al (v :: w :: st) shp D Q := by
  subst hn
  intro p e s m args below meth c H locs ls F hH hS hl
  exact lv_dup2_11 F.1 F.2.1 hd ((av_cat G v).trans hc) ((av_cat G w).trans hc2) (K p e s m args below meth c H locs ls F hH hS hl)
theorem aw_if_eq {x : Int32} {off : Int} {tgt : Nat} (hd : decode (aMb M) pc = .ok (.ifCond .eq off, 3)) (hn : pc + 3 = n) (ht : (pc : Int) + off = (tgt : Int)) (KT : x = 0 → AW G R M fr kc ks tgt al st shp D Q) (KF : ¬ (x = 0) → AW G R M fr kc ks n al st shp D Q) : AW G R M fr kc ks pc al (.int x :: st) shp D Q := by
  subst hn
  intro p e s m args below meth c H locs ls F hH hS hl
  exact lv_if_eq F.1 F.2.1 hd ht (fun q => KT q p e s m args below meth c H locs ls F hH hS hl) (fun q => KF q p e s m args below meth c H locs ls F hH hS hl)
theorem aw_icmp_eq {x y : Int32} {off : Int} {tgt : Nat} (hd : decode (aMb M) pc = .ok (.if_icmp .eq off, 3)) (hn : pc + 3 = n) (ht : (pc : Int) + off = (tgt : Int)) (KT : x = y → AW G R M fr kc ks tgt al st shp D Q) (KF : ¬ (x = y) → AW G R M fr kc ks n al st shp D Q) : AW G R M fr kc ks pc al (.int y :: .int x :: st) shp D Q := by
  subst hn
  intro p e s m args below meth c H locs ls F hH hS hl
  exact lv_icmp_eq F.1 F.2.1 hd ht (fun q => KT q p e s m args below meth c H locs ls F hH hS hl) (fun q => KF q p e s m args below meth c H locs ls F hH hS hl)
theorem aw_if_ne {x : Int32} {off : Int} {tgt : Nat} (hd : decode (aMb M) pc = .ok (.ifCond .ne off, 3)) (hn : pc + 3 = n) (ht : (pc : Int) + off = (tgt : Int)) (KT : x ≠ 0 → AW G R M fr kc ks tgt al st shp D Q) (KF : x = 0 → AW G R M fr kc ks n al st shp D Q) : AW G R M fr kc ks pc al (.int x :: st) shp D Q := by
  subst hn
  intro p e s m args below meth c H locs ls F hH hS hl
  exact lv_if_ne F.1 F.2.1 hd ht (fun q => KT q p e s m args below meth c H locs ls F hH hS hl) (fun q => KF q p e s m args below meth c H locs ls F hH hS hl)
theorem aw_icmp_ne {x y : Int32} {off : Int} {tgt : Nat} (hd : decode (aMb M) pc = .ok (.if_icmp .ne off, 3)) (hn : pc + 3 = n) (ht : (pc : Int) + off = (tgt : Int)) (KT : x ≠ y → AW G R M fr kc ks tgt al st shp D Q) (KF : x = y → AW G R M fr kc ks n al st shp D Q) : AW G R M fr kc ks pc al (.int y :: .int x :: st) shp D Q := by
  subst hn
  intro p e s m args below meth c H locs ls F hH hS hl
  exact lv_icmp_ne F.1 F.2.1 hd ht (fun q => KT q p e s m args below meth c H locs ls F hH hS hl) (fun q => KF q p e s m args below meth c H locs ls F hH hS hl)
theorem aw_if_lt {x : Int32} {off : Int} {tgt : Nat} (hd : decode (aMb M) pc = .ok (.ifCond .lt off, 3)) (hn : pc + 3 = n) (ht : (pc : Int) + off = (tgt : Int)) (KT : x < 0 → AW G R M fr kc ks tgt al st shp D Q) (KF : ¬ (x < 0) → AW G R M fr kc ks n al st shp D Q) : AW G R M fr kc ks pc al (.int x :: st) shp D Q := by
  subst hn
  intro p e s m args below meth c H locs ls F hH hS hl
  exact lv_if_lt F.1 F.2.1 hd ht (fun q => KT q p e s m args below meth c H locs ls F hH hS hl) (fun q => KF q p e s m args below meth c H locs ls F hH hS hl)
theorem aw_icmp_lt {x y : Int32} {off : Int} {tgt : Nat} (hd : decode (aMb M) pc = .ok (.if_icmp .lt off, 3)) (hn : pc + 3 = n) (ht : (pc : Int) + off = (tgt : Int)) (KT : x < y → AW G R M fr kc ks tgt al st shp D Q) (KF : ¬ (x < y) → AW G R M fr kc ks n al st shp D Q) : AW G R M fr kc ks pc al (.int y :: .int x :: st) shp D Q := by
  subst hn
  intro p e s m args below meth c H locs ls F hH hS hl
  exact lv_icmp_lt F.1 F.2.1 hd ht (fun q => KT q p e s m args below meth c H locs ls F hH hS hl) (fun q => KF q p e s m args below meth c H locs ls F hH hS hl)
theorem aw_if_ge {x : Int32} {off : Int} {tgt : Nat} (hd : decode (aMb M) pc = .ok (.ifCond .ge off, 3)) (hn : pc + 3 = n) (ht : (pc : Int) + off = (tgt : Int)) (KT : 0 ≤ x → AW G R M fr kc ks tgt al st shp D Q) (KF : ¬ (0 ≤ x) → AW G R M fr kc ks n al st shp D Q) : AW G R M fr kc ks pc al (.int x :: st) shp D Q := by
  subst hn
  intro p e s m args below meth c H locs ls F hH hS hl
  exact lv_if_ge F.1 F.2.1 hd ht (fun q => KT q p e s m args below meth c H locs ls F hH hS hl) (fun q => KF q p e s m args below meth c H locs ls F hH hS hl)
theorem aw_icmp_ge {x y : Int32} {off : Int} {tgt : Nat} (hd : decode (aMb M) pc = .ok (.if_icmp .ge off, 3)) (hn : pc + 3 = n) (ht : (pc : Int) + off = (tgt : Int)) (KT : y ≤ x → AW G R M fr kc ks tgt al st shp D Q) (KF : ¬ (y ≤ x) → AW G R M fr kc ks n al st shp D Q) : AW G R M fr kc ks pc al (.int y :: .int x :: st) shp D Q := by
  subst hn
  intro p e s m args below meth c H locs ls F hH hS hl
  exact lv_icmp_ge F.1 F.2.1 hd ht (fun q => KT q p e s m args below meth c H locs ls F hH hS hl) (fun q => KF q p e s m args below meth c H locs ls F hH hS hl)
theorem aw_if_gt {x : Int32} {off : Int} {tgt : Nat} (hd : decode (aMb M) pc = .ok (.ifCond .gt off, 3)) (hn : pc + 3 = n) (ht : (pc : Int) + off = (tgt : Int)) (KT : 0 < x → AW G R M fr kc ks tgt al st shp D Q) (KF : ¬ (0 < x) → AW G R M fr kc ks n al st shp D Q) : AW G R M fr kc ks pc al (.int x :: st) shp D Q := by
  subst hn
  intro p e s m args below meth c H locs ls F hH hS hl
  exact lv_if_gt F.1 F.2.1 hd ht (fun q => KT q p e s m args below meth c H locs ls F hH hS hl) (fun q => KF q p e s m args below meth c H locs ls F hH hS hl)
theorem aw_icmp_gt {x y : Int32} {off : Int} {tgt : Nat} (hd : decode (aMb M) pc = .ok (.if_icmp .gt off, 3)) (hn : pc + 3 = n) (ht : (pc : Int) + off = (tgt : Int)) (KT : y < x → AW G R M fr kc ks tgt al st shp D Q) (KF : ¬ (y < x) → AW G R M fr kc ks n al st shp D Q) : AW G R M fr kc ks pc al (.int y :: .int x :: st) shp D Q := by
  subst hn
  intro p e s m args below meth c H locs ls F hH hS hl
  exact lv_icmp_gt F.1 F.2.1 hd ht (fun q => KT q p e s m args below meth c H locs ls F hH hS hl) (fun q => KF q p e s m args below meth c H locs ls F hH hS hl)
theorem aw_if_le {x : Int32} {off : Int} {tgt : Nat} (hd : decode (aMb M) pc = .ok (.ifCond .le off, 3)) (hn : pc + 3 = n) (ht : (pc : Int) + off = (tgt : Int)) (KT : x ≤ 0 → AW G R M fr kc ks tgt al st shp D Q) (KF : ¬ (x ≤ 0) → AW G R M fr kc ks n al st shp D Q) : AW G R M fr kc ks pc al (.int x :: st) shp D Q := by
  subst hn
  intro p e s m args below meth c H locs ls F hH hS hl
  exact lv_if_le F.1 F.2.1 hd ht (fun q => KT q p e s m args below meth c H locs ls F hH hS hl) (fun q => KF q p e s m args below meth c H locs ls F hH hS hl)
theorem aw_icmp_le {x y : Int32} {off : Int} {tgt : Nat} (hd : decode (aMb M) pc = .ok (.if_icmp .le off, 3)) (hn : pc + 3 = n) (ht : (pc : Int) + off = (tgt : Int)) (KT : x ≤ y → AW G R M fr kc ks tgt al st shp D Q) (KF : ¬ (x ≤ y) → AW G R M fr kc ks n al st shp D Q) : AW G R M fr kc ks pc al (.int y :: .int x :: st) shp D Q := by
  subst hn
  intro p e s m args below meth c H locs ls F hH hS hl
  exact lv_icmp_le F.1 F.2.1 hd ht (fun q => KT q p e s m args below meth c H locs ls F hH hS hl) (fun q => KF q p e s m args below meth c H locs ls F hH hS hl)
theorem aw_goto {off : Int} {tgt : Nat} (hd : decode (aMb M) pc = .ok (.goto off, 3)) (ht : (pc : Int) + off = (tgt : Int)) (K : AW G R M fr kc ks tgt al st shp D Q) : AW G R M fr kc ks pc al st shp D Q := by
  intro p e s m args below meth c H locs ls F hH hS hl
  exact lv_goto F.1 F.2.1 hd ht (K p e s m args below meth c H locs ls F hH hS hl)
theorem aw_tableIn {dflt lo hi : Int} {offs : Array Int} {len : Nat} {x : Int32} {off : Int} {tgt : Nat} (hd : decode (aMb M) pc = .ok (.tableswitch dflt lo hi offs, len)) (h1 : ¬ x.toInt < lo) (h2 : ¬ hi < x.toInt) (ho : offs[(x.toInt - lo).toNat]? = some off) (ht : (pc : Int) + off = (tgt : Int)) (K : AW G R M fr kc ks tgt al st shp D Q) : AW G R M fr kc ks pc al (.int x :: st) shp D Q := by
  intro p e s m args below meth c H locs ls F hH hS hl
  exact lv_tableIn F.1 F.2.1 hd h1 h2 ho ht (K p e s m args below meth c H locs ls F hH hS hl)
theorem aw_tableOut {dflt lo hi : Int} {offs : Array Int} {len : Nat} {x : Int32} {tgt : Nat} (hd : decode (aMb M) pc = .ok (.tableswitch dflt lo hi offs, len)) (h : x.toInt < lo ∨ hi < x.toInt) (ht : (pc : Int) + dflt = (tgt : Int)) (K : AW G R M fr kc ks tgt al st shp D Q) : AW G R M fr kc ks pc al (.int x :: st) shp D Q := by
  intro p e s m args below meth c H locs ls F hH hS hl
  exact lv_tableOut F.1 F.2.1 hd h ht (K p e s m args below meth c H locs ls F hH hS hl)
/-- fewer locals -/
theorem aw_le {al' : List (Option Value)} (hl : ∀ (i : Nat) (v : Value), al'[i]? = some (some v) → al[i]? = some (some v)) (K : AW G R M fr kc ks pc al' st shp D Q) : AW G R M fr kc ks pc al st shp D Q := by
  intro p e s m args below meth c H locs ls F hH hS hls
  exact K p e s m args below meth c H locs ls F hH hS (aLs_le hls hl)
def aFld (own : String) (idx ci j : Nat) (ty : FieldType) (fin : Bool) : Prop := ∃ (C : String) (T : u_T) (N : Nat) (ty0 : Nat → FieldType), vwCl[ci]? = some (C, T, N) ∧ j < N ∧ (∀ w ∈ u_ws C T N, w ∈ aU) ∧ (∀ k, k < N → parseFieldDescriptor (T k).2.2.1 = some (ty0 k)) ∧ (∀ a, a < N → ∀ b, b < N → a ≠ b → (T a).2.1 ≠ (T b).2.1) ∧ Cond.fieldLink own idx C (T j).2.1 (T j).2.2.1 ∈ aU ∧ (T j).1 = C ∧ parseFieldDescriptor (T j).2.2.1 = some ty ∧ (T j).2.2.2 = fin
theorem gK_at {s : State} (hG : va_K (gD G) vwCl (gTy G) (gs G)) (hv : (gs G).WarmedH s.vm) : va_K (gD G) vwCl (gTy G) s := va_K.moved hv.alike hG
theorem aH_P {H : Heap} (h : aH G shp D H) : va_P (gD G) vwCl (aW G shp D) H := h.2.1
theorem aw_getV {k ci j idx : Nat} {fs : List aFS} {ty : FieldType} {fin : Bool} {f : aFS} {v : Value} (hK0 : va_K (gD G) vwCl (gTy G) (gs G)) (hF : aFld (aMo M) idx ci j ty fin) (hs : shp[k]? = some (.inr (ci, fs))) (hj : fs[j]? = some f) (hv : aF G D k j f = av G v) (hd : decode (aMb M) pc = .ok (.getfield idx, 3)) (hn : pc + 3 = n) (K : AW G R M fr kc ks n al (v :: st) shp D Q) : AW G R M fr kc ks pc al (.ref k :: st) shp D Q := by
  subst hn
  intro p e s m args below meth c H locs ls F hH hS hl
  obtain ⟨C, T, N, ty0, hc, hjN, hin, hty, hnm, hlk, hown, hd2, hfin⟩ := hF
  have hv9 : (fs.mapIdx (fun j f => aF G D k j f))[j]? = some (av G v) := by rw [List.getElem?_mapIdx, hj]; exact congrArg some hv
  exact va_get (D := gD G) (cl := vwCl) (tys := gTy G) (ws := aW G shp D) (Ts := aU) (T := T) (C := C) (N := N) (ci := ci) F.1 F.2.1 F.2.2.2.2.1 hin F.2.2.2.1 (gK_at hK0 F.2.2.2.2.2.2.2.1) hH.2.1 k (aW_get hs) hc j hjN (F.2.2.2.2.1 _ hlk) (fun x hx => by rw [hown] at hx; exact hx) hv9 hd (K p e s m args below meth c H locs ls F hH hS hl)
theorem aw_getI {k ci j idx : Nat} {fs : List aFS} {ty : FieldType} {fin : Bool} (hK0 : va_K (gD G) vwCl (gTy G) (gs G)) (hF : aFld (aMo M) idx ci j ty fin) (hs : shp[k]? = some (.inr (ci, fs))) (hj : fs[j]? = some none) (hd : decode (aMb M) pc = .ok (.getfield idx, 3)) (hn : pc + 3 = n) (K : AW G R M fr kc ks n al (.int (gI D k j) :: st) shp D Q) : AW G R M fr kc ks pc al (.ref k :: st) shp D Q :=
  aw_getV hK0 hF hs hj rfl hd hn K
theorem aw_getR {k ci j idx r : Nat} {fs : List aFS} {ty : FieldType} {fin : Bool} (hK0 : va_K (gD G) vwCl (gTy G) (gs G)) (hF : aFld (aMo M) idx ci j ty fin) (hs : shp[k]? = some (.inr (ci, fs))) (hj : fs[j]? = some (some (some r))) (hd : decode (aMb M) pc = .ok (.getfield idx, 3)) (hn : pc + 3 = n) (K : AW G R M fr kc ks n al (.ref r :: st) shp D Q) : AW G R M fr kc ks pc al (.ref k :: st) shp D Q :=
  aw_getV hK0 hF hs hj rfl hd hn K
theorem aH_up {shp' : List aSh} {D' : aD} {H1 : Heap} {locs1 : List Loc} {s : State} (hl : shp'.length ≤ 10000) (hP : va_P (gD G) vwCl (aW G shp' D') H1) (hS : va_S (aA G) s.heap H1 locs1) (hb : glo G ≤ s.heap.size) (hlow : ∀ q : Nat, q < glo G → s.heap[q]? = (gs G).heap[q]?) : aH G shp' D' H1 := by
  refine ⟨hl, hP, fun q hq => ?_, Nat.le_trans hb hS.1⟩
  rw [hS.2.1 q (Nat.lt_of_lt_of_le hq hb) (fun z => Nat.not_lt.mpr z hq)]
  exact hlow q hq
theorem aH_size {p : Program} {l : Launch} {e : Env} {s T : State} {m : MethodId} {args : Array Value} {below : List Frame} {meth : Method} {c : Code} {locs : List Loc} {n0 : Nat} (X : Stand p l e R s m args below meth c T locs kc ks) (h : aH G shp D T.heap) (hs : s.heap.size = glo G + n0) (hn : n0 + kc = shp.length) : T.heap.size = glo G + shp.length := by
  have h1 : T.heap.size ≤ s.heap.size + kc := X.same.2.2.1
  have h2 : glo G + shp.length ≤ T.heap.size := by
    rcases Nat.eq_zero_or_pos shp.length with z | z
    · have := h.2.2.2; omega
    · have hk : shp.length - 1 < shp.length := by omega
      have h3 := (h.2.1 (shp.length - 1) _ (aW_get (List.getElem?_eq_getElem hk))).lt
      have h4 := h.1
      have h5 : gAd G (shp.length - 1) = glo G + (shp.length - 1) := gAd_lo (by omega)
      simp only [h5] at h3
      omega
  omega
/-! stores -/
theorem aw_put0 {k ci j idx : Nat} {fs : List aFS} {ty : FieldType} {v : Value} {shp' : List aSh} {D' : aD} (hK0 : va_K (gD G) vwCl (gTy G) (gs G)) (hF : aFld (aMo M) idx ci j ty false) (hs : shp[k]? = some (.inr (ci, fs))) (hj : j < fs.length) (hlen : shp'.length = shp.length) (hset : (aW G shp D).set k (gAd G k, .inr (ci, (fs.mapIdx (fun j f => aF G D k j f)).set j (av G v))) = aW G shp' D') (hnar : narrow ty (av G v) = av G v) (hfit : fits ty (av G v) = true) (hd : decode (aMb M) pc = .ok (.putfield idx, 3)) (hn : pc + 3 = n) (K : AW G R M fr kc ks n al st shp' D' Q) : AW G R M fr kc ks pc al (v :: .ref k :: st) shp D Q := by
  subst hn
  intro p e s m args below meth c H locs ls F hH hS hl
  obtain ⟨C, T, N, ty0, hc, hjN, hin, hty, hnm, hlk, hown, hd2, hfin⟩ := hF
  refine va_put (D := gD G) (cl := vwCl) (tys := gTy G) (ws := aW G shp D) (Ts := aU) (T := T) (C := C) (N := N) (ci := ci) F.1 F.2.1 F.2.2.2.2.1 hin ty0 hty hnm F.2.2.2.1 (gK_at hK0 F.2.2.2.2.2.2.2.1) hH.2.1 (aW_D hH.1) hS k (aW_get hs) hc j hjN (F.2.2.2.2.1 _ hlk) (fun x hx => by rw [hown] at hx; exact hx) hfin hd2 hnar hfit (by rw [List.length_mapIdx]; exact hj) hd (fun H1 locs1 hP hD hS1 => ?_)
  rw [hset] at hP
  exact K p e s m args below meth c H1 locs1 ls F (aH_up (by rw [hlen]; exact hH.1) hP hS1 F.2.2.2.2.2.2.2.2.1 F.2.2.2.2.2.2.2.2.2.1) hS1 hl
theorem aw_putF0 {k ci j idx : Nat} {fs : List aFS} {ty : FieldType} {v : Value} {shp' : List aSh} {D' : aD} (hK0 : va_K (gD G) vwCl (gTy G) (gs G)) (hF : aFld (aMo M) idx ci j ty true) (hci : ∃ T N, vwCl[ci]? = some (aMo M, T, N)) (hini : (aMn M).name = "<init>") (hs : shp[k]? = some (.inr (ci, fs))) (hj : j < fs.length) (hlen : shp'.length = shp.length) (hset : (aW G shp D).set k (gAd G k, .inr (ci, (fs.mapIdx (fun j f => aF G D k j f)).set j (av G v))) = aW G shp' D') (hnar : narrow ty (av G v) = av G v) (hfit : fits ty (av G v) = true) (hd : decode (aMb M) pc = .ok (.putfield idx, 3)) (hn : pc + 3 = n) (K : AW G R M fr kc ks n al st shp' D' Q) : AW G R M fr kc ks pc al (v :: .ref k :: st) shp D Q := by
  subst hn
  intro p e s m args below meth c H locs ls F hH hS hl
  obtain ⟨C, T, N, ty0, hc, hjN, hin, hty, hnm, hlk, hown, hd2, hfin⟩ := hF
  obtain ⟨T9, N9, h9⟩ := hci
  have hCo : C = aMo M := by
    have := hc.symm.trans h9
    cases this
    rfl
  refine va_putF (D := gD G) (cl := vwCl) (tys := gTy G) (ws := aW G shp D) (Ts := aU) (T := T) (C := C) (N := N) (ci := ci) F.1 F.2.1 F.2.2.2.2.1 hin ty0 hty hnm F.2.2.2.1 (gK_at hK0 F.2.2.2.2.2.2.2.1) hH.2.1 (aW_D hH.1) hS k (aW_get hs) hc j hjN (F.2.2.2.2.1 _ hlk) (fun x hx => by rw [hown] at hx; exact hx) hfin (F.2.2.2.2.2.2.2.2.2.2.2.1.trans hini) (hown.trans hCo) hd2 hnar hfit (by rw [List.length_mapIdx]; exact hj) hd (fun H1 locs1 hP hD hS1 => ?_)
  rw [hset] at hP
  exact K p e s m args below meth c H1 locs1 ls F (aH_up (by rw [hlen]; exact hH.1) hP hS1 F.2.2.2.2.2.2.2.2.1 F.2.2.2.2.2.2.2.2.2.1) hS1 hl
theorem aw_putI {k ci j idx : Nat} {fs : List aFS} {x : Int32} {D' : aD} (hK0 : va_K (gD G) vwCl (gTy G) (gs G)) (hF : aFld (aMo M) idx ci j .int false) (hs : shp[k]? = some (.inr (ci, fs))) (hj : fs[j]? = some none) (hD' : D' = pI D k j x) (hd : decode (aMb M) pc = .ok (.putfield idx, 3)) (hn : pc + 3 = n) (K : AW G R M fr kc ks n al st shp D' Q) : AW G R M fr kc ks pc al (.int x :: .ref k :: st) shp D Q := by
  subst hD'
  exact aw_put0 hK0 hF hs (List.getElem?_eq_some_iff.mp hj).1 rfl (aW_setF hs hj) rfl rfl hd hn K
theorem nar_z {x : Int32} (h : x = 0 ∨ x = 1) : narrow .boolean (.int x) = .int x := by rcases h with rfl | rfl <;> decide
theorem fit_z {x : Int32} (h : x = 0 ∨ x = 1) : fits .boolean (.int x) = true := by rcases h with rfl | rfl <;> decide
theorem aw_putZ {k ci j idx : Nat} {fs : List aFS} {x : Int32} {D' : aD} (hK0 : va_K (gD G) vwCl (gTy G) (gs G)) (hF : aFld (aMo M) idx ci j .boolean false) (hx : x = 0 ∨ x = 1) (hs : shp[k]? = some (.inr (ci, fs))) (hj : fs[j]? = some none) (hD' : D' = pI D k j x) (hd : decode (aMb M) pc = .ok (.putfield idx, 3)) (hn : pc + 3 = n) (K : AW G R M fr kc ks n al st shp D' Q) : AW G R M fr kc ks pc al (.int x :: .ref k :: st) shp D Q := by
  subst hD'
  exact aw_put0 hK0 hF hs (List.getElem?_eq_some_iff.mp hj).1 rfl (aW_setF hs hj) (nar_z hx) (fit_z hx) hd hn K
/-- a reference into a field, in a constructor (final or not) -/
theorem aw_putR {k ci j idx r : Nat} {fs : List aFS} {ty : FieldType} {shp' : List aSh} (hK0 : va_K (gD G) vwCl (gTy G) (gs G)) (hF : aFld (aMo M) idx ci j ty true) (hty : narrow ty (.ref 0) = .ref 0 ∧ ∀ q : Nat, narrow ty (.ref q) = .ref q ∧ fits ty (.ref q) = true) (hci : ∃ T N, vwCl[ci]? = some (aMo M, T, N)) (hini : (aMn M).name = "<init>") (hs : shp[k]? = some (.inr (ci, fs))) (hj : j < fs.length) (hs' : shp' = shp.set k (.inr (ci, fs.set j (some (some r))))) (hd : decode (aMb M) pc = .ok (.putfield idx, 3)) (hn : pc + 3 = n) (K : AW G R M fr kc ks n al st shp' D Q) : AW G R M fr kc ks pc al (.ref r :: .ref k :: st) shp D Q := by
  subst hs'
  exact aw_putF0 hK0 hF hci hini hs hj (by rw [List.length_set]) (aW_setR hs hj) (hty.2 _).1 (hty.2 _).2 hd hn K
/-! rows -/
theorem aC_prim {k t m9 : Nat} {rs : List (Option Nat)} (h2 : ¬ t = 2) (h4 : t < 4) : aC G D k (.inl (t, m9, rs)) = .inl (gcy G t, m9, .inl (D.1 k)) := by simp [aC, h2, h4]
theorem aC_long {k m9 : Nat} {rs : List (Option Nat)} : aC G D k (.inl (2, m9, rs)) = .inl (gcy G 2, m9, .inr (.inl (D.2 k))) := by simp [aC]
theorem aC_refs {k t m9 : Nat} {rs : List (Option Nat)} (h : 4 ≤ t) : aC G D k (.inl (t, m9, rs)) = .inl (gcy G t, m9, .inr (.inr (.inr (.inr (fun i => (rs.getD i none).map (gAd G)))))) := by
  have h2 : ¬ t = 2 := by omega
  have h3 : ¬ t < 4 := by omega
  simp [aC, h2, h3]
theorem aW_prim {k t m9 : Nat} {rs : List (Option Nat)} (hs : shp[k]? = some (.inl (t, m9, rs))) (h2 : ¬ t = 2) (h4 : t < 4) : (aW G shp D)[k]? = some (gAd G k, .inl (gcy G t, m9, .inl (D.1 k))) := by rw [aW_get hs, aC_prim h2 h4]
theorem aW_long {k m9 : Nat} {rs : List (Option Nat)} (hs : shp[k]? = some (.inl (2, m9, rs))) : (aW G shp D)[k]? = some (gAd G k, .inl (gcy G 2, m9, .inr (.inl (D.2 k)))) := by rw [aW_get hs, aC_long]
theorem aW_refs {k t m9 : Nat} {rs : List (Option Nat)} (hs : shp[k]? = some (.inl (t, m9, rs))) (h : 4 ≤ t) : (aW G shp D)[k]? = some (gAd G k, .inl (gcy G t, m9, .inr (.inr (.inr (.inr (fun i => (rs.getD i none).map (gAd G))))))) := by rw [aW_get hs, aC_refs h]
theorem aw_iaload {k m9 : Nat} {rs : List (Option Nat)} {i : Int32} (hK0 : va_K (gD G) vwCl (gTy G) (gs G)) (hs : shp[k]? = some (.inl (1, m9, rs))) (hi : vp_in i m9) (hd : decode (aMb M) pc = .ok (.iaload, 1)) (hn : pc + 1 = n) (K : AW G R M fr kc ks n al (.int (gI D k i.toNatClampNeg) :: st) shp D Q) : AW G R M fr kc ks pc al (.int i :: .ref k :: st) shp D Q := by
  subst hn
  intro p e s m args below meth c H locs ls F hH hS hl
  exact va_iald (D := gD G) (cl := vwCl) (tys := gTy G) (ws := aW G shp D) F.1 F.2.1 (gK_at hK0 F.2.2.2.2.2.2.2.1) hH.2.1 k 1 (aW_prim hs (by decide) (by decide)) rfl hi hd (K p e s m args below meth c H locs ls F hH hS hl)
theorem aw_baload {k m9 : Nat} {rs : List (Option Nat)} {i : Int32} (hK0 : va_K (gD G) vwCl (gTy G) (gs G)) (hs : shp[k]? = some (.inl (0, m9, rs))) (hi : vp_in i m9) (hd : decode (aMb M) pc = .ok (.baload, 1)) (hn : pc + 1 = n) (K : AW G R M fr kc ks n al (.int (gI D k i.toNatClampNeg) :: st) shp D Q) : AW G R M fr kc ks pc al (.int i :: .ref k :: st) shp D Q := by
  subst hn
  intro p e s m args below meth c H locs ls F hH hS hl
  exact va_bald (D := gD G) (cl := vwCl) (tys := gTy G) (ws := aW G shp D) F.1 F.2.1 (gK_at hK0 F.2.2.2.2.2.2.2.1) hH.2.1 k 0 (aW_prim hs (by decide) (by decide)) rfl hi hd (K p e s m args below meth c H locs ls F hH hS hl)
theorem aw_zaload {k m9 : Nat} {rs : List (Option Nat)} {i : Int32} (hK0 : va_K (gD G) vwCl (gTy G) (gs G)) (hs : shp[k]? = some (.inl (3, m9, rs))) (hi : vp_in i m9) (hd : decode (aMb M) pc = .ok (.baload, 1)) (hn : pc + 1 = n) (K : AW G R M fr kc ks n al (.int (gI D k i.toNatClampNeg) :: st) shp D Q) : AW G R M fr kc ks pc al (.int i :: .ref k :: st) shp D Q := by
  subst hn
  intro p e s m args below meth c H locs ls F hH hS hl
  exact va_zald (D := gD G) (cl := vwCl) (tys := gTy G) (ws := aW G shp D) F.1 F.2.1 (gK_at hK0 F.2.2.2.2.2.2.2.1) hH.2.1 k 3 (aW_prim hs (by decide) (by decide)) rfl hi hd (K p e s m args below meth c H locs ls F hH hS hl)
theorem aw_laload {k m9 : Nat} {rs : List (Option Nat)} {i : Int32} (hK0 : va_K (gD G) vwCl (gTy G) (gs G)) (hs : shp[k]? = some (.inl (2, m9, rs))) (hi : vp_in i m9) (hd : decode (aMb M) pc = .ok (.laload, 1)) (hn : pc + 1 = n) (K : AW G R M fr kc ks n al (.long (gJ D k i.toNatClampNeg) :: st) shp D Q) : AW G R M fr kc ks pc al (.int i :: .ref k :: st) shp D Q := by
  subst hn
  intro p e s m args below meth c H locs ls F hH hS hl
  exact va_lald (D := gD G) (cl := vwCl) (tys := gTy G) (ws := aW G shp D) F.1 F.2.1 (gK_at hK0 F.2.2.2.2.2.2.2.1) hH.2.1 k 2 (aW_long hs) rfl hi hd (K p e s m args below meth c H locs ls F hH hS hl)
theorem aw_aaload {k t m9 r : Nat} {C : String} {rs : List (Option Nat)} {i : Int32} (hK0 : va_K (gD G) vwCl (gTy G) (gs G)) (ht : 4 ≤ t) (hC : (gTy G)[t]? = some (gcy G t, .object C)) (hs : shp[k]? = some (.inl (t, m9, rs))) (hi : vp_in i m9) (hr : rs[i.toNatClampNeg]? = some (some r)) (hd : decode (aMb M) pc = .ok (.aaload, 1)) (hn : pc + 1 = n) (K : AW G R M fr kc ks n al (.ref r :: st) shp D Q) : AW G R M fr kc ks pc al (.int i :: .ref k :: st) shp D Q := by
  subst hn
  intro p e s m args below meth c H locs ls F hH hS hl
  refine va_aldq (D := gD G) (cl := vwCl) (tys := gTy G) (ws := aW G shp D) (C := C) F.1 F.2.1 (gK_at hK0 F.2.2.2.2.2.2.2.1) hH.2.1 k t (aW_refs hs ht) hC hi hd ?_
  have e9 : va_rf ((rs.getD i.toNatClampNeg none).map (gAd G)) = .ref (gAd G r) := by rw [List.getD_eq_getElem?_getD, hr]; rfl
  rw [e9]
  exact K p e s m args below meth c H locs ls F hH hS hl
theorem aw_iastore {k m9 : Nat} {rs : List (Option Nat)} {i x : Int32} {D' : aD} (hK0 : va_K (gD G) vwCl (gTy G) (gs G)) (hs : shp[k]? = some (.inl (1, m9, rs))) (hi : vp_in i m9) (hD' : D' = pI D k i.toNatClampNeg x) (hd : decode (aMb M) pc = .ok (.iastore, 1)) (hn : pc + 1 = n) (K : AW G R M fr kc ks n al st shp D' Q) : AW G R M fr kc ks pc al (.int x :: .int i :: .ref k :: st) shp D Q := by
  subst hn; subst hD'
  intro p e s m args below meth c H locs ls F hH hS hl
  refine va_iast (D := gD G) (cl := vwCl) (tys := gTy G) (ws := aW G shp D) F.1 F.2.1 (gK_at hK0 F.2.2.2.2.2.2.2.1) hH.2.1 (aW_D hH.1) hS k 1 (aW_prim hs (by decide) (by decide)) rfl hi hd (fun H1 locs1 hP hD hS1 => ?_)
  rw [aW_setA hs (by decide) (by decide)] at hP
  exact K p e s m args below meth c H1 locs1 ls F (aH_up hH.1 hP hS1 F.2.2.2.2.2.2.2.2.1 F.2.2.2.2.2.2.2.2.2.1) hS1 hl
theorem aw_bastore {k m9 : Nat} {rs : List (Option Nat)} {i x : Int32} {D' : aD} (hK0 : va_K (gD G) vwCl (gTy G) (gs G)) (hs : shp[k]? = some (.inl (0, m9, rs))) (hi : vp_in i m9) (hD' : D' = pI D k i.toNatClampNeg x.toInt8.toInt32) (hd : decode (aMb M) pc = .ok (.bastore, 1)) (hn : pc + 1 = n) (K : AW G R M fr kc ks n al st shp D' Q) : AW G R M fr kc ks pc al (.int x :: .int i :: .ref k :: st) shp D Q := by
  subst hn; subst hD'
  intro p e s m args below meth c H locs ls F hH hS hl
  refine va_bast (D := gD G) (cl := vwCl) (tys := gTy G) (ws := aW G shp D) F.1 F.2.1 (gK_at hK0 F.2.2.2.2.2.2.2.1) hH.2.1 (aW_D hH.1) hS k 0 (aW_prim hs (by decide) (by decide)) rfl hi hd (fun H1 locs1 hP hD hS1 => ?_)
  rw [aW_setA hs (by decide) (by decide), vp_nar_byte] at hP
  exact K p e s m args below meth c H1 locs1 ls F (aH_up hH.1 hP hS1 F.2.2.2.2.2.2.2.2.1 F.2.2.2.2.2.2.2.2.2.1) hS1 hl
theorem vp_nar_z {x : Int32} (h : x = 0 ∨ x = 1) : vp_nar .boolean x = x := by rcases h with rfl | rfl <;> decide
theorem aw_zastore {k m9 : Nat} {rs : List (Option Nat)} {i x : Int32} {D' : aD} (hK0 : va_K (gD G) vwCl (gTy G) (gs G)) (hx : x = 0 ∨ x = 1) (hs : shp[k]? = some (.inl (3, m9, rs))) (hi : vp_in i m9) (hD' : D' = pI D k i.toNatClampNeg x) (hd : decode (aMb M) pc = .ok (.bastore, 1)) (hn : pc + 1 = n) (K : AW G R M fr kc ks n al st shp D' Q) : AW G R M fr kc ks pc al (.int x :: .int i :: .ref k :: st) shp D Q := by
  subst hn; subst hD'
  intro p e s m args below meth c H locs ls F hH hS hl
  refine va_zast (D := gD G) (cl := vwCl) (tys := gTy G) (ws := aW G shp D) F.1 F.2.1 (gK_at hK0 F.2.2.2.2.2.2.2.1) hH.2.1 (aW_D hH.1) hS k 3 (aW_prim hs (by decide) (by decide)) rfl hi hd (fun H1 locs1 hP hD hS1 => ?_)
  rw [aW_setA hs (by decide) (by decide), vp_nar_z hx] at hP
  exact K p e s m args below meth c H1 locs1 ls F (aH_up hH.1 hP hS1 F.2.2.2.2.2.2.2.2.1 F.2.2.2.2.2.2.2.2.2.1) hS1 hl
theorem aw_lastore {k m9 : Nat} {rs : List (Option Nat)} {i : Int32} {x : Int64} {D' : aD} (hK0 : va_K (gD G) vwCl (gTy G) (gs G)) (hs : shp[k]? = some (.inl (2, m9, rs))) (hi : vp_in i m9) (hD' : D' = pJ D k i.toNatClampNeg x) (hd : decode (aMb M) pc = .ok (.lastore, 1)) (hn : pc + 1 = n) (K : AW G R M fr kc ks n al st shp D' Q) : AW G R M fr kc ks pc al (.long x :: .int i :: .ref k :: st) shp D Q := by
  subst hn; subst hD'
  intro p e s m args below meth c H locs ls F hH hS hl
  refine va_last (D := gD G) (cl := vwCl) (tys := gTy G) (ws := aW G shp D) F.1 F.2.1 (gK_at hK0 F.2.2.2.2.2.2.2.1) hH.2.1 (aW_D hH.1) hS k 2 (aW_long hs) rfl hi hd (fun H1 locs1 hP hD hS1 => ?_)
  rw [aW_setL hs] at hP
  exact K p e s m args below meth c H1 locs1 ls F (aH_up hH.1 hP hS1 F.2.2.2.2.2.2.2.2.1 F.2.2.2.2.2.2.2.2.2.1) hS1 hl
theorem aw_alen {k t m9 : Nat} {rs : List (Option Nat)} {v : Int32} {ty : FieldType} (hK0 : va_K (gD G) vwCl (gTy G) (gs G)) (hty : (gTy G)[t]? = some (gcy G t, ty)) (hs : shp[k]? = some (.inl (t, m9, rs))) (hv : Int32.ofNat m9 = v) (hd : decode (aMb M) pc = .ok (.arraylength, 1)) (hn : pc + 1 = n) (K : AW G R M fr kc ks n al (.int v :: st) shp D Q) : AW G R M fr kc ks pc al (.ref k :: st) shp D Q := by
  subst hn
  intro p e s m args below meth c H locs ls F hH hS hl
  exact va_alen (D := gD G) (cl := vwCl) (tys := gTy G) (ws := aW G shp D) F.1 F.2.1 (gK_at hK0 F.2.2.2.2.2.2.2.1) hH.2.1 k t (aW_get hs) hty hv hd (K p e s m args below meth c H locs ls F hH hS hl)
theorem aw_aastore {k t m9 v ci : Nat} {C : String} {T : u_T} {N : Nat} {rs : List (Option Nat)} {fs : List aFS} {i : Int32} {shp' : List aSh} (hK0 : va_K (gD G) vwCl (gTy G) (gs G)) (ht : 4 ≤ t) (hC : (gTy G)[t]? = some (gcy G t, .object C)) (hc : vwCl[ci]? = some (C, T, N)) (hs : shp[k]? = some (.inl (t, m9, rs))) (hv : shp[v]? = some (.inr (ci, fs))) (hi : vp_in i m9) (hr : i.toNatClampNeg < rs.length) (hs' : shp' = shp.set k (.inl (t, m9, rs.set i.toNatClampNeg (some v)))) (hd : decode (aMb M) pc = .ok (.aastore, 1)) (hn : pc + 1 = n) (K : AW G R M fr kc ks n al st shp' D Q) : AW G R M fr kc ks pc al (.ref v :: .int i :: .ref k :: st) shp D Q := by
  subst hn; subst hs'
  intro p e s m args below meth c H locs ls F hH hS hl
  refine va_astq (D := gD G) (cl := vwCl) (tys := gTy G) (ws := aW G shp D) (r := (C, T, N)) F.1 F.2.1 (gK_at hK0 F.2.2.2.2.2.2.2.1) hH.2.1 (aW_D hH.1) hS k t v ci (aW_refs hs ht) hC (aW_get hv) hc hi hd (fun H1 locs1 hP hD hS1 => ?_)
  rw [aW_setQ hs ht hr] at hP
  exact K p e s m args below meth c H1 locs1 ls F (aH_up (by rw [List.length_set]; exact hH.1) hP hS1 F.2.2.2.2.2.2.2.2.1 F.2.2.2.2.2.2.2.2.2.1) hS1 hl
/-! the script -/
theorem gX_at {s : State} (hX0 : va_X (gb G) (gL G) (gx G) (gs G) (gs G).heap) (hb : gb G < glo G) (hv : (gs G).WarmedH s.vm) (hlow : ∀ q : Nat, q < glo G → s.heap[q]? = (gs G).heap[q]?) : va_X (gb G) (gL G) (gx G) s s.heap := va_X.moved hv.alike (va_X.kept hX0 (hlow _ hb))
theorem gAd_b {k : Nat} (h : 30000 ≤ k) (h2 : k < 40000) : gAd G k = gb G := by
  rw [gAd, if_neg (by omega), if_neg (by omega), if_neg (by omega), if_pos h2]
theorem aw_sld {i : Int32} (hX0 : va_X (gb G) (gL G) (gx G) (gs G) (gs G).heap) (hb : gb G < glo G) (hi : vp_in i (gL G)) (hd : decode (aMb M) pc = .ok (.iaload, 1)) (hn : pc + 1 = n) (K : AW G R M fr kc ks n al (.int (gx G i.toNatClampNeg) :: st) shp D Q) : AW G R M fr kc ks pc al (.int i :: .ref 30000 :: st) shp D Q := by
  subst hn
  intro p e s m args below meth c H locs ls F hH hS hl
  have h9 := gX_at hX0 hb F.2.2.2.2.2.2.2.1 F.2.2.2.2.2.2.2.2.2.1
  have hq : ((Value.int i :: .ref 30000 :: st).map (av G)) = .int i :: .ref (gb G) :: st.map (av G) := by
    simp only [List.map_cons, av, gAd_b (Nat.le_refl 30000) (by decide)]
  rw [hq]
  exact va_sld F.1 F.2.1 h9 (Nat.lt_of_lt_of_le hb F.2.2.2.2.2.2.2.2.1) (Nat.not_le.mpr hb) hS hi hd (K p e s m args below meth c H locs ls F hH hS hl)
theorem aw_slen {v : Int32} (hX0 : va_X (gb G) (gL G) (gx G) (gs G) (gs G).heap) (hb : gb G < glo G) (hv : Int32.ofNat (gL G) = v) (hd : decode (aMb M) pc = .ok (.arraylength, 1)) (hn : pc + 1 = n) (K : AW G R M fr kc ks n al (.int v :: st) shp D Q) : AW G R M fr kc ks pc al (.ref 30000 :: st) shp D Q := by
  subst hn; subst hv
  intro p e s m args below meth c H locs ls F hH hS hl
  have h9 := gX_at hX0 hb F.2.2.2.2.2.2.2.1 F.2.2.2.2.2.2.2.2.2.1
  have hq : ((Value.ref 30000 :: st).map (av G)) = .ref (gb G) :: st.map (av G) := by
    simp only [List.map_cons, av, gAd_b (Nat.le_refl 30000) (by decide)]
  rw [hq]
  exact va_slen F.1 F.2.1 h9 (Nat.lt_of_lt_of_le hb F.2.2.2.2.2.2.2.2.1) (Nat.not_le.mpr hb) hS hd (K p e s m args below meth c H locs ls F hH hS hl)
/-! ends -/
theorem aw_iret {x : Int32} (hr : aMr M = some .int) (hkc : kc ≤ R.cells) (hks : ks ≤ R.slots) (hd : decode (aMb M) pc = .ok (.ireturn, 1)) (hQ : Q (.inl (some (.int x))) shp D) : AW G R M fr kc ks pc al [.int x] shp D Q := by
  intro p e s m args below meth c H locs ls F hH hS hl
  refine W.widen (k := R.cells) (n := R.slots) hkc hks (vx_ret ?_)
  exact W.iret F.1 F.2.1 (F.2.2.2.2.2.1.trans hr) (fun t ht hW => ⟨some (.int x), shp, D, rfl, hQ, by rw [ht]; exact hH, hS.F ht⟩) hS.2.2 hd F.2.2.2.2.2.2.1
theorem aw_zret {x : Int32} (hr : aMr M = some .boolean) (hx : x = 0 ∨ x = 1) (hkc : kc ≤ R.cells) (hks : ks ≤ R.slots) (hd : decode (aMb M) pc = .ok (.ireturn, 1)) (hQ : Q (.inl (some (.int x))) shp D) : AW G R M fr kc ks pc al [.int x] shp D Q := by
  intro p e s m args below meth c H locs ls F hH hS hl
  refine W.widen (k := R.cells) (n := R.slots) hkc hks (vx_ret ?_)
  exact W.zret F.1 F.2.1 (F.2.2.2.2.2.1.trans hr) (nar_z hx) (fun t ht hW => ⟨some (.int x), shp, D, rfl, hQ, by rw [ht]; exact hH, hS.F ht⟩) hS.2.2 hd F.2.2.2.2.2.2.1
theorem aw_tret {x : Int32} {ty : FieldType} (hr : aMr M = some ty) (hx : narrow ty (.int x) = .int x) (hkc : kc ≤ R.cells) (hks : ks ≤ R.slots) (hd : decode (aMb M) pc = .ok (.ireturn, 1)) (hQ : Q (.inl (some (.int x))) shp D) : AW G R M fr kc ks pc al [.int x] shp D Q := by
  intro p e s m args below meth c H locs ls F hH hS hl
  refine W.widen (k := R.cells) (n := R.slots) hkc hks (vx_ret ?_)
  exact W.zret F.1 F.2.1 (F.2.2.2.2.2.1.trans hr) hx (fun t ht hW => ⟨some (.int x), shp, D, rfl, hQ, by rw [ht]; exact hH, hS.F ht⟩) hS.2.2 hd F.2.2.2.2.2.2.1
theorem aw_lret {x : Int64} (hr : aMr M = some .long) (hkc : kc ≤ R.cells) (hks : ks ≤ R.slots) (hd : decode (aMb M) pc = .ok (.lreturn, 1)) (hQ : Q (.inl (some (.long x))) shp D) : AW G R M fr kc ks pc al [.long x] shp D Q := by
  intro p e s m args below meth c H locs ls F hH hS hl
  refine W.widen (k := R.cells) (n := R.slots) hkc hks (vx_ret ?_)
  exact W.lret F.1 F.2.1 (F.2.2.2.2.2.1.trans hr) (fun t ht hW => ⟨some (.long x), shp, D, rfl, hQ, by rw [ht]; exact hH, hS.F ht⟩) hS.2.2 hd F.2.2.2.2.2.2.1
theorem aw_vret (hr : aMr M = none) (hkc : kc ≤ R.cells) (hks : ks ≤ R.slots) (hd : decode (aMb M) pc = .ok (.return_, 1)) (hQ : Q (.inl none) shp D) : AW G R M fr kc ks pc al [] shp D Q := by
  intro p e s m args below meth c H locs ls F hH hS hl
  refine W.widen (k := R.cells) (n := R.slots) hkc hks (vx_ret ?_)
  exact W.vret F.1 F.2.1 (F.2.2.2.2.2.1.trans hr) (fun t ht hW => ⟨none, shp, D, rfl, hQ, by rw [ht]; exact hH, hS.F ht⟩) hS.2.2 hd F.2.2.2.2.2.2.1
/-! the start -/
def aEn : List Value → List (Option Value)
  | [] => []
  | v :: vs => some v :: (if v.category = 2 then none :: aEn vs else aEn vs)
theorem aEn_ok : ∀ (vs : List Value) (k i : Nat) (v : Value), (aEn vs)[i]? = some (some v) → (k + i, v) ∈ lv_args k vs
  | [], k, i, v, h => by simp [aEn] at h
  | w :: vs, k, 0, v, h => by
    simp only [aEn, List.getElem?_cons_zero] at h
    cases h
    exact List.mem_cons_self
  | w :: vs, k, i + 1, v, h => by
    simp only [aEn, List.getElem?_cons_succ] at h
    by_cases hc : w.category = 2
    · rw [if_pos hc] at h
      cases i with
      | zero => simp at h
      | succ i =>
        rw [List.getElem?_cons_succ] at h
        have h9 := aEn_ok vs (k + 2) i v h
        simp only [lv_args, if_pos hc]
        exact List.mem_cons_of_mem _ (by rw [show k + (i + 1 + 1) = k + 2 + i by omega]; exact h9)
    · rw [if_neg hc] at h
      have h9 := aEn_ok vs (k + 1) i v h
      simp only [lv_args, if_neg hc]
      exact List.mem_cons_of_mem _ (by rw [show k + (i + 1) = k + 1 + i by omega]; exact h9)
theorem lv_args_av : ∀ (vs : List Value) (k : Nat), lv_args k (vs.map (av G)) = (lv_args k vs).map (fun q => (q.1, av G q.2))
  | [], k => rfl
  | v :: vs, k => by
    simp only [List.map_cons, lv_args, av_cat]
    rw [lv_args_av vs]
theorem AC.of {args0 : List Value} {r : Nat} (hy : plainName (aMo M) = true) (hlen : (lg_sl (args0.map (av G))).length ≤ aMl M) (hal : al = aEn args0 ++ List.replicate r none) (K : AW G R M fr 0 0 0 al [] shp D Q) (hz : aMt M = [] := by rfl) : AC G R M args0 fr shp D Q := by
  subst hal
  refine vx_ofW (cc := aMb M) (maxL := aMl M) (ret := aMr M) (ws' := aU) hy rfl ?_
  intro p e s m a below meth c s₁ B hml ht hP
  obtain ⟨rfl, hvm, hH, hfr⟩ := hP
  have hts := atoms_spec (ws := aWs M) B.pre
  rw [lg_entry_eq]
  refine K p e s m _ below meth c s.heap [] _ ⟨B.exec, B.bytes, hml, findClass_of_methodNamed B.named, fun w hw => hts w (List.mem_cons_of_mem _ hw), B.returns, B.notSynchronized, hvm, hH.2.2.2, hH.2.2.1, (by rw [hz, List.eq_nil_iff_forall_not_mem.mpr (fun x hx => ht x hx)]; rfl), (name_of_methodNamed B.named B.method).1, hfr⟩ hH va_S.rf ?_
  have h9 := lv_entry (args0.map (av G)) (n := aMl M) hlen
  refine ⟨h9.1, h9.2.1, fun q hq => ?_⟩
  obtain ⟨⟨j, w⟩, hj, rfl⟩ := List.mem_map.mp hq
  refine h9.2.2 _ ?_
  rw [lv_args_av]
  refine List.mem_map.mpr ⟨(j, w), ?_, rfl⟩
  have h1 := aL_mem.mp hj
  by_cases hlt : j < (aEn args0).length
  · rw [List.getElem?_append_left hlt] at h1
    have := aEn_ok args0 0 j w h1
    rwa [Nat.zero_add] at this
  · rw [List.getElem?_append_right (by omega)] at h1
    have := List.eq_of_mem_replicate (List.mem_of_getElem? h1)
    cases this
end AWR
