/-! What the tables must say of an instruction, and the machine's state at a method's point. -/
/-- a class of the worlds: its row, and its fields' words -/
def am_cl (C : String) (T : u_T) (N : Nat) (ty : Nat → FieldType) (ci : Nat) : Prop := vwCl[ci]? = some (C, T, N) ∧ (∀ w ∈ u_ws C T N, w ∈ am_tb) ∧ (∀ k, k < N → parseFieldDescriptor (T k).2.2.1 = some (ty k)) ∧ (∀ a, a < N → ∀ b, b < N → a ≠ b → (T a).2.1 ≠ (T b).2.1)
/-- a field of it under a pool's number -/
def am_fl (own : String) (idx k ci : Nat) : Prop := ∃ (C : String) (T : u_T) (N : Nat) (ty : Nat → FieldType) (ref : String), am_cl C T N ty ci ∧ k < N ∧ Cond.fieldLink own idx ref (T k).2.1 (T k).2.2.1 ∈ am_tb ∧ ((T k).1 = ref ∨ Cond.sameField ref (T k).1 (T k).2.1 (T k).2.2.1 ∈ am_tb)
def am_tyc (c : Nat) (ty : FieldType) : Prop := (c = 0 ∧ ty = .int) ∨ (c = 1 ∧ ty = .long) ∨ (c = 2 ∧ ty = .boolean) ∨ (c = 3 ∧ ((∃ n, ty = .object n) ∨ ∃ t, ty = .array t))
def am_fp (own nm : String) (idx k c ci : Nat) : Prop := ∃ (C : String) (T : u_T) (N : Nat) (ty : Nat → FieldType) (ref : String), am_cl C T N ty ci ∧ k < N ∧ Cond.fieldLink own idx ref (T k).2.1 (T k).2.2.1 ∈ am_tb ∧ ((T k).1 = ref ∨ Cond.sameField ref (T k).1 (T k).2.1 (T k).2.2.1 ∈ am_tb) ∧ am_tyc c (ty k) ∧ ((T k).2.2.2 = false ∨ ((T k).2.2.2 = true ∧ nm = "<init>" ∧ (T k).1 = own))
def am_new (own : String) (df : Nat → List Value) (idx ci : Nat) : Prop := ∃ (C : String) (T : u_T) (N : Nat) (ty : Nat → FieldType), am_cl C T N ty ci ∧ Cond.classLink own idx C ∈ am_tb ∧ Cond.instantiable C N ∈ am_tb ∧ Cond.initialized C ∈ am_tb ∧ (∀ j, j < N → defaultValue (ty j) = vp_V (df ci) j) ∧ (df ci).length = N ∧ ∀ v ∈ df ci, (∀ i, v ≠ .ref i) ∧ ∀ i, v ≠ .retAddr i
/-- the constants of the pools -/
def am_con (own : String) (idx : Nat) (v : Value) : Prop := match v with
  | .int x => Cond.constant own idx x ∈ am_tb
  | .long x => Cond.constantLong own idx x ∈ am_tb
  | _ => False
def am_okP (df : Nat → List Value) (own nm : String) (nL : Nat) (ret : Option FieldType) (q : am_I) : Prop := match q with
  | (pc, ins, len, rs, cv) => match ins with
    | .iconst _ => len = 1
    | .bipush _ => len = 2
    | .sipush _ => len = 3
    | .lconst _ => len = 1
    | .aconst_null => len = 1
    | .ldc idx => len = 2 ∧ (∃ x, cv = .int x) ∧ am_con own idx cv
    | .ldc_w idx => len = 3 ∧ (∃ x, cv = .int x) ∧ am_con own idx cv
    | .ldc2_w idx => len = 3 ∧ (∃ x, cv = .long x) ∧ am_con own idx cv
    | .iload_n _ => len = 1
    | .iload _ => len = 2
    | .lload_n _ => len = 1
    | .lload _ => len = 2
    | .aload_n _ => len = 1
    | .aload _ => len = 2
    | .istore_n k => len = 1 ∧ (k : Nat) < nL
    | .istore k => len = 2 ∧ k < nL
    | .lstore_n k => len = 1 ∧ (k : Nat) + 1 < nL
    | .lstore k => len = 2 ∧ k + 1 < nL
    | .astore_n k => len = 1 ∧ (k : Nat) < nL
    | .astore k => len = 2 ∧ k < nL
    | .iinc i _ => len = 3 ∧ i < nL
    | .iadd | .isub | .imul | .iand | .ior | .ixor | .ishl | .ishr | .idiv | .irem | .ineg | .ladd | .lsub | .lmul | .ldiv | .lrem | .lneg | .lcmp | .i2l | .l2i | .dup | .dup2 | .pop => len = 1
    | .ifCond _ off => len = 3 ∧ (pc : Int) + off = (am_t rs : Int)
    | .if_icmp _ off => len = 3 ∧ (pc : Int) + off = (am_t rs : Int)
    | .goto off => len = 3 ∧ (pc : Int) + off = (am_t rs : Int)
    | .ifnull off => len = 3 ∧ (pc : Int) + off = (am_t rs : Int)
    | .ifnonnull off => len = 3 ∧ (pc : Int) + off = (am_t rs : Int)
    | .tableswitch d _ _ offs => (pc : Int) + d = (am_t rs : Int) ∧ ∀ (i t : Nat), rs[i + 1]? = some t → ∃ o, offs[i]? = some o ∧ (pc : Int) + o = (t : Int)
    | .getfield idx => len = 3 ∧ ∀ ci ∈ rs.drop 1, am_fl own idx (am_t rs) ci
    | .putfield idx => len = 3 ∧ ∀ ci ∈ rs.drop 2, am_fp own nm idx (am_t rs) (am_t (rs.drop 1)) ci
    | .iaload | .laload | .baload | .aaload | .iastore | .lastore | .bastore | .aastore | .arraylength => len = 1
    | .new idx => len = 3 ∧ am_new own df idx (am_t rs)
    | .newarray t => len = 2 ∧ Cond.arrayClass (newarray.typeOf t) ∈ am_tb
    | .ireturn => len = 1 ∧ ((ret = some .int) ∨ (ret = some .boolean ∧ am_t rs = 2))
    | .lreturn => len = 1 ∧ ret = some .long
    | .areturn => len = 1 ∧ ∃ rt, ret = some rt ∧ ((∃ n, rt = .object n) ∨ ∃ t, rt = .array t)
    | .return_ => len = 1 ∧ ret = none
    | _ => True
/-- a method's point: the machine, its tables, the world -/
def am_G (B : Nat) (X : Nat → Option Nat) (D : va_G) (cA : Nat → Nat) (sc : Nat × (Nat → Int32)) (s : State) : Prop := va_K D vwCl (am_ty cA) s ∧ (∃ b, X 0 = some b ∧ b < B ∧ va_X b sc.1 sc.2 s s.heap) ∧ B ≤ s.heap.size
def am_C (B : Nat) (X : Nat → Option Nat) (D : va_G) (cA : Nat → Nat) (sc : Nat × (Nat → Int32)) (own nm : String) (cc : ByteArray) (nL : Nat) (ret : Option FieldType) (p : Program) (s : State) (m : MethodId) (args : Array Value) (meth : Method) (c : Code) : Prop :=
  p.tables.exec = Jvm.exec ∧ c.code = cc ∧ c.maxLocals = nL ∧ s.vm.findClass own = some m.cls ∧ (∀ w ∈ am_tb, w.before args s = true) ∧ meth.sig.returnType = ret ∧ meth.locks = false ∧ meth.name = nm ∧ am_G B X D cA sc s
def am_sz (x : va_E) : Nat := match x with
  | .inl (_, n, _) => n
  | .inr (_, fs) => fs.length
def am_sl (h : am_H) : Nat := (h.map am_sz).sum
theorem am_sl_app (h : am_H) (x : va_E) : am_sl (h ++ [x]) = am_sl h + am_sz x := by
  unfold am_sl
  simp
theorem am_sl_set {h : am_H} {a : Nat} {x y : va_E} (hx : h[a]? = some x) (he : am_sz y = am_sz x) : am_sl (h.set a y) = am_sl h := by
  have hm : (h.set a y).map am_sz = h.map am_sz := by
    refine List.ext_getElem? (fun i => ?_)
    rw [List.getElem?_map, List.getElem?_map, List.getElem?_set]
    by_cases hi : a = i
    · subst hi
      rw [if_pos rfl, if_pos (List.getElem?_eq_some_iff.mp hx).1, hx]
      show some (am_sz y) = some (am_sz x)
      rw [he]
    · rw [if_neg hi]
  unfold am_sl
  rw [hm]
