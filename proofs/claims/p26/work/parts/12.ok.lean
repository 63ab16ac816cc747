/-! What the tables must say of an instruction, and the machine's state at a method's point. -/
/-- a class of the worlds: its row, and its fields' words -/
def am_cl (C : String) (T : u_T) (N : Nat) (ty : Nat → FieldType) (ci : Nat) : Prop := vwCl[ci]? = some (C, T, N) ∧ (∀ w ∈ u_ws C T N, w ∈ am_tb) ∧ (∀ k, k < N → parseFieldDescriptor (T k).2.2.1 = some (ty k)) ∧ (∀ a, a < N → ∀ b, b < N → a ≠ b → (T a).2.1 ≠ (T b).2.1)
/-- a field of it under a pool's number -/
def am_fl (own : String) (idx k ci : Nat) : Prop := ∃ (C : String) (T : u_T) (N : Nat) (ty : Nat → FieldType) (ref : String), am_cl C T N ty ci ∧ k < N ∧ Cond.fieldLink own idx ref (T k).2.1 (T k).2.2.1 ∈ am_tb ∧ ((T k).1 = ref ∨ Cond.sameField ref (T k).1 (T k).2.1 (T k).2.2.1 ∈ am_tb)
def am_tyc (c : Nat) (ty : FieldType) : Prop := (c = 0 ∧ ty = .int) ∨ (c = 1 ∧ ty = .long) ∨ (c = 2 ∧ ty = .boolean) ∨ (c = 3 ∧ ((∃ n, ty = .object n) ∨ ∃ t, ty = .array t))
def am_fp (own nm : String) (idx k c ci : Nat) : Prop := ∃ (C : String) (T : u_T) (N : Nat) (ty : Nat → FieldType) (ref : String), am_cl C T N ty ci ∧ k < N ∧ Cond.fieldLink own idx ref (T k).2.1 (T k).2.2.1 ∈ am_tb ∧ ((T k).1 = ref ∨ Cond.sameField ref (T k).1 (T k).2.1 (T k).2.2.1 ∈ am_tb) ∧ am_tyc c (ty k) ∧ ((T k).2.2.2 = false ∨ ((T k).2.2.2 = true ∧ nm = "<init>" ∧ (T k).1 = own))
def am_new (own : String) (df : Nat → List Value) (idx ci : Nat) : Prop := ∃ (C : String) (T : u_T) (N : Nat) (ty : Nat → FieldType), am_cl C T N ty ci ∧ Cond.classLink own idx C ∈ am_tb ∧ Cond.instantiable C N ∈ am_tb ∧ Cond.initialized C ∈ am_tb ∧ (∀ j, j < N → defaultValue (ty j) = vp_V (df ci) j) ∧ (df ci).length = N ∧ ∀ v ∈ df ci, (∀ i, v ≠ .ref i) ∧ ∀ i, v ≠ .retAddr i
def am_okM (own : String) (idx z : Nat) : Prop := Cond.initialized "java/lang/Math" ∈ am_tb ∧
  ((z = 900 ∧ Cond.methodLink own idx Lib.Math.abs.name ∈ am_tb ∧ Cond.static Lib.Math.abs.name ∈ am_tb ∧ Cond.code Lib.Math.abs.name Lib.Math.abs.code 1 (some .int) ∈ am_tb) ∨
   (z = 901 ∧ Cond.methodLink own idx Lib.MathLoose.abs_long.x ∈ am_tb ∧ Cond.static Lib.MathLoose.abs_long.x ∈ am_tb ∧ Cond.code Lib.MathLoose.abs_long.x Lib.MathLoose.abs_long.code 2 (some .long) ∈ am_tb) ∨
   (z = 902 ∧ Cond.methodLink own idx Lib.Math.max.name ∈ am_tb ∧ Cond.static Lib.Math.max.name ∈ am_tb ∧ Cond.code Lib.Math.max.name Lib.Math.max.code 2 (some .int) ∈ am_tb) ∨
   (z = 903 ∧ Cond.methodLink own idx Lib.Math.min.name ∈ am_tb ∧ Cond.static Lib.Math.min.name ∈ am_tb ∧ Cond.code Lib.Math.min.name Lib.Math.min.code 2 (some .int) ∈ am_tb))
def am_okP (df : Nat → List Value) (own nm : String) (nL : Nat) (ret : Option FieldType) (q : am_I) : Prop := match q with
  | (pc, ins, len, rs, cv) => match ins with
    | .iconst _ => len = 1
    | .bipush _ => len = 2
    | .sipush _ => len = 3
    | .lconst _ => len = 1
    | .aconst_null => len = 1
    | .ldc idx => len = 2 ∧ ((∃ x, cv = .int x ∧ Cond.constant own idx x ∈ am_tb) ∨ (∃ (i : Nat) (tx : String), cv = .retAddr (i + 1) ∧ i < am_tx.length ∧ am_sr[i]? = some (own, idx, tx)))
    | .ldc_w idx => len = 3 ∧ (∃ x, cv = .int x ∧ Cond.constant own idx x ∈ am_tb)
    | .ldc2_w idx => len = 3 ∧ (∃ x, cv = .long x ∧ Cond.constantLong own idx x ∈ am_tb)
    | .getstatic idx => len = 3 ∧ ((cv = .int 1 ∧ Cond.fieldLink own idx "java/lang/String" "COMPACT_STRINGS" "Z" ∈ am_tb) ∨ (cv = .retAddr 50 ∧ Cond.fieldLink own idx "jdk/internal/util/Preconditions" "SIOOBE_FORMATTER" "Ljava/util/function/BiFunction;" ∈ am_tb))
    | .instanceof idx => len = 3 ∧ ∃ T, Cond.classLink own idx T ∈ am_tb ∧ ∀ ci, (ci = 0 ∨ ci = 2 ∨ ci = 3 ∨ ci = 4) → ∃ r : vw_C, vwCl[ci]? = some r ∧ ((rs.contains ci = true ∧ (r.1 = T ∨ Cond.castable r.1 T ∈ am_xw)) ∨ (rs.contains ci = false ∧ (r.1, T) ∈ am_nc))
    | .anewarray idx => len = 3 ∧ ((am_t rs = 3 ∧ Cond.classLink own idx "RodBeads$Rod" ∈ am_tb) ∨ (am_t rs = 4 ∧ Cond.classLink own idx "RodBeads$Standing" ∈ am_tb))
    | .iload_n _ => len = 1
    | .iload _ => len = 2
    | .lload_n _ => len = 1
    | .lload _ => len = 2
    | .aload_n _ => len = 1
    | .aload _ => len = 2
    | .istore_n k => len = 1 ∧ (k : Nat) < nL
    | .istore k => len = 2 ∧ k < nL
    | .lstore_n k => len = 1 ∧ (k : Nat) + 1 < nL
    | .lstore k => len = 2 ∧ k + 1 < nL
    | .astore_n k => len = 1 ∧ (k : Nat) < nL
    | .astore k => len = 2 ∧ k < nL
    | .iinc i _ => len = 3 ∧ i < nL
    | .iadd | .isub | .imul | .iand | .ior | .ixor | .ishl | .ishr | .idiv | .irem | .ineg | .ladd | .lsub | .lmul | .ldiv | .lrem | .lneg | .lcmp | .i2l | .i2c | .l2i | .dup | .dup2 | .pop | .pop2 => len = 1
    | .ifCond _ off => len = 3 ∧ (pc : Int) + off = (am_t rs : Int)
    | .if_icmp _ off => len = 3 ∧ (pc : Int) + off = (am_t rs : Int)
    | .goto off => len = 3 ∧ (pc : Int) + off = (am_t rs : Int)
    | .ifnull off => len = 3 ∧ (pc : Int) + off = (am_t rs : Int)
    | .ifnonnull off => len = 3 ∧ (pc : Int) + off = (am_t rs : Int)
    | .tableswitch d _ _ offs => (pc : Int) + d = (am_t rs : Int) ∧ ∀ (i t : Nat), rs[i + 1]? = some t → ∃ o, offs[i]? = some o ∧ (pc : Int) + o = (t : Int)
    | .getfield idx => len = 3 ∧ (∀ ci ∈ rs.drop 1, am_fl own idx (am_t rs) ci) ∧ (rs = [100] → Cond.fieldLink own idx "java/lang/String" "value" "[B" ∈ am_tb) ∧ (rs = [101] → Cond.fieldLink own idx "java/lang/String" "coder" "B" ∈ am_tb)
    | .putfield idx => len = 3 ∧ ∀ ci ∈ rs.drop 2, am_fp own nm idx (am_t rs) (am_t (rs.drop 1)) ci
    | .iaload | .laload | .baload | .aaload | .iastore | .lastore | .bastore | .aastore | .arraylength => len = 1
    | .invokestatic idx => len = 3 ∧ ((rs.length == 1) = true → am_okM own idx (am_t rs))
    | .invokespecial idx => len = 3 ∧ (rs = [] → Cond.methodLink own idx Lib.objectInit ∈ am_tb ∧ Cond.instanceMethod Lib.objectInit ∈ am_tb ∧ Cond.code Lib.objectInit ⟨#[0xb1]⟩ 1 none ∈ am_tb)
    | .new idx => len = 3 ∧ am_new own df idx (am_t rs)
    | .newarray t => len = 2 ∧ Cond.arrayClass (newarray.typeOf t) ∈ am_tb
    | .ireturn => len = 1 ∧ ((am_t rs = 0 ∧ ret = some .int) ∨ (am_t rs = 2 ∧ ret = some .boolean) ∨ (am_t rs = 3 ∧ ret = some .byte) ∨ (am_t rs = 4 ∧ ret = some .char))
    | .lreturn => len = 1 ∧ ret = some .long
    | .areturn => len = 1 ∧ ∃ rt, ret = some rt ∧ ((∃ n, rt = .object n) ∨ ∃ t, rt = .array t)
    | .return_ => len = 1 ∧ ret = none
    | _ => True
/-- a method's point: the machine, its tables, the world; X names what was there before -/
def am_G (B : Nat) (X : Nat → Option Nat) (D : va_G) (cA : Nat → Nat) (sc : Nat × (Nat → Int32)) (s : State) : Prop :=
  va_K D vwCl (am_ty cA) s ∧ (∃ b, X 0 = some b ∧ b < B ∧ va_X b sc.1 sc.2 s s.heap) ∧ B ≤ s.heap.size ∧
  (∃ adK adV : Nat → Nat, (∀ i, i < am_tx.length → X (i + 1) = some (adK i) ∧ X (i + 21) = some (adV i)) ∧ vk_S am_tx.length (am_tx.map List.length) am_tx adK adV (am_A B) s s.heap ∧ ∀ (i : Nat) (q : String × Nat × String), am_sr[i]? = some q → vk_R q.1 q.2.1 q.2.2 (adK i) s) ∧
  (∀ q ∈ am_nc, va_Nc q.1 q.2 s) ∧ va_Z "java/lang/String" "COMPACT_STRINGS" "Z" (.int 1) (am_A B) s s.heap ∧
  va_Z "jdk/internal/util/Preconditions" "SIOOBE_FORMATTER" "Ljava/util/function/BiFunction;" (va_rf (X 50)) (am_A B) s s.heap ∧ va_AO "RodBeads$Rod" s ∧ va_AO "RodBeads$Standing" s ∧ ∀ w ∈ am_xw, va_Nw w s
def am_C (B : Nat) (X : Nat → Option Nat) (D : va_G) (cA : Nat → Nat) (sc : Nat × (Nat → Int32)) (own nm : String) (cc : ByteArray) (nL : Nat) (ret : Option FieldType) (p : Program) (s : State) (m : MethodId) (args : Array Value) (meth : Method) (c : Code) : Prop :=
  p.tables.exec = Jvm.exec ∧ c.code = cc ∧ c.maxLocals = nL ∧ s.vm.findClass own = some m.cls ∧ (∀ w ∈ am_tb, w.before args s = true) ∧ meth.sig.returnType = ret ∧ meth.locks = false ∧ meth.name = nm ∧ am_G B X D cA sc s
theorem am_G.moved {B : Nat} {X : Nat → Option Nat} {D : va_G} {cA : Nat → Nat} {sc : Nat × (Nat → Int32)} {s U : State} {locs : List Loc} (hW : s.WarmedH U.vm) (hS : va_S (am_A B) s.heap U.heap locs) (h : am_G B X D cA sc s) : am_G B X D cA sc U := by
  obtain ⟨hK, ⟨b, hb, hlt, hX⟩, hB, ⟨adK, adV, hx, hv, hr⟩, hn, hz, hf, ha1, ha2, hxw⟩ := h
  refine ⟨va_K.moved hW.alike hK, ⟨b, hb, hlt, (hX.moved hW.alike).kept (hS.2.1 b (by omega) (Nat.not_le.mpr hlt))⟩, Nat.le_trans hB hS.1, ⟨adK, adV, hx, (hv.moved hW.alike).kept hS.2.1, fun i q hq => (hr i q hq).warm hW⟩, fun q hq => (hn q hq).moved hW.alike, (hz.moved hW.alike).kept hS.2.1, (hf.moved hW.alike).kept hS.2.1, ha1.moved hW.alike, ha2.moved hW.alike, fun w hw => am_xw_warm hW hw (hxw w hw)⟩
theorem am_G.same {B : Nat} {X : Nat → Option Nat} {D : va_G} {cA : Nat → Nat} {sc : Nat × (Nat → Int32)} {s U : State} (hv : U.vm = s.vm) (hh : U.heap = s.heap) (h : am_G B X D cA sc s) : am_G B X D cA sc U := by
  have hA : s.vm.Alike U.vm := by rw [hv]; exact Vm.Alike.refl s.vm
  obtain ⟨hK, ⟨b, hb, hlt, hX⟩, hB, ⟨adK, adV, hx, hvk, hr⟩, hn, hz, hf, ha1, ha2, hxw⟩ := h
  refine ⟨va_K.moved hA hK, ⟨b, hb, hlt, by rw [hh]; exact hX.moved hA⟩, by rw [hh]; exact hB, ⟨adK, adV, hx, by rw [hh]; exact hvk.moved hA, fun i q hq => (hr i q hq).same hv⟩, fun q hq => (hn q hq).moved hA, by rw [hh]; exact hz.moved hA, by rw [hh]; exact hf.moved hA, ha1.moved hA, ha2.moved hA, fun w hw => am_xw_same hv hw (hxw w hw)⟩
def am_sz (x : va_E) : Nat := match x with
  | .inl (_, n, _) => n
  | .inr (_, fs) => fs.length
def am_sl (h : am_H) : Nat := (h.map am_sz).sum
theorem am_sl_app (h : am_H) (x : va_E) : am_sl (h ++ [x]) = am_sl h + am_sz x := by
  unfold am_sl
  simp
theorem am_sl_set {h : am_H} {a : Nat} {x y : va_E} (hx : h[a]? = some x) (he : am_sz y = am_sz x) : am_sl (h.set a y) = am_sl h := by
  have hm : (h.set a y).map am_sz = h.map am_sz := by
    refine List.ext_getElem? (fun i => ?_)
    rw [List.getElem?_map, List.getElem?_map, List.getElem?_set]
    by_cases hi : a = i
    · subst hi
      rw [if_pos rfl, if_pos (List.getElem?_eq_some_iff.mp hx).1, hx]
      show some (am_sz y) = some (am_sz x)
      rw [he]
    · rw [if_neg hi]
  unfold am_sl
  rw [hm]
