/-! MY BASE: contracts by an exact outcome, their start and end, calls with a canonical order of the world, loops by fuel. -/
section MyBase
theorem n64_n {r : UInt64} (h : n64 r = true) : vf_n64 r := show r &&& 0x7fffffffffffffff ≤ 0x7ff0000000000000 from of_decide_eq_true h
theorem vin_in {i : Int32} {n : Nat} (h : vin i n = true) : vp_in i n := by
  intro h2
  unfold vin at h
  rcases h2 with h2 | h2 <;> simp [h2] at h
/-- the array classes that a world speaks of -/
abbrev TT (cI cD cB : ClassId) : List (ClassId × FieldType) := [(cI, .int), (cD, .double), (cB, .byte)]
/-- the nest's own links: words that the method's own list doesn't hold -/
def nmL : List Cond := [.methodLinkNest "Lensbench" 38 ⟨"Lensbench$Ray", "<init>", "()V"⟩ "Lensbench", .methodLinkNest "Lensbench$Fan" 11 ⟨"Lensbench$Ray", "<init>", "()V"⟩ "Lensbench", .methodLinkNest "Lensbench" 52 ⟨"Lensbench$Table", "<init>", "()V"⟩ "Lensbench", .methodLinkNest "Lensbench" 59 ⟨"Lensbench$Opening", "<init>", "()V"⟩ "Lensbench", .methodLinkNest "Lensbench" 66 ⟨"Lensbench$Choice", "<init>", "()V"⟩ "Lensbench", .methodLinkNest "Lensbench$Opening" 46 ⟨"Lensbench", "unsigned", "(D)D"⟩ "Lensbench", .methodLinkNest "Lensbench$Table" 50 ⟨"Lensbench", "isTiny", "(D)Z"⟩ "Lensbench", .methodLinkNest "Lensbench$Ray" 34 ⟨"Lensbench", "unsigned", "(D)D"⟩ "Lensbench", .methodLinkNest "LensbenchLaw" 95 ⟨"LensbenchLaw$Out", "<init>", "()V"⟩ "LensbenchLaw", .fieldLinkNest "LensbenchLaw" 13 "LensbenchLaw$Out" "n" "J" "LensbenchLaw", .fieldLinkNest "LensbenchLaw" 58 "LensbenchLaw$Out" "d" "D" "LensbenchLaw"]
def txL : List (String × Nat × String) := [("Lensbench", 326, "nothing of that number is told"), ("Lensbench", 332, "no such piece"), ("Lensbench", 324, "no such colour"), ("Lensbench", 138, "no such height of a ray"), ("Lensbench", 140, "no such slope"), ("Lensbench", 319, "no such place"), ("Lensbench", 322, "no such half"), ("Lensbench", 80, "no such power"), ("Lensbench", 85, "no such glass"), ("Lensbench", 334, "there are eight pieces"), ("Lensbench", 336, "a piece stands there"), ("Lensbench", 103, "another piece stands there"), ("Lensbench", 106, "the screen is not behind the thing"), ("Lensbench", 111, "no such height of the thing"), ("LensbenchModel", 150, "T")]
def exL : List String := ["java/lang/IndexOutOfBoundsException", "java/lang/IllegalArgumentException", "java/lang/IllegalStateException"]
def deL : List MethodName := [⟨"java/lang/RuntimeException", "<init>", "(Ljava/lang/String;)V"⟩, ⟨"java/lang/Exception", "<init>", "(Ljava/lang/String;)V"⟩, ⟨"java/lang/Throwable", "<init>", "(Ljava/lang/String;)V"⟩]
def ncL : List (String × String) := [("java/lang/IndexOutOfBoundsException", "java/lang/IllegalArgumentException"), ("java/lang/IndexOutOfBoundsException", "java/lang/IllegalStateException"), ("java/lang/IllegalArgumentException", "java/lang/IndexOutOfBoundsException"), ("java/lang/IllegalArgumentException", "java/lang/IllegalStateException"), ("java/lang/IllegalStateException", "java/lang/IndexOutOfBoundsException"), ("java/lang/IllegalStateException", "java/lang/IllegalArgumentException")]
/-- the place, past the classes', where the addresses of the model's own text constant are kept -/
abbrev kT : Nat := 11
def NM (D : va_G) (U : State) : Prop := (∀ w ∈ nmL, va_Nw w U) ∧ ((∀ q ∈ txL, ∃ a, vk_R q.1 q.2.1 q.2.2 a U) ∧ vk_R "LensbenchModel" 150 "T" (D.2 kT 0) U) ∧ (∀ X ∈ exL, va_Nw (.castable X X) U) ∧ (∀ x ∈ deL, va_Nw (.declares x) U) ∧ ∀ q ∈ ncL, va_Nc q.1 q.2 U
theorem nmL_m : ∀ w ∈ nmL, (∃ a i x h, w = Cond.methodLinkNest a i x h) ∨ ∃ a i b n d h, w = Cond.fieldLinkNest a i b n d h := by
  intro w hw
  simp only [nmL, List.mem_cons, List.not_mem_nil, or_false] at hw
  rcases hw with rfl | rfl | rfl | rfl | rfl | rfl | rfl | rfl | rfl | rfl | rfl <;> first | exact Or.inl ⟨_, _, _, _, rfl⟩ | exact Or.inr ⟨_, _, _, _, _, _, rfl⟩
theorem NM.warm {D : va_G} {s U : State} (h : NM D s) (hW : s.WarmedH U.vm) : NM D U := ⟨fun w hw => by
  rcases nmL_m w hw with ⟨a, i, x, k, rfl⟩ | ⟨a, i, b, n, d, k, rfl⟩
  · exact va_Nw.warmM hW (h.1 _ hw)
  · exact va_Nw.warmF hW (h.1 _ hw), ⟨fun q hq => by
  obtain ⟨a, ha⟩ := h.2.1.1 q hq
  exact ⟨a, ha.warm hW⟩, h.2.1.2.warm hW⟩, fun X hX => va_Nw.warmC hW (h.2.2.1 X hX), fun x hx => va_Nw.warmD hW (h.2.2.2.1 x hx), fun q hq => (h.2.2.2.2 q hq).moved hW.alike⟩
theorem NM.same {D : va_G} {s U : State} (h : NM D s) (hv : s.vm = U.vm) : NM D U := ⟨fun w hw => by
  rcases nmL_m w hw with ⟨a, i, x, k, rfl⟩ | ⟨a, i, b, n, d, k, rfl⟩
  · exact va_Nw.same rfl hv (h.1 _ hw)
  · exact va_Nw.same rfl hv (h.1 _ hw), ⟨fun q hq => by
  obtain ⟨a, ha⟩ := h.2.1.1 q hq
  exact ⟨a, ha.same hv.symm⟩, h.2.1.2.same hv.symm⟩, fun X hX => va_Nw.same rfl hv (h.2.2.1 X hX), fun x hx => va_Nw.same rfl hv (h.2.2.2.1 x hx), fun q hq => (h.2.2.2.2 q hq).moved (by rw [hv]; exact Vm.Alike.refl _)⟩
/-- the statics that a run may read, in cells that it doesn't write -/
def ZS (D : va_G) (A : Nat → Prop) (U : State) (H : Heap) : Prop := vx_Zq Bundle.tN "UNASSIGNED_STACK" Bundle.steD A U H ∧ vx_Zq Bundle.tN "SUPPRESSED_SENTINEL" Bundle.listD A U H ∧ va_Z "java/lang/String" "COMPACT_STRINGS" "Z" (.int 1) A U H ∧ vk_S 1 [1] [[84]] (fun _ => D.2 kT 0) (fun _ => D.2 kT 1) A U H
theorem ZS.moved {D : va_G} {A : Nat → Prop} {u U : State} {H : Heap} (hvm : u.vm.Alike U.vm) (h : ZS D A u H) : ZS D A U H := ⟨h.1.moved hvm, h.2.1.moved hvm, h.2.2.1.moved hvm, h.2.2.2.moved hvm⟩
theorem ZS.kept {D : va_G} {A : Nat → Prop} {U : State} {H H1 : Heap} (h : ZS D A U H) (hq : ∀ a : Nat, a < H.size → ¬ A a → H1[a]? = H[a]?) : ZS D A U H1 := ⟨h.1.kept hq, h.2.1.kept hq, h.2.2.1.kept hq, h.2.2.2.kept hq⟩
theorem ZS.narrow {D : va_G} {A B : Nat → Prop} {U : State} {H : Heap} (h : ZS D A U H) (hAB : ∀ q, B q → A q) : ZS D B U H := ⟨h.1.narrow hAB, h.2.1.narrow hAB, h.2.2.1.narrow hAB, h.2.2.2.narrow hAB⟩
/-- at a contract's start -/
def PB (D : va_G) (T : List (ClassId × FieldType)) (W0 : va_W) (sz : Nat) : State → Prop := fun U => U.heap.size = sz ∧ va_P D vwCl W0 U.heap ∧ va_K D vwCl T U ∧ va_D (fun _ => True) W0 ∧ NM D U ∧ ZS D (va_A W0 sz) U U.heap
/-- at its end -/
def PE (D : va_G) (T : List (ClassId × FieldType)) (W1 : va_W) (A : Nat → Prop) : Unit → State → Prop := fun _ t => va_P D vwCl W1 t.heap ∧ va_K D vwCl T t ∧ va_D A W1
section Forms
variable (l : Launch) (y : MethodName) (ws : List Cond) (rm : Room) (D : va_G) (T : List (ClassId × FieldType)) (args : List Value) (W0 W1 : va_W)
def Ci (r : Int32) (mc ms : Nat) : Prop := ∀ sz : Nat, Met l y ws rm (va_Pc args (PB D T W0 sz)) (va_Qi (fun (q : Int32) (_ : Unit) => q = r) (PE D T W1 (va_A W0 sz)) (va_A W0 sz)) mc ms (va_A W0 sz)
def Cl (r : Int64) (mc ms : Nat) : Prop := ∀ sz : Nat, Met l y ws rm (va_Pc args (PB D T W0 sz)) (va_Ql (fun (q : Int64) (_ : Unit) => q = r) (PE D T W1 (va_A W0 sz)) (va_A W0 sz)) mc ms (va_A W0 sz)
def Cd (r : UInt64) (mc ms : Nat) : Prop := ∀ sz : Nat, Met l y ws rm (va_Pc args (PB D T W0 sz)) (va_Qd (fun (q : UInt64) (_ : Unit) => q = r) (PE D T W1 (va_A W0 sz)) (va_A W0 sz)) mc ms (va_A W0 sz)
def Cv (mc ms : Nat) : Prop := ∀ sz : Nat, Met l y ws rm (va_Pc args (PB D T W0 sz)) (va_Qv (fun (_ : Unit) => True) (PE D T W1 (va_A W0 sz)) (va_A W0 sz)) mc ms (va_A W0 sz)
/-- .. that answers a new object of which nothing more is said -/
def Cr (l : Launch) (y : MethodName) (ws : List Cond) (rm : Room) (D : va_G) (T : List (ClassId × FieldType)) (args : List Value) (W0 W1 : va_W) (mc ms : Nat) : Prop := ∀ sz : Nat, Met l y ws rm (va_Pc args (PB D T W0 sz)) (va_Qr (fun (_ : Unit) => True) (fun u _ => PE D T W1 (va_A W0 sz) u) (va_A W0 sz)) mc ms (va_A W0 sz)
/-- .. of a constructor: what it makes lies at u 0, u 1, .. -/
def Ck (l : Launch) (y : MethodName) (ws : List Cond) (rm : Room) (D : va_G) (T : List (ClassId × FieldType)) (args : List Value) (W0 : va_W) (W1 : (Nat → Nat) → va_W) (mc ms : Nat) : Prop := ∀ sz : Nat, Met l y ws rm (va_Pc args (PB D T W0 sz)) (va_Qv (fun (_ : Nat → Nat) => True) (fun u => PE D T (W1 u) (va_A W0 sz) ()) (va_A W0 sz)) mc ms (va_A W0 sz)
/-- .. that answers a reference that is named, maybe one of what it makes -/
def Cg (l : Launch) (y : MethodName) (ws : List Cond) (rm : Room) (D : va_G) (T : List (ClassId × FieldType)) (args : List Value) (W0 : va_W) (r : (Nat → Nat) → Nat) (W1 : (Nat → Nat) → va_W) (mc ms : Nat) : Prop := ∀ sz : Nat, Met l y ws rm (va_Pc args (PB D T W0 sz)) (va_Qr (fun (_ : Nat → Nat) => True) (fun u a t => a = r u ∧ PE D T (W1 u) (va_A W0 sz) () t) (va_A W0 sz)) mc ms (va_A W0 sz)
end Forms
def primTy : FieldType → Bool
  | .int => true
  | .double => true
  | .byte => true
  | _ => false
theorem my_one {D : va_G} {tys : List (ClassId × FieldType)} {s : State} (h : va_K D vwCl tys s) {i j : Nat} {c1 c2 : ClassId} {ty : FieldType} (hi : tys[i]? = some (c1, ty)) (hj : tys[j]? = some (c2, ty)) (hp : primTy ty = true) : c1 = c2 := by
  have h1 := (h.2 i _ hi).2
  have h2 := (h.2 j _ hj).2
  cases ty <;> first | (exact Option.some.inj (h1.symm.trans h2)) | (exact absurd hp (by decide)) | (simp [primTy] at hp)
section Starts
variable {l : Launch} {y : MethodName} {ws ws' : List Cond} {rm : Room} {D : va_G} {T : List (ClassId × FieldType)} {args : List Value} {W0 W1 : va_W} {cc : ByteArray} {maxL : Nat} {mc ms : Nat}
theorem st_i {r : Int32} {ty : FieldType} (hy : plainName y.cls = true) (hw : ws = Cond.code y cc maxL (some ty) :: ws') (hlen : (lg_sl args).length ≤ maxL)
    (body : ∀ (p : Program) (e : Env) (s : State) (m : MethodId) (av : Array Value) (below : List Frame) (meth : Method) (c : Code) (A : Nat → Prop) (Q : State → Prop) (ls : Array Slot),
      p.tables.exec = Jvm.exec → c.code = cc → c.maxLocals = maxL → (∀ w ∈ ws, w.before av s = true) → s.vm.findClass y.cls = some m.cls → (∀ q : Nat, s.heap.size ≤ q → A q) → va_K D vwCl T s → NM D s → ZS D A s s.heap →
      va_P D vwCl W0 s.heap → va_D A W0 → va_S A s.heap s.heap [] → lv_has ls maxL (lv_args 0 args) →
      (∀ (pc : Nat) (ls : Array Slot) (H : Heap) (locs : List Loc), decode cc pc = .ok (.ireturn, 1) → narrow ty (.int r) = .int r → va_P D vwCl W1 H → va_D A W1 → va_S A s.heap H locs → W p l e rm s m av below meth c H locs mc ms Q (F0 m pc ls [.int r])) →
      W p l e rm s m av below meth c s.heap [] 0 0 Q (F0 m 0 ls [])) : Ci l y ws rm D T args W0 W1 r mc ms := by
  intro sz
  refine Met.ofW (cc := cc) (maxL := maxL) (ret := some ty) hy hw ?_
  intro p e s m av below meth c s₁ B hml hv
  obtain ⟨rfl, rfl, hP, hK, hD0, hNM, hZ⟩ := hv
  have hr := B.returns
  have hlocks := B.notSynchronized
  have hD := hD0.self (sz := s.heap.size)
  have hl := lv_entry args (n := maxL) hlen
  rw [lg_entry_eq]
  generalize (lg_sl args ++ List.replicate (maxL - (lg_sl args).length) Slot.unset).toArray = ls at hl ⊢
  generalize hAe : va_A W0 s.heap.size = A at hD hZ ⊢
  have hA : ∀ q : Nat, s.heap.size ≤ q → A q := fun q h => by rw [← hAe]; exact Or.inr h
  refine body p e s m _ below meth c A _ ls B.exec B.bytes hml (atoms_spec (ws := ws) B.pre) (findClass_of_methodNamed B.named) hA hK hNM hZ hP hD va_S.rf hl ?_
  intro pc ls H locs hdg hn hP1 hD1 hS1
  exact W.zret (v := r) B.exec B.bytes hr hn (fun t ht hW => ⟨⟨r, (), rfl, rfl, by rw [ht]; exact hP1, va_K.moved hW.alike hK, hD1⟩, hS1.F ht⟩) hS1.2.2 hdg
theorem st_iw {r : Int32} {hh : List (Nat × Nat × Nat × Nat)} {ty : FieldType} (hy : plainName y.cls = true) (hw : ws = Cond.codeWith y cc maxL (some ty) hh :: ws') (hlen : (lg_sl args).length ≤ maxL)
    (body : ∀ (p : Program) (e : Env) (s : State) (m : MethodId) (av : Array Value) (below : List Frame) (meth : Method) (c : Code) (A : Nat → Prop) (Q : State → Prop) (ls : Array Slot),
      p.tables.exec = Jvm.exec → c.code = cc → c.maxLocals = maxL → (∀ w ∈ ws, w.before av s = true) → s.vm.findClass y.cls = some m.cls → (∀ q : Nat, s.heap.size ≤ q → A q) → va_K D vwCl T s → NM D s → ZS D A s s.heap →
      va_P D vwCl W0 s.heap → va_D A W0 → va_S A s.heap s.heap [] → lv_has ls maxL (lv_args 0 args) → c.exceptionTable.toList = tableOf hh →
      (∀ (pc : Nat) (ls : Array Slot) (H : Heap) (locs : List Loc), decode cc pc = .ok (.ireturn, 1) → narrow ty (.int r) = .int r → va_P D vwCl W1 H → va_D A W1 → va_S A s.heap H locs → W p l e rm s m av below meth c H locs mc ms Q (F0 m pc ls [.int r])) →
      W p l e rm s m av below meth c s.heap [] 0 0 Q (F0 m 0 ls [])) : Ci l y ws rm D T args W0 W1 r mc ms := by
  intro sz
  refine va_MetW (cc := cc) (maxL := maxL) (ret := some ty) hy hw ?_
  intro p e s m av below meth c s₁ B hml hv
  obtain ⟨rfl, rfl, hP, hK, hD0, hNM, hZ⟩ := hv
  have hr := B.returns
  have hlocks := B.notSynchronized
  have hD := hD0.self (sz := s.heap.size)
  have hl := lv_entry args (n := maxL) hlen
  rw [lg_entry_eq]
  generalize (lg_sl args ++ List.replicate (maxL - (lg_sl args).length) Slot.unset).toArray = ls at hl ⊢
  generalize hAe : va_A W0 s.heap.size = A at hD hZ ⊢
  have hA : ∀ q : Nat, s.heap.size ≤ q → A q := fun q h => by rw [← hAe]; exact Or.inr h
  refine body p e s m _ below meth c A _ ls B.exec B.bytes hml (atoms_spec (ws := ws) B.pre) (findClass_of_methodNamed B.named) hA hK hNM hZ hP hD va_S.rf hl (vx_table (x := y) B (atoms_spec (ws := ws) B.pre _ (by rw [hw]; exact List.mem_cons_self))) ?_
  intro pc ls H locs hdg hn hP1 hD1 hS1
  exact W.zret (v := r) B.exec B.bytes hr hn (fun t ht hW => ⟨⟨r, (), rfl, rfl, by rw [ht]; exact hP1, va_K.moved hW.alike hK, hD1⟩, hS1.F ht⟩) hS1.2.2 hdg
theorem st_l {r : Int64} (hy : plainName y.cls = true) (hw : ws = Cond.code y cc maxL (some .long) :: ws') (hlen : (lg_sl args).length ≤ maxL)
    (body : ∀ (p : Program) (e : Env) (s : State) (m : MethodId) (av : Array Value) (below : List Frame) (meth : Method) (c : Code) (A : Nat → Prop) (Q : State → Prop) (ls : Array Slot),
      p.tables.exec = Jvm.exec → c.code = cc → c.maxLocals = maxL → (∀ w ∈ ws, w.before av s = true) → s.vm.findClass y.cls = some m.cls → (∀ q : Nat, s.heap.size ≤ q → A q) → va_K D vwCl T s → NM D s → ZS D A s s.heap →
      va_P D vwCl W0 s.heap → va_D A W0 → va_S A s.heap s.heap [] → lv_has ls maxL (lv_args 0 args) →
      (∀ (pc : Nat) (ls : Array Slot) (H : Heap) (locs : List Loc), decode cc pc = .ok (.lreturn, 1) → va_P D vwCl W1 H → va_D A W1 → va_S A s.heap H locs → W p l e rm s m av below meth c H locs mc ms Q (F0 m pc ls [.long r])) →
      W p l e rm s m av below meth c s.heap [] 0 0 Q (F0 m 0 ls [])) : Cl l y ws rm D T args W0 W1 r mc ms := by
  intro sz
  refine Met.ofW (cc := cc) (maxL := maxL) (ret := some .long) hy hw ?_
  intro p e s m av below meth c s₁ B hml hv
  obtain ⟨rfl, rfl, hP, hK, hD0, hNM, hZ⟩ := hv
  have hr := B.returns
  have hlocks := B.notSynchronized
  have hD := hD0.self (sz := s.heap.size)
  have hl := lv_entry args (n := maxL) hlen
  rw [lg_entry_eq]
  generalize (lg_sl args ++ List.replicate (maxL - (lg_sl args).length) Slot.unset).toArray = ls at hl ⊢
  generalize hAe : va_A W0 s.heap.size = A at hD hZ ⊢
  have hA : ∀ q : Nat, s.heap.size ≤ q → A q := fun q h => by rw [← hAe]; exact Or.inr h
  refine body p e s m _ below meth c A _ ls B.exec B.bytes hml (atoms_spec (ws := ws) B.pre) (findClass_of_methodNamed B.named) hA hK hNM hZ hP hD va_S.rf hl ?_
  intro pc ls H locs hdg hP1 hD1 hS1
  exact W.lret (v := r) B.exec B.bytes hr (fun t ht hW => ⟨⟨r, (), rfl, rfl, by rw [ht]; exact hP1, va_K.moved hW.alike hK, hD1⟩, hS1.F ht⟩) hS1.2.2 hdg
theorem st_d {r : UInt64} (hy : plainName y.cls = true) (hw : ws = Cond.code y cc maxL (some .double) :: ws') (hlen : (lg_sl args).length ≤ maxL)
    (body : ∀ (p : Program) (e : Env) (s : State) (m : MethodId) (av : Array Value) (below : List Frame) (meth : Method) (c : Code) (A : Nat → Prop) (Q : State → Prop) (ls : Array Slot),
      p.tables.exec = Jvm.exec → c.code = cc → c.maxLocals = maxL → (∀ w ∈ ws, w.before av s = true) → s.vm.findClass y.cls = some m.cls → (∀ q : Nat, s.heap.size ≤ q → A q) → va_K D vwCl T s → NM D s → ZS D A s s.heap →
      va_P D vwCl W0 s.heap → va_D A W0 → va_S A s.heap s.heap [] → lv_has ls maxL (lv_args 0 args) →
      (∀ (pc : Nat) (ls : Array Slot) (H : Heap) (locs : List Loc), decode cc pc = .ok (.dreturn, 1) → va_P D vwCl W1 H → va_D A W1 → va_S A s.heap H locs → W p l e rm s m av below meth c H locs mc ms Q (F0 m pc ls [.double r])) →
      W p l e rm s m av below meth c s.heap [] 0 0 Q (F0 m 0 ls [])) : Cd l y ws rm D T args W0 W1 r mc ms := by
  intro sz
  refine Met.ofW (cc := cc) (maxL := maxL) (ret := some .double) hy hw ?_
  intro p e s m av below meth c s₁ B hml hv
  obtain ⟨rfl, rfl, hP, hK, hD0, hNM, hZ⟩ := hv
  have hr := B.returns
  have hlocks := B.notSynchronized
  have hD := hD0.self (sz := s.heap.size)
  have hl := lv_entry args (n := maxL) hlen
  rw [lg_entry_eq]
  generalize (lg_sl args ++ List.replicate (maxL - (lg_sl args).length) Slot.unset).toArray = ls at hl ⊢
  generalize hAe : va_A W0 s.heap.size = A at hD hZ ⊢
  have hA : ∀ q : Nat, s.heap.size ≤ q → A q := fun q h => by rw [← hAe]; exact Or.inr h
  refine body p e s m _ below meth c A _ ls B.exec B.bytes hml (atoms_spec (ws := ws) B.pre) (findClass_of_methodNamed B.named) hA hK hNM hZ hP hD va_S.rf hl ?_
  intro pc ls H locs hdg hP1 hD1 hS1
  exact W.dret (v := r) B.exec B.bytes hr (fun t ht hW => ⟨⟨r, (), rfl, rfl, by rw [ht]; exact hP1, va_K.moved hW.alike hK, hD1⟩, hS1.F ht⟩) hS1.2.2 hdg
theorem st_v (hy : plainName y.cls = true) (hw : ws = Cond.code y cc maxL none :: ws') (hlen : (lg_sl args).length ≤ maxL)
    (body : ∀ (p : Program) (e : Env) (s : State) (m : MethodId) (av : Array Value) (below : List Frame) (meth : Method) (c : Code) (A : Nat → Prop) (Q : State → Prop) (ls : Array Slot),
      p.tables.exec = Jvm.exec → c.code = cc → c.maxLocals = maxL → (∀ w ∈ ws, w.before av s = true) → s.vm.findClass y.cls = some m.cls → (∀ q : Nat, s.heap.size ≤ q → A q) → va_K D vwCl T s → NM D s → ZS D A s s.heap →
      va_P D vwCl W0 s.heap → va_D A W0 → va_S A s.heap s.heap [] → lv_has ls maxL (lv_args 0 args) →
      (∀ (pc : Nat) (ls : Array Slot) (H : Heap) (locs : List Loc), decode cc pc = .ok (.return_, 1) → va_P D vwCl W1 H → va_D A W1 → va_S A s.heap H locs → W p l e rm s m av below meth c H locs mc ms Q (F0 m pc ls [])) →
      W p l e rm s m av below meth c s.heap [] 0 0 Q (F0 m 0 ls [])) : Cv l y ws rm D T args W0 W1 mc ms := by
  intro sz
  refine Met.ofW (cc := cc) (maxL := maxL) (ret := none) hy hw ?_
  intro p e s m av below meth c s₁ B hml hv
  obtain ⟨rfl, rfl, hP, hK, hD0, hNM, hZ⟩ := hv
  have hr := B.returns
  have hlocks := B.notSynchronized
  have hD := hD0.self (sz := s.heap.size)
  have hl := lv_entry args (n := maxL) hlen
  rw [lg_entry_eq]
  generalize (lg_sl args ++ List.replicate (maxL - (lg_sl args).length) Slot.unset).toArray = ls at hl ⊢
  generalize hAe : va_A W0 s.heap.size = A at hD hZ ⊢
  have hA : ∀ q : Nat, s.heap.size ≤ q → A q := fun q h => by rw [← hAe]; exact Or.inr h
  refine body p e s m _ below meth c A _ ls B.exec B.bytes hml (atoms_spec (ws := ws) B.pre) (findClass_of_methodNamed B.named) hA hK hNM hZ hP hD va_S.rf hl ?_
  intro pc ls H locs hdg hP1 hD1 hS1
  exact W.vret B.exec B.bytes hr (fun t ht hW => ⟨⟨(), rfl, trivial, by rw [ht]; exact hP1, va_K.moved hW.alike hK, hD1⟩, hS1.F ht⟩) hS1.2.2 hdg
theorem st_k {W1 : (Nat → Nat) → va_W} (hy : plainName y.cls = true) (hw : ws = Cond.code y cc maxL none :: ws') (hlen : (lg_sl args).length ≤ maxL)
    (body : ∀ (p : Program) (e : Env) (s : State) (m : MethodId) (av : Array Value) (below : List Frame) (meth : Method) (c : Code) (A : Nat → Prop) (Q : State → Prop) (ls : Array Slot),
      p.tables.exec = Jvm.exec → c.code = cc → c.maxLocals = maxL → (∀ w ∈ ws, w.before av s = true) → s.vm.findClass y.cls = some m.cls → meth.name = y.name → (∀ q : Nat, s.heap.size ≤ q → A q) → va_K D vwCl T s → NM D s → ZS D A s s.heap →
      va_P D vwCl W0 s.heap → va_D A W0 → va_S A s.heap s.heap [] → lv_has ls maxL (lv_args 0 args) →
      (∀ (pc : Nat) (ls : Array Slot) (H : Heap) (locs : List Loc) (u : Nat → Nat), decode cc pc = .ok (.return_, 1) → va_P D vwCl (W1 u) H → va_D A (W1 u) → va_S A s.heap H locs → W p l e rm s m av below meth c H locs mc ms Q (F0 m pc ls [])) →
      W p l e rm s m av below meth c s.heap [] 0 0 Q (F0 m 0 ls [])) : Ck l y ws rm D T args W0 W1 mc ms := by
  intro sz
  refine Met.ofW (cc := cc) (maxL := maxL) (ret := none) hy hw ?_
  intro p e s m av below meth c s₁ B hml hv
  obtain ⟨rfl, rfl, hP, hK, hD0, hNM, hZ⟩ := hv
  have hr := B.returns
  have hlocks := B.notSynchronized
  have hin : meth.name = y.name := (name_of_methodNamed B.named B.method).1
  have hD := hD0.self (sz := s.heap.size)
  have hl := lv_entry args (n := maxL) hlen
  rw [lg_entry_eq]
  generalize (lg_sl args ++ List.replicate (maxL - (lg_sl args).length) Slot.unset).toArray = ls at hl ⊢
  generalize hAe : va_A W0 s.heap.size = A at hD hZ ⊢
  have hA : ∀ q : Nat, s.heap.size ≤ q → A q := fun q h => by rw [← hAe]; exact Or.inr h
  refine body p e s m _ below meth c A _ ls B.exec B.bytes hml (atoms_spec (ws := ws) B.pre) (findClass_of_methodNamed B.named) hin hA hK hNM hZ hP hD va_S.rf hl ?_
  intro pc ls H locs u hdg hP1 hD1 hS1
  exact W.vret B.exec B.bytes hr (fun t ht hW => ⟨⟨u, rfl, trivial, by rw [ht]; exact hP1, va_K.moved hW.alike hK, hD1⟩, hS1.F ht⟩) hS1.2.2 hdg
theorem st_g {W1 : (Nat → Nat) → va_W} {r : (Nat → Nat) → Nat} {rt : FieldType} (hrt : (∃ n, rt = .object n) ∨ ∃ t, rt = .array t) (hy : plainName y.cls = true) (hw : ws = Cond.code y cc maxL (some rt) :: ws') (hlen : (lg_sl args).length ≤ maxL)
    (body : ∀ (p : Program) (e : Env) (s : State) (m : MethodId) (av : Array Value) (below : List Frame) (meth : Method) (c : Code) (A : Nat → Prop) (Q : State → Prop) (ls : Array Slot),
      p.tables.exec = Jvm.exec → c.code = cc → c.maxLocals = maxL → (∀ w ∈ ws, w.before av s = true) → s.vm.findClass y.cls = some m.cls → meth.name = y.name → (∀ q : Nat, s.heap.size ≤ q → A q) → va_K D vwCl T s → NM D s → ZS D A s s.heap →
      va_P D vwCl W0 s.heap → va_D A W0 → va_S A s.heap s.heap [] → lv_has ls maxL (lv_args 0 args) →
      (∀ (pc : Nat) (ls : Array Slot) (H : Heap) (locs : List Loc) (u : Nat → Nat), decode cc pc = .ok (.areturn, 1) → va_P D vwCl (W1 u) H → va_D A (W1 u) → va_S A s.heap H locs → W p l e rm s m av below meth c H locs mc ms Q (F0 m pc ls [.ref (r u)])) →
      W p l e rm s m av below meth c s.heap [] 0 0 Q (F0 m 0 ls [])) : Cg l y ws rm D T args W0 r W1 mc ms := by
  intro sz
  refine Met.ofW (cc := cc) (maxL := maxL) (ret := some rt) hy hw ?_
  intro p e s m av below meth c s₁ B hml hv
  obtain ⟨rfl, rfl, hP, hK, hD0, hNM, hZ⟩ := hv
  have hr := B.returns
  have hlocks := B.notSynchronized
  have hin : meth.name = y.name := (name_of_methodNamed B.named B.method).1
  have hD := hD0.self (sz := s.heap.size)
  have hl := lv_entry args (n := maxL) hlen
  rw [lg_entry_eq]
  generalize (lg_sl args ++ List.replicate (maxL - (lg_sl args).length) Slot.unset).toArray = ls at hl ⊢
  generalize hAe : va_A W0 s.heap.size = A at hD hZ ⊢
  have hA : ∀ q : Nat, s.heap.size ≤ q → A q := fun q h => by rw [← hAe]; exact Or.inr h
  refine body p e s m _ below meth c A _ ls B.exec B.bytes hml (atoms_spec (ws := ws) B.pre) (findClass_of_methodNamed B.named) hin hA hK hNM hZ hP hD va_S.rf hl ?_
  intro pc ls H locs u hdg hP1 hD1 hS1
  exact W.aret B.exec B.bytes hr hrt (Or.inr ⟨_, rfl⟩) (fun t ht hW => ⟨⟨u, r u, rfl, trivial, rfl, by rw [ht]; exact hP1, va_K.moved hW.alike hK, hD1⟩, hS1.F ht⟩) hS1.2.2 hdg
theorem st_r {rt : FieldType} (hrt : (∃ n, rt = .object n) ∨ ∃ t, rt = .array t) (hy : plainName y.cls = true) (hw : ws = Cond.code y cc maxL (some rt) :: ws') (hlen : (lg_sl args).length ≤ maxL)
    (body : ∀ (p : Program) (e : Env) (s : State) (m : MethodId) (av : Array Value) (below : List Frame) (meth : Method) (c : Code) (A : Nat → Prop) (Q : State → Prop) (ls : Array Slot),
      p.tables.exec = Jvm.exec → c.code = cc → c.maxLocals = maxL → (∀ w ∈ ws, w.before av s = true) → s.vm.findClass y.cls = some m.cls → meth.name = y.name → (∀ q : Nat, s.heap.size ≤ q → A q) → va_K D vwCl T s → NM D s → ZS D A s s.heap →
      va_P D vwCl W0 s.heap → va_D A W0 → va_S A s.heap s.heap [] → lv_has ls maxL (lv_args 0 args) →
      (∀ (pc : Nat) (ls : Array Slot) (H : Heap) (locs : List Loc) (ra : Nat), decode cc pc = .ok (.areturn, 1) → va_P D vwCl W1 H → va_D A W1 → va_S A s.heap H locs → W p l e rm s m av below meth c H locs mc ms Q (F0 m pc ls [.ref ra])) →
      W p l e rm s m av below meth c s.heap [] 0 0 Q (F0 m 0 ls [])) : Cr l y ws rm D T args W0 W1 mc ms := by
  intro sz
  refine Met.ofW (cc := cc) (maxL := maxL) (ret := some rt) hy hw ?_
  intro p e s m av below meth c s₁ B hml hv
  obtain ⟨rfl, rfl, hP, hK, hD0, hNM, hZ⟩ := hv
  have hr := B.returns
  have hlocks := B.notSynchronized
  have hin : meth.name = y.name := (name_of_methodNamed B.named B.method).1
  have hD := hD0.self (sz := s.heap.size)
  have hl := lv_entry args (n := maxL) hlen
  rw [lg_entry_eq]
  generalize (lg_sl args ++ List.replicate (maxL - (lg_sl args).length) Slot.unset).toArray = ls at hl ⊢
  generalize hAe : va_A W0 s.heap.size = A at hD hZ ⊢
  have hA : ∀ q : Nat, s.heap.size ≤ q → A q := fun q h => by rw [← hAe]; exact Or.inr h
  refine body p e s m _ below meth c A _ ls B.exec B.bytes hml (atoms_spec (ws := ws) B.pre) (findClass_of_methodNamed B.named) hin hA hK hNM hZ hP hD va_S.rf hl ?_
  intro pc ls H locs ra hdg hP1 hD1 hS1
  exact W.aret B.exec B.bytes hr hrt (Or.inr ⟨_, rfl⟩) (fun t ht hW => ⟨⟨(), ra, rfl, trivial, by rw [ht]; exact hP1, va_K.moved hW.alike hK, hD1⟩, hS1.F ht⟩) hS1.2.2 hdg
end Starts
theorem fm_of {α : Type} (f : Nat → Option α) : ∀ (is : List Nat) (l : List α), is.map f = l.map some → is.filterMap f = l
  | [], [], _ => rfl
  | [], x :: l, h => by simp at h
  | i :: is, [], h => by simp at h
  | i :: is, x :: l, h => by
    simp only [List.map_cons, List.cons.injEq] at h
    simp only [List.filterMap_cons, h.1, fm_of f is l h.2]
section Calls
variable {p : Program} {l : Launch} {e : Env} {R : Room} {s : State} {m : MethodId} {av : Array Value} {below : List Frame} {meth : Method} {c : Code} {H : Heap} {locs : List Loc} {cells slots mc ms : Nat} {Q : State → Prop} {pc : Nat} {ls : Array Slot} {rest st0 : List Value} {D : va_G} {T : List (ClassId × FieldType)} {ws wr W0 W1 ws2 : va_W} {A : Nat → Prop} {H0 : Heap} {a : Array Value}
theorem my_join (hP : va_P D vwCl ws H) (hD : va_D A ws) (hS : va_S A H0 H locs) (hA : ∀ q, H0.size ≤ q → A q) (isC isR isF : List Nat) (hC : isC.map (fun i => ws[i]?) = W0.map some) (hR : isR.map (fun i => ws[i]?) = wr.map some) (hF : isF.map (fun i => (wr ++ W1)[i]?) = ws2.map some) (hn : va_nd isR = true) (hnF : va_nd isF = true) (hdis : ∀ i ∈ isR, i ∉ isC)
    {H1 : Heap} (hk : ∀ q : Nat, q < H.size → ¬ va_A W0 H.size q → H1[q]? = H[q]?) (hP1 : va_P D vwCl W1 H1) (hD1 : va_D (va_A W0 H.size) W1) : va_P D vwCl ws2 H1 ∧ va_D A ws2 := by
  have hFc := va_free (wc := W0) hD hS hA isC hC
  obtain ⟨h1, h2⟩ := va_join (wr := wr) (w1 := W1) hP hD isC isR hC hR hn hdis hk hFc hP1 hD1
  have hFm : isF.filterMap (fun i => (wr ++ W1)[i]?) = ws2 := fm_of _ isF ws2 hF
  exact ⟨h1.sub isF hFm, h2.sub isF hnF hF⟩
theorem my_pre {isC : List Nat} (hP : va_P D vwCl ws H) (hK : va_K D vwCl T s) (hNM : NM D s) (hZ : ZS D A s s.heap) (hD : va_D A ws) (hS : va_S A s.heap H locs) (hA : ∀ q : Nat, s.heap.size ≤ q → A q) (hC : isC.map (fun i => ws[i]?) = W0.map some) (hnC : va_nd isC = true) (U : State) (hU : U.heap = H) (hW : s.WarmedH U.vm) : PB D T W0 H.size U := by
  have hFc := va_free (wc := W0) hD hS hA isC hC
  have hZ1 : ZS D (va_A W0 H.size) U H := ((hZ.kept hS.2.1).narrow hFc).moved hW.alike
  exact ⟨by rw [hU], by rw [hU]; exact hP.sub isC (fm_of _ isC W0 hC), va_K.moved hW.alike hK, (hD.sub isC hnC hC).weaken (fun _ _ _ _ => trivial), hNM.warm hW, by rw [hU]; exact hZ1⟩
theorem PB.blind {args : List Value} {sz : Nat} : FrameBlind (va_Pc args (PB D T W0 sz)) := fun a U g mk q => by
  obtain ⟨q0, q1, qP, qK, qD, qN, qZ⟩ := q
  exact ⟨q0, q1, qP, va_K.moved (u := U) (U := U.calling g mk a) (Vm.Alike.refl U.vm) qK, qD, qN.same rfl, ZS.moved (u := U) (U := U.calling g mk a) (Vm.Alike.refl U.vm) qZ⟩
theorem my_preV {b q0 ci : Nat} {fs As : List Value} {q : vw_C} (isC : List Nat) (hP : va_P D vwCl ws H) (hK : va_K D vwCl T s) (hNM : NM D s) (hZ : ZS D A s s.heap) (hD : va_D A ws) (hS : va_S A s.heap H locs) (hA : ∀ q : Nat, s.heap.size ≤ q → A q) (hC : isC.map (fun i => ws[i]?) = W0.map some) (hnC : va_nd isC = true) (hc : vwCl[ci]? = some q) (he : ws[q0]? = some (b, .inr (ci, fs))) : PreV s H q.1 b (va_Pc (.ref b :: As) (PB D T W0 H.size)) As :=
  ⟨PB.blind, va_recv hK hP hc he, fun U hU hW => ⟨rfl, my_pre hP hK hNM hZ hD hS hA hC hnC U hU hW⟩⟩
theorem my_preS {As : List Value} (isC : List Nat) (hP : va_P D vwCl ws H) (hK : va_K D vwCl T s) (hNM : NM D s) (hZ : ZS D A s s.heap) (hD : va_D A ws) (hS : va_S A s.heap H locs) (hA : ∀ q : Nat, s.heap.size ≤ q → A q) (hC : isC.map (fun i => ws[i]?) = W0.map some) (hnC : va_nd isC = true) : PreS s H (va_Pc As (PB D T W0 H.size)) As :=
  ⟨PB.blind, fun U hU hW => ⟨rfl, my_pre hP hK hNM hZ hD hS hA hC hnC U hU hW⟩⟩
theorem co_i {r : Int32} (hr : va_Run p l e R s m av below meth c H locs cells slots mc ms (F0 m pc ls st0) rest (va_Qi (fun (q : Int32) (_ : Unit) => q = r) (PE D T W1 (va_A W0 H.size)) (va_A W0 H.size) a) (va_A W0 H.size)) (hP : va_P D vwCl ws H) (hD : va_D A ws) (hS : va_S A H0 H locs) (hA : ∀ q, H0.size ≤ q → A q) (isC isR isF : List Nat) (hC : isC.map (fun i => ws[i]?) = W0.map some) (hR : isR.map (fun i => ws[i]?) = wr.map some) (hF : isF.map (fun i => (wr ++ W1)[i]?) = ws2.map some) (hn : va_nd isR = true) (hnF : va_nd isF = true) (hdis : ∀ i ∈ isR, i ∉ isC)
    (kk : ∀ (H1 : Heap) (locs1 : List Loc), va_P D vwCl ws2 H1 → va_D A ws2 → va_S A H0 H1 locs1 → W p l e R s m av below meth c H1 locs1 (cells + mc) (slots + ms) Q (F0 m (pc + 3) ls (.int r :: rest))) : W p l e R s m av below meth c H locs cells slots Q (F0 m pc ls st0) := by
  have hFc := va_free (wc := W0) hD hS hA isC hC
  refine va_calli hr hS (fun q _ h => hFc q h) hFc (fun r2 u t H1 locs1 ht hvm hw hB hz1 hk1 hS1 => ?_)
  subst hw
  obtain ⟨hP1, hK1, hD1⟩ := hB
  rw [ht] at hP1
  obtain ⟨h1, h2⟩ := my_join hP hD hS hA isC isR isF hC hR hF hn hnF hdis hk1 hP1 hD1
  exact kk H1 locs1 h1 h2 hS1
theorem co_l {r : Int64} (hr : va_Run p l e R s m av below meth c H locs cells slots mc ms (F0 m pc ls st0) rest (va_Ql (fun (q : Int64) (_ : Unit) => q = r) (PE D T W1 (va_A W0 H.size)) (va_A W0 H.size) a) (va_A W0 H.size)) (hP : va_P D vwCl ws H) (hD : va_D A ws) (hS : va_S A H0 H locs) (hA : ∀ q, H0.size ≤ q → A q) (isC isR isF : List Nat) (hC : isC.map (fun i => ws[i]?) = W0.map some) (hR : isR.map (fun i => ws[i]?) = wr.map some) (hF : isF.map (fun i => (wr ++ W1)[i]?) = ws2.map some) (hn : va_nd isR = true) (hnF : va_nd isF = true) (hdis : ∀ i ∈ isR, i ∉ isC)
    (kk : ∀ (H1 : Heap) (locs1 : List Loc), va_P D vwCl ws2 H1 → va_D A ws2 → va_S A H0 H1 locs1 → W p l e R s m av below meth c H1 locs1 (cells + mc) (slots + ms) Q (F0 m (pc + 3) ls (.long r :: rest))) : W p l e R s m av below meth c H locs cells slots Q (F0 m pc ls st0) := by
  have hFc := va_free (wc := W0) hD hS hA isC hC
  refine va_calll hr hS (fun q _ h => hFc q h) hFc (fun r2 u t H1 locs1 ht hvm hw hB hz1 hk1 hS1 => ?_)
  subst hw
  obtain ⟨hP1, hK1, hD1⟩ := hB
  rw [ht] at hP1
  obtain ⟨h1, h2⟩ := my_join hP hD hS hA isC isR isF hC hR hF hn hnF hdis hk1 hP1 hD1
  exact kk H1 locs1 h1 h2 hS1
theorem co_d {r : UInt64} (hr : va_Run p l e R s m av below meth c H locs cells slots mc ms (F0 m pc ls st0) rest (va_Qd (fun (q : UInt64) (_ : Unit) => q = r) (PE D T W1 (va_A W0 H.size)) (va_A W0 H.size) a) (va_A W0 H.size)) (hP : va_P D vwCl ws H) (hD : va_D A ws) (hS : va_S A H0 H locs) (hA : ∀ q, H0.size ≤ q → A q) (isC isR isF : List Nat) (hC : isC.map (fun i => ws[i]?) = W0.map some) (hR : isR.map (fun i => ws[i]?) = wr.map some) (hF : isF.map (fun i => (wr ++ W1)[i]?) = ws2.map some) (hn : va_nd isR = true) (hnF : va_nd isF = true) (hdis : ∀ i ∈ isR, i ∉ isC)
    (kk : ∀ (H1 : Heap) (locs1 : List Loc), va_P D vwCl ws2 H1 → va_D A ws2 → va_S A H0 H1 locs1 → W p l e R s m av below meth c H1 locs1 (cells + mc) (slots + ms) Q (F0 m (pc + 3) ls (.double r :: rest))) : W p l e R s m av below meth c H locs cells slots Q (F0 m pc ls st0) := by
  have hFc := va_free (wc := W0) hD hS hA isC hC
  refine va_calld hr hS (fun q _ h => hFc q h) hFc (fun r2 u t H1 locs1 ht hvm hw hB hz1 hk1 hS1 => ?_)
  subst hw
  obtain ⟨hP1, hK1, hD1⟩ := hB
  rw [ht] at hP1
  obtain ⟨h1, h2⟩ := my_join hP hD hS hA isC isR isF hC hR hF hn hnF hdis hk1 hP1 hD1
  exact kk H1 locs1 h1 h2 hS1
theorem co_v (hr : va_Run p l e R s m av below meth c H locs cells slots mc ms (F0 m pc ls st0) rest (va_Qv (fun (_ : Unit) => True) (PE D T W1 (va_A W0 H.size)) (va_A W0 H.size) a) (va_A W0 H.size)) (hP : va_P D vwCl ws H) (hD : va_D A ws) (hS : va_S A H0 H locs) (hA : ∀ q, H0.size ≤ q → A q) (isC isR isF : List Nat) (hC : isC.map (fun i => ws[i]?) = W0.map some) (hR : isR.map (fun i => ws[i]?) = wr.map some) (hF : isF.map (fun i => (wr ++ W1)[i]?) = ws2.map some) (hn : va_nd isR = true) (hnF : va_nd isF = true) (hdis : ∀ i ∈ isR, i ∉ isC)
    (kk : ∀ (H1 : Heap) (locs1 : List Loc), va_P D vwCl ws2 H1 → va_D A ws2 → va_S A H0 H1 locs1 → W p l e R s m av below meth c H1 locs1 (cells + mc) (slots + ms) Q (F0 m (pc + 3) ls rest)) : W p l e R s m av below meth c H locs cells slots Q (F0 m pc ls st0) := by
  have hFc := va_free (wc := W0) hD hS hA isC hC
  refine va_callv hr hS (fun q _ h => hFc q h) hFc (fun u t H1 locs1 ht hvm hw hB hz1 hk1 hS1 => ?_)
  obtain ⟨hP1, hK1, hD1⟩ := hB
  rw [ht] at hP1
  obtain ⟨h1, h2⟩ := my_join hP hD hS hA isC isR isF hC hR hF hn hnF hdis hk1 hP1 hD1
  exact kk H1 locs1 h1 h2 hS1
theorem co_r (hr : va_Run p l e R s m av below meth c H locs cells slots mc ms (F0 m pc ls st0) rest (va_Qr (fun (_ : Unit) => True) (fun u _ => PE D T W1 (va_A W0 H.size) u) (va_A W0 H.size) a) (va_A W0 H.size)) (hP : va_P D vwCl ws H) (hD : va_D A ws) (hS : va_S A H0 H locs) (hA : ∀ q, H0.size ≤ q → A q) (isC isR isF : List Nat) (hC : isC.map (fun i => ws[i]?) = W0.map some) (hR : isR.map (fun i => ws[i]?) = wr.map some) (hF : isF.map (fun i => (wr ++ W1)[i]?) = ws2.map some) (hn : va_nd isR = true) (hnF : va_nd isF = true) (hdis : ∀ i ∈ isR, i ∉ isC)
    (kk : ∀ (ra : Nat) (H1 : Heap) (locs1 : List Loc), va_P D vwCl ws2 H1 → va_D A ws2 → va_S A H0 H1 locs1 → W p l e R s m av below meth c H1 locs1 (cells + mc) (slots + ms) Q (F0 m (pc + 3) ls (.ref ra :: rest))) : W p l e R s m av below meth c H locs cells slots Q (F0 m pc ls st0) := by
  have hFc := va_free (wc := W0) hD hS hA isC hC
  refine va_callr hr hS (fun q _ h => hFc q h) hFc (fun u ra t H1 locs1 ht hvm hw hB hz1 hk1 hS1 => ?_)
  obtain ⟨hP1, hK1, hD1⟩ := hB
  rw [ht] at hP1
  obtain ⟨h1, h2⟩ := my_join hP hD hS hA isC isR isF hC hR hF hn hnF hdis hk1 hP1 hD1
  exact kk ra H1 locs1 h1 h2 hS1
theorem co_k {W1 ws2 : (Nat → Nat) → va_W} (hr : va_Run p l e R s m av below meth c H locs cells slots mc ms (F0 m pc ls st0) rest (va_Qv (fun (_ : Nat → Nat) => True) (fun u => PE D T (W1 u) (va_A W0 H.size) ()) (va_A W0 H.size) a) (va_A W0 H.size)) (hP : va_P D vwCl ws H) (hD : va_D A ws) (hS : va_S A H0 H locs) (hA : ∀ q, H0.size ≤ q → A q) (isC isR isF : List Nat) (hC : isC.map (fun i => ws[i]?) = W0.map some) (hR : isR.map (fun i => ws[i]?) = wr.map some) (hF : ∀ u, isF.map (fun i => (wr ++ W1 u)[i]?) = (ws2 u).map some) (hn : va_nd isR = true) (hnF : va_nd isF = true) (hdis : ∀ i ∈ isR, i ∉ isC)
    (kk : ∀ (u : Nat → Nat) (H1 : Heap) (locs1 : List Loc), va_P D vwCl (ws2 u) H1 → va_D A (ws2 u) → va_S A H0 H1 locs1 → W p l e R s m av below meth c H1 locs1 (cells + mc) (slots + ms) Q (F0 m (pc + 3) ls rest)) : W p l e R s m av below meth c H locs cells slots Q (F0 m pc ls st0) := by
  have hFc := va_free (wc := W0) hD hS hA isC hC
  refine va_callv hr hS (fun q _ h => hFc q h) hFc (fun u t H1 locs1 ht hvm hw hB hz1 hk1 hS1 => ?_)
  obtain ⟨hP1, hK1, hD1⟩ := hB
  rw [ht] at hP1
  obtain ⟨h1, h2⟩ := my_join hP hD hS hA isC isR isF hC hR (hF u) hn hnF hdis hk1 hP1 hD1
  exact kk u H1 locs1 h1 h2 hS1
theorem co_g {W1 ws2 : (Nat → Nat) → va_W} {r : (Nat → Nat) → Nat} (hr : va_Run p l e R s m av below meth c H locs cells slots mc ms (F0 m pc ls st0) rest (va_Qr (fun (_ : Nat → Nat) => True) (fun u ra t => ra = r u ∧ PE D T (W1 u) (va_A W0 H.size) () t) (va_A W0 H.size) a) (va_A W0 H.size)) (hP : va_P D vwCl ws H) (hD : va_D A ws) (hS : va_S A H0 H locs) (hA : ∀ q, H0.size ≤ q → A q) (isC isR isF : List Nat) (hC : isC.map (fun i => ws[i]?) = W0.map some) (hR : isR.map (fun i => ws[i]?) = wr.map some) (hF : ∀ u, isF.map (fun i => (wr ++ W1 u)[i]?) = (ws2 u).map some) (hn : va_nd isR = true) (hnF : va_nd isF = true) (hdis : ∀ i ∈ isR, i ∉ isC)
    (kk : ∀ (u : Nat → Nat) (H1 : Heap) (locs1 : List Loc), va_P D vwCl (ws2 u) H1 → va_D A (ws2 u) → va_S A H0 H1 locs1 → W p l e R s m av below meth c H1 locs1 (cells + mc) (slots + ms) Q (F0 m (pc + 3) ls (.ref (r u) :: rest))) : W p l e R s m av below meth c H locs cells slots Q (F0 m pc ls st0) := by
  have hFc := va_free (wc := W0) hD hS hA isC hC
  refine va_callr hr hS (fun q _ h => hFc q h) hFc (fun u ra t H1 locs1 ht hvm hw hB hz1 hk1 hS1 => ?_)
  obtain ⟨rfl, hP1, hK1, hD1⟩ := hB
  rw [ht] at hP1
  obtain ⟨h1, h2⟩ := my_join hP hD hS hA isC isR isF hC hR (hF u) hn hnF hdis hk1 hP1 hD1
  exact kk u H1 locs1 h1 h2 hS1
theorem my_preK {As : List Value} (isC : List Nat) (hP : va_P D vwCl ws H) (hK : va_K D vwCl T s) (hNM : NM D s) (hZ : ZS D A s s.heap) (hD : va_D A ws) (hS : va_S A s.heap H locs) (hA : ∀ q : Nat, s.heap.size ≤ q → A q) (hC : isC.map (fun i => ws[i]?) = W0.map some) (hnC : va_nd isC = true) : PreV s H "java/lang/String" (D.2 kT 0) (va_Pc (.ref (D.2 kT 0) :: As) (PB D T W0 H.size)) As :=
  ⟨PB.blind, vk_recv (adK := fun _ => D.2 kT 0) (i := 0) hZ.2.2.2 (by decide) hS, fun U hU hW => ⟨rfl, my_pre hP hK hNM hZ hD hS hA hC hnC U hU hW⟩⟩
theorem isb_n {r : Int32} (h : isb r = true) : narrow .boolean (.int r) = .int r := by
  unfold isb at h
  simp only [Bool.or_eq_true, beq_iff_eq] at h
  rcases h with rfl | rfl <;> rfl
end Calls
end MyBase
