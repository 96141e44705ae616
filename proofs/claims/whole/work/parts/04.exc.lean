/-! MY EXCEPTIONS: a contract of a call that throws; what was there stays as it was. -/
section MyExc
abbrev exNames : List String := ["java/lang/RuntimeException", "java/lang/Exception"]
/-- thrown by name, the world as it was -/
def BX (D : va_G) (T : List (ClassId × FieldType)) (W0 : va_W) (A : Nat → Prop) (E : String) : String → State → State → Prop := vx_X (fun _ : Unit => True) (fun E' u t => E' = E ∧ PE D T W0 A u t) A
section FormsX
variable (l : Launch) (y : MethodName) (ws : List Cond) (rm : Room) (D : va_G) (T : List (ClassId × FieldType)) (args : List Value) (W0 : va_W)
def Xi (E : String) : Prop := ∀ sz : Nat, vx_Met l y ws rm (va_Pc args (PB D T W0 sz)) (va_Qi (fun (_ : Int32) (_ : Unit) => False) (fun _ _ => True) (va_A W0 sz)) (BX D T W0 (va_A W0 sz) E) 1 6 (va_A W0 sz)
def Xl (E : String) : Prop := ∀ sz : Nat, vx_Met l y ws rm (va_Pc args (PB D T W0 sz)) (va_Ql (fun (_ : Int64) (_ : Unit) => False) (fun _ _ => True) (va_A W0 sz)) (BX D T W0 (va_A W0 sz) E) 1 6 (va_A W0 sz)
def Xd (E : String) : Prop := ∀ sz : Nat, vx_Met l y ws rm (va_Pc args (PB D T W0 sz)) (va_Qd (fun (_ : UInt64) (_ : Unit) => False) (fun _ _ => True) (va_A W0 sz)) (BX D T W0 (va_A W0 sz) E) 1 6 (va_A W0 sz)
def Xv (E : String) : Prop := ∀ sz : Nat, vx_Met l y ws rm (va_Pc args (PB D T W0 sz)) (va_Qv (fun (_ : Unit) => False) (fun _ _ => True) (va_A W0 sz)) (BX D T W0 (va_A W0 sz) E) 1 6 (va_A W0 sz)
end FormsX
/-- at a throw: what its rows need -/
def ThrowIn (cc : ByteArray) (ws : List Cond) (own E text : String) (pc ik is ic : Nat) : Prop :=
  decode cc pc = .ok (.new ik, 3) ∧ decode cc (pc + 3) = .ok (.dup, 1) ∧ (decode cc (pc + 4) = .ok (.ldc is, 2) ∧ decode cc (pc + 6) = .ok (.invokespecial ic, 3) ∧ decode cc (pc + 9) = .ok (.athrow, 1) ∨ decode cc (pc + 4) = .ok (.ldc_w is, 3) ∧ decode cc (pc + 7) = .ok (.invokespecial ic, 3) ∧ decode cc (pc + 10) = .ok (.athrow, 1)) ∧
  Cond.classLink own ik E ∈ ws ∧ Cond.initialized E ∈ ws ∧ (∀ w ∈ (vx_atS own ic E exNames).filter goodWord, w ∈ ws) ∧ (∀ w ∈ (vx_atS own ic E exNames).filter (fun w => !goodWord w), w ∈ Cond.castable E E :: deL.map (fun x => Cond.declares x)) ∧
  (∀ w ∈ Cond.classLink own ik E :: Cond.initialized E :: vx_atS own ic E exNames, vx_ot w = true) ∧ E ∈ exL ∧ (own, is, text) ∈ txL
section StartsX
variable {l : Launch} {y : MethodName} {ws ws' : List Cond} {rm : Room} {D : va_G} {T : List (ClassId × FieldType)} {args : List Value} {W0 : va_W} {cc : ByteArray} {maxL : Nat} {ret : Option FieldType} {E : String} {sz : Nat} {Qc : Array Value → State → Outcome → State → Prop}
theorem sx_b (hst : l.stackTraces = false) (hy : plainName y.cls = true) (hw : ws = Cond.code y cc maxL ret :: ws') (hlen : (lg_sl args).length ≤ maxL) (hrc : 1 ≤ rm.cells) (hrs : 6 ≤ rm.slots)
    (body : ∀ (p : Program) (e : Env) (s : State) (m : MethodId) (av : Array Value) (below : List Frame) (meth : Method) (c : Code) (A : Nat → Prop) (Q : State → Prop) (ls : Array Slot),
      p.tables.exec = Jvm.exec → c.code = cc → c.maxLocals = maxL → (∀ w ∈ ws, w.before av s = true) → s.vm.findClass y.cls = some m.cls → (∀ q : Nat, s.heap.size ≤ q → A q) → va_K D vwCl T s → NM D s → ZS D A s s.heap →
      va_P D vwCl W0 s.heap → va_D A W0 → va_S A s.heap s.heap [] → lv_has ls maxL (lv_args 0 args) →
      (∀ (pc : Nat) (ls : Array Slot) (rest : List Value) (H : Heap) (locs : List Loc) (ce : Cell) (q : Addr), H[q]? = some ce → ce.vm = .none → s.vm.findClass E = some ce.cls → va_P D vwCl W0 H → va_D A W0 → va_S A s.heap H locs → vx_W p l e rm s m av below meth c H locs 1 6 Q (F0 m pc ls rest) q) →
      (∀ (pc : Nat) (ls : Array Slot) (H : Heap) (locs : List Loc) (ik is ic : Nat) (text : String), ThrowIn cc ws y.cls E text pc ik is ic → 5 < rm.frames → 82 ≤ rm.locals → Bundle.fit E = true → ls.size = maxL → va_P D vwCl W0 H → va_D A W0 → va_S A s.heap H locs → W p l e rm s m av below meth c H locs 0 0 Q (F0 m pc ls [])) →
      W p l e rm s m av below meth c s.heap [] 0 0 Q (F0 m 0 ls [])) : vx_Met l y ws rm (va_Pc args (PB D T W0 sz)) Qc (BX D T W0 (va_A W0 sz) E) 1 6 (va_A W0 sz) := by
  refine vx_ofW (cc := cc) (maxL := maxL) (ret := ret) hy hw ?_
  intro p e s m av below meth c s₁ B hml htab hv
  obtain ⟨rfl, rfl, hP, hK, hD0, hNM, hZ⟩ := hv
  have hlocks := B.notSynchronized
  have hD := hD0.self (sz := s.heap.size)
  have hl := lv_entry args (n := maxL) hlen
  rw [lg_entry_eq]
  generalize (lg_sl args ++ List.replicate (maxL - (lg_sl args).length) Slot.unset).toArray = ls at hl ⊢
  generalize hAe : va_A W0 s.heap.size = A at hD hZ ⊢
  have hA : ∀ q : Nat, s.heap.size ≤ q → A q := fun q h => by rw [← hAe]; exact Or.inr h
  have hts := atoms_spec (ws := ws) B.pre
  have hown := findClass_of_methodNamed B.named
  refine body p e s m _ below meth c A _ ls B.exec B.bytes hml hts hown hA hK hNM hZ hP hD va_S.rf hl ?_ ?_
  · intro pc ls rest H locs ce q h1 h2 h3 hP1 hD1 hS1
    exact vx_out (fun x hx => (htab x hx).elim) hlocks h1 h2 h3 (fun t ht hW => ⟨(), trivial, ⟨rfl, by rw [ht]; exact hP1, va_K.moved hW hK, hD1⟩, hS1.F ht⟩) hS1.2.2 (Nat.le_refl _) (Nat.le_refl _)
  · intro pc ls H locs ik is ic text hin hfr hlo hfit hls hP1 hD1 hS1
    obtain ⟨d0, d3, hd, w1, w2, w3, w4, w5, w6, w7⟩ := hin
    obtain ⟨sa, hsa⟩ := hNM.2.1.1 _ w7
    have hxx : ∀ t : State, s.vm.Alike t.vm → H.size ≤ t.heap.size → (∀ q : Nat, q < H.size → t.heap[q]? = H[q]?) → BX D T W0 A E E s t := fun t hW hz hq =>
      ⟨(), trivial, ⟨rfl, hP1.kept (fun k q hk => hq _ (vx_lt hP1 hk)), va_K.moved hW hK, hD1⟩, ⟨Nat.le_trans hS1.1 hz, fun q h1 h2 => (hq q (Nat.lt_of_lt_of_le h1 hS1.1)).trans (hS1.2.1 q h1 h2)⟩⟩
    have hat : ∀ w ∈ vx_atS y.cls ic E exNames, w.before _ s = true := vx_hat (B := Cond.castable E E :: deL.map (fun x => Cond.declares x)) (fun w hw => hts w (w3 w hw)) w4 (fun w hw => by
      rcases List.mem_cons.mp hw with rfl | hw
      · exact va_Nw.use rfl (hNM.2.2.1 _ w6)
      · obtain ⟨x, hx, rfl⟩ := List.mem_map.mp hw
        exact va_Nw.use rfl (hNM.2.2.2.1 _ hx))
    have hnames : ∀ n ∈ exNames, Bundle.fit n = true := by decide +kernel
    rcases hd with ⟨d4, d6, d9⟩ | ⟨d4, d6, d9⟩
    · exact vx_throwS B.exec B.bytes hst hown hfit hnames (hts _ w1) (hts _ w2) hsa hat w5 hZ.1 hZ.2.1 hS1 (hls.trans hml.symm) d0 d3 d4 d6 d9 (fun x hx => (htab x hx).elim) hfr hlo hrc hrs hlocks hxx hS1.2.2 (Nat.le_refl _) (Nat.le_refl _)
    · exact vx_throwSW B.exec B.bytes hst hown hfit hnames (hts _ w1) (hts _ w2) hsa hat w5 hZ.1 hZ.2.1 hS1 (hls.trans hml.symm) d0 d3 d4 d6 d9 (fun x hx => (htab x hx).elim) hfr hlo hrc hrs hlocks hxx hS1.2.2 (Nat.le_refl _) (Nat.le_refl _)
end StartsX
section CallsX
variable {p : Program} {l : Launch} {e : Env} {R : Room} {s : State} {m : MethodId} {av : Array Value} {below : List Frame} {meth : Method} {c : Code} {H : Heap} {locs : List Loc} {cells slots mc ms : Nat} {Q : State → Prop} {pc : Nat} {ls : Array Slot} {rest st0 : List Value} {D : va_G} {T : List (ClassId × FieldType)} {ws wr W0 : va_W} {A : Nat → Prop} {H0 : Heap} {a : Array Value} {E : String}
theorem xj (hP : va_P D vwCl ws H) (hD : va_D A ws) (hS : va_S A H0 H locs) (hA : ∀ q, H0.size ≤ q → A q) (isC isR isF : List Nat) (hC : isC.map (fun i => ws[i]?) = W0.map some) (hR : isR.map (fun i => ws[i]?) = wr.map some) (hF : isF.map (fun i => (wr ++ W0)[i]?) = ws.map some) (hn : va_nd isR = true) (hnF : va_nd isF = true) (hdis : ∀ i ∈ isR, i ∉ isC)
    (kx : ∀ (ce : Cell) (q9 : Addr) (H1 : Heap) (locs1 : List Loc), va_P D vwCl ws H1 → va_D A ws → va_S A H0 H1 locs1 → H1[q9]? = some ce → ce.vm = .none → s.vm.findClass E = some ce.cls → vx_W p l e R s m av below meth c H1 locs1 (cells + mc) (slots + ms) Q (F0 m pc ls rest) q9) :
    ∀ (E2 : String) (ce : Cell) (q9 : Addr) (u : Unit) (t : State) (H1 : Heap) (locs1 : List Loc), t.heap = H1 → s.vm.Alike t.vm → (fun _ : Unit => True) u → (fun E' u t => E' = E ∧ PE D T W0 (va_A W0 H.size) u t) E2 u t → H.size ≤ H1.size → (∀ q : Nat, q < H.size → ¬ va_A W0 H.size q → H1[q]? = H[q]?) → va_S A H0 H1 locs1 → H1[q9]? = some ce → ce.vm = .none → s.vm.findClass E2 = some ce.cls → vx_W p l e R s m av below meth c H1 locs1 (cells + mc) (slots + ms) Q (F0 m pc ls rest) q9 := by
  intro E2 ce q9 u t H1 locs1 ht hvm _ hB hz1 hk1 hS1 h1 h2 h3
  obtain ⟨rfl, hP1, hK1, hD1⟩ := hB
  rw [ht] at hP1
  obtain ⟨g1, g2⟩ := my_join hP hD hS hA isC isR isF hC hR hF hn hnF hdis hk1 hP1 hD1
  exact kx ce q9 H1 locs1 g1 g2 hS1 h1 h2 h3
theorem cx_i (hr : vx_Run p l e R s m av below meth c H locs cells slots mc ms (F0 m pc ls st0) rest (va_Qi (fun (_ : Int32) (_ : Unit) => False) (fun _ _ => True) (va_A W0 H.size) a) (BX D T W0 (va_A W0 H.size) E) (va_A W0 H.size)) (hP : va_P D vwCl ws H) (hD : va_D A ws) (hS : va_S A H0 H locs) (hA : ∀ q, H0.size ≤ q → A q) (isC isR isF : List Nat) (hC : isC.map (fun i => ws[i]?) = W0.map some) (hR : isR.map (fun i => ws[i]?) = wr.map some) (hF : isF.map (fun i => (wr ++ W0)[i]?) = ws.map some) (hn : va_nd isR = true) (hnF : va_nd isF = true) (hdis : ∀ i ∈ isR, i ∉ isC)
    (kx : ∀ (ce : Cell) (q9 : Addr) (H1 : Heap) (locs1 : List Loc), va_P D vwCl ws H1 → va_D A ws → va_S A H0 H1 locs1 → H1[q9]? = some ce → ce.vm = .none → s.vm.findClass E = some ce.cls → vx_W p l e R s m av below meth c H1 locs1 (cells + mc) (slots + ms) Q (F0 m pc ls rest) q9) : W p l e R s m av below meth c H locs cells slots Q (F0 m pc ls st0) := by
  have hFc := va_free (wc := W0) hD hS hA isC hC
  exact vx_calli hr hS (fun q _ h => hFc q h) hFc (fun q _ h => hFc q h) (xj hP hD hS hA isC isR isF hC hR hF hn hnF hdis kx) (fun _ _ _ _ _ _ _ hw _ _ _ _ => hw.elim)
theorem cx_l (hr : vx_Run p l e R s m av below meth c H locs cells slots mc ms (F0 m pc ls st0) rest (va_Ql (fun (_ : Int64) (_ : Unit) => False) (fun _ _ => True) (va_A W0 H.size) a) (BX D T W0 (va_A W0 H.size) E) (va_A W0 H.size)) (hP : va_P D vwCl ws H) (hD : va_D A ws) (hS : va_S A H0 H locs) (hA : ∀ q, H0.size ≤ q → A q) (isC isR isF : List Nat) (hC : isC.map (fun i => ws[i]?) = W0.map some) (hR : isR.map (fun i => ws[i]?) = wr.map some) (hF : isF.map (fun i => (wr ++ W0)[i]?) = ws.map some) (hn : va_nd isR = true) (hnF : va_nd isF = true) (hdis : ∀ i ∈ isR, i ∉ isC)
    (kx : ∀ (ce : Cell) (q9 : Addr) (H1 : Heap) (locs1 : List Loc), va_P D vwCl ws H1 → va_D A ws → va_S A H0 H1 locs1 → H1[q9]? = some ce → ce.vm = .none → s.vm.findClass E = some ce.cls → vx_W p l e R s m av below meth c H1 locs1 (cells + mc) (slots + ms) Q (F0 m pc ls rest) q9) : W p l e R s m av below meth c H locs cells slots Q (F0 m pc ls st0) := by
  have hFc := va_free (wc := W0) hD hS hA isC hC
  exact vx_calll hr hS (fun q _ h => hFc q h) hFc (fun q _ h => hFc q h) (xj hP hD hS hA isC isR isF hC hR hF hn hnF hdis kx) (fun _ _ _ _ _ _ _ hw _ _ _ _ => hw.elim)
theorem cx_d (hr : vx_Run p l e R s m av below meth c H locs cells slots mc ms (F0 m pc ls st0) rest (va_Qd (fun (_ : UInt64) (_ : Unit) => False) (fun _ _ => True) (va_A W0 H.size) a) (BX D T W0 (va_A W0 H.size) E) (va_A W0 H.size)) (hP : va_P D vwCl ws H) (hD : va_D A ws) (hS : va_S A H0 H locs) (hA : ∀ q, H0.size ≤ q → A q) (isC isR isF : List Nat) (hC : isC.map (fun i => ws[i]?) = W0.map some) (hR : isR.map (fun i => ws[i]?) = wr.map some) (hF : isF.map (fun i => (wr ++ W0)[i]?) = ws.map some) (hn : va_nd isR = true) (hnF : va_nd isF = true) (hdis : ∀ i ∈ isR, i ∉ isC)
    (kx : ∀ (ce : Cell) (q9 : Addr) (H1 : Heap) (locs1 : List Loc), va_P D vwCl ws H1 → va_D A ws → va_S A H0 H1 locs1 → H1[q9]? = some ce → ce.vm = .none → s.vm.findClass E = some ce.cls → vx_W p l e R s m av below meth c H1 locs1 (cells + mc) (slots + ms) Q (F0 m pc ls rest) q9) : W p l e R s m av below meth c H locs cells slots Q (F0 m pc ls st0) := by
  have hFc := va_free (wc := W0) hD hS hA isC hC
  exact vx_calld hr hS (fun q _ h => hFc q h) hFc (fun q _ h => hFc q h) (xj hP hD hS hA isC isR isF hC hR hF hn hnF hdis kx) (fun _ _ _ _ _ _ _ hw _ _ _ _ => hw.elim)
theorem cx_v (hr : vx_Run p l e R s m av below meth c H locs cells slots mc ms (F0 m pc ls st0) rest (va_Qv (fun (_ : Unit) => False) (fun _ _ => True) (va_A W0 H.size) a) (BX D T W0 (va_A W0 H.size) E) (va_A W0 H.size)) (hP : va_P D vwCl ws H) (hD : va_D A ws) (hS : va_S A H0 H locs) (hA : ∀ q, H0.size ≤ q → A q) (isC isR isF : List Nat) (hC : isC.map (fun i => ws[i]?) = W0.map some) (hR : isR.map (fun i => ws[i]?) = wr.map some) (hF : isF.map (fun i => (wr ++ W0)[i]?) = ws.map some) (hn : va_nd isR = true) (hnF : va_nd isF = true) (hdis : ∀ i ∈ isR, i ∉ isC)
    (kx : ∀ (ce : Cell) (q9 : Addr) (H1 : Heap) (locs1 : List Loc), va_P D vwCl ws H1 → va_D A ws → va_S A H0 H1 locs1 → H1[q9]? = some ce → ce.vm = .none → s.vm.findClass E = some ce.cls → vx_W p l e R s m av below meth c H1 locs1 (cells + mc) (slots + ms) Q (F0 m pc ls rest) q9) : W p l e R s m av below meth c H locs cells slots Q (F0 m pc ls st0) := by
  have hFc := va_free (wc := W0) hD hS hA isC hC
  exact vx_callv hr hS (fun q _ h => hFc q h) hFc (fun q _ h => hFc q h) (xj hP hD hS hA isC isR isF hC hR hF hn hnF hdis kx) (fun _ _ _ _ _ _ hw _ _ _ _ => hw.elim)
end CallsX
end MyExc
