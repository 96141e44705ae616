/-! PURE HEAD: guards, loops by fuel, pictures of Math. -/
/-- a double that is no NaN, decided -/
def n64 (r : UInt64) : Bool := decide (r &&& 0x7fffffffffffffff ≤ 0x7ff0000000000000)
/-- an index in range, decided -/
def vin (i : Int32) (n : Nat) : Bool := !(decide (i < 0) || decide (n ≤ i.toNatClampNeg))
/-- a loop by fuel: the body goes on by the continuation it is handed -/
def lp {σ β : Type} (body : σ → (σ → Option β) → Option β) : Nat → σ → Option β
  | 0, _ => none
  | n + 1, s => body s (lp body n)
theorem lp_0 {σ β : Type} {body : σ → (σ → Option β) → Option β} {s : σ} {R : β} (h : lp body 0 s = some R) {P : Prop} : P := by cases h
theorem lp_s {σ β : Type} {body : σ → (σ → Option β) → Option β} {n : Nat} {s : σ} {R : Option β} (h : lp body (n + 1) s = R) : body s (lp body n) = R := h
theorem ifp {α : Type} {c : Prop} [Decidable c] {a b R : α} (h : (if c then a else b) = R) (hc : c) : a = R := by rwa [if_pos hc] at h
theorem ifn {α : Type} {c : Prop} [Decidable c] {a b R : α} (h : (if c then a else b) = R) (hc : ¬ c) : b = R := by rwa [if_neg hc] at h
/-- a guard: what must hold for the run to go on -/
def gd {α : Type} (b : Bool) (x : Option α) : Option α := match b with
  | true => x
  | false => none
theorem gd_e {α : Type} {b : Bool} {x : Option α} {R : α} (h : gd b x = some R) : b = true ∧ x = some R := by
  cases b with
  | true => exact ⟨rfl, h⟩
  | false => cases h
/-- a call of a pure picture -/
def bd {α β : Type} (x : Option α) (k : α → Option β) : Option β := match x with
  | none => none
  | some a => k a
theorem bd_e {α β : Type} {x : Option α} {k : α → Option β} {R : β} (h : bd x k = some R) : ∃ a, x = some a ∧ k a = some R := by
  cases x with
  | none => cases h
  | some a => exact ⟨a, rfl, h⟩
/-- .. of one that may throw, by a method that may throw -/
def bx {α β : Type} (x : Option (String ⊕ α)) (k : α → Option (String ⊕ β)) : Option (String ⊕ β) := match x with
  | none => none
  | some (.inl E) => some (.inl E)
  | some (.inr a) => k a
theorem bx_r {α β : Type} {x : Option (String ⊕ α)} {k : α → Option (String ⊕ β)} {R : β} (h : bx x k = some (.inr R)) : ∃ a, x = some (.inr a) ∧ k a = some (.inr R) := by
  cases x with
  | none => cases h
  | some a => cases a with
    | inl E => cases h
    | inr a => exact ⟨a, rfl, h⟩
theorem bx_l {α β : Type} {x : Option (String ⊕ α)} {k : α → Option (String ⊕ β)} {E : String} (h : bx x k = some (.inl E)) : x = some (.inl E) ∨ ∃ a, x = some (.inr a) ∧ k a = some (.inl E) := by
  cases x with
  | none => cases h
  | some a => cases a with
    | inl E' => cases h; exact Or.inl rfl
    | inr a => exact Or.inr ⟨a, rfl, h⟩
/-- .. of one that may throw, where that must not be -/
def bn {α β : Type} (x : Option (String ⊕ α)) (k : α → Option β) : Option β := match x with
  | some (.inr a) => k a
  | _ => none
theorem bn_e {α β : Type} {x : Option (String ⊕ α)} {k : α → Option β} {R : β} (h : bn x k = some R) : ∃ a, x = some (.inr a) ∧ k a = some R := by
  cases x with
  | none => cases h
  | some a => cases a with
    | inl E' => cases h
    | inr a => exact ⟨a, rfl, h⟩
/-- .. of one that may throw, with its catches -/
def bt {α β : Type} (x : Option (String ⊕ α)) (kx : String → Option β) (k : α → Option β) : Option β := match x with
  | none => none
  | some (.inl E) => kx E
  | some (.inr a) => k a
theorem bt_e {α β : Type} {x : Option (String ⊕ α)} {kx : String → Option β} {k : α → Option β} {R : β} (h : bt x kx k = some R) : (∃ E, x = some (.inl E) ∧ kx E = some R) ∨ ∃ a, x = some (.inr a) ∧ k a = some R := by
  cases x with
  | none => cases h
  | some a => cases a with
    | inl E => exact Or.inl ⟨E, rfl, h⟩
    | inr a => exact Or.inr ⟨a, rfl, h⟩
theorem some_e {α : Type} {a b : α} (h : some a = some b) : a = b := Option.some.inj h
theorem inr_e {α : Type} {a b : α} (h : (some (.inr a) : Option (String ⊕ α)) = some (.inr b)) : a = b := Sum.inr.inj (Option.some.inj h)

def dabs (a : UInt64) : UInt64 := a &&& 0x7fffffffffffffff
def dmax (a b : UInt64) : UInt64 := Native.java_lang_Math.nans.pick64 true a b
def dmin (a b : UInt64) : UInt64 := Native.java_lang_Math.nans.pick64 false a b
def isb (r : Int32) : Bool := r == 0 || r == 1
