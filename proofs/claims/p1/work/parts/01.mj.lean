/-! THE SMALL MACHINE. A method of the class or of the reference is run over a store (address to cell), by its own bytes; part 02 shows that the machine does what the small machine does. A store: the next address, the slots that were made so far, the cells. -/
abbrev mj_S : Type := Nat × Nat × (Nat → Option va_E)
/-- a frame: pc, locals, operand stack, store -/
abbrev mj_F : Type := Nat × List (Option Value) × List Value × mj_S
/-- what a step comes to: a frame; an answer; an exception; a call (method, its arguments, the frame behind it without the answer) -/
abbrev mj_O : Type := mj_F ⊕ (Option Value ⊕ (String ⊕ (Nat × List Value × mj_F)))
/-- of a method's number: its class's place, code, locals, answer's type, its kind (0 virtual, 1 static, 2 a constructor), arguments on the stack, frames and words below it -/
abbrev mj_TM : Type := (Nat → Nat) × (Nat → ByteArray) × (Nat → Nat) × (Nat → Option FieldType) × (Nat → Nat) × (Nat → Nat) × (Nat → Nat) × (Nat → Nat)
/-- of a class's place and a pool entry: a field (class's place, slot, final), a method's number, a class's place ('new'), a class's place ('anewarray'), a constant; of a method and the pc behind a throw's first instruction: the exception's class; and the fields' types of a class's place -/
abbrev mj_TL : Type := (Nat → Nat → Option (Nat × Nat × Bool)) × (Nat → Nat → Option Nat) × (Nat → Nat → Option Nat) × (Nat → Nat → Option Nat) × (Nat → Nat → Option Int32) × (Nat → Nat → Option String) × (Nat → List FieldType)
/-- and the classes whose objects lie in arrays; the classes of arrays: 0 int[], 1 boolean[], 2 + c an array of class c's objects -/
abbrev mj_T : Type := mj_TM × mj_TL × List Nat × (Nat → ClassId)
def mj_o (Θ : mj_T) : Nat → Nat := Θ.1.1
def mj_cc (Θ : mj_T) : Nat → ByteArray := Θ.1.2.1
def mj_mL (Θ : mj_T) : Nat → Nat := Θ.1.2.2.1
def mj_rt (Θ : mj_T) : Nat → Option FieldType := Θ.1.2.2.2.1
def mj_kd (Θ : mj_T) : Nat → Nat := Θ.1.2.2.2.2.1
def mj_na (Θ : mj_T) : Nat → Nat := Θ.1.2.2.2.2.2.1
def mj_fr (Θ : mj_T) : Nat → Nat := Θ.1.2.2.2.2.2.2.1
def mj_lo (Θ : mj_T) : Nat → Nat := Θ.1.2.2.2.2.2.2.2
def mj_fl (Θ : mj_T) : Nat → Nat → Option (Nat × Nat × Bool) := Θ.2.1.1
def mj_ml (Θ : mj_T) : Nat → Nat → Option Nat := Θ.2.1.2.1
def mj_nl (Θ : mj_T) : Nat → Nat → Option Nat := Θ.2.1.2.2.1
def mj_al (Θ : mj_T) : Nat → Nat → Option Nat := Θ.2.1.2.2.2.1
def mj_kl (Θ : mj_T) : Nat → Nat → Option Int32 := Θ.2.1.2.2.2.2.1
def mj_xl (Θ : mj_T) : Nat → Nat → Option String := Θ.2.1.2.2.2.2.2.1
def mj_ty (Θ : mj_T) : Nat → List FieldType := Θ.2.1.2.2.2.2.2.2
def mj_ak (Θ : mj_T) : List Nat := Θ.2.2.1
def mj_ar (Θ : mj_T) : Nat → ClassId := Θ.2.2.2
/-- the cells with one changed -/
def mj_up (σ : mj_S) (a : Nat) (e : va_E) : mj_S := (σ.1, σ.2.1, fun b => if b = a then some e else σ.2.2 b)
/-- a new cell of n slots -/
def mj_add (σ : mj_S) (n : Nat) (e : va_E) : mj_S := (σ.1 + 1, σ.2.1 + n, fun b => if b = σ.1 then some e else σ.2.2 b)
def mj_nx (f : mj_F) : Option mj_O := some (.inl f)
def mj_j (pc : Nat) (off : Int) (L : List (Option Value)) (st : List Value) (σ : mj_S) : Option mj_O :=
  if 0 ≤ (pc : Int) + off then mj_nx (((pc : Int) + off).toNat, L, st, σ) else none
def mj_ldi (j q : Nat) (L : List (Option Value)) (st : List Value) (σ : mj_S) : Option mj_O := match L[j]? with
  | some (some (.int x)) => mj_nx (q, L, .int x :: st, σ)
  | _ => none
def mj_lda (j q : Nat) (L : List (Option Value)) (st : List Value) (σ : mj_S) : Option mj_O := match L[j]? with
  | some (some (.ref x)) => mj_nx (q, L, .ref x :: st, σ)
  | some (some .null) => mj_nx (q, L, .null :: st, σ)
  | _ => none
def mj_sti (j q : Nat) (L : List (Option Value)) (st : List Value) (σ : mj_S) : Option mj_O := match st with
  | .int x :: r => if j < L.length then mj_nx (q, L.set j (some (.int x)), r, σ) else none
  | _ => none
def mj_sta (j q : Nat) (L : List (Option Value)) (st : List Value) (σ : mj_S) : Option mj_O := match st with
  | .ref x :: r => if j < L.length then mj_nx (q, L.set j (some (.ref x)), r, σ) else none
  | .null :: r => if j < L.length then mj_nx (q, L.set j (some .null), r, σ) else none
  | _ => none
def mj_b2 (f : Int32 → Int32 → Option Int32) (q : Nat) (L : List (Option Value)) (st : List Value) (σ : mj_S) : Option mj_O := match st with
  | .int y :: .int x :: r => match f x y with
    | some z => mj_nx (q, L, .int z :: r, σ)
    | none => none
  | _ => none
def mj_iif (c : ClassFile.Cond) (x y : Int32) : Bool := match c with
  | .eq => decide (x = y)
  | .ne => decide (¬ x = y)
  | .lt => decide (x < y)
  | .ge => decide (y ≤ x)
  | .gt => decide (y < x)
  | .le => decide (x ≤ y)
def mj_get (Θ : mj_T) (k ix q : Nat) (L : List (Option Value)) (st : List Value) (σ : mj_S) : Option mj_O := match st with
  | .ref a :: r => match mj_fl Θ (mj_o Θ k) ix with
    | some (ci, j, _) => match σ.2.2 a with
      | some (.inr (cj, fs)) => if cj = ci then (match fs[j]? with
        | some v => mj_nx (q, L, v :: r, σ)
        | none => none) else none
      | _ => none
    | none => none
  | _ => none
/-- the value fits the field's type as it is -/
def mj_fit (t : Option FieldType) (v : Value) : Bool := match t with
  | some .int => match v with
    | .int _ => true
    | _ => false
  | some .boolean => match v with
    | .int x => decide (x = 0 ∨ x = 1)
    | _ => false
  | some (.object _) => match v with
    | .ref _ => true
    | .null => true
    | _ => false
  | some (.array _) => match v with
    | .ref _ => true
    | .null => true
    | _ => false
  | _ => false
def mj_put (Θ : mj_T) (k ix q : Nat) (L : List (Option Value)) (st : List Value) (σ : mj_S) : Option mj_O := match st with
  | v :: .ref a :: r => match mj_fl Θ (mj_o Θ k) ix with
    | some (ci, j, fin) => match σ.2.2 a with
      | some (.inr (cj, fs)) => if cj = ci ∧ j < fs.length ∧ mj_fit (mj_ty Θ ci)[j]? v = true ∧ (fin = false ∨ (mj_kd Θ k = 2 ∧ ci = mj_o Θ k)) then mj_nx (q, L, r, mj_up σ a (.inr (ci, fs.set j v))) else none
      | _ => none
    | none => none
  | _ => none
/-- i is in the row of n -/
def mj_ix (i : Int32) (n : Nat) : Bool := !(decide (i < 0) || decide (n ≤ i.toNatClampNeg))
/-- an array of objects; an array -/
def mj_kr (Θ : mj_T) (cA : ClassId) : Bool := (mj_ak Θ).any (fun c => decide (cA = mj_ar Θ (2 + c)))
def mj_ka (Θ : mj_T) (cA : ClassId) : Bool := decide (cA = mj_ar Θ 0) || decide (cA = mj_ar Θ 1) || mj_kr Θ cA
def mj_iald (Θ : mj_T) (t q : Nat) (L : List (Option Value)) (st : List Value) (σ : mj_S) : Option mj_O := match st with
  | .int i :: .ref a :: r => match σ.2.2 a with
    | some (.inl (cA, n, .inl f)) => if cA = mj_ar Θ t ∧ mj_ix i n = true then mj_nx (q, L, .int (f i.toNatClampNeg) :: r, σ) else none
    | _ => none
  | _ => none
def mj_iast (Θ : mj_T) (q : Nat) (L : List (Option Value)) (st : List Value) (σ : mj_S) : Option mj_O := match st with
  | .int x :: .int i :: .ref a :: r => match σ.2.2 a with
    | some (.inl (cA, n, .inl f)) => if cA = mj_ar Θ 0 ∧ mj_ix i n = true then mj_nx (q, L, r, mj_up σ a (.inl (cA, n, .inl (upd f i.toNatClampNeg x)))) else none
    | _ => none
  | _ => none
def mj_zast (Θ : mj_T) (q : Nat) (L : List (Option Value)) (st : List Value) (σ : mj_S) : Option mj_O := match st with
  | .int x :: .int i :: .ref a :: r => match σ.2.2 a with
    | some (.inl (cA, n, .inl f)) => if cA = mj_ar Θ 1 ∧ mj_ix i n = true ∧ (x = 0 ∨ x = 1) then mj_nx (q, L, r, mj_up σ a (.inl (cA, n, .inl (upd f i.toNatClampNeg x)))) else none
    | _ => none
  | _ => none
def mj_aald (Θ : mj_T) (q : Nat) (L : List (Option Value)) (st : List Value) (σ : mj_S) : Option mj_O := match st with
  | .int i :: .ref a :: r => match σ.2.2 a with
    | some (.inl (cA, n, .inr (.inr (.inr (.inr f))))) => if mj_kr Θ cA = true ∧ mj_ix i n = true then mj_nx (q, L, va_rf (f i.toNatClampNeg) :: r, σ) else none
    | _ => none
  | _ => none
def mj_aast (Θ : mj_T) (q : Nat) (L : List (Option Value)) (st : List Value) (σ : mj_S) : Option mj_O := match st with
  | .ref v :: .int i :: .ref a :: r => match σ.2.2 v with
    | some (.inr (ci, _)) => match σ.2.2 a with
      | some (.inl (cA, n, .inr (.inr (.inr (.inr f))))) => if cA = mj_ar Θ (2 + ci) ∧ ci ∈ mj_ak Θ ∧ mj_ix i n = true then mj_nx (q, L, r, mj_up σ a (.inl (cA, n, .inr (.inr (.inr (.inr (va_up f i.toNatClampNeg (some v)))))))) else none
      | _ => none
    | _ => none
  | .null :: .int i :: .ref a :: r => match σ.2.2 a with
    | some (.inl (cA, n, .inr (.inr (.inr (.inr f))))) => if mj_kr Θ cA = true ∧ mj_ix i n = true then mj_nx (q, L, r, mj_up σ a (.inl (cA, n, .inr (.inr (.inr (.inr (va_up f i.toNatClampNeg none))))))) else none
    | _ => none
  | _ => none
def mj_alen (Θ : mj_T) (q : Nat) (L : List (Option Value)) (st : List Value) (σ : mj_S) : Option mj_O := match st with
  | .ref a :: r => match σ.2.2 a with
    | some (.inl (cA, x)) => if mj_ka Θ cA = true then mj_nx (q, L, .int (Int32.ofNat x.1) :: r, σ) else none
    | _ => none
  | _ => none
def mj_newa (Θ : mj_T) (t : Nat) (q : Nat) (L : List (Option Value)) (st : List Value) (σ : mj_S) : Option mj_O := match st with
  | .int n :: r => if ¬ n < 0 ∧ n.toNatClampNeg ≤ 1000000 then mj_nx (q, L, .ref σ.1 :: r, mj_add σ n.toNatClampNeg (.inl (mj_ar Θ t, n.toNatClampNeg, .inl (fun _ => 0)))) else none
  | _ => none
def mj_anew (Θ : mj_T) (k ix q : Nat) (L : List (Option Value)) (st : List Value) (σ : mj_S) : Option mj_O := match st with
  | .int n :: r => match mj_al Θ (mj_o Θ k) ix with
    | some ci => if ci ∈ mj_ak Θ ∧ ¬ n < 0 ∧ n.toNatClampNeg ≤ 1000000 then mj_nx (q, L, .ref σ.1 :: r, mj_add σ n.toNatClampNeg (.inl (mj_ar Θ (2 + ci), n.toNatClampNeg, .inr (.inr (.inr (.inr (fun _ => none))))))) else none
    | none => none
  | _ => none
def mj_new (Θ : mj_T) (k ix q : Nat) (L : List (Option Value)) (st : List Value) (σ : mj_S) : Option mj_O := match mj_nl Θ (mj_o Θ k) ix with
  | some ci => mj_nx (q, L, .ref σ.1 :: st, mj_add σ (mj_ty Θ ci).length (.inr (ci, (mj_ty Θ ci).map defaultValue)))
  | none => match mj_xl Θ k q with
    | some E => match st with
      | [] => some (.inr (.inr (.inl E)))
      | _ => none
    | none => none
/-- System.arraycopy over two rows of ints -/
def mj_cpy (Θ : mj_T) (q : Nat) (L : List (Option Value)) (st : List Value) (σ : mj_S) : Option mj_O := match st with
  | .int n :: .int dp :: .ref b :: .int sp :: .ref a :: r => match σ.2.2 a with
    | some (.inl (c0, n0, .inl f)) => match σ.2.2 b with
      | some (.inl (c1, n1, .inl g)) => if c0 = mj_ar Θ 0 ∧ c1 = mj_ar Θ 0 ∧ ¬ a = b ∧ ¬ sp < 0 ∧ ¬ dp < 0 ∧ ¬ n < 0 ∧ sp.toNatClampNeg + n.toNatClampNeg ≤ n0 ∧ dp.toNatClampNeg + n.toNatClampNeg ≤ n1 ∧ (r.map fun v => v.category) = r.map (fun _ => 1) ∧ r.length ≤ 8 then mj_nx (q, L, r, mj_up σ b (.inl (c1, n1, .inl (va_cpy f g sp.toNatClampNeg dp.toNatClampNeg n.toNatClampNeg)))) else none
      | _ => none
    | _ => none
  | _ => none
/-- Math.max, Math.min -/
def mj_mm (f : Int32 → Int32 → Int32) (q : Nat) (L : List (Option Value)) (st : List Value) (σ : mj_S) : Option mj_O := match st with
  | .int y :: .int x :: r => if (r.map fun v => v.category) = r.map (fun _ => 1) ∧ r.length ≤ 8 then mj_nx (q, L, .int (f x y) :: r, σ) else none
  | _ => none
/-- a call of method y of the kind d (998 is Object's constructor, 999 System.arraycopy, 997 Math.max, 996 Math.min): the receiver of a virtual one is an object of its class -/
def mj_rcv (Θ : mj_T) (d y : Nat) (as : List Value) (σ : mj_S) : Bool := match d with
  | 0 => match as with
    | .ref b :: _ => match σ.2.2 b with
      | some (.inr (ci, _)) => decide (ci = mj_o Θ y)
      | _ => false
    | _ => false
  | 1 => true
  | 2 => match as with
    | .ref _ :: _ => true
    | _ => false
  | _ => false
def mj_call (Θ : mj_T) (d k y q : Nat) (L : List (Option Value)) (st : List Value) (σ : mj_S) : Option mj_O :=
  if y < 900 ∧ mj_kd Θ y = d ∧ mj_na Θ y ≤ st.length ∧ mj_fr Θ y + 1 ≤ mj_fr Θ k ∧ 8 + (mj_mL Θ y + 11) + mj_lo Θ y ≤ mj_lo Θ k ∧ (st.map fun v => v.category) = st.map (fun _ => 1) ∧ st.length ≤ mj_na Θ y + 8 ∧ mj_rcv Θ d y (st.take (mj_na Θ y)).reverse σ = true then
    some (.inr (.inr (.inr (y, (st.take (mj_na Θ y)).reverse, (q, L, st.drop (mj_na Θ y), σ))))) else none
def mj_i (Θ : mj_T) (k : Nat) (i : Instr) (len pc : Nat) (L : List (Option Value)) (st : List Value) (σ : mj_S) : Option mj_O := match i with
  | .aconst_null => if len = 1 then mj_nx (pc + 1, L, .null :: st, σ) else none
  | .iconst n => if len = 1 then mj_nx (pc + 1, L, .int (Int32.ofInt n) :: st, σ) else none
  | .bipush n => if len = 2 then mj_nx (pc + 2, L, .int (Int8.ofInt n).toInt32 :: st, σ) else none
  | .sipush n => if len = 3 then mj_nx (pc + 3, L, .int (Int16.ofInt n).toInt32 :: st, σ) else none
  | .ldc ix => if len = 2 then (match mj_kl Θ (mj_o Θ k) ix with
    | some v => mj_nx (pc + 2, L, .int v :: st, σ)
    | none => none) else none
  | .ldc_w ix => if len = 3 then (match mj_kl Θ (mj_o Θ k) ix with
    | some v => mj_nx (pc + 3, L, .int v :: st, σ)
    | none => none) else none
  | .iload_n j => if len = 1 then mj_ldi j.val (pc + 1) L st σ else none
  | .iload j => if len = 2 then mj_ldi j (pc + 2) L st σ else none
  | .aload_n j => if len = 1 then mj_lda j.val (pc + 1) L st σ else none
  | .aload j => if len = 2 then mj_lda j (pc + 2) L st σ else none
  | .istore_n j => if len = 1 then mj_sti j.val (pc + 1) L st σ else none
  | .istore j => if len = 2 then mj_sti j (pc + 2) L st σ else none
  | .astore_n j => if len = 1 then mj_sta j.val (pc + 1) L st σ else none
  | .astore j => if len = 2 then mj_sta j (pc + 2) L st σ else none
  | .iinc j n => if len = 3 then (match L[j]? with
    | some (some (.int x)) => mj_nx (pc + 3, L.set j (some (.int (x + Int32.ofInt n))), st, σ)
    | _ => none) else none
  | .iadd => if len = 1 then mj_b2 (fun x y => some (x + y)) (pc + 1) L st σ else none
  | .isub => if len = 1 then mj_b2 (fun x y => some (x - y)) (pc + 1) L st σ else none
  | .imul => if len = 1 then mj_b2 (fun x y => some (x * y)) (pc + 1) L st σ else none
  | .iand => if len = 1 then mj_b2 (fun x y => some (x &&& y)) (pc + 1) L st σ else none
  | .ior => if len = 1 then mj_b2 (fun x y => some (x ||| y)) (pc + 1) L st σ else none
  | .ixor => if len = 1 then mj_b2 (fun x y => some (x ^^^ y)) (pc + 1) L st σ else none
  | .idiv => if len = 1 then mj_b2 (fun x y => if y = 0 then none else some (x / y)) (pc + 1) L st σ else none
  | .irem => if len = 1 then mj_b2 (fun x y => if y = 0 then none else some (x - x / y * y)) (pc + 1) L st σ else none
  | .ishl => if len = 1 then mj_b2 (fun x y => some (x <<< (y &&& 31))) (pc + 1) L st σ else none
  | .ishr => if len = 1 then mj_b2 (fun x y => some (x >>> (y &&& 31))) (pc + 1) L st σ else none
  | .iushr => if len = 1 then mj_b2 (fun x y => some (x.toUInt32 >>> (y.toUInt32 &&& Int32.toUInt32 31)).toInt32) (pc + 1) L st σ else none
  | .dup => if len = 1 then (match st with
    | .int x :: r => mj_nx (pc + 1, L, .int x :: .int x :: r, σ)
    | .ref x :: r => mj_nx (pc + 1, L, .ref x :: .ref x :: r, σ)
    | _ => none) else none
  | .dup2 => if len = 1 then (match st with
    | .int y :: .int x :: r => mj_nx (pc + 1, L, .int y :: .int x :: .int y :: .int x :: r, σ)
    | .int y :: .ref x :: r => mj_nx (pc + 1, L, .int y :: .ref x :: .int y :: .ref x :: r, σ)
    | _ => none) else none
  | .pop => if len = 1 then (match st with
    | .int _ :: r => mj_nx (pc + 1, L, r, σ)
    | .ref _ :: r => mj_nx (pc + 1, L, r, σ)
    | .null :: r => mj_nx (pc + 1, L, r, σ)
    | _ => none) else none
  | .goto off => if len = 3 then mj_j pc off L st σ else none
  | .ifCond c off => if len = 3 ∧ 0 ≤ (pc : Int) + off then (match st with
    | .int x :: r => if mj_iif c x 0 = true then mj_j pc off L r σ else mj_nx (pc + 3, L, r, σ)
    | _ => none) else none
  | .if_icmp c off => if len = 3 ∧ 0 ≤ (pc : Int) + off then (match st with
    | .int y :: .int x :: r => if mj_iif c x y = true then mj_j pc off L r σ else mj_nx (pc + 3, L, r, σ)
    | _ => none) else none
  | .ifnull off => if len = 3 then (match st with
    | .null :: r => mj_j pc off L r σ
    | .ref _ :: r => mj_nx (pc + 3, L, r, σ)
    | _ => none) else none
  | .ifnonnull off => if len = 3 then (match st with
    | .null :: r => mj_nx (pc + 3, L, r, σ)
    | .ref _ :: r => mj_j pc off L r σ
    | _ => none) else none
  | .tableswitch dflt lo hi offs => match st with
    | .int x :: r => if x.toInt < lo ∨ hi < x.toInt then mj_j pc dflt L r σ else (match offs[(x.toInt - lo).toNat]? with
      | some off => mj_j pc off L r σ
      | none => none)
    | _ => none
  | .getfield ix => if len = 3 then mj_get Θ k ix (pc + 3) L st σ else none
  | .putfield ix => if len = 3 then mj_put Θ k ix (pc + 3) L st σ else none
  | .iaload => if len = 1 then mj_iald Θ 0 (pc + 1) L st σ else none
  | .baload => if len = 1 then mj_iald Θ 1 (pc + 1) L st σ else none
  | .aaload => if len = 1 then mj_aald Θ (pc + 1) L st σ else none
  | .iastore => if len = 1 then mj_iast Θ (pc + 1) L st σ else none
  | .bastore => if len = 1 then mj_zast Θ (pc + 1) L st σ else none
  | .aastore => if len = 1 then mj_aast Θ (pc + 1) L st σ else none
  | .arraylength => if len = 1 then mj_alen Θ (pc + 1) L st σ else none
  | .newarray t => if len = 2 then (match t with
    | .int => mj_newa Θ 0 (pc + 2) L st σ
    | .boolean => mj_newa Θ 1 (pc + 2) L st σ
    | _ => none) else none
  | .anewarray ix => if len = 3 then mj_anew Θ k ix (pc + 3) L st σ else none
  | .new ix => if len = 3 then mj_new Θ k ix (pc + 3) L st σ else none
  | .invokespecial ix => if len = 3 then (match mj_ml Θ (mj_o Θ k) ix with
    | some 998 => (match st with
      | .ref _ :: r => if (r.map fun v => v.category) = r.map (fun _ => 1) ∧ r.length ≤ 8 ∧ 1 ≤ mj_fr Θ k ∧ 20 ≤ mj_lo Θ k then mj_nx (pc + 3, L, r, σ) else none
      | _ => none)
    | some y => mj_call Θ 2 k y (pc + 3) L st σ
    | none => none) else none
  | .invokevirtual ix => if len = 3 then (match mj_ml Θ (mj_o Θ k) ix with
    | some y => mj_call Θ 0 k y (pc + 3) L st σ
    | none => none) else none
  | .invokestatic ix => if len = 3 then (match mj_ml Θ (mj_o Θ k) ix with
    | some 999 => if 1 ≤ mj_fr Θ k ∧ 100 ≤ mj_lo Θ k then mj_cpy Θ (pc + 3) L st σ else none
    | some 997 => if 1 ≤ mj_fr Θ k ∧ 30 ≤ mj_lo Θ k then mj_mm (fun x y => if x < y then y else x) (pc + 3) L st σ else none
    | some 996 => if 1 ≤ mj_fr Θ k ∧ 30 ≤ mj_lo Θ k then mj_mm (fun x y => if y < x then y else x) (pc + 3) L st σ else none
    | some y => mj_call Θ 1 k y (pc + 3) L st σ
    | none => none) else none
  | .ireturn => if len = 1 then (match st with
    | [.int x] => if mj_fit (mj_rt Θ k) (.int x) = true then some (.inr (.inl (some (.int x)))) else none
    | _ => none) else none
  | .areturn => if len = 1 then (match st with
    | [.ref a] => if mj_fit (mj_rt Θ k) (.ref a) = true then some (.inr (.inl (some (.ref a)))) else none
    | [.null] => if mj_fit (mj_rt Θ k) .null = true then some (.inr (.inl (some .null))) else none
    | _ => none) else none
  | .return_ => if len = 1 then (match st with
    | [] => if mj_rt Θ k = none then some (.inr (.inl none)) else none
    | _ => none) else none
  | _ => none
/-- one step at a frame -/
def mj_st (Θ : mj_T) (k : Nat) (f : mj_F) : Option mj_O := match decode (mj_cc Θ k) f.1 with
  | .ok (i, len) => mj_i Θ k i len f.1 f.2.1 f.2.2.1 f.2.2.2
  | .error _ => none
/-- a method's first frame -/
def mj_en (Θ : mj_T) (y : Nat) (as : List Value) (σ : mj_S) : mj_F := (0, as.map some ++ List.replicate (mj_mL Θ y - as.length) none, [], σ)
/-- method k from the frame f on: its answer or exception, and the store -/
def mj_X : Nat → mj_T → Nat → mj_F → Option ((Option Value ⊕ String) × mj_S)
  | 0, _, _, _ => none
  | n + 1, Θ, k, f => match mj_st Θ k f with
    | none => none
    | some (.inl f') => mj_X n Θ k f'
    | some (.inr (.inl v)) => some (.inl v, f.2.2.2)
    | some (.inr (.inr (.inl E))) => some (.inr E, f.2.2.2)
    | some (.inr (.inr (.inr (y, as, g)))) => if as.length ≤ mj_mL Θ y then (match mj_X n Θ y (mj_en Θ y as g.2.2.2) with
      | some (.inl v, σ1) => mj_X n Θ k (g.1, g.2.1, v.toList ++ g.2.2.1, σ1)
      | some (.inr E, σ1) => if mj_kd Θ y = 0 then some (.inr E, σ1) else none
      | none => none) else none
/-- more steps do no harm -/
theorem mj_X_mono : ∀ (n : Nat) (Θ : mj_T) (k : Nat) (f : mj_F) (r : (Option Value ⊕ String) × mj_S), mj_X n Θ k f = some r → ∀ d, mj_X (n + d) Θ k f = some r
  | 0, _, _, _, _, h => by simp [mj_X] at h
  | n + 1, Θ, k, f, r, h => by
    intro d
    rw [Nat.add_right_comm]
    simp only [mj_X] at h ⊢
    cases hs : mj_st Θ k f with
    | none => rw [hs] at h; cases h
    | some o =>
      rw [hs] at h
      rcases o with f' | v | E | ⟨y, as, g⟩
      · exact mj_X_mono n Θ k f' r h d
      · exact h
      · exact h
      · dsimp only at h ⊢
        by_cases hl : as.length ≤ mj_mL Θ y
        · rw [if_pos hl] at h ⊢
          cases hc : mj_X n Θ y (mj_en Θ y as g.2.2.2) with
          | none => rw [hc] at h; cases h
          | some q =>
            rw [mj_X_mono n Θ y _ q hc d]
            rw [hc] at h
            rcases q with ⟨v | E, σ1⟩
            · exact mj_X_mono n Θ k _ r h d
            · exact h
        · rw [if_neg hl] at h; cases h
/-- method k comes from the frame f to r -/
def mj_R (Θ : mj_T) (k : Nat) (f : mj_F) (r : (Option Value ⊕ String) × mj_S) : Prop := ∃ n, mj_X n Θ k f = some r
theorem mj_R_det {Θ : mj_T} {k : Nat} {f : mj_F} {r r' : (Option Value ⊕ String) × mj_S} (h : mj_R Θ k f r) (h' : mj_R Θ k f r') : r = r' := by
  obtain ⟨n, h⟩ := h
  obtain ⟨n', h'⟩ := h'
  have a := mj_X_mono n Θ k f r h n'
  have b := mj_X_mono n' Θ k f r' h' n
  rw [Nat.add_comm] at b
  exact Option.some.inj (a.symm.trans b)
/-- what comes of a step -/
def mj_Ro (Θ : mj_T) (k : Nat) (σ : mj_S) (o : Option mj_O) (r : (Option Value ⊕ String) × mj_S) : Prop := match o with
  | none => False
  | some (.inl f') => mj_R Θ k f' r
  | some (.inr (.inl v)) => (.inl v, σ) = r
  | some (.inr (.inr (.inl E))) => (.inr E, σ) = r
  | some (.inr (.inr (.inr (y, as, g)))) => as.length ≤ mj_mL Θ y ∧ ∃ q, mj_R Θ y (mj_en Θ y as g.2.2.2) q ∧ (match q with
    | (.inl v, σ1) => mj_R Θ k (g.1, g.2.1, v.toList ++ g.2.2.1, σ1) r
    | (.inr E, σ1) => mj_kd Θ y = 0 ∧ (.inr E, σ1) = r)
theorem mj_R_iff (Θ : mj_T) (k : Nat) (f : mj_F) (r : (Option Value ⊕ String) × mj_S) : mj_R Θ k f r ↔ mj_Ro Θ k f.2.2.2 (mj_st Θ k f) r := by
  constructor
  · rintro ⟨n, h⟩
    cases n with
    | zero => simp [mj_X] at h
    | succ n =>
      simp only [mj_X] at h
      cases hs : mj_st Θ k f with
      | none => rw [hs] at h; cases h
      | some o =>
        rw [hs] at h
        rcases o with f' | v | E | ⟨y, as, g⟩
        · exact ⟨n, h⟩
        · exact Option.some.inj h
        · exact Option.some.inj h
        · dsimp only at h
          by_cases hl : as.length ≤ mj_mL Θ y
          · rw [if_pos hl] at h
            cases hc : mj_X n Θ y (mj_en Θ y as g.2.2.2) with
            | none => rw [hc] at h; cases h
            | some q =>
              rw [hc] at h
              rcases q with ⟨v | E, σ1⟩
              · exact ⟨hl, (.inl v, σ1), ⟨n, hc⟩, n, h⟩
              · dsimp only at h
                split at h
                · next hk => exact ⟨hl, (.inr E, σ1), ⟨n, hc⟩, hk, Option.some.inj h⟩
                · cases h
          · rw [if_neg hl] at h; cases h
  · intro h
    cases hs : mj_st Θ k f with
    | none => rw [hs] at h; exact h.elim
    | some o =>
      rw [hs] at h
      rcases o with f' | v | E | ⟨y, as, g⟩
      · obtain ⟨n, h⟩ := h
        exact ⟨n + 1, by simp only [mj_X, hs]; exact h⟩
      · exact ⟨1, by simp only [mj_X, hs]; exact congrArg some h⟩
      · exact ⟨1, by simp only [mj_X, hs]; exact congrArg some h⟩
      · obtain ⟨hl, q, ⟨n, hq⟩, h⟩ := h
        rcases q with ⟨v | E, σ1⟩
        · obtain ⟨n2, h⟩ := h
          refine ⟨n + n2 + 1, ?_⟩
          simp only [mj_X, hs]
          rw [if_pos hl, mj_X_mono n Θ y _ _ hq n2]
          rw [Nat.add_comm]
          exact mj_X_mono n2 Θ k _ r h n
        · refine ⟨n + 1, ?_⟩
          simp only [mj_X, hs]
          rw [if_pos hl, hq]
          dsimp only
          rw [if_pos h.1]
          exact congrArg some h.2
