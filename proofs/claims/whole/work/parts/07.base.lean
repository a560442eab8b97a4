/-! THE ABSTRACT HEAP: what each cell holds, by its address; how big the heap is; where ArrayList's static empty array lies. A method's meaning is a function over it. -/
abbrev Ce : Type := (Nat × vp_A) ⊕ (Nat × List Value)
abbrev Hp : Type := Nat → Option Ce
abbrev Hs : Type := Hp × Nat × Nat
/-- classes and slots; array classes; where the run's own cells begin; the empty array; the letters' String and its bytes; the Class of Object[] -/
abbrev GG : Type := va_G × (Nat → ClassId) × Nat × Nat × Nat × Nat × Nat
abbrev OO (R : Type) : Type := Hs → Option (Except Nat R × Hs)
def toE (dT : Nat → ClassId) (e : Ce) : va_E := match e with
  | .inl (t, a) => .inl (dT t, a)
  | .inr o => .inr o
def gA (G : GG) : Nat → Prop := fun q => G.2.2.1 ≤ q
abbrev aI (t n : Nat) (f : Nat → Int32) : Ce := .inl (t, n, .inl f)
abbrev aL (n : Nat) (f : Nat → Int64) : Ce := .inl (2, n, .inr (.inl f))
abbrev aD (n : Nat) (f : Nat → UInt64) : Ce := .inl (3, n, .inr (.inr (.inr (.inl f))))
abbrev aR (t n : Nat) (f : Nat → Option Nat) : Ce := .inl (t, n, .inr (.inr (.inr (.inr f))))
abbrev aO (c : Nat) (fs : List Value) : Ce := .inr (c, fs)
def ce0 : Ce := aR 4 0 (fun _ => none)
theorem ne_O {o : Nat × List Value} : (.inr o : Ce) ≠ ce0 := by unfold ce0; intro z; cases z
theorem ne_I {t n : Nat} {f : Nat → Int32} : aI t n f ≠ ce0 := by unfold ce0; intro z; cases z
theorem ne_L {n : Nat} {f : Nat → Int64} : aL n f ≠ ce0 := by unfold ce0; intro z; cases z
theorem ne_D {n : Nat} {f : Nat → UInt64} : aD n f ≠ ce0 := by unfold ce0; intro z; cases z
theorem ne_R5 {n : Nat} {f : Nat → Option Nat} : aR 5 n f ≠ ce0 := by unfold ce0; intro z; cases z
theorem ne_ce0 {t n : Nat} {x : (Nat → Int32) ⊕ (Nat → Int64) ⊕ (Nat → UInt32) ⊕ (Nat → UInt64) ⊕ (Nat → Option Nat)} (h : 0 < n) : (.inl (t, n, x) : Ce) ≠ ce0 := by
  intro z
  unfold ce0 aR at z
  have z2 := Sum.inl.inj z
  have z3 := congrArg (fun q => q.2.1) z2
  exact absurd z3 (by show ¬ n = 0; omega)
theorem vp_pos {i : Int32} {n : Nat} (h : vp_in i n) : 0 < n := by
  rcases Nat.eq_zero_or_pos n with hn | hn
  · subst hn
    exact absurd (Or.inr (Nat.zero_le _)) h
  · exact hn
/-- the empty array of ArrayList: of its cell no more is known than that it is an array of Objects of length 0 -/
def va_0 (G : GG) (a : Nat) (H : Heap) : Prop := ∃ cell : Cell, H[a]? = some cell ∧ (∀ k, cell.vm ≠ .statics k) ∧ cell.slots.size.toInt32 = 0 ∧ cell.cls = G.2.1 4
def Rep1 (G : GG) (H : Heap) (a : Nat) (e : Ce) : Prop := (gA G a ∧ va_at G.1 vwCl (a, toE G.2.1 e) H) ∨ (e = ce0 ∧ va_0 G a H)
theorem Rep1.kept {G : GG} {H H1 : Heap} {a : Nat} {e : Ce} (h : Rep1 G H a e) (hq : H1[a]? = H[a]?) : Rep1 G H1 a e := by
  rcases h with ⟨h1, h2⟩ | ⟨h1, cell, h2, h3⟩
  · exact Or.inl ⟨h1, h2.kept hq⟩
  · exact Or.inr ⟨h1, cell, hq.trans h2, h3⟩
theorem Rep1.lt {G : GG} {H : Heap} {a : Nat} {e : Ce} (h : Rep1 G H a e) : a < H.size := by
  rcases h with ⟨h1, h2⟩ | ⟨h1, cell, h2, h3⟩
  · exact h2.lt
  · exact (Array.getElem?_eq_some_iff.mp h2).1
def Rep (G : GG) (hs : Hs) (H : Heap) : Prop := H.size = hs.2.1 ∧ hs.2.2 = G.2.2.2.1 ∧ G.2.2.1 ≤ H.size ∧ ∀ (a : Nat) (e : Ce), hs.1 a = some e → Rep1 G H a e
def hset (h : Hp) (a : Nat) (e : Ce) : Hp := fun q => if q = a then some e else h q
theorem hset_s {h : Hp} {a : Nat} {e : Ce} : hset h a e a = some e := if_pos rfl
theorem hset_n {h : Hp} {a b : Nat} {e : Ce} (n : b ≠ a) : hset h a e b = h b := if_neg n
def tyl (dT : Nat → ClassId) : List (ClassId × FieldType) := [(dT 0, .int), (dT 1, .boolean), (dT 2, .long), (dT 3, .double), (dT 4, .object "java/lang/Object"), (dT 5, .array .int)]
theorem Rep.Pa {G : GG} {hs : Hs} {H : Heap} (h : Rep G hs H) {a : Nat} {e : Ce} (ha : hs.1 a = some e) (hn : e ≠ ce0) : gA G a ∧ va_at G.1 vwCl (a, toE G.2.1 e) H := (h.2.2.2 a e ha).resolve_right (fun z => hn z.1)
theorem Rep.P {G : GG} {hs : Hs} {H : Heap} (h : Rep G hs H) {a : Nat} {e : Ce} (ha : hs.1 a = some e) (hn : e ≠ ce0 := by first | exact ne_O | exact ne_I | exact ne_L | exact ne_D | exact ne_R5 | exact ne_ce0 (vp_pos (by assumption)) | exact ne_ce0 (by assumption)) : va_P G.1 vwCl [(a, toE G.2.1 e)] H := by
  intro k q hk
  match k, hk with
  | 0, hk => cases hk; exact (h.Pa ha hn).2
theorem Rep.P2 {G : GG} {hs : Hs} {H : Heap} (h : Rep G hs H) {a b : Nat} {e f : Ce} (ha : hs.1 a = some e) (hb : hs.1 b = some f) (hn : e ≠ ce0) (hn2 : f ≠ ce0) : va_P G.1 vwCl [(a, toE G.2.1 e), (b, toE G.2.1 f)] H := by
  intro k q hk
  match k, hk with
  | 0, hk => cases hk; exact (h.Pa ha hn).2
  | 1, hk => cases hk; exact (h.Pa hb hn2).2
theorem Rep.set {G : GG} {hs : Hs} {H H1 : Heap} (h : Rep G hs H) {a : Nat} {e : Ce} (hA : gA G a) (hz : H1.size = H.size) (ho : ∀ q, q ≠ a → H1[q]? = H[q]?) (hc : va_at G.1 vwCl (a, toE G.2.1 e) H1) : Rep G (hset hs.1 a e, hs.2) H1 := by
  refine ⟨hz.trans h.1, h.2.1, by rw [hz]; exact h.2.2.1, fun b f hb => ?_⟩
  by_cases hq : b = a
  · subst hq
    have hb2 : some e = some f := (hset_s (h := hs.1)).symm.trans hb
    cases hb2
    exact Or.inl ⟨hA, hc⟩
  · have hb2 : hs.1 b = some f := (hset_n (h := hs.1) (e := e) hq).symm.trans hb
    exact (h.2.2.2 b f hb2).kept (ho b hq)
theorem Rep.push {G : GG} {hs : Hs} {H H1 : Heap} (h : Rep G hs H) {e : Ce} (hz : H1.size = H.size + 1) (ho : ∀ q, q < H.size → H1[q]? = H[q]?) (hc : va_at G.1 vwCl (H.size, toE G.2.1 e) H1) : Rep G (hset hs.1 hs.2.1 e, hs.2.1 + 1, hs.2.2) H1 := by
  refine ⟨by rw [hz, h.1], h.2.1, by rw [hz]; exact Nat.le_trans h.2.2.1 (Nat.le_succ _), fun b f hb => ?_⟩
  by_cases hq : b = hs.2.1
  · subst hq
    have hb2 : some e = some f := (hset_s (h := hs.1)).symm.trans hb
    cases hb2
    exact Or.inl ⟨by rw [← h.1]; exact h.2.2.1, by rw [← h.1]; exact hc⟩
  · have hb2 : hs.1 b = some f := (hset_n (h := hs.1) (e := e) hq).symm.trans hb
    have h3 := h.2.2.2 b f hb2
    exact h3.kept (ho b h3.lt)
/-- grown, nothing of it kept -/
theorem Rep.grown {G : GG} {hs : Hs} {H H1 : Heap} (h : Rep G hs H) (hz : H.size ≤ H1.size) (ho : ∀ q, q < H.size → H1[q]? = H[q]?) : Rep G (hs.1, H1.size, hs.2.2) H1 := by
  refine ⟨rfl, h.2.1, Nat.le_trans h.2.2.1 hz, fun b f hb => ?_⟩
  have h3 := h.2.2.2 b f hb
  exact h3.kept (ho b h3.lt)
theorem Rep.A {G : GG} {hs : Hs} {H : Heap} (h : Rep G hs H) {a : Nat} {e : Ce} (ha : hs.1 a = some e) (hn : e ≠ ce0) : gA G a := (h.Pa ha hn).1
-- ===== meanings of the instructions =====
def thr {R : Type} (k : Nat) : OO R := fun hs => some (.error k, hs)
def nox {R : Type} (_ : Nat) : OO R := fun _ => none
def rtn {R : Type} (r : R) : OO R := fun hs => some (.ok r, hs)
def retZ (x : Int32) : OO Int32 := fun hs => if x = 0 ∨ x = 1 then some (.ok x, hs) else none
def retC (x : Int32) : OO Int32 := fun hs => if narrow .char (.int x) = .int x then some (.ok x, hs) else none
def lets {R α : Type} (x : α) (K : α → OO R) : OO R := K x
def deref {R : Type} (r : Option Nat) (K : Nat → OO R) : OO R := fun hs => match r with
  | some a => K a hs
  | none => none
def gI {R : Type} (r : Option Nat) (ci k : Nat) (K : Int32 → OO R) : OO R := fun hs => match r with
  | none => none
  | some a => match hs.1 a with
    | some (.inr (c, fs)) => if c = ci then (match fs[k]? with
        | some (.int x) => K x hs
        | _ => none) else none
    | _ => none
def gR {R : Type} (r : Option Nat) (ci k : Nat) (K : Option Nat → OO R) : OO R := fun hs => match r with
  | none => none
  | some a => match hs.1 a with
    | some (.inr (c, fs)) => if c = ci then (match fs[k]? with
        | some (.ref x) => K (some x) hs
        | some .null => K none hs
        | _ => none) else none
    | _ => none
def pV {R : Type} (r : Option Nat) (ci k : Nat) (v : Value) (K : OO R) : OO R := fun hs => match r with
  | none => none
  | some a => match hs.1 a with
    | some (.inr (c, fs)) => if c = ci ∧ k < fs.length then K (hset hs.1 a (.inr (c, fs.set k v)), hs.2) else none
    | _ => none
def pI {R : Type} (r : Option Nat) (ci k : Nat) (x : Int32) (K : OO R) : OO R := pV r ci k (.int x) K
def pZ {R : Type} (r : Option Nat) (ci k : Nat) (x : Int32) (K : OO R) : OO R := fun hs => if x = 0 ∨ x = 1 then pV r ci k (.int x) K hs else none
def pR {R : Type} (r : Option Nat) (ci k : Nat) (x : Option Nat) (K : OO R) : OO R := pV r ci k (va_rf x) K
def ldI {R : Type} (t : Nat) (r : Option Nat) (i : Int32) (K : Int32 → OO R) : OO R := fun hs => match r with
  | none => none
  | some a => match hs.1 a with
    | some (.inl (t1, n, .inl f)) => if t1 = t ∧ ¬ (i < 0 ∨ n ≤ i.toNatClampNeg) then K (f i.toNatClampNeg) hs else none
    | _ => none
def ldR {R : Type} (t : Nat) (r : Option Nat) (i : Int32) (K : Option Nat → OO R) : OO R := fun hs => match r with
  | none => none
  | some a => match hs.1 a with
    | some (.inl (t1, n, .inr (.inr (.inr (.inr f))))) => if t1 = t ∧ ¬ (i < 0 ∨ n ≤ i.toNatClampNeg) then K (f i.toNatClampNeg) hs else none
    | _ => none
def stI {R : Type} (r : Option Nat) (i x : Int32) (K : OO R) : OO R := fun hs => match r with
  | none => none
  | some a => match hs.1 a with
    | some (.inl (t1, n, .inl f)) => if t1 = 0 ∧ ¬ (i < 0 ∨ n ≤ i.toNatClampNeg) then K (hset hs.1 a (.inl (t1, n, .inl (upd f i.toNatClampNeg x))), hs.2) else none
    | _ => none
def stZ {R : Type} (r : Option Nat) (i x : Int32) (K : OO R) : OO R := fun hs => match r with
  | none => none
  | some a => match hs.1 a with
    | some (.inl (t1, n, .inl f)) => if t1 = 1 ∧ (x = 0 ∨ x = 1) ∧ ¬ (i < 0 ∨ n ≤ i.toNatClampNeg) then K (hset hs.1 a (.inl (t1, n, .inl (upd f i.toNatClampNeg x))), hs.2) else none
    | _ => none
/-- a store into an array of Objects, of an object of one of the classes ca -/
def stO {R : Type} (ca : List Nat) (r : Option Nat) (i : Int32) (x : Option Nat) (K : OO R) : OO R := fun hs => match r, x with
  | some a, some b => match hs.1 a, hs.1 b with
    | some (.inl (t1, n, .inr (.inr (.inr (.inr f))))), some (.inr (c, _)) => if t1 = 4 ∧ c ∈ ca ∧ ¬ (i < 0 ∨ n ≤ i.toNatClampNeg) then K (hset hs.1 a (.inl (t1, n, .inr (.inr (.inr (.inr (va_up f i.toNatClampNeg (some b))))))), hs.2) else none
    | _, _ => none
  | _, _ => none
def alen {R : Type} (r : Option Nat) (K : Int32 → OO R) : OO R := fun hs => match r with
  | none => none
  | some a => match hs.1 a with
    | some (.inl (t, n, _)) => if t < 6 then K (Int32.ofNat n) hs else none
    | _ => none
/-- a new object of class ci with the fields fs -/
def nw {R : Type} (ci : Nat) (fs : List Value) (K : Nat → OO R) : OO R := fun hs => K hs.2.1 (hset hs.1 hs.2.1 (.inr (ci, fs)), hs.2.1 + 1, hs.2.2)
def nwI {R : Type} (t : Nat) (n : Int32) (B : Nat) (K : Nat → OO R) : OO R := fun hs => if ¬ n < 0 ∧ n.toNatClampNeg ≤ B then K hs.2.1 (hset hs.1 hs.2.1 (aI t n.toNatClampNeg (fun _ => 0)), hs.2.1 + 1, hs.2.2) else none
def nwO {R : Type} (n : Int32) (B : Nat) (K : Nat → OO R) : OO R := fun hs => if ¬ n < 0 ∧ n.toNatClampNeg ≤ B then K hs.2.1 (hset hs.1 hs.2.1 (aR 4 n.toNatClampNeg (fun _ => none)), hs.2.1 + 1, hs.2.2) else none
/-- a receiver of a class -/
def rcv {R : Type} (r : Option Nat) (ci : Nat) (K : Nat → OO R) : OO R := fun hs => match r with
  | none => none
  | some a => match hs.1 a with
    | some (.inr (c, _)) => if c = ci then K a hs else none
    | _ => none
/-- a checked cast -/
def cst {R : Type} (r : Option Nat) (ci : Nat) (K : OO R) : OO R := fun hs => match r with
  | none => K hs
  | some a => match hs.1 a with
    | some (.inr (c, _)) => if c = ci then K hs else none
    | _ => none
def call {R S : Type} (m : OO S) (K : S → OO R) (KX : Nat → OO R) : OO R := fun hs => match m hs with
  | some (.ok r, hs1) => K r hs1
  | some (.error k, hs1) => KX k hs1
  | none => none
/-- a new exception, thrown -/
def nthrow {R : Type} (k : Nat) : OO R := fun hs => some (.error k, hs)
def exN (k : Nat) : String := match k with
  | 0 => "java/lang/IndexOutOfBoundsException"
  | 1 => "java/lang/IllegalArgumentException"
  | 2 => "java/lang/IllegalStateException"
  | 3 => "java/util/NoSuchElementException"
  | 4 => "java/lang/UnsupportedOperationException"
  | _ => "java/lang/ArithmeticException"
def irem (x y : Int32) : Int32 := x - x / y * y
def ushr (x y : Int32) : Int32 := (x.toUInt32 >>> (y.toUInt32 &&& Int32.toUInt32 31)).toInt32
def i2c (x : Int32) : Int32 := (x.toUInt32 % 65536).toInt32

-- ===== the words =====
def Tg : List Cond := lw_tbl.filter goodWord
theorem Tg_of {i : Nat} {w : Cond} (h : lw_tbl[i]? = some w) (g : goodWord w = true) : w ∈ Tg := List.mem_filter.mpr ⟨List.mem_of_getElem? h, g⟩
theorem Tg_good : ∀ w ∈ Tg, goodWord w = true := fun w h => (List.mem_filter.mp h).2
theorem Tg_in {y : MethodName} {b : ByteArray} {n : Nat} {r : Option FieldType} (big : List Cond) (hb : big = Tg) (h : Cond.code y b n r ∈ Tg) : GoodIn big (Cond.code y b n r :: Tg) := fun w hw => by
  subst hb
  rcases List.mem_cons.mp hw with rfl | hw
  · exact ⟨h, good_of_word (Tg_good _ h)⟩
  · exact ⟨hw, good_of_word (Tg_good _ hw)⟩
-- what the tables and the start say beside the words: moved by calls, kept by writes
def kx_nest : List (String × Nat × MethodName × String) := [("Termgrid", 18, ⟨"Termgrid$Table", "<init>", "()V"⟩, "Termgrid"), ("Termgrid", 25, ⟨"Termgrid$Filler", "<init>", "()V"⟩, "Termgrid"), ("Termgrid", 32, ⟨"Termgrid$Improver", "<init>", "()V"⟩, "Termgrid"), ("Termgrid", 39, ⟨"Termgrid$Bounds", "<init>", "()V"⟩, "Termgrid"), ("Termgrid$Table", 89, ⟨"Termgrid", "has", "(II)Z"⟩, "Termgrid"), ("Termgrid$Lesson", 49, ⟨"Termgrid", "slotsThatMeet", "(II)I"⟩, "Termgrid"), ("Termgrid$Lesson", 85, ⟨"Termgrid", "addSlots", "([III)V"⟩, "Termgrid"), ("Termgrid$Lesson", 123, ⟨"Termgrid", "at", "([II)I"⟩, "Termgrid"), ("Termgrid$Lesson", 138, ⟨"Termgrid", "has", "(II)Z"⟩, "Termgrid"), ("Termgrid$Lesson", 156, ⟨"Termgrid", "slotsOfDay", "(I)I"⟩, "Termgrid"), ("Termgrid$Lesson", 159, ⟨"Termgrid", "gapsAmong", "(I)I"⟩, "Termgrid"), ("Termgrid$Filler", 60, ⟨"Termgrid", "has", "(II)Z"⟩, "Termgrid"), ("Termgrid$Table", 134, ⟨"Termgrid", "at", "([II)I"⟩, "Termgrid"), ("Termgrid$Bounds", 57, ⟨"Termgrid", "has", "(II)Z"⟩, "Termgrid"), ("Termgrid$Improver", 88, ⟨"Termgrid", "at", "([II)I"⟩, "Termgrid"), ("Termgrid$Improver", 99, ⟨"Termgrid", "has", "(II)Z"⟩, "Termgrid")]
def kx_cast : List (String × String) := [("java/lang/IllegalArgumentException", "java/lang/IllegalArgumentException"), ("java/lang/IllegalStateException", "java/lang/IllegalStateException"), ("java/lang/ArrayIndexOutOfBoundsException", "java/lang/ArrayIndexOutOfBoundsException"), ("java/lang/IndexOutOfBoundsException", "java/lang/IndexOutOfBoundsException"), ("java/util/NoSuchElementException", "java/util/NoSuchElementException"), ("java/lang/UnsupportedOperationException", "java/lang/UnsupportedOperationException"), ("java/lang/ArithmeticException", "java/lang/ArithmeticException"), ("java/lang/ArrayIndexOutOfBoundsException", "java/lang/IndexOutOfBoundsException"), ("Termgrid", "java/lang/Object"), ("java/util/ArrayList", "java/lang/Object"), ("Termgrid$Table", "java/lang/Object"), ("Termgrid$Filler", "java/lang/Object"), ("Termgrid$Improver", "java/lang/Object"), ("Termgrid$Bounds", "java/lang/Object"), ("TermgridModel", "java/lang/Object"), ("java/lang/IllegalArgumentException", "java/lang/Object"), ("java/lang/IllegalStateException", "java/lang/Object"), ("Termgrid$Room", "java/lang/Object"), ("Termgrid$Teacher", "java/lang/Object"), ("Termgrid$Group", "java/lang/Object"), ("java/lang/ArrayIndexOutOfBoundsException", "java/lang/Object"), ("java/lang/IndexOutOfBoundsException", "java/lang/Object"), ("Termgrid$Lesson", "java/lang/Object"), ("java/util/NoSuchElementException", "java/lang/Object"), ("java/lang/UnsupportedOperationException", "java/lang/Object"), ("java/lang/ArithmeticException", "java/lang/Object"), ("java/lang/Throwable", "java/lang/Object"), ("java/lang/String", "java/lang/Object"), ("[I", "java/lang/Object"), ("[[I", "java/lang/Object"), ("[B", "java/lang/Object"), ("[Ljava/lang/Object;", "java/lang/Object"), ("[Z", "java/lang/Object"), ("[J", "java/lang/Object"), ("[D", "java/lang/Object")]
def kx_str : List (String × Nat × String) := [("Termgrid$Lesson", 131, "hpokscrtgv"), ("Termgrid$Filler", 108, "hpokscrtgv"), ("Termgrid", 62, "house, kind or seats out of range"), ("Termgrid", 76, "there are 8 rooms"), ("Termgrid", 88, "days off out of range"), ("Termgrid", 90, "there are 8 teachers"), ("Termgrid", 101, "pupils out of range"), ("Termgrid", 106, "there are 8 groups"), ("Termgrid", 425, "no such group"), ("Termgrid", 423, "no such teacher"), ("Termgrid", 119, "kind, length or course out of range"), ("Termgrid", 124, "there are 16 lessons"), ("Termgrid", 431, "no such slot"), ("Termgrid", 134, "wish out of range"), ("Termgrid", 433, "no such piece"), ("Termgrid", 143, "weight out of range"), ("Termgrid", 427, "no such lesson"), ("Termgrid", 420, "no such room"), ("Termgrid", 165, "hpokscrtgv"), ("Termgrid", 192, "a place at this slot is possible"), ("Termgrid", 440, "the lesson is locked or past"), ("Termgrid", 442, "the place is barred"), ("Termgrid", 242, "the lesson is not placed"), ("Termgrid", 237, "the lesson is not locked"), ("Termgrid", 255, "the group has no lesson then"), ("Termgrid", 261, "the teacher has no lesson then"), ("Termgrid", 271, "there is no such place"), ("Termgrid", 276, "no place is possible"), ("Termgrid", 287, "all lessons are placed"), ("Termgrid", 293, "number of steps out of range"), ("Termgrid", 435, "no such kind"), ("Termgrid", 328, "no such day, or it is past"), ("Termgrid", 336, "it is a day off already"), ("Termgrid", 343, "a locked lesson is placed on this day"), ("Termgrid", 356, "the room is closed"), ("Termgrid", 362, "a locked lesson is placed in the room"), ("Termgrid", 368, "the room is open"), ("Termgrid", 370, "today is the last day"), ("Termgrid", 372, "today is not the last day"), ("Termgrid", 389, "there are 6 versions"), ("Termgrid", 429, "no such version"), ("Termgrid", 399, "the lesson has no place in the version"), ("Termgrid", 406, "there are no lessons")]
def kx_nc : List (String × String) := [("java/lang/ArithmeticException", "java/lang/IllegalArgumentException"), ("java/lang/ArithmeticException", "java/lang/IllegalStateException"), ("java/lang/ArithmeticException", "java/lang/IndexOutOfBoundsException"), ("java/lang/ArithmeticException", "java/lang/UnsupportedOperationException"), ("java/lang/ArithmeticException", "java/util/NoSuchElementException"), ("java/lang/IllegalArgumentException", "java/lang/ArithmeticException"), ("java/lang/IllegalArgumentException", "java/lang/IllegalStateException"), ("java/lang/IllegalArgumentException", "java/lang/IndexOutOfBoundsException"), ("java/lang/IllegalArgumentException", "java/lang/UnsupportedOperationException"), ("java/lang/IllegalArgumentException", "java/util/NoSuchElementException"), ("java/lang/IllegalStateException", "java/lang/ArithmeticException"), ("java/lang/IllegalStateException", "java/lang/IllegalArgumentException"), ("java/lang/IllegalStateException", "java/lang/IndexOutOfBoundsException"), ("java/lang/IllegalStateException", "java/lang/UnsupportedOperationException"), ("java/lang/IllegalStateException", "java/util/NoSuchElementException"), ("java/lang/IndexOutOfBoundsException", "java/lang/ArithmeticException"), ("java/lang/IndexOutOfBoundsException", "java/lang/IllegalArgumentException"), ("java/lang/IndexOutOfBoundsException", "java/lang/IllegalStateException"), ("java/lang/IndexOutOfBoundsException", "java/lang/UnsupportedOperationException"), ("java/lang/IndexOutOfBoundsException", "java/util/NoSuchElementException"), ("java/lang/UnsupportedOperationException", "java/lang/ArithmeticException"), ("java/lang/UnsupportedOperationException", "java/lang/IllegalArgumentException"), ("java/lang/UnsupportedOperationException", "java/lang/IllegalStateException"), ("java/lang/UnsupportedOperationException", "java/lang/IndexOutOfBoundsException"), ("java/lang/UnsupportedOperationException", "java/util/NoSuchElementException"), ("java/util/NoSuchElementException", "java/lang/ArithmeticException"), ("java/util/NoSuchElementException", "java/lang/IllegalArgumentException"), ("java/util/NoSuchElementException", "java/lang/IllegalStateException"), ("java/util/NoSuchElementException", "java/lang/IndexOutOfBoundsException"), ("java/util/NoSuchElementException", "java/lang/UnsupportedOperationException")]
theorem va_AOA.moved {ty : FieldType} {u U : State} (hvm : u.vm.Alike U.vm) (h : va_AOA ty u) : va_AOA ty U := by
  have e := Cond.arrayOver_setVmC (args := #[]) hvm (.array ty)
  unfold va_AOA at h ⊢
  rw [← e] at h
  exact h
def kx_decl : List MethodName := [⟨"java/lang/RuntimeException", "<init>", "()V"⟩, ⟨"java/lang/RuntimeException", "<init>", "(Ljava/lang/String;)V"⟩, ⟨"java/lang/Exception", "<init>", "()V"⟩, ⟨"java/lang/Exception", "<init>", "(Ljava/lang/String;)V"⟩, ⟨"java/lang/Throwable", "<init>", "()V"⟩, ⟨"java/lang/Throwable", "<init>", "(Ljava/lang/String;)V"⟩, ⟨"java/lang/IndexOutOfBoundsException", "<init>", "()V"⟩, ⟨"java/lang/IndexOutOfBoundsException", "<init>", "(Ljava/lang/String;)V"⟩, ⟨"java/lang/Object", "getClass", "()Ljava/lang/Class;"⟩]
def kx_let : List (String × Nat) := [("Termgrid$Lesson", 131), ("Termgrid$Filler", 108), ("Termgrid", 165)]
def kx_bytes : List Int32 := [104, 112, 111, 107, 115, 99, 114, 116, 103, 118]
def Kn (G : GG) (l : Launch) (U : State) (H : Heap) : Prop :=
  va_K G.1 vwCl (tyl G.2.1) U ∧ l.stackTraces = false ∧ (∀ q ∈ kx_nest, va_Nw (.methodLinkNest q.1 q.2.1 q.2.2.1 q.2.2.2) U) ∧ (∀ q ∈ kx_cast, va_Nw (.castable q.1 q.2) U) ∧ (∀ q ∈ kx_str, ∃ sa, vk_R q.1 q.2.1 q.2.2 sa U) ∧
  vx_Zq Bundle.tN "UNASSIGNED_STACK" Bundle.steD (gA G) U H ∧ vx_Zq Bundle.tN "SUPPRESSED_SENTINEL" Bundle.listD (gA G) U H ∧ va_AO "java/lang/Object" U ∧ (∀ q ∈ kx_let, vk_R q.1 q.2 "hpokscrtgv" G.2.2.2.2.1 U) ∧ vk_S 1 [10] [kx_bytes] (fun _ => G.2.2.2.2.1) (fun _ => G.2.2.2.2.2.1) (gA G) U H ∧ va_Z "java/lang/String" "COMPACT_STRINGS" "Z" (.int 1) (gA G) U H ∧ va_Z "java/util/ArrayList" "DEFAULTCAPACITY_EMPTY_ELEMENTDATA" "[Ljava/lang/Object;" (.ref G.2.2.2.1) (gA G) U H ∧ va_Dc U ∧ (∀ y ∈ kx_decl, va_Nw (.declares y) U) ∧ va_Mi "[Ljava/lang/Object;" G.2.2.2.2.2.2 U ∧ va_Zq "jdk/internal/util/Preconditions" "SIOOBE_FORMATTER" "Ljava/util/function/BiFunction;" (gA G) U H ∧ va_AOA .int U ∧ (∀ q ∈ kx_nc, va_Nc q.1 q.2 U)
theorem Kn.go {G : GG} {l : Launch} {u U : State} {H H1 : Heap} (h : Kn G l u H) (hW : u.WarmedH U.vm) (ho : ∀ q : Nat, q < H.size → ¬ gA G q → H1[q]? = H[q]?) : Kn G l U H1 := by
  obtain ⟨h1, h2, h3, h4, h5, h6, h7, h8, h9, h10, h11, h12, h13, h15, h14, h16, h17, h18⟩ := h
  refine ⟨va_K.moved hW.alike h1, h2, fun q hq => va_Nw.warmM hW (h3 q hq), fun q hq => va_Nw.warmC hW (h4 q hq), fun q hq => ?_, vx_Zq.moved hW.alike (h6.kept ho), vx_Zq.moved hW.alike (h7.kept ho), va_AO.moved hW.alike h8, fun q hq => vk_R.warm hW (h9 q hq), vk_S.moved hW.alike (h10.kept ho), va_Z.moved hW.alike (h11.kept ho), va_Z.moved hW.alike (h12.kept ho), va_Dc.moved hW.alike h13, fun y hy => va_Nw.warmD hW (h15 y hy), va_Mi.moved hW.alike h14, va_Zq.moved hW.alike (h16.kept ho), va_AOA.moved hW.alike h17, fun q hq => va_Nc.moved hW.alike (h18 q hq)⟩
  obtain ⟨sa, h⟩ := h5 q hq
  exact ⟨sa, vk_R.warm hW h⟩
theorem Kn.calling {G : GG} {l : Launch} {U : State} (h : Kn G l U U.heap) (g : JFrame) (mk : MethodId) (a : Array Value) : Kn G l (U.calling g mk a) (U.calling g mk a).heap :=
  Kn.go h (State.WarmedH.refl U) (fun _ _ _ => rfl)
-- ===== contracts =====
def QcT {R : Type} (G : GG) (o : Except Nat R) (hs' : Hs) (tv : R → Option Value) : Array Value → State → Outcome → State → Prop := fun _ st oc t => (∃ r, o = .ok r ∧ oc = .returned (tv r) ∧ Rep G hs' t.heap) ∧ va_F (gA G) st t
def XCT {R : Type} (G : GG) (o : Except Nat R) (hs' : Hs) : String → State → State → Prop := fun E st t => (∃ (k sz : Nat), o = .error k ∧ E = exN k ∧ Rep G (hs'.1, sz, hs'.2.2) t.heap) ∧ va_F (gA G) st t
def PcT (G : GG) (l : Launch) (av : List Value) (hs : Hs) : Array Value → State → Prop := va_Pc av (fun U => Rep G hs U.heap ∧ Kn G l U U.heap)
def CT {R : Type} (G : GG) (l : Launch) (y : MethodName) (b : ByteArray) (nL : Nat) (rt : Option FieldType) (F L mc ms : Nat) (av : List Value) (hs : Hs) (o : Except Nat R) (hs' : Hs) (tv : R → Option Value) : Prop :=
  vx_Met l y (.code y b nL rt :: Tg) { frames := F, cells := mc, slots := ms, locals := L } (PcT G l av hs) (QcT G o hs' tv) (XCT G o hs') mc ms (gA G)
abbrev tvI : Int32 → Option Value := fun x => some (.int x)
abbrev tvV : Unit → Option Value := fun _ => none
abbrev tvR : Option Nat → Option Value := fun x => some (va_rf x)
abbrev tvF : UInt32 → Option Value := fun x => some (.float x)
abbrev tvD : UInt64 → Option Value := fun x => some (.double x)
def Cx (G : GG) (l : Launch) (p : Program) (s : State) (m : MethodId) (args : Array Value) (c : Code) (own : String) (cc : ByteArray) (nL : Nat) : Prop :=
  p.tables.exec = Jvm.exec ∧ c.code = cc ∧ c.maxLocals = nL ∧ s.vm.findClass own = some m.cls ∧ (∀ w ∈ Tg, w.before args s = true) ∧ Kn G l s s.heap ∧ (∀ q, s.heap.size ≤ q → gA G q)
def Cy (meth : Method) (c : Code) (rt : Option FieldType) : Prop := meth.sig.returnType = rt ∧ meth.locks = false ∧ (∀ x ∈ c.exceptionTable.toList, False)
def Fld (own : String) (index ci k : Nat) (ty : FieldType) : Prop := ∃ (C : String) (T : u_T) (N : Nat) (ref : String), vwCl[ci]? = some (C, T, N) ∧ k < N ∧ Cond.fieldLink own index ref (T k).2.1 (T k).2.2.1 ∈ Tg ∧ (ref = (T k).1 ∨ Cond.sameField ref (T k).1 (T k).2.1 (T k).2.2.1 ∈ Tg) ∧ (∀ w ∈ u_ws C T N, w ∈ Tg) ∧ parseFieldDescriptor (T k).2.2.1 = some ty ∧ (∃ ty0 : Nat → FieldType, ∀ k, k < N → parseFieldDescriptor (T k).2.2.1 = some (ty0 k)) ∧ (∀ a, a < N → ∀ b, b < N → a ≠ b → (T a).2.1 ≠ (T b).2.1)
/-- a field that is not final; final in its own class's constructor -/
def FldW (own : String) (index ci k : Nat) (ty : FieldType) (fin : Bool) : Prop := ∃ (C : String) (T : u_T) (N : Nat) (ref : String), vwCl[ci]? = some (C, T, N) ∧ k < N ∧ Cond.fieldLink own index ref (T k).2.1 (T k).2.2.1 ∈ Tg ∧ (ref = (T k).1 ∨ Cond.sameField ref (T k).1 (T k).2.1 (T k).2.2.1 ∈ Tg) ∧ (∀ w ∈ u_ws C T N, w ∈ Tg) ∧ parseFieldDescriptor (T k).2.2.1 = some ty ∧ (∃ ty0 : Nat → FieldType, ∀ k, k < N → parseFieldDescriptor (T k).2.2.1 = some (ty0 k)) ∧ (∀ a, a < N → ∀ b, b < N → a ≠ b → (T a).2.1 ≠ (T b).2.1) ∧ (T k).2.2.2 = fin ∧ (fin = true → (T k).1 = own)
section ROWS
variable {p : Program} {l : Launch} {e : Env} {R : Room} {s : State} {m : MethodId} {args : Array Value} {below : List Frame} {meth : Method} {c : Code} {cells slots : Nat} {Q : State → Prop}
variable {G : GG} {own : String} {cc : ByteArray} {nL pc : Nat} {hs : Hs} {lv : List (Nat × Value)} {st : List Value} {rt : Option FieldType} {RT : Type} {o : Except Nat RT × Hs}
def LH (ls : Array Slot) (nL : Nat) (lv : List (Nat × Value)) : Prop := lv_has ls nL lv ∧ ∀ q ∈ lv, q.2.category = 1
theorem c1_n : ∀ q ∈ ([] : List (Nat × Value)), q.2.category = 1 := fun _ h => nomatch h
theorem c1_i {lv : List (Nat × Value)} {i : Nat} {x : Int32} (h : ∀ q ∈ lv, q.2.category = 1) : ∀ q ∈ (i, Value.int x) :: lv, q.2.category = 1 := fun q hq => (List.mem_cons.mp hq).elim (fun e => by rw [e]; rfl) (h q)
theorem c1_r {lv : List (Nat × Value)} {i : Nat} {r : Option Nat} (h : ∀ q ∈ lv, q.2.category = 1) : ∀ q ∈ (i, va_rf r) :: lv, q.2.category = 1 := fun q hq => (List.mem_cons.mp hq).elim (fun e => by rw [e]; cases r <;> rfl) (h q)
theorem c1_f {lv : List (Nat × Value)} {f : Nat × Value → Bool} (h : ∀ q ∈ lv, q.2.category = 1) : ∀ q ∈ lv.filter f, q.2.category = 1 := fun q hq => h q (List.mem_filter.mp hq).1
theorem lv_fl {lv : List (Nat × Value)} {i : Nat} (h : ∀ q ∈ lv, q.2.category = 1) : lv.filter (fun q => !(q.1 == i) && !(q.1 + 1 == i && q.2.category == 2)) = lv.filter (fun q => !(q.1 == i)) := by
  apply List.filter_congr
  intro q hq
  rw [h q hq]
  cases (q.1 == i) <;> simp
/-- at pc with these locals and this stack over any heap that the abstract one pictures, the machine comes to Q -/
def WG (G : GG) (p : Program) (l : Launch) (e : Env) (R : Room) (s : State) (m : MethodId) (args : Array Value) (below : List Frame) (meth : Method) (c : Code) (nL : Nat) (cells slots : Nat) (Q : State → Prop) (hs : Hs) (lv : List (Nat × Value)) (st : List Value) (pc : Nat) : Prop :=
  ∀ (H : Heap) (locs : List Loc) (ls : Array Slot), Rep G hs H → va_S (gA G) s.heap H locs → LH ls nL lv → W p l e R s m args below meth c H locs cells slots Q (F0 m pc ls st)

theorem q_iadd (C : Cx G l p s m args c own cc nL) {x y : Int32} (d : decode cc pc = .ok (.iadd, 1)) (k : WG G p l e R s m args below meth c nL cells slots Q hs lv (.int (x + y) :: st) (pc + 1)) : WG G p l e R s m args below meth c nL cells slots Q hs lv (.int y :: .int x :: st) pc :=
  fun H locs ls a b c1 => lv_iadd C.1 C.2.1 d  (k H locs ls a b c1)
theorem q_isub (C : Cx G l p s m args c own cc nL) {x y : Int32} (d : decode cc pc = .ok (.isub, 1)) (k : WG G p l e R s m args below meth c nL cells slots Q hs lv (.int (x - y) :: st) (pc + 1)) : WG G p l e R s m args below meth c nL cells slots Q hs lv (.int y :: .int x :: st) pc :=
  fun H locs ls a b c1 => lv_isub C.1 C.2.1 d  (k H locs ls a b c1)
theorem q_imul (C : Cx G l p s m args c own cc nL) {x y : Int32} (d : decode cc pc = .ok (.imul, 1)) (k : WG G p l e R s m args below meth c nL cells slots Q hs lv (.int (x * y) :: st) (pc + 1)) : WG G p l e R s m args below meth c nL cells slots Q hs lv (.int y :: .int x :: st) pc :=
  fun H locs ls a b c1 => lv_imul C.1 C.2.1 d  (k H locs ls a b c1)
theorem q_iand (C : Cx G l p s m args c own cc nL) {x y : Int32} (d : decode cc pc = .ok (.iand, 1)) (k : WG G p l e R s m args below meth c nL cells slots Q hs lv (.int (x &&& y) :: st) (pc + 1)) : WG G p l e R s m args below meth c nL cells slots Q hs lv (.int y :: .int x :: st) pc :=
  fun H locs ls a b c1 => lv_iand C.1 C.2.1 d  (k H locs ls a b c1)
theorem q_ior (C : Cx G l p s m args c own cc nL) {x y : Int32} (d : decode cc pc = .ok (.ior, 1)) (k : WG G p l e R s m args below meth c nL cells slots Q hs lv (.int (x ||| y) :: st) (pc + 1)) : WG G p l e R s m args below meth c nL cells slots Q hs lv (.int y :: .int x :: st) pc :=
  fun H locs ls a b c1 => lv_ior C.1 C.2.1 d  (k H locs ls a b c1)
theorem q_ixor (C : Cx G l p s m args c own cc nL) {x y : Int32} (d : decode cc pc = .ok (.ixor, 1)) (k : WG G p l e R s m args below meth c nL cells slots Q hs lv (.int (x ^^^ y) :: st) (pc + 1)) : WG G p l e R s m args below meth c nL cells slots Q hs lv (.int y :: .int x :: st) pc :=
  fun H locs ls a b c1 => lv_ixor C.1 C.2.1 d  (k H locs ls a b c1)
theorem q_ishl (C : Cx G l p s m args c own cc nL) {x y : Int32} (d : decode cc pc = .ok (.ishl, 1)) (k : WG G p l e R s m args below meth c nL cells slots Q hs lv (.int (x <<< (y &&& 31)) :: st) (pc + 1)) : WG G p l e R s m args below meth c nL cells slots Q hs lv (.int y :: .int x :: st) pc :=
  fun H locs ls a b c1 => lv_ishl C.1 C.2.1 d  (k H locs ls a b c1)
theorem q_ishr (C : Cx G l p s m args c own cc nL) {x y : Int32} (d : decode cc pc = .ok (.ishr, 1)) (k : WG G p l e R s m args below meth c nL cells slots Q hs lv (.int (x >>> (y &&& 31)) :: st) (pc + 1)) : WG G p l e R s m args below meth c nL cells slots Q hs lv (.int y :: .int x :: st) pc :=
  fun H locs ls a b c1 => lv_ishr C.1 C.2.1 d  (k H locs ls a b c1)
theorem q_iushr (C : Cx G l p s m args c own cc nL) {x y : Int32} (d : decode cc pc = .ok (.iushr, 1)) (k : WG G p l e R s m args below meth c nL cells slots Q hs lv (.int (ushr x y) :: st) (pc + 1)) : WG G p l e R s m args below meth c nL cells slots Q hs lv (.int y :: .int x :: st) pc :=
  fun H locs ls a b c1 => lv_iushr C.1 C.2.1 d rfl (k H locs ls a b c1)
theorem q_i2c (C : Cx G l p s m args c own cc nL) {x : Int32} (d : decode cc pc = .ok (.i2c, 1)) (k : WG G p l e R s m args below meth c nL cells slots Q hs lv (.int (i2c x) :: st) (pc + 1)) : WG G p l e R s m args below meth c nL cells slots Q hs lv (.int x :: st) pc :=
  fun H locs ls a b c1 => lv_i2c C.1 C.2.1 d rfl (k H locs ls a b c1)
def dvz {RT : Type} (y : Int32) (K : OO RT) : OO RT := fun hs => if y = 0 then none else K hs
theorem q_idiv (C : Cx G l p s m args c own cc nL) {x y : Int32} {K : OO RT} (d : decode cc pc = .ok (.idiv, 1)) (h : dvz y K hs = some o) (k : K hs = some o → WG G p l e R s m args below meth c nL cells slots Q hs lv (.int (x / y) :: st) (pc + 1)) : WG G p l e R s m args below meth c nL cells slots Q hs lv (.int y :: .int x :: st) pc := by
  by_cases hy : y = 0
  · rw [dvz, if_pos hy] at h; cases h
  · rw [dvz, if_neg hy] at h
    exact fun H locs ls a b c1 => lv_idiv C.1 C.2.1 d hy (k h H locs ls a b c1)
theorem q_irem (C : Cx G l p s m args c own cc nL) {x y : Int32} {K : OO RT} (d : decode cc pc = .ok (.irem, 1)) (h : dvz y K hs = some o) (k : K hs = some o → WG G p l e R s m args below meth c nL cells slots Q hs lv (.int (irem x y) :: st) (pc + 1)) : WG G p l e R s m args below meth c nL cells slots Q hs lv (.int y :: .int x :: st) pc := by
  by_cases hy : y = 0
  · rw [dvz, if_pos hy] at h; cases h
  · rw [dvz, if_neg hy] at h
    exact fun H locs ls a b c1 => lv_irem C.1 C.2.1 d hy (k h H locs ls a b c1)
theorem q_iconst (C : Cx G l p s m args c own cc nL) {n : Int} (v : Int32) (d : decode cc pc = .ok (.iconst n, 1)) (hv : Int32.ofInt n = v) (k : WG G p l e R s m args below meth c nL cells slots Q hs lv (.int v :: st) (pc + 1)) : WG G p l e R s m args below meth c nL cells slots Q hs lv st pc :=
  fun H locs ls a b c1 => lv_iconst C.1 C.2.1 d hv (k H locs ls a b c1)
theorem q_bipush (C : Cx G l p s m args c own cc nL) {n : Int} (v : Int32) (d : decode cc pc = .ok (.bipush n, 2)) (hv : (Int8.ofInt n).toInt32 = v) (k : WG G p l e R s m args below meth c nL cells slots Q hs lv (.int v :: st) (pc + 2)) : WG G p l e R s m args below meth c nL cells slots Q hs lv st pc :=
  fun H locs ls a b c1 => lv_bipush C.1 C.2.1 d hv (k H locs ls a b c1)
theorem q_sipush (C : Cx G l p s m args c own cc nL) {n : Int} (v : Int32) (d : decode cc pc = .ok (.sipush n, 3)) (hv : (Int16.ofInt n).toInt32 = v) (k : WG G p l e R s m args below meth c nL cells slots Q hs lv (.int v :: st) (pc + 3)) : WG G p l e R s m args below meth c nL cells slots Q hs lv st pc :=
  fun H locs ls a b c1 => lv_sipush C.1 C.2.1 d hv (k H locs ls a b c1)
theorem q_ldc (C : Cx G l p s m args c own cc nL) {index : Nat} {v : Int32} (hw : Cond.constant own index v ∈ Tg) (d : decode cc pc = .ok (.ldc index, 2)) (k : WG G p l e R s m args below meth c nL cells slots Q hs lv (.int v :: st) (pc + 2)) : WG G p l e R s m args below meth c nL cells slots Q hs lv st pc :=
  fun H locs ls a b c1 => lv_ldc C.1 C.2.1 C.2.2.2.1 (C.2.2.2.2.1 _ hw) d (k H locs ls a b c1)
theorem q_ldcw (C : Cx G l p s m args c own cc nL) {index : Nat} {v : Int32} (hw : Cond.constant own index v ∈ Tg) (d : decode cc pc = .ok (.ldc_w index, 3)) (k : WG G p l e R s m args below meth c nL cells slots Q hs lv (.int v :: st) (pc + 3)) : WG G p l e R s m args below meth c nL cells slots Q hs lv st pc :=
  fun H locs ls a b c1 => lv_ldcw C.1 C.2.1 C.2.2.2.1 (C.2.2.2.2.1 _ hw) d (k H locs ls a b c1)
theorem q_pop (C : Cx G l p s m args c own cc nL) {v : Value} (hv : v.category = 1) (d : decode cc pc = .ok (.pop, 1)) (k : WG G p l e R s m args below meth c nL cells slots Q hs lv st (pc + 1)) : WG G p l e R s m args below meth c nL cells slots Q hs lv (v :: st) pc :=
  fun H locs ls a b c1 => lv_pop C.1 C.2.1 d hv (k H locs ls a b c1)
theorem q_dup (C : Cx G l p s m args c own cc nL) {v : Value} (hv : v.category = 1) (d : decode cc pc = .ok (.dup, 1)) (k : WG G p l e R s m args below meth c nL cells slots Q hs lv (v :: v :: st) (pc + 1)) : WG G p l e R s m args below meth c nL cells slots Q hs lv (v :: st) pc :=
  fun H locs ls a b c1 => lv_dup C.1 C.2.1 d hv (k H locs ls a b c1)
theorem q_dupx1 (C : Cx G l p s m args c own cc nL) {v u : Value} (hv : v.category = 1) (hu : u.category = 1) (d : decode cc pc = .ok (.dup_x1, 1)) (k : WG G p l e R s m args below meth c nL cells slots Q hs lv (v :: u :: v :: st) (pc + 1)) : WG G p l e R s m args below meth c nL cells slots Q hs lv (v :: u :: st) pc :=
  fun H locs ls a b c1 => lv_dup_x1 C.1 C.2.1 d hv hu (k H locs ls a b c1)
theorem cat_rf (r : Option Nat) : (va_rf r).category = 1 := by cases r <;> rfl
theorem WG.sub {lv' : List (Nat × Value)} (ks : List Nat) (hl : lv_pick lv ks = lv') (k : WG G p l e R s m args below meth c nL cells slots Q hs lv' st pc) : WG G p l e R s m args below meth c nL cells slots Q hs lv st pc :=
  fun H locs ls a b c1 => k H locs ls a b ⟨lv_sub c1.1 ks hl, fun q hq => by
    subst hl
    obtain ⟨i, -, hi⟩ := List.mem_filterMap.mp hq
    exact c1.2 q (List.mem_of_getElem? hi)⟩
theorem WG.widen {k n : Nat} (h1 : cells ≤ k) (h2 : slots ≤ n) (kk : WG G p l e R s m args below meth c nL k n Q hs lv st pc) : WG G p l e R s m args below meth c nL cells slots Q hs lv st pc :=
  fun H locs ls a b c1 => W.widen h1 h2 (kk H locs ls a b c1)
theorem q_iload_n (C : Cx G l p s m args c own cc nL) {k : Fin 4} {x : Int32} (j : Nat) (d : decode cc pc = .ok (.iload_n k, 1)) (hj : lv[j]? = some ((k : Nat), .int x)) (kk : WG G p l e R s m args below meth c nL cells slots Q hs lv (.int x :: st) (pc + 1)) : WG G p l e R s m args below meth c nL cells slots Q hs lv st pc :=
  fun H locs ls a b c1 => lv_iload_n C.1 C.2.1 d rfl (lv_at c1.1 j hj) (kk H locs ls a b c1)
theorem q_aload_n (C : Cx G l p s m args c own cc nL) {k : Fin 4} {r : Option Nat} (j : Nat) (d : decode cc pc = .ok (.aload_n k, 1)) (hj : lv[j]? = some ((k : Nat), va_rf r)) (kk : WG G p l e R s m args below meth c nL cells slots Q hs lv (va_rf r :: st) (pc + 1)) : WG G p l e R s m args below meth c nL cells slots Q hs lv st pc := by
  intro H locs ls a b c1
  cases r with
  | none => exact lv_aload_nN C.1 C.2.1 d rfl (lv_at c1.1 j hj) (kk H locs ls a b c1)
  | some x => exact lv_aload_n C.1 C.2.1 d rfl (lv_at c1.1 j hj) (kk H locs ls a b c1)
theorem q_istore_n (C : Cx G l p s m args c own cc nL) {k : Fin 4} {x : Int32} {K : Int32 → OO RT} (lv' : Int32 → List (Nat × Value)) (d : decode cc pc = .ok (.istore_n k, 1)) (hn : (k : Nat) < nL) (hl : ∀ x : Int32, ((k : Nat), Value.int x) :: lv.filter (fun q => !(q.1 == (k : Nat))) = lv' x) (h : lets x K hs = some o) (kk : ∀ x : Int32, K x hs = some o → WG G p l e R s m args below meth c nL cells slots Q hs (lv' x) st (pc + 1)) : WG G p l e R s m args below meth c nL cells slots Q hs lv (.int x :: st) pc :=
  fun H locs ls a b c1 => lv_istore_n C.1 C.2.1 d rfl c1.1 hn (by rw [lv_fl c1.2]; exact hl x) (fun ls' c2 => kk x h H locs ls' a b ⟨c2, by rw [← hl x]; exact c1_i (c1_f c1.2)⟩)
theorem q_astore_n (C : Cx G l p s m args c own cc nL) {k : Fin 4} {r : Option Nat} {K : Option Nat → OO RT} (lv' : Option Nat → List (Nat × Value)) (d : decode cc pc = .ok (.astore_n k, 1)) (hn : (k : Nat) < nL) (hl : ∀ r : Option Nat, ((k : Nat), va_rf r) :: lv.filter (fun q => !(q.1 == (k : Nat))) = lv' r) (h : lets r K hs = some o) (kk : ∀ r : Option Nat, K r hs = some o → WG G p l e R s m args below meth c nL cells slots Q hs (lv' r) st (pc + 1)) : WG G p l e R s m args below meth c nL cells slots Q hs lv (va_rf r :: st) pc := by
  intro H locs ls a b c1
  cases r with
  | none => exact lv_astore_nN C.1 C.2.1 d rfl c1.1 hn (by rw [lv_fl c1.2]; exact hl none) (fun ls' c2 => kk none h H locs ls' a b ⟨c2, by rw [← hl none]; exact c1_r (c1_f c1.2)⟩)
  | some x => exact lv_astore_n C.1 C.2.1 d rfl c1.1 hn (by rw [lv_fl c1.2]; exact hl (some x)) (fun ls' c2 => kk (some x) h H locs ls' a b ⟨c2, by rw [← hl (some x)]; exact c1_r (c1_f c1.2)⟩)
theorem q_iload (C : Cx G l p s m args c own cc nL) {i : Nat} {x : Int32} (j : Nat) (d : decode cc pc = .ok (.iload i, 2)) (hj : lv[j]? = some (i, .int x)) (kk : WG G p l e R s m args below meth c nL cells slots Q hs lv (.int x :: st) (pc + 2)) : WG G p l e R s m args below meth c nL cells slots Q hs lv st pc :=
  fun H locs ls a b c1 => lv_iload C.1 C.2.1 d (lv_at c1.1 j hj) (kk H locs ls a b c1)
theorem q_aload (C : Cx G l p s m args c own cc nL) {i : Nat} {r : Option Nat} (j : Nat) (d : decode cc pc = .ok (.aload i, 2)) (hj : lv[j]? = some (i, va_rf r)) (kk : WG G p l e R s m args below meth c nL cells slots Q hs lv (va_rf r :: st) (pc + 2)) : WG G p l e R s m args below meth c nL cells slots Q hs lv st pc := by
  intro H locs ls a b c1
  cases r with
  | none => exact lv_aloadN C.1 C.2.1 d (lv_at c1.1 j hj) (kk H locs ls a b c1)
  | some x => exact lv_aload C.1 C.2.1 d (lv_at c1.1 j hj) (kk H locs ls a b c1)
theorem q_istore (C : Cx G l p s m args c own cc nL) {i : Nat} {x : Int32} {K : Int32 → OO RT} (lv' : Int32 → List (Nat × Value)) (d : decode cc pc = .ok (.istore i, 2)) (hn : i < nL) (hl : ∀ x : Int32, (i, Value.int x) :: lv.filter (fun q => !(q.1 == i)) = lv' x) (h : lets x K hs = some o) (kk : ∀ x : Int32, K x hs = some o → WG G p l e R s m args below meth c nL cells slots Q hs (lv' x) st (pc + 2)) : WG G p l e R s m args below meth c nL cells slots Q hs lv (.int x :: st) pc :=
  fun H locs ls a b c1 => lv_istore C.1 C.2.1 d c1.1 hn (by rw [lv_fl c1.2]; exact hl x) (fun ls' c2 => kk x h H locs ls' a b ⟨c2, by rw [← hl x]; exact c1_i (c1_f c1.2)⟩)
theorem q_astore (C : Cx G l p s m args c own cc nL) {i : Nat} {r : Option Nat} {K : Option Nat → OO RT} (lv' : Option Nat → List (Nat × Value)) (d : decode cc pc = .ok (.astore i, 2)) (hn : i < nL) (hl : ∀ r : Option Nat, (i, va_rf r) :: lv.filter (fun q => !(q.1 == i)) = lv' r) (h : lets r K hs = some o) (kk : ∀ r : Option Nat, K r hs = some o → WG G p l e R s m args below meth c nL cells slots Q hs (lv' r) st (pc + 2)) : WG G p l e R s m args below meth c nL cells slots Q hs lv (va_rf r :: st) pc := by
  intro H locs ls a b c1
  cases r with
  | none => exact lv_astoreN C.1 C.2.1 d c1.1 hn (by rw [lv_fl c1.2]; exact hl none) (fun ls' c2 => kk none h H locs ls' a b ⟨c2, by rw [← hl none]; exact c1_r (c1_f c1.2)⟩)
  | some x => exact lv_astore C.1 C.2.1 d c1.1 hn (by rw [lv_fl c1.2]; exact hl (some x)) (fun ls' c2 => kk (some x) h H locs ls' a b ⟨c2, by rw [← hl (some x)]; exact c1_r (c1_f c1.2)⟩)
theorem q_iinc (C : Cx G l p s m args c own cc nL) {i : Nat} {n : Int} {x : Int32} {K : Int32 → OO RT} (j : Nat) (v : Int32) (lv' : Int32 → List (Nat × Value)) (d : decode cc pc = .ok (.iinc i n, 3)) (hj : lv[j]? = some (i, .int x)) (hv : Int32.ofInt n = v) (hn : i < nL) (hl : ∀ x : Int32, (i, Value.int x) :: lv.filter (fun q => !(q.1 == i)) = lv' x) (h : lets (x + v) K hs = some o) (kk : ∀ x : Int32, K x hs = some o → WG G p l e R s m args below meth c nL cells slots Q hs (lv' x) st (pc + 3)) : WG G p l e R s m args below meth c nL cells slots Q hs lv st pc :=
  fun H locs ls a b c1 => lv_iinc C.1 C.2.1 d c1.1 hj (by rw [hv]) hn (by rw [lv_fl c1.2]; exact hl (x + v)) (fun ls' c2 => kk (x + v) h H locs ls' a b ⟨c2, by rw [← hl (x + v)]; exact c1_i (c1_f c1.2)⟩)
theorem q_goto (C : Cx G l p s m args c own cc nL) {off : Int} (tgt : Nat) (d : decode cc pc = .ok (.goto off, 3)) (ht : (pc : Int) + off = (tgt : Int)) (k : WG G p l e R s m args below meth c nL cells slots Q hs lv st tgt) : WG G p l e R s m args below meth c nL cells slots Q hs lv st pc :=
  fun H locs ls a b c1 => lv_goto C.1 C.2.1 d ht (k H locs ls a b c1)
theorem q_icmp_eq (C : Cx G l p s m args c own cc nL) {x y : Int32} {off : Int} {A B : OO RT} (tgt : Nat) (d : decode cc pc = .ok (.if_icmp .eq off, 3)) (ht : (pc : Int) + off = (tgt : Int)) (h : (if x = y then A else B) hs = some o) (kt : A hs = some o → WG G p l e R s m args below meth c nL cells slots Q hs lv st tgt) (kf : B hs = some o → WG G p l e R s m args below meth c nL cells slots Q hs lv st (pc + 3)) : WG G p l e R s m args below meth c nL cells slots Q hs lv (.int y :: .int x :: st) pc :=
  fun H locs ls a b c1 => lv_icmp_eq C.1 C.2.1 d ht (fun q => kt (by rw [if_pos q] at h; exact h) H locs ls a b c1) (fun q => kf (by rw [if_neg q] at h; exact h) H locs ls a b c1)
theorem q_icmp_ne (C : Cx G l p s m args c own cc nL) {x y : Int32} {off : Int} {A B : OO RT} (tgt : Nat) (d : decode cc pc = .ok (.if_icmp .ne off, 3)) (ht : (pc : Int) + off = (tgt : Int)) (h : (if ¬ x = y then A else B) hs = some o) (kt : A hs = some o → WG G p l e R s m args below meth c nL cells slots Q hs lv st tgt) (kf : B hs = some o → WG G p l e R s m args below meth c nL cells slots Q hs lv st (pc + 3)) : WG G p l e R s m args below meth c nL cells slots Q hs lv (.int y :: .int x :: st) pc :=
  fun H locs ls a b c1 => lv_icmp_ne C.1 C.2.1 d ht (fun q => kt (by rw [if_pos q] at h; exact h) H locs ls a b c1) (fun q => kf (by rw [if_neg (fun z => z q)] at h; exact h) H locs ls a b c1)
theorem q_icmp_lt (C : Cx G l p s m args c own cc nL) {x y : Int32} {off : Int} {A B : OO RT} (tgt : Nat) (d : decode cc pc = .ok (.if_icmp .lt off, 3)) (ht : (pc : Int) + off = (tgt : Int)) (h : (if x < y then A else B) hs = some o) (kt : A hs = some o → WG G p l e R s m args below meth c nL cells slots Q hs lv st tgt) (kf : B hs = some o → WG G p l e R s m args below meth c nL cells slots Q hs lv st (pc + 3)) : WG G p l e R s m args below meth c nL cells slots Q hs lv (.int y :: .int x :: st) pc :=
  fun H locs ls a b c1 => lv_icmp_lt C.1 C.2.1 d ht (fun q => kt (by rw [if_pos q] at h; exact h) H locs ls a b c1) (fun q => kf (by rw [if_neg q] at h; exact h) H locs ls a b c1)
theorem q_icmp_ge (C : Cx G l p s m args c own cc nL) {x y : Int32} {off : Int} {A B : OO RT} (tgt : Nat) (d : decode cc pc = .ok (.if_icmp .ge off, 3)) (ht : (pc : Int) + off = (tgt : Int)) (h : (if y ≤ x then A else B) hs = some o) (kt : A hs = some o → WG G p l e R s m args below meth c nL cells slots Q hs lv st tgt) (kf : B hs = some o → WG G p l e R s m args below meth c nL cells slots Q hs lv st (pc + 3)) : WG G p l e R s m args below meth c nL cells slots Q hs lv (.int y :: .int x :: st) pc :=
  fun H locs ls a b c1 => lv_icmp_ge C.1 C.2.1 d ht (fun q => kt (by rw [if_pos q] at h; exact h) H locs ls a b c1) (fun q => kf (by rw [if_neg q] at h; exact h) H locs ls a b c1)
theorem q_icmp_gt (C : Cx G l p s m args c own cc nL) {x y : Int32} {off : Int} {A B : OO RT} (tgt : Nat) (d : decode cc pc = .ok (.if_icmp .gt off, 3)) (ht : (pc : Int) + off = (tgt : Int)) (h : (if y < x then A else B) hs = some o) (kt : A hs = some o → WG G p l e R s m args below meth c nL cells slots Q hs lv st tgt) (kf : B hs = some o → WG G p l e R s m args below meth c nL cells slots Q hs lv st (pc + 3)) : WG G p l e R s m args below meth c nL cells slots Q hs lv (.int y :: .int x :: st) pc :=
  fun H locs ls a b c1 => lv_icmp_gt C.1 C.2.1 d ht (fun q => kt (by rw [if_pos q] at h; exact h) H locs ls a b c1) (fun q => kf (by rw [if_neg q] at h; exact h) H locs ls a b c1)
theorem q_icmp_le (C : Cx G l p s m args c own cc nL) {x y : Int32} {off : Int} {A B : OO RT} (tgt : Nat) (d : decode cc pc = .ok (.if_icmp .le off, 3)) (ht : (pc : Int) + off = (tgt : Int)) (h : (if x ≤ y then A else B) hs = some o) (kt : A hs = some o → WG G p l e R s m args below meth c nL cells slots Q hs lv st tgt) (kf : B hs = some o → WG G p l e R s m args below meth c nL cells slots Q hs lv st (pc + 3)) : WG G p l e R s m args below meth c nL cells slots Q hs lv (.int y :: .int x :: st) pc :=
  fun H locs ls a b c1 => lv_icmp_le C.1 C.2.1 d ht (fun q => kt (by rw [if_pos q] at h; exact h) H locs ls a b c1) (fun q => kf (by rw [if_neg q] at h; exact h) H locs ls a b c1)
theorem q_if_eq (C : Cx G l p s m args c own cc nL) {x : Int32} {off : Int} {A B : OO RT} (tgt : Nat) (d : decode cc pc = .ok (.ifCond .eq off, 3)) (ht : (pc : Int) + off = (tgt : Int)) (h : (if x = 0 then A else B) hs = some o) (kt : A hs = some o → WG G p l e R s m args below meth c nL cells slots Q hs lv st tgt) (kf : B hs = some o → WG G p l e R s m args below meth c nL cells slots Q hs lv st (pc + 3)) : WG G p l e R s m args below meth c nL cells slots Q hs lv (.int x :: st) pc :=
  fun H locs ls a b c1 => lv_if_eq C.1 C.2.1 d ht (fun q => kt (by rw [if_pos q] at h; exact h) H locs ls a b c1) (fun q => kf (by rw [if_neg q] at h; exact h) H locs ls a b c1)
theorem q_if_ne (C : Cx G l p s m args c own cc nL) {x : Int32} {off : Int} {A B : OO RT} (tgt : Nat) (d : decode cc pc = .ok (.ifCond .ne off, 3)) (ht : (pc : Int) + off = (tgt : Int)) (h : (if ¬ x = 0 then A else B) hs = some o) (kt : A hs = some o → WG G p l e R s m args below meth c nL cells slots Q hs lv st tgt) (kf : B hs = some o → WG G p l e R s m args below meth c nL cells slots Q hs lv st (pc + 3)) : WG G p l e R s m args below meth c nL cells slots Q hs lv (.int x :: st) pc :=
  fun H locs ls a b c1 => lv_if_ne C.1 C.2.1 d ht (fun q => kt (by rw [if_pos q] at h; exact h) H locs ls a b c1) (fun q => kf (by rw [if_neg (fun z => z q)] at h; exact h) H locs ls a b c1)
theorem q_if_lt (C : Cx G l p s m args c own cc nL) {x : Int32} {off : Int} {A B : OO RT} (tgt : Nat) (d : decode cc pc = .ok (.ifCond .lt off, 3)) (ht : (pc : Int) + off = (tgt : Int)) (h : (if x < 0 then A else B) hs = some o) (kt : A hs = some o → WG G p l e R s m args below meth c nL cells slots Q hs lv st tgt) (kf : B hs = some o → WG G p l e R s m args below meth c nL cells slots Q hs lv st (pc + 3)) : WG G p l e R s m args below meth c nL cells slots Q hs lv (.int x :: st) pc :=
  fun H locs ls a b c1 => lv_if_lt C.1 C.2.1 d ht (fun q => kt (by rw [if_pos q] at h; exact h) H locs ls a b c1) (fun q => kf (by rw [if_neg q] at h; exact h) H locs ls a b c1)
theorem q_if_ge (C : Cx G l p s m args c own cc nL) {x : Int32} {off : Int} {A B : OO RT} (tgt : Nat) (d : decode cc pc = .ok (.ifCond .ge off, 3)) (ht : (pc : Int) + off = (tgt : Int)) (h : (if 0 ≤ x then A else B) hs = some o) (kt : A hs = some o → WG G p l e R s m args below meth c nL cells slots Q hs lv st tgt) (kf : B hs = some o → WG G p l e R s m args below meth c nL cells slots Q hs lv st (pc + 3)) : WG G p l e R s m args below meth c nL cells slots Q hs lv (.int x :: st) pc :=
  fun H locs ls a b c1 => lv_if_ge C.1 C.2.1 d ht (fun q => kt (by rw [if_pos q] at h; exact h) H locs ls a b c1) (fun q => kf (by rw [if_neg q] at h; exact h) H locs ls a b c1)
theorem q_if_gt (C : Cx G l p s m args c own cc nL) {x : Int32} {off : Int} {A B : OO RT} (tgt : Nat) (d : decode cc pc = .ok (.ifCond .gt off, 3)) (ht : (pc : Int) + off = (tgt : Int)) (h : (if 0 < x then A else B) hs = some o) (kt : A hs = some o → WG G p l e R s m args below meth c nL cells slots Q hs lv st tgt) (kf : B hs = some o → WG G p l e R s m args below meth c nL cells slots Q hs lv st (pc + 3)) : WG G p l e R s m args below meth c nL cells slots Q hs lv (.int x :: st) pc :=
  fun H locs ls a b c1 => lv_if_gt C.1 C.2.1 d ht (fun q => kt (by rw [if_pos q] at h; exact h) H locs ls a b c1) (fun q => kf (by rw [if_neg q] at h; exact h) H locs ls a b c1)
theorem q_if_le (C : Cx G l p s m args c own cc nL) {x : Int32} {off : Int} {A B : OO RT} (tgt : Nat) (d : decode cc pc = .ok (.ifCond .le off, 3)) (ht : (pc : Int) + off = (tgt : Int)) (h : (if x ≤ 0 then A else B) hs = some o) (kt : A hs = some o → WG G p l e R s m args below meth c nL cells slots Q hs lv st tgt) (kf : B hs = some o → WG G p l e R s m args below meth c nL cells slots Q hs lv st (pc + 3)) : WG G p l e R s m args below meth c nL cells slots Q hs lv (.int x :: st) pc :=
  fun H locs ls a b c1 => lv_if_le C.1 C.2.1 d ht (fun q => kt (by rw [if_pos q] at h; exact h) H locs ls a b c1) (fun q => kf (by rw [if_neg q] at h; exact h) H locs ls a b c1)
theorem q_acmp_eq (C : Cx G l p s m args c own cc nL) {x y : Option Nat} {off : Int} {A B : OO RT} (tgt : Nat) (d : decode cc pc = .ok (.if_acmp .eq off, 3)) (ht : (pc : Int) + off = (tgt : Int)) (h : (if x = y then A else B) hs = some o) (kt : A hs = some o → WG G p l e R s m args below meth c nL cells slots Q hs lv st tgt) (kf : B hs = some o → WG G p l e R s m args below meth c nL cells slots Q hs lv st (pc + 3)) : WG G p l e R s m args below meth c nL cells slots Q hs lv (va_rf y :: va_rf x :: st) pc :=
  fun H locs ls a b c1 => lv_acmp_eq C.1 C.2.1 d ht (fun q => kt (by rw [if_pos q] at h; exact h) H locs ls a b c1) (fun q => kf (by rw [if_neg q] at h; exact h) H locs ls a b c1)
theorem q_acmp_ne (C : Cx G l p s m args c own cc nL) {x y : Option Nat} {off : Int} {A B : OO RT} (tgt : Nat) (d : decode cc pc = .ok (.if_acmp .ne off, 3)) (ht : (pc : Int) + off = (tgt : Int)) (h : (if ¬ x = y then A else B) hs = some o) (kt : A hs = some o → WG G p l e R s m args below meth c nL cells slots Q hs lv st tgt) (kf : B hs = some o → WG G p l e R s m args below meth c nL cells slots Q hs lv st (pc + 3)) : WG G p l e R s m args below meth c nL cells slots Q hs lv (va_rf y :: va_rf x :: st) pc :=
  fun H locs ls a b c1 => lv_acmp_ne C.1 C.2.1 d ht (fun q => kt (by rw [if_pos q] at h; exact h) H locs ls a b c1) (fun q => kf (by rw [if_neg (fun z => z q)] at h; exact h) H locs ls a b c1)
theorem q_ifnull (C : Cx G l p s m args c own cc nL) {r : Option Nat} {off : Int} {A B : OO RT} (tgt : Nat) (d : decode cc pc = .ok (.ifnull off, 3)) (ht : (pc : Int) + off = (tgt : Int)) (h : (if r = none then A else B) hs = some o) (kt : A hs = some o → WG G p l e R s m args below meth c nL cells slots Q hs lv st tgt) (kf : B hs = some o → WG G p l e R s m args below meth c nL cells slots Q hs lv st (pc + 3)) : WG G p l e R s m args below meth c nL cells slots Q hs lv (va_rf r :: st) pc := by
  intro H locs ls a b c1
  cases r with
  | none => exact lv_ifnullN C.1 C.2.1 d ht (kt (by first | (rw [if_pos rfl] at h; exact h) | (rw [if_neg (fun z => z rfl)] at h; exact h)) H locs ls a b c1)
  | some x => exact lv_ifnull C.1 C.2.1 d (kf (by first | (rw [if_neg (fun z => nomatch z)] at h; exact h) | (rw [if_pos (fun z => nomatch z)] at h; exact h)) H locs ls a b c1)
theorem q_ifnonnull (C : Cx G l p s m args c own cc nL) {r : Option Nat} {off : Int} {A B : OO RT} (tgt : Nat) (d : decode cc pc = .ok (.ifnonnull off, 3)) (ht : (pc : Int) + off = (tgt : Int)) (h : (if ¬ r = none then A else B) hs = some o) (kt : A hs = some o → WG G p l e R s m args below meth c nL cells slots Q hs lv st tgt) (kf : B hs = some o → WG G p l e R s m args below meth c nL cells slots Q hs lv st (pc + 3)) : WG G p l e R s m args below meth c nL cells slots Q hs lv (va_rf r :: st) pc := by
  intro H locs ls a b c1
  cases r with
  | none => exact lv_ifnonnullN C.1 C.2.1 d (kf (by first | (rw [if_pos rfl] at h; exact h) | (rw [if_neg (fun z => z rfl)] at h; exact h)) H locs ls a b c1)
  | some x => exact lv_ifnonnull C.1 C.2.1 d ht (kt (by first | (rw [if_neg (fun z => nomatch z)] at h; exact h) | (rw [if_pos (fun z => nomatch z)] at h; exact h)) H locs ls a b c1)
theorem q_null (C : Cx G l p s m args c own cc nL) (d : decode cc pc = .ok (.aconst_null, 1)) (k : WG G p l e R s m args below meth c nL cells slots Q hs lv (va_rf none :: st) (pc + 1)) : WG G p l e R s m args below meth c nL cells slots Q hs lv st pc :=
  fun H locs ls a b c1 => lv_null C.1 C.2.1 d (k H locs ls a b c1)
theorem Fld.same {T : u_T} {k : Nat} {ref : String} (C : Cx G l p s m args c own cc nL) (h : ref = (T k).1 ∨ Cond.sameField ref (T k).1 (T k).2.1 (T k).2.2.1 ∈ Tg) : ∀ x, s.fieldFound? (T k).1 (T k).2.1 (T k).2.2.1 = some x → s.fieldFound? ref (T k).2.1 (T k).2.2.1 = some x := by
  rcases h with rfl | h
  · exact fun _ z => z
  · exact fun x z => u_same (C.2.2.2.2.1 _ h) x z
theorem gI_s {R : Type} {r : Option Nat} {ci k : Nat} {K : Int32 → OO R} {hs : Hs} {o : Except Nat R × Hs} (h : gI r ci k K hs = some o) : ∃ a fs x, r = some a ∧ hs.1 a = some (.inr (ci, fs)) ∧ fs[k]? = some (.int x) ∧ K x hs = some o := by
  unfold gI at h
  split at h
  · cases h
  · rename_i a
    split at h
    · rename_i c fs hc
      split at h
      · rename_i hci
        subst hci
        split at h
        · rename_i x hx
          exact ⟨a, fs, x, rfl, hc, hx, h⟩
        · cases h
      · cases h
    · cases h
theorem gR_s {R : Type} {r : Option Nat} {ci k : Nat} {K : Option Nat → OO R} {hs : Hs} {o : Except Nat R × Hs} (h : gR r ci k K hs = some o) : ∃ a fs x, r = some a ∧ hs.1 a = some (.inr (ci, fs)) ∧ fs[k]? = some (va_rf x) ∧ K x hs = some o := by
  unfold gR at h
  split at h
  · cases h
  · rename_i a
    split at h
    · rename_i c fs hc
      split at h
      · rename_i hci
        subst hci
        split at h
        · rename_i x hx
          exact ⟨a, fs, some x, rfl, hc, hx, h⟩
        · rename_i hx
          exact ⟨a, fs, none, rfl, hc, hx, h⟩
        · cases h
      · cases h
    · cases h
theorem pV_s {R : Type} {r : Option Nat} {ci k : Nat} {v : Value} {K : OO R} {hs : Hs} {o : Except Nat R × Hs} (h : pV r ci k v K hs = some o) : ∃ a fs, r = some a ∧ hs.1 a = some (.inr (ci, fs)) ∧ k < fs.length ∧ K (hset hs.1 a (.inr (ci, fs.set k v)), hs.2) = some o := by
  unfold pV at h
  split at h
  · cases h
  · rename_i a
    split at h
    · rename_i c fs hc
      split at h
      · rename_i hci
        obtain ⟨hci, hk⟩ := hci
        subst hci
        exact ⟨a, fs, rfl, hc, hk, h⟩
      · cases h
    · cases h
theorem q_gI (C : Cx G l p s m args c own cc nL) {index ci k : Nat} {ty : FieldType} {r : Option Nat} {K : Int32 → OO RT} (f : Fld own index ci k ty) (d : decode cc pc = .ok (.getfield index, 3)) (h : gI r ci k K hs = some o) (kk : ∀ x : Int32, K x hs = some o → WG G p l e R s m args below meth c nL cells slots Q hs lv (.int x :: st) (pc + 3)) : WG G p l e R s m args below meth c nL cells slots Q hs lv (va_rf r :: st) pc := by
  obtain ⟨a, fs, x, rfl, ha, hx, h⟩ := gI_s h
  obtain ⟨CN, T, N, ref, hc, hk, hl, hrf, hw, -⟩ := f
  intro H locs ls hR hS c1
  exact va_get C.1 C.2.1 C.2.2.2.2.1 hw C.2.2.2.1 C.2.2.2.2.2.1.1 (hR.P ha) 0 rfl hc k hk (C.2.2.2.2.1 _ hl) (Fld.same C hrf) hx d (kk x h H locs ls hR hS c1)
theorem q_gR (C : Cx G l p s m args c own cc nL) {index ci k : Nat} {ty : FieldType} {r : Option Nat} {K : Option Nat → OO RT} (f : Fld own index ci k ty) (d : decode cc pc = .ok (.getfield index, 3)) (h : gR r ci k K hs = some o) (kk : ∀ x : Option Nat, K x hs = some o → WG G p l e R s m args below meth c nL cells slots Q hs lv (va_rf x :: st) (pc + 3)) : WG G p l e R s m args below meth c nL cells slots Q hs lv (va_rf r :: st) pc := by
  obtain ⟨a, fs, x, rfl, ha, hx, h⟩ := gR_s h
  obtain ⟨CN, T, N, ref, hc, hk, hl, hrf, hw, -⟩ := f
  intro H locs ls hR hS c1
  exact va_get C.1 C.2.1 C.2.2.2.2.1 hw C.2.2.2.1 C.2.2.2.2.2.1.1 (hR.P ha) 0 rfl hc k hk (C.2.2.2.2.1 _ hl) (Fld.same C hrf) hx d (kk x h H locs ls hR hS c1)
theorem putCell {G : GG} {H1 : Heap} {a ci k N : Nat} {fs : List Value} {v : Value} {C : String} {T : u_T} {cell : Cell}
    (hc : vwCl[ci]? = some (C, T, N)) (h1 : H1[a]? = some (cell.setSlot (G.1.2 ci k) v)) (q2 : cell.cls = G.1.1 ci) (q3 : cell.vm = .none) (q4 : ∀ j, j < N → cell.slots[G.1.2 ci j]? = some (vp_V fs j)) (hap : ∀ i j, i < N → j < N → i ≠ j → G.1.2 ci i ≠ G.1.2 ci j) (hk : k < N) (hl : k < fs.length) : va_at G.1 vwCl (a, toE G.2.1 (.inr (ci, fs.set k v))) H1 :=
  ⟨_, hc, t_OB.to (V := updV (vp_V fs) k v) ⟨_, h1, q2, q3, t_set q4 hap hk v⟩ (fun j _ => vp_updV_set hl v j)⟩
theorem q_pV (C : Cx G l p s m args c own cc nL) {index ci k : Nat} {ty : FieldType} {fin : Bool} {r : Option Nat} {v : Value} {K : OO RT} (f : FldW own index ci k ty fin) (hin : fin = true → meth.name = "<init>") (hn : narrow ty v = v) (hfit : fits ty v = true) (d : decode cc pc = .ok (.putfield index, 3)) (h : pV r ci k v K hs = some o) (kk : ∀ hs1, K hs1 = some o → WG G p l e R s m args below meth c nL cells slots Q hs1 lv st (pc + 3)) : WG G p l e R s m args below meth c nL cells slots Q hs lv (v :: va_rf r :: st) pc := by
  obtain ⟨a, fs, rfl, ha, hkl, h⟩ := pV_s h
  obtain ⟨CN, T, N, ref, hc, hk, hl, hrf, hw, hd, ⟨ty0, hty⟩, hnm, hfin, hdecl⟩ := f
  have hsame := Fld.same C hrf
  intro H locs ls hR hS c1
  have hK := C.2.2.2.2.2.1.1
  have hap := va_apart (own := own) C.2.2.2.2.1 hw ty0 hty hnm hK hc
  have hAa : gA G a := hR.A ha (by unfold ce0; intro z; cases z)
  obtain ⟨r, h1, cell, q1, q2, q3, q4⟩ := (hR.Pa ha ne_O).2
  have hr : r = (CN, T, N) := Option.some.inj (h1.symm.trans hc)
  subst hr
  obtain ⟨hS9, hfc, kC, hkC, hkind⟩ := hK.1 ci _ hc
  obtain ⟨cf, kf, fi, f, hi, hsl⟩ := hS9 k hk
  have hlay := C.2.2.2.2.1 _ (hw _ (u_in_lay hk))
  have hst := (u_facts hfc hkC (u_lays C.2.2.2.2.1 hw hk) hi).1
  unfold u_lay at hlay
  cases hfb : fin with
  | false =>
    rw [hfb] at hfin
    rw [if_neg (by rw [hfin]; decide)] at hlay
    have h6 := u_store hfc hkC hkind hlay hi hd hn hfit
    refine W.putK C.1 C.2.1 (f := f) ⟨C.2.2.2.1, C.2.2.2.2.1 _ hl, ⟨_, _, _, hsame _ hi⟩, hst⟩ (by rw [q2]; exact h6) q1 q3 (by rw [hsl]; exact k2_hasslot (q4 k hk)) rfl rfl d fun H' e1 e2 e3 => ?_
    rw [hsl] at e1 ⊢
    exact kk _ h H' _ ls (hR.set hAa e2 e3 (putCell (G := G) hc e1 q2 q3 q4 hap hk hkl)) (hS.put e2 e3 hAa) c1
  | true =>
    rw [hfb] at hfin
    rw [if_pos hfin] at hlay
    have hcf : m.cls = cf := by
      obtain ⟨_, _, c', _, _, _, -, -, hf', -, -, -, hown2, -⟩ := Cond.laysFinal_spec hlay
      have e1 : c' = cf := by have := hi.symm.trans hf'; simp at this; exact this.1.symm
      rw [hdecl hfb] at hown2
      rw [← e1]; exact Option.some.inj (C.2.2.2.1.symm.trans hown2)
    have h6 := u_fits hfc hkC hkind (Or.inr hlay) hi hd hn hfit
    refine W.putFinK C.1 C.2.1 C.2.2.2.1 (C.2.2.2.2.1 _ hl) (hsame _ hi) hst hcf (hin hfb) (by rw [q2]; exact h6) q1 q3 (by rw [hsl]; exact k2_hasslot (q4 k hk)) rfl rfl d fun H' e1 e2 e3 => ?_
    rw [hsl] at e1 ⊢
    exact kk _ h H' _ ls (hR.set hAa e2 e3 (putCell (G := G) hc e1 q2 q3 q4 hap hk hkl)) (hS.put e2 e3 hAa) c1
theorem q_pI (C : Cx G l p s m args c own cc nL) {index ci k : Nat} {fin : Bool} {r : Option Nat} {x : Int32} {K : OO RT} (f : FldW own index ci k .int fin) (hin : fin = true → meth.name = "<init>") (d : decode cc pc = .ok (.putfield index, 3)) (h : pI r ci k x K hs = some o) (kk : ∀ hs1, K hs1 = some o → WG G p l e R s m args below meth c nL cells slots Q hs1 lv st (pc + 3)) : WG G p l e R s m args below meth c nL cells slots Q hs lv (.int x :: va_rf r :: st) pc := q_pV C f hin rfl rfl d h kk
theorem q_pZ (C : Cx G l p s m args c own cc nL) {index ci k : Nat} {fin : Bool} {r : Option Nat} {x : Int32} {K : OO RT} (f : FldW own index ci k .boolean fin) (hin : fin = true → meth.name = "<init>") (d : decode cc pc = .ok (.putfield index, 3)) (h : pZ r ci k x K hs = some o) (kk : ∀ hs1, K hs1 = some o → WG G p l e R s m args below meth c nL cells slots Q hs1 lv st (pc + 3)) : WG G p l e R s m args below meth c nL cells slots Q hs lv (.int x :: va_rf r :: st) pc := by
  unfold pZ at h
  split at h
  · rename_i hx
    exact q_pV C f hin (by rcases hx with rfl | rfl <;> decide) (by rcases hx with rfl | rfl <;> decide) d h kk
  · cases h
theorem q_pR (C : Cx G l p s m args c own cc nL) {index ci k : Nat} {fin : Bool} {ty : FieldType} {r : Option Nat} {x : Option Nat} {K : OO RT} (f : FldW own index ci k ty fin) (hin : fin = true → meth.name = "<init>") (hty : ty.isReference = true) (d : decode cc pc = .ok (.putfield index, 3)) (h : pR r ci k x K hs = some o) (kk : ∀ hs1, K hs1 = some o → WG G p l e R s m args below meth c nL cells slots Q hs1 lv st (pc + 3)) : WG G p l e R s m args below meth c nL cells slots Q hs lv (va_rf x :: va_rf r :: st) pc := q_pV C f hin (by cases x <;> cases ty <;> first | rfl | cases hty) (by cases x <;> cases ty <;> first | rfl | cases hty) d h kk
theorem ldI_s {R : Type} {t : Nat} {r : Option Nat} {i : Int32} {K : Int32 → OO R} {hs : Hs} {o : Except Nat R × Hs} (h : ldI t r i K hs = some o) : ∃ a n f, r = some a ∧ hs.1 a = some (aI t n f) ∧ vp_in i n ∧ K (f i.toNatClampNeg) hs = some o := by
  unfold ldI at h
  split at h
  · cases h
  · rename_i a
    split at h
    · rename_i t1 n f hc
      split at h
      · rename_i hi
        obtain ⟨ht, hi⟩ := hi
        subst ht
        exact ⟨a, n, f, rfl, hc, hi, h⟩
      · cases h
    · cases h
theorem ldR_s {R : Type} {t : Nat} {r : Option Nat} {i : Int32} {K : Option Nat → OO R} {hs : Hs} {o : Except Nat R × Hs} (h : ldR t r i K hs = some o) : ∃ a n f, r = some a ∧ hs.1 a = some (aR t n f) ∧ vp_in i n ∧ K (f i.toNatClampNeg) hs = some o := by
  unfold ldR at h
  split at h
  · cases h
  · rename_i a
    split at h
    · rename_i t1 n f hc
      split at h
      · rename_i hi
        obtain ⟨ht, hi⟩ := hi
        subst ht
        exact ⟨a, n, f, rfl, hc, hi, h⟩
      · cases h
    · cases h
theorem stI_s {R : Type} {r : Option Nat} {i x : Int32} {K : OO R} {hs : Hs} {o : Except Nat R × Hs} (h : stI r i x K hs = some o) : ∃ a n f, r = some a ∧ hs.1 a = some (aI 0 n f) ∧ vp_in i n ∧ K (hset hs.1 a (aI 0 n (upd f i.toNatClampNeg x)), hs.2) = some o := by
  unfold stI at h
  split at h
  · cases h
  · rename_i a
    split at h
    · rename_i t1 n f hc
      split at h
      · rename_i hi
        obtain ⟨ht, hi⟩ := hi
        subst ht
        exact ⟨a, n, f, rfl, hc, hi, h⟩
      · cases h
    · cases h
theorem stZ_s {R : Type} {r : Option Nat} {i x : Int32} {K : OO R} {hs : Hs} {o : Except Nat R × Hs} (h : stZ r i x K hs = some o) : ∃ a n f, r = some a ∧ hs.1 a = some (aI 1 n f) ∧ vp_in i n ∧ (x = 0 ∨ x = 1) ∧ K (hset hs.1 a (aI 1 n (upd f i.toNatClampNeg x)), hs.2) = some o := by
  unfold stZ at h
  split at h
  · cases h
  · rename_i a
    split at h
    · rename_i t1 n f hc
      split at h
      · rename_i hi
        obtain ⟨ht, hx, hi⟩ := hi
        subst ht
        exact ⟨a, n, f, rfl, hc, hi, hx, h⟩
      · cases h
    · cases h
theorem stO_s {R : Type} {ca : List Nat} {r x : Option Nat} {i : Int32} {K : OO R} {hs : Hs} {o : Except Nat R × Hs} (h : stO ca r i x K hs = some o) : ∃ a b n f ci vs, r = some a ∧ x = some b ∧ hs.1 a = some (aR 4 n f) ∧ hs.1 b = some (.inr (ci, vs)) ∧ ci ∈ ca ∧ vp_in i n ∧ K (hset hs.1 a (aR 4 n (va_up f i.toNatClampNeg (some b))), hs.2) = some o := by
  unfold stO at h
  split at h
  · rename_i a b
    split at h
    · rename_i t1 n f c vs hc hb
      split at h
      · rename_i hi
        obtain ⟨ht, hx, hi⟩ := hi
        subst ht
        exact ⟨a, b, n, f, c, vs, rfl, rfl, hc, hb, hx, hi, h⟩
      · cases h
    · cases h
  · cases h
theorem alen_s {R : Type} {r : Option Nat} {K : Int32 → OO R} {hs : Hs} {o : Except Nat R × Hs} (h : alen r K hs = some o) : ∃ a t x, r = some a ∧ hs.1 a = some (.inl (t, x)) ∧ t < 6 ∧ K (Int32.ofNat x.1) hs = some o := by
  unfold alen at h
  split at h
  · cases h
  · rename_i a
    split at h
    · rename_i t n x hc
      split at h
      · rename_i hi
        exact ⟨a, t, (n, x), rfl, hc, hi, h⟩
      · cases h
    · cases h
theorem tyl_K {G : GG} {l : Launch} {s : State} {H : Heap} (h : Kn G l s H) {t : Nat} {ty : FieldType} (ht : (tyl G.2.1)[t]? = some (G.2.1 t, ty)) : ArrOfT s (G.2.1 t) ty := (h.1.2 t _ ht).1
theorem q_iald (C : Cx G l p s m args c own cc nL) {r : Option Nat} {i : Int32} {K : Int32 → OO RT} (d : decode cc pc = .ok (.iaload, 1)) (h : ldI 0 r i K hs = some o) (kk : ∀ x : Int32, K x hs = some o → WG G p l e R s m args below meth c nL cells slots Q hs lv (.int x :: st) (pc + 1)) : WG G p l e R s m args below meth c nL cells slots Q hs lv (.int i :: va_rf r :: st) pc := by
  obtain ⟨a, n, f, rfl, ha, hi, h⟩ := ldI_s h
  intro H locs ls hR hS c1
  exact va_iald (cA := G.2.1 0) C.1 C.2.1 C.2.2.2.2.2.1.1 (hR.P ha) 0 0 rfl rfl hi d (kk _ h H locs ls hR hS c1)
theorem q_zald (C : Cx G l p s m args c own cc nL) {r : Option Nat} {i : Int32} {K : Int32 → OO RT} (d : decode cc pc = .ok (.baload, 1)) (h : ldI 1 r i K hs = some o) (kk : ∀ x : Int32, K x hs = some o → WG G p l e R s m args below meth c nL cells slots Q hs lv (.int x :: st) (pc + 1)) : WG G p l e R s m args below meth c nL cells slots Q hs lv (.int i :: va_rf r :: st) pc := by
  obtain ⟨a, n, f, rfl, ha, hi, h⟩ := ldI_s h
  intro H locs ls hR hS c1
  exact va_zald (cA := G.2.1 1) C.1 C.2.1 C.2.2.2.2.2.1.1 (hR.P ha) 0 1 rfl rfl hi d (kk _ h H locs ls hR hS c1)
theorem q_aaldO (C : Cx G l p s m args c own cc nL) {r : Option Nat} {i : Int32} {K : Option Nat → OO RT} (d : decode cc pc = .ok (.aaload, 1)) (h : ldR 4 r i K hs = some o) (kk : ∀ x : Option Nat, K x hs = some o → WG G p l e R s m args below meth c nL cells slots Q hs lv (va_rf x :: st) (pc + 1)) : WG G p l e R s m args below meth c nL cells slots Q hs lv (.int i :: va_rf r :: st) pc := by
  obtain ⟨a, n, f, rfl, ha, hi, h⟩ := ldR_s h
  intro H locs ls hR hS c1
  exact va_aldq (cA := G.2.1 4) C.1 C.2.1 C.2.2.2.2.2.1.1 (hR.P ha) 0 4 rfl rfl hi d (kk _ h H locs ls hR hS c1)
theorem q_aaldA (C : Cx G l p s m args c own cc nL) {r : Option Nat} {i : Int32} {K : Option Nat → OO RT} (d : decode cc pc = .ok (.aaload, 1)) (h : ldR 5 r i K hs = some o) (kk : ∀ x : Option Nat, K x hs = some o → WG G p l e R s m args below meth c nL cells slots Q hs lv (va_rf x :: st) (pc + 1)) : WG G p l e R s m args below meth c nL cells slots Q hs lv (.int i :: va_rf r :: st) pc := by
  obtain ⟨a, n, f, rfl, ha, hi, h⟩ := ldR_s h
  intro H locs ls hR hS c1
  have hlt : i.toNatClampNeg < n := Nat.not_le.mp fun q => hi (Or.inr q)
  exact W.aald (v := va_rf (f i.toNatClampNeg)) (ty := .array .int) C.1 C.2.1 ((hR.P ha) 0 _ rfl) ((tyl_K C.2.2.2.2.2.1 (t := 5) rfl) n (fun j => va_rf (f j))) rfl (fun q => by cases q) (by show ¬ (i < 0 ∨ (arrV _ _ _).slots.size ≤ _); rw [arrV_size]; exact hi) (by show (arrV _ _ _).slots[_]? = _; rw [arrV_read _ _ hlt]) rfl rfl d (kk _ h H locs ls hR hS c1)
theorem q_alen (C : Cx G l p s m args c own cc nL) {r : Option Nat} {K : Int32 → OO RT} (d : decode cc pc = .ok (.arraylength, 1)) (h : alen r K hs = some o) (kk : ∀ x : Int32, K x hs = some o → WG G p l e R s m args below meth c nL cells slots Q hs lv (.int x :: st) (pc + 1)) : WG G p l e R s m args below meth c nL cells slots Q hs lv (va_rf r :: st) pc := by
  obtain ⟨a, t, x, rfl, ha, ht, h⟩ := alen_s h
  intro H locs ls hR hS c1
  have hty : ∃ ty, (tyl G.2.1)[t]? = some (G.2.1 t, ty) := by
    rcases (show t = 0 ∨ t = 1 ∨ t = 2 ∨ t = 3 ∨ t = 4 ∨ t = 5 by omega) with rfl | rfl | rfl | rfl | rfl | rfl <;> exact ⟨_, rfl⟩
  obtain ⟨ty, hty⟩ := hty
  have h0 := hR.2.2.2 a _ ha
  by_cases hne : (Sum.inl (t, x) : Ce) = ce0
  · rcases h0 with ⟨hA, hat⟩ | ⟨he, cell, g1, g2, g3, g4⟩
    · refine va_alen (ws := [(a, .inl (G.2.1 t, x))]) (cA := G.2.1 t) C.1 C.2.1 C.2.2.2.2.2.1.1 (fun k q hk => ?_) 0 t rfl hty rfl d (kk _ h H locs ls hR hS c1)
      match k, hk with
      | 0, hk => cases hk; exact hat
    · have h8 := Sum.inl.inj (he : (Sum.inl (t, x) : Ce) = Sum.inl (4, 0, .inr (.inr (.inr (.inr (fun _ => none))))))
      cases h8
      have h9 : s.isArrayOf cell (.object "java/lang/Object") := ⟨g2, by rw [g4]; exact ((tyl_K C.2.2.2.2.2.1 (t := 4) rfl) 0 (fun _ => .null)).2⟩
      exact W.alen (n := Int32.ofNat 0) C.1 C.2.1 g1 h9 (g3.trans rfl) rfl rfl d (kk _ h H locs ls hR hS c1)
  · exact va_alen (cA := G.2.1 t) C.1 C.2.1 C.2.2.2.2.2.1.1 (hR.P ha hne) 0 t rfl hty rfl d (kk _ h H locs ls hR hS c1)
theorem q_iast (C : Cx G l p s m args c own cc nL) {r : Option Nat} {i x : Int32} {K : OO RT} (d : decode cc pc = .ok (.iastore, 1)) (h : stI r i x K hs = some o) (kk : ∀ hs1, K hs1 = some o → WG G p l e R s m args below meth c nL cells slots Q hs1 lv st (pc + 1)) : WG G p l e R s m args below meth c nL cells slots Q hs lv (.int x :: .int i :: va_rf r :: st) pc := by
  obtain ⟨a, n, f, rfl, ha, hi, h⟩ := stI_s h
  intro H locs ls hR hS c1
  have hAa : gA G a := hR.A ha (ne_ce0 (vp_pos hi))
  refine W.iast C.1 C.2.1 ((hR.P ha) 0 _ rfl) ((tyl_K C.2.2.2.2.2.1 (t := 0) rfl) n (fun j => .int (f j))) (fun q => by cases q) (by show ¬ (i < 0 ∨ (arrV _ _ _).slots.size ≤ _); rw [arrV_size]; exact hi) rfl rfl d fun H1 e z oq => ?_
  refine kk _ h H1 _ ls (hR.set hAa z oq ?_) (hS.put z oq hAa) c1
  show H1[a]? = some (vp_cell _ _)
  rw [e]
  show some ((arrV (G.2.1 0) n (fun j => .int (f j))).setSlot i.toNatClampNeg (.int x)) = some (arrV (G.2.1 0) n (fun j => .int (upd f i.toNatClampNeg x j)))
  rw [arrV_store]
  congr 2
  funext q
  by_cases hq : q = i.toNatClampNeg
  · subst hq
    simp [updV, upd]
  · simp [updV, upd, hq]
theorem q_zast (C : Cx G l p s m args c own cc nL) {r : Option Nat} {i x : Int32} {K : OO RT} (d : decode cc pc = .ok (.bastore, 1)) (h : stZ r i x K hs = some o) (kk : ∀ hs1, K hs1 = some o → WG G p l e R s m args below meth c nL cells slots Q hs1 lv st (pc + 1)) : WG G p l e R s m args below meth c nL cells slots Q hs lv (.int x :: .int i :: va_rf r :: st) pc := by
  obtain ⟨a, n, f, rfl, ha, hi, hx, h⟩ := stZ_s h
  intro H locs ls hR hS c1
  have hAa : gA G a := hR.A ha (ne_ce0 (vp_pos hi))
  refine W.zast C.1 C.2.1 ((hR.P ha) 0 _ rfl) ((tyl_K C.2.2.2.2.2.1 (t := 1) rfl) n (fun j => .int (f j))) (fun q => by cases q) (by show ¬ (i < 0 ∨ (arrV _ _ _).slots.size ≤ _); rw [arrV_size]; exact hi) rfl rfl d fun H1 e z oq => ?_
  refine kk _ h H1 _ ls (hR.set hAa z oq ?_) (hS.put z oq hAa) c1
  have hnx : narrow .boolean (.int x) = .int x := by rcases hx with rfl | rfl <;> decide
  show H1[a]? = some (vp_cell _ _)
  rw [e, hnx]
  show some ((arrV (G.2.1 1) n (fun j => .int (f j))).setSlot i.toNatClampNeg (.int x)) = some (arrV (G.2.1 1) n (fun j => .int (upd f i.toNatClampNeg x j)))
  rw [arrV_store]
  congr 2
  funext q
  by_cases hq : q = i.toNatClampNeg
  · subst hq
    simp [updV, upd]
  · simp [updV, upd, hq]
theorem q_aastO (C : Cx G l p s m args c own cc nL) {ca : List Nat} {r x : Option Nat} {i : Int32} {K : OO RT} (hca : ∀ ci ∈ ca, ∃ q, vwCl[ci]? = some q ∧ (q.1, "java/lang/Object") ∈ kx_cast) (d : decode cc pc = .ok (.aastore, 1)) (h : stO ca r i x K hs = some o) (kk : ∀ hs1, K hs1 = some o → WG G p l e R s m args below meth c nL cells slots Q hs1 lv st (pc + 1)) : WG G p l e R s m args below meth c nL cells slots Q hs lv (va_rf x :: .int i :: va_rf r :: st) pc := by
  obtain ⟨a, v, n, f, ci, vs, rfl, rfl, ha, hv, hci, hi, h⟩ := stO_s h
  intro H locs ls hR hS c1
  have hAa : gA G a := hR.A ha (ne_ce0 (vp_pos hi))
  have hlt : i.toNatClampNeg < n := Nat.not_le.mp fun q => hi (Or.inr q)
  have h0 : ¬ i < 0 := fun q => hi (Or.inl q)
  obtain ⟨rq, hrq, hcq⟩ := hca ci hci
  have hKn := C.2.2.2.2.2.1
  obtain ⟨r', hr', cellV, g1, g2, g3, -⟩ := (hR.P hv) 0 _ rfl
  have hcls := (hKn.1.1 ci rq hrq).2
  obtain ⟨kA, comp, k1, k2, k3, -⟩ := (hKn.1.2 4 _ rfl).2
  obtain ⟨kE, hkE, -⟩ := Vm.findClass_spec k3
  obtain ⟨c0, t1, f1, f2, f3⟩ := Cond.castable_spec (va_Nw.use (A := args) rfl (hKn.2.2.2.1 _ hcq))
  cases hcls.1.symm.trans f1
  cases k3.symm.trans f2
  obtain ⟨kC, hkC, -⟩ := hcls.2
  refine W.aast C.1 C.2.1 ((hR.P ha) 0 _ rfl) (fun q h => by cases h) (fun h => by cases h) k1 k2 rfl hkE ⟨h0, by show _ < (arrV _ _ _).slots.size; rw [arrV_size]; exact hlt⟩ g1 (fun q h => by rw [g3] at h; cases h) (by rw [g2]; exact hkC) (by rw [g2]; exact f3) rfl rfl d fun H1 e z oq => ?_
  refine kk _ h H1 _ ls (hR.set hAa z oq ?_) (hS.put z oq hAa) c1
  show H1[a]? = some (vp_cell _ _)
  rw [e]
  show some ((arrV (G.2.1 4) n (fun j => va_rf (f j))).setSlot i.toNatClampNeg (.ref v)) = some (arrV (G.2.1 4) n (fun j => va_rf (va_up f i.toNatClampNeg (some v) j)))
  rw [arrV_store]
  congr 2
  funext q
  by_cases hq : q = i.toNatClampNeg
  · subst hq
    simp [updV, va_up, va_rf]
  · simp [updV, va_up, hq]
def NewC (own : String) (index ci : Nat) (fs : List Value) (N : Nat) : Prop := ∃ (C : String) (T : u_T) (ty : Nat → FieldType), vwCl[ci]? = some (C, T, N) ∧ Cond.classLink own index C ∈ Tg ∧ Cond.instantiable C N ∈ Tg ∧ Cond.initialized C ∈ Tg ∧ (∀ w ∈ u_ws C T N, w ∈ Tg) ∧ (∀ k, k < N → parseFieldDescriptor (T k).2.2.1 = some (ty k)) ∧ (∀ j, j < N → defaultValue (ty j) = vp_V fs j)
theorem q_new (C : Cx G l p s m args c own cc nL) {index ci N : Nat} {fs : List Value} {K : Nat → OO RT} (f : NewC own index ci fs N) (hcells : cells + 1 ≤ R.cells) (hslots : slots + N ≤ R.slots) (d : decode cc pc = .ok (.new index, 3)) (h : nw ci fs K hs = some o) (kk : ∀ (q : Nat) (hs1 : Hs), K q hs1 = some o → WG G p l e R s m args below meth c nL (cells + 1) (slots + N) Q hs1 lv (va_rf (some q) :: st) (pc + 3)) : WG G p l e R s m args below meth c nL cells slots Q hs lv st pc := by
  obtain ⟨CN, T, ty, hc, hl, hins, hini, hw, hty, hfs⟩ := f
  intro H locs ls hR hS c1
  have hKn := C.2.2.2.2.2.1.1.1 ci _ hc
  refine W.newcK C.1 C.2.1 C.2.2.2.1 (C.2.2.2.2.1 _ hl) (C.2.2.2.2.1 _ hins) (C.2.2.2.2.1 _ hini) rfl d hcells hslots hKn.2.1 rfl fun H1 kC hkC e1 z1 o1 => ?_
  have hp := hR.push (e := .inr (ci, fs)) z1 o1 ⟨_, hc, (u_born ty C.2.2.2.2.1 hw hKn hkC e1 hty).to hfs⟩
  have hq : H.size = hs.2.1 := hR.1
  rw [hq]
  exact kk hs.2.1 _ h H1 locs ls hp ⟨Nat.le_trans hS.1 (by omega), fun x h1 h2 => (o1 x (Nat.lt_of_lt_of_le h1 hS.1)).trans (hS.2.1 x h1 h2), hS.2.2⟩ c1
theorem q_newI (C : Cx G l p s m args c own cc nL) {n : Int32} {K : Nat → OO RT} (B : Nat) (hB : B ≤ 1000) (harr : Cond.arrayClass .int ∈ Tg) (hcells : cells + 1 ≤ R.cells) (hslots : slots + B ≤ R.slots) (d : decode cc pc = .ok (.newarray .int, 2)) (h : nwI 0 n B K hs = some o) (kk : ∀ (q : Nat) (hs1 : Hs), K q hs1 = some o → WG G p l e R s m args below meth c nL (cells + 1) (slots + B) Q hs1 lv (va_rf (some q) :: st) (pc + 2)) : WG G p l e R s m args below meth c nL cells slots Q hs lv (.int n :: st) pc := by
  unfold nwI at h
  split at h
  · rename_i hn
    intro H locs ls hR hS c1
    have hK := C.2.2.2.2.2.1
    have hby : n.toNatClampNeg * componentBytes .int ≤ 536870912 := by
      have h8 : componentBytes .int ≤ 4 := by decide
      have h9 := Nat.mul_le_mul hn.2 h8
      omega
    have hsl : slots + n.toNatClampNeg ≤ R.slots := by omega
    refine va_newaK C.1 C.2.1 (atype := .int) (C.2.2.2.2.1 _ harr) rfl d rfl hn.1 rfl hby hcells hsl rfl fun H1 cA e1 z1 o1 hAr hNm => ?_
    have hcA : cA = G.2.1 0 := by
      have h9 : s.vm.findClass ("[" ++ (FieldType.toString .int)) = some (G.2.1 0) := (hK.1.2 0 _ rfl).2
      exact Option.some.inj (hNm.symm.trans h9)
    subst hcA
    have hp := hR.push (e := aI 0 n.toNatClampNeg (fun _ => 0)) z1 o1 e1
    have hq : H.size = hs.2.1 := hR.1
    rw [hq]
    exact W.widen (k := cells + 1) (n := slots + B) (Nat.le_refl _) (by omega) (kk hs.2.1 _ h H1 locs ls hp ⟨Nat.le_trans hS.1 (by omega), fun x h1 h2 => (o1 x (Nat.lt_of_lt_of_le h1 hS.1)).trans (hS.2.1 x h1 h2), hS.2.2⟩ c1)
  · cases h
theorem q_newZ (C : Cx G l p s m args c own cc nL) {n : Int32} {K : Nat → OO RT} (B : Nat) (hB : B ≤ 1000) (harr : Cond.arrayClass .boolean ∈ Tg) (hcells : cells + 1 ≤ R.cells) (hslots : slots + B ≤ R.slots) (d : decode cc pc = .ok (.newarray .boolean, 2)) (h : nwI 1 n B K hs = some o) (kk : ∀ (q : Nat) (hs1 : Hs), K q hs1 = some o → WG G p l e R s m args below meth c nL (cells + 1) (slots + B) Q hs1 lv (va_rf (some q) :: st) (pc + 2)) : WG G p l e R s m args below meth c nL cells slots Q hs lv (.int n :: st) pc := by
  unfold nwI at h
  split at h
  · rename_i hn
    intro H locs ls hR hS c1
    have hK := C.2.2.2.2.2.1
    have hby : n.toNatClampNeg * componentBytes .boolean ≤ 536870912 := by
      have h8 : componentBytes .boolean ≤ 4 := by decide
      have h9 := Nat.mul_le_mul hn.2 h8
      omega
    have hsl : slots + n.toNatClampNeg ≤ R.slots := by omega
    refine va_newaK C.1 C.2.1 (atype := .boolean) (C.2.2.2.2.1 _ harr) rfl d rfl hn.1 rfl hby hcells hsl rfl fun H1 cA e1 z1 o1 hAr hNm => ?_
    have hcA : cA = G.2.1 1 := by
      have h9 : s.vm.findClass ("[" ++ (FieldType.toString .boolean)) = some (G.2.1 1) := (hK.1.2 1 _ rfl).2
      exact Option.some.inj (hNm.symm.trans h9)
    subst hcA
    have hp := hR.push (e := aI 1 n.toNatClampNeg (fun _ => 0)) z1 o1 e1
    have hq : H.size = hs.2.1 := hR.1
    rw [hq]
    exact W.widen (k := cells + 1) (n := slots + B) (Nat.le_refl _) (by omega) (kk hs.2.1 _ h H1 locs ls hp ⟨Nat.le_trans hS.1 (by omega), fun x h1 h2 => (o1 x (Nat.lt_of_lt_of_le h1 hS.1)).trans (hS.2.1 x h1 h2), hS.2.2⟩ c1)
  · cases h
theorem rcv_s {R : Type} {r : Option Nat} {ci : Nat} {K : Nat → OO R} {hs : Hs} {o : Except Nat R × Hs} (h : rcv r ci K hs = some o) : ∃ a fs, r = some a ∧ hs.1 a = some (.inr (ci, fs)) ∧ K a hs = some o := by
  unfold rcv at h
  split at h
  · cases h
  · rename_i a
    split at h
    · rename_i c fs hc
      split at h
      · rename_i hci
        subst hci
        exact ⟨a, fs, rfl, hc, h⟩
      · cases h
    · cases h
theorem q_cast (C : Cx G l p s m args c own cc nL) {index ci : Nat} {nm : String} {T : u_T} {N : Nat} {r : Option Nat} {K : OO RT} (hc : vwCl[ci]? = some (nm, T, N)) (hl : Cond.classLink own index nm ∈ Tg) (hk : (nm, nm) ∈ kx_cast) (d : decode cc pc = .ok (.checkcast index, 3)) (h : cst r ci K hs = some o) (kk : K hs = some o → WG G p l e R s m args below meth c nL cells slots Q hs lv (va_rf r :: st) (pc + 3)) : WG G p l e R s m args below meth c nL cells slots Q hs lv (va_rf r :: st) pc := by
  unfold cst at h
  split at h
  · intro H locs ls hR hS c1
    exact lv_castN C.1 C.2.1 d (kk h H locs ls hR hS c1)
  · rename_i a
    split at h
    · rename_i c2 fs ha
      split at h
      · rename_i hci
        subst hci
        intro H locs ls hR hS c1
        exact va_castY C.1 C.2.1 C.2.2.2.1 (C.2.2.2.2.1 _ hl) (C.2.2.2.2.2.1.2.2.2.1 _ hk) (va_recv C.2.2.2.2.2.1.1 (hR.P ha) hc (q0 := 0) rfl) d (kk h H locs ls hR hS c1)
      · cases h
    · cases h
theorem q_iret (C : Cx G l p s m args c own cc nL) {o : Except Nat Int32} {hs' : Hs} {mc ms : Nat} (C2 : Cy meth c rt) {x : Int32} (hr : rt = some .int) (hc : cells ≤ mc) (hsl : slots ≤ ms)  (d : decode cc pc = .ok (.ireturn, 1)) (h : rtn x hs = some (o, hs')) : WG G p l e R s m args below meth c nL cells slots (vx_MQ below (QcT G o hs' tvI) (XCT G o hs') args s mc ms (gA G)) hs lv [.int x] pc := by
  cases h
  intro H locs ls hR hS c1
  refine W.widen hc hsl (vx_ret ?_)
  exact W.iret C.1 C.2.1 (C2.1.trans hr) (fun t ht hW => ⟨⟨x, rfl, rfl, by rw [ht]; exact hR⟩, hS.F ht⟩) hS.2.2 d C2.2.1
theorem q_zret (C : Cx G l p s m args c own cc nL) {o : Except Nat Int32} {hs' : Hs} {mc ms : Nat} {x : Int32} (C2 : Cy meth c rt) (hr : rt = some .boolean) (hc : cells ≤ mc) (hsl : slots ≤ ms) (d : decode cc pc = .ok (.ireturn, 1)) (h : retZ x hs = some (o, hs')) : WG G p l e R s m args below meth c nL cells slots (vx_MQ below (QcT G o hs' tvI) (XCT G o hs') args s mc ms (gA G)) hs lv [.int x] pc := by
  unfold retZ at h
  split at h
  · rename_i hx
    cases h
    intro H locs ls hR hS c1
    refine W.widen hc hsl (vx_ret ?_)
    exact W.zret C.1 C.2.1 (C2.1.trans hr) (by rcases hx with rfl | rfl <;> decide) (fun t ht hW => ⟨⟨x, rfl, rfl, by rw [ht]; exact hR⟩, hS.F ht⟩) hS.2.2 d C2.2.1
  · cases h
theorem q_cret (C : Cx G l p s m args c own cc nL) {o : Except Nat Int32} {hs' : Hs} {mc ms : Nat} {x : Int32} (C2 : Cy meth c rt) (hr : rt = some .char) (hc : cells ≤ mc) (hsl : slots ≤ ms) (d : decode cc pc = .ok (.ireturn, 1)) (h : retC x hs = some (o, hs')) : WG G p l e R s m args below meth c nL cells slots (vx_MQ below (QcT G o hs' tvI) (XCT G o hs') args s mc ms (gA G)) hs lv [.int x] pc := by
  unfold retC at h
  split at h
  · rename_i hx
    cases h
    intro H locs ls hR hS c1
    refine W.widen hc hsl (vx_ret ?_)
    exact W.zret C.1 C.2.1 (C2.1.trans hr) hx (fun t ht hW => ⟨⟨x, rfl, rfl, by rw [ht]; exact hR⟩, hS.F ht⟩) hS.2.2 d C2.2.1
  · cases h
theorem q_vret (C : Cx G l p s m args c own cc nL) {o : Except Nat Unit} {hs' : Hs} {mc ms : Nat} (C2 : Cy meth c rt) (hr : rt = none) (hc : cells ≤ mc) (hsl : slots ≤ ms)  (d : decode cc pc = .ok (.return_, 1)) (h : rtn () hs = some (o, hs')) : WG G p l e R s m args below meth c nL cells slots (vx_MQ below (QcT G o hs' tvV) (XCT G o hs') args s mc ms (gA G)) hs lv [] pc := by
  cases h
  intro H locs ls hR hS c1
  refine W.widen hc hsl (vx_ret ?_)
  exact W.vret C.1 C.2.1 (C2.1.trans hr) (fun t ht hW => ⟨⟨(), rfl, rfl, by rw [ht]; exact hR⟩, hS.F ht⟩) hS.2.2 d C2.2.1
theorem q_aret (C : Cx G l p s m args c own cc nL) {o : Except Nat (Option Nat)} {hs' : Hs} {mc ms : Nat} {x : Option Nat} {ty : FieldType} (C2 : Cy meth c rt) (hr : rt = some ty) (hty : (∃ n, ty = .object n) ∨ ∃ t, ty = .array t) (hc : cells ≤ mc) (hsl : slots ≤ ms) (d : decode cc pc = .ok (.areturn, 1)) (h : rtn x hs = some (o, hs')) : WG G p l e R s m args below meth c nL cells slots (vx_MQ below (QcT G o hs' tvR) (XCT G o hs') args s mc ms (gA G)) hs lv [va_rf x] pc := by
  cases h
  intro H locs ls hR hS c1
  refine W.widen hc hsl (vx_ret ?_)
  exact W.aret C.1 C.2.1 (C2.1.trans hr) hty (by cases x with
    | none => exact Or.inl rfl
    | some a => exact Or.inr ⟨a, rfl⟩) (fun t ht hW => ⟨⟨x, rfl, rfl, by rw [ht]; exact hR⟩, hS.F ht⟩) hS.2.2 d C2.2.1
theorem PcT.blind (G : GG) (l : Launch) (av : List Value) (hs : Hs) : FrameBlind (PcT G l av hs) := fun a U g mk q => ⟨q.1, q.2.1, Kn.calling q.2.2 g mk a⟩
theorem PcT.at {H : Heap} {locs : List Loc} (C : Cx G l p s m args c own cc nL) (hR : Rep G hs H) (hS : va_S (gA G) s.heap H locs) (av : List Value) (U : State) (hU : U.heap = H) (hW : s.WarmedH U.vm) : PcT G l av hs av.toArray U := by
  refine ⟨rfl, by rw [hU]; exact hR, Kn.go C.2.2.2.2.2.1 hW (fun q h1 h2 => ?_)⟩
  rw [hU]
  exact hS.2.1 q h1 h2
/-- a call's end: a value, or an exception that goes on -/
theorem q_fin {S : Type} {fr : OO S} {tv : S → Option Value} {K : S → OO RT} {KX : Nat → OO RT} {a : Array Value} {mc ms : Nat} {rest : List Value}
    (hr : ∀ o1 hs1, fr hs = some (o1, hs1) → ∀ H locs ls, Rep G hs H → va_S (gA G) s.heap H locs → LH ls nL lv → vx_Run p l e R s m args below meth c H locs cells slots mc ms (F0 m pc ls st) rest (QcT G o1 hs1 tv a) (XCT G o1 hs1) (gA G))
    (h : call fr K KX hs = some o)
    (kx : ∀ (k sz : Nat) (hs1 : Hs), KX k hs1 = some o → ∀ (H : Heap) (locs : List Loc) (ls : Array Slot) (ce : Cell) (q : Addr), Rep G (hs1.1, sz, hs1.2.2) H → va_S (gA G) s.heap H locs → H[q]? = some ce → ce.vm = .none → s.vm.findClass (exN k) = some ce.cls → LH ls nL lv → vx_W p l e R s m args below meth c H locs (cells + mc) (slots + ms) Q (F0 m pc ls rest) q)
    (kk : ∀ (r : S) (hs1 : Hs), K r hs1 = some o → WG G p l e R s m args below meth c nL (cells + mc) (slots + ms) Q hs1 lv ((tv r).toList ++ rest) (pc + 3)) : WG G p l e R s m args below meth c nL cells slots Q hs lv st pc := by
  intro H locs ls hR hS c1
  unfold call at h
  split at h
  · rename_i r hs1 hm
    intro T hT X
    rcases hr _ _ hm H locs ls hR hS c1 T hT X with ⟨v, st₀, t, T', L, h0, X', hL, e1, e2, ⟨⟨r1, hr1, hv, hRt⟩, hF⟩, st⟩ | ⟨q, st₀, t, T', L, E, ce, h0, X', hL, e1, e2, ⟨⟨k, sz, hk, hE, hRt⟩, hF⟩, hce, hcv, hcl, st⟩
    · cases hr1
      cases hv
      obtain ⟨k1, k2, k3⟩ := vx_keep h0 e1 hS (fun q _ h => h) (fun q h => h) hL hF
      obtain ⟨t2, a1, b1⟩ := kk r hs1 h T'.heap (locs ++ L) ls (by rw [e1]; exact hRt) k3 c1 T' rfl X'
      exact ⟨t2, st t2 a1, b1⟩
    · cases hk
  · rename_i k hs1 hm
    intro T hT X
    rcases hr _ _ hm H locs ls hR hS c1 T hT X with ⟨v, st₀, t, T', L, h0, X', hL, e1, e2, ⟨⟨r1, hr1, hv, hRt⟩, hF⟩, st⟩ | ⟨q, st₀, t, T', L, E, ce, h0, X', hL, e1, e2, ⟨⟨k2, sz, hk, hE, hRt⟩, hF⟩, hce, hcv, hcl, st⟩
    · cases hr1
    · cases hk
      subst hE
      obtain ⟨k1, k2, k3⟩ := vx_keep h0 e1 hS (fun q _ h => h) (fun q h => h) hL hF
      obtain ⟨t2, a1, b1⟩ := kx k sz hs1 h T'.heap (locs ++ L) ls ce q (by rw [e1]; exact hRt) k3 (by rw [e1]; exact hce) hcv hcl c1 T' rfl X'
      exact ⟨t2, st.trans a1, b1⟩
  · cases h
def Lk (own : String) (index : Nat) (y : MethodName) (b : ByteArray) (maxL : Nat) (rt : Option FieldType) (n : Nat) : Prop := Cond.methodLink own index y ∈ Tg ∧ Cond.code y b maxL rt ∈ Tg ∧ Cond.initialized y.cls ∈ Tg ∧ (y.cls ≠ "java/lang/invoke/MethodHandle" ∧ y.cls ≠ "java/lang/invoke/VarHandle" ∧ (parseMethodDescriptor y.desc).map (fun d => d.parameters.length) = some n)
def LkN (own : String) (index : Nat) (y : MethodName) (host : String) (b : ByteArray) (maxL : Nat) (rt : Option FieldType) (n : Nat) : Prop := (own, index, y, host) ∈ kx_nest ∧ Cond.code y b maxL rt ∈ Tg ∧ Cond.initialized y.cls ∈ Tg ∧ (y.cls ≠ "java/lang/invoke/MethodHandle" ∧ y.cls ≠ "java/lang/invoke/VarHandle" ∧ (parseMethodDescriptor y.desc).map (fun d => d.parameters.length) = some n)
theorem Lk.B {own : String} {index : Nat} {y : MethodName} {b : ByteArray} {maxL : Nat} {rt : Option FieldType} {n F L mc ms : Nat} (C : Cx G l p s m args c own cc nL) (k : Lk own index y b maxL rt n) (hR : F + 1 ≤ R.frames ∧ 8 + (maxL + 11) + L ≤ R.locals) :
    CallB R s args own index y b maxL rt (.code y b maxL rt :: Tg) { frames := F, cells := mc, slots := ms, locals := L } mc ms n :=
  callB_of n C.2.2.2.2.1 (Tg_in _ rfl k.2.1) rfl rfl rfl (C.2.2.2.2.1 _ k.2.2.1) (C.2.2.2.2.1 _ k.1) k.2.2.2 hR
theorem LkN.B {own host : String} {index : Nat} {y : MethodName} {b : ByteArray} {maxL : Nat} {rt : Option FieldType} {n F L mc ms : Nat} (C : Cx G l p s m args c own cc nL) (k : LkN own index y host b maxL rt n) (hR : F + 1 ≤ R.frames ∧ 8 + (maxL + 11) + L ≤ R.locals) :
    va_CN R s args own index y host b maxL rt (.code y b maxL rt :: Tg) { frames := F, cells := mc, slots := ms, locals := L } mc ms n :=
  va_cnB n C.2.2.2.2.1 (Tg_in _ rfl k.2.1) rfl rfl rfl (C.2.2.2.2.2.1.2.2.1 _ k.1) (C.2.2.2.2.1 _ k.2.2.1) k.2.2.2 hR
theorem Cx.fix (C : Cx G l p s m args c own cc nL) : CallFix p m c cc nL s args Tg own := ⟨C.1, C.2.1, C.2.2.1, C.2.2.2.1, C.2.2.2.2.1⟩
theorem q_callV (C : Cx G l p s m args c own cc nL) {index maxL F L mc ms n : Nat} {y : MethodName} {b : ByteArray} {rt1 : Option FieldType} {CN : String} {T : u_T} {ci N : Nat} {r : Option Nat} {S1 : Type} {fr : Nat → OO S1} {tv : S1 → Option Value} {K : S1 → OO RT} (As : List Value) (rest : List Value) (hM : ∀ a0 o2 hs1, fr a0 hs = some (o2, hs1) → CT G l y b maxL rt1 F L mc ms (.ref a0 :: As) hs o2 hs1 tv) (k : Lk own index y b maxL rt1 n) (hi : Cond.instanceMethod y ∈ Tg) (hsel : Cond.selects CN y y ∈ Tg) (hc : vwCl[ci]? = some (CN, T, N)) (hRm : F + 1 ≤ R.frames ∧ 8 + (maxL + 11) + L ≤ R.locals) (hf : cells + mc ≤ R.cells ∧ slots + ms ≤ R.slots) (hn : As.length = n) (hst : st = (As.reverse ++ va_rf r :: rest)) (hroom : (rest.map fun v => v.category).sum ≤ 8) (d : decode cc pc = .ok (.invokevirtual index, 3)) (h : rcv r ci (fun a => call (fr a) K nox) hs = some o) (kk : ∀ (r : S1) (hs1 : Hs), K r hs1 = some o → WG G p l e R s m args below meth c nL (cells + mc) (slots + ms) Q hs1 lv ((tv r).toList ++ rest) (pc + 3)) : WG G p l e R s m args below meth c nL cells slots Q hs lv st pc := by
  obtain ⟨a0, fs, rfl, ha, h⟩ := rcv_s h
  refine q_fin (a := ((.ref a0 :: As)).toArray) (rest := rest) (fun o2 hs1 hm H locs ls hR hS c1 => ?_) h (fun k sz hs1 hk => nomatch hk) kk
  exact vx_runV C.fix (hM a0 o2 hs1 hm) ⟨k.B C hRm, C.2.2.2.2.1 _ hi, C.2.2.2.2.1 _ hsel⟩ ⟨PcT.blind _ _ _ _, va_recv C.2.2.2.2.2.1.1 (hR.P ha) hc (q0 := 0) rfl, fun U hU hW => PcT.at C hR hS _ U hU hW⟩ rfl hn c1.1.1 hst (lv_room (m := m) (pc := pc) (ls := ls) (rest := st) hroom) d hf
theorem q_callVX (C : Cx G l p s m args c own cc nL) {index maxL F L mc ms n : Nat} {y : MethodName} {b : ByteArray} {rt1 : Option FieldType} {CN : String} {T : u_T} {ci N : Nat} {r : Option Nat} {S1 : Type} {fr : Nat → OO S1} {tv : S1 → Option Value} {K : S1 → OO RT} (As : List Value) (rest : List Value) {o1 : Except Nat RT} {hs' : Hs} {tv1 : RT → Option Value} {mc1 ms1 : Nat} (C2 : Cy meth c rt) (hcl : cells + mc ≤ mc1 ∧ slots + ms ≤ ms1) (hM : ∀ a0 o2 hs1, fr a0 hs = some (o2, hs1) → CT G l y b maxL rt1 F L mc ms (.ref a0 :: As) hs o2 hs1 tv) (k : Lk own index y b maxL rt1 n) (hi : Cond.instanceMethod y ∈ Tg) (hsel : Cond.selects CN y y ∈ Tg) (hc : vwCl[ci]? = some (CN, T, N)) (hRm : F + 1 ≤ R.frames ∧ 8 + (maxL + 11) + L ≤ R.locals) (hf : cells + mc ≤ R.cells ∧ slots + ms ≤ R.slots) (hn : As.length = n) (hst : st = (As.reverse ++ va_rf r :: rest)) (hroom : (rest.map fun v => v.category).sum ≤ 8) (d : decode cc pc = .ok (.invokevirtual index, 3)) (h : rcv r ci (fun a => call (fr a) K thr) hs = some (o1, hs')) (kk : ∀ (r : S1) (hs1 : Hs), K r hs1 = some (o1, hs') → WG G p l e R s m args below meth c nL (cells + mc) (slots + ms) (vx_MQ below (QcT G o1 hs' tv1) (XCT G o1 hs') args s mc1 ms1 (gA G)) hs1 lv ((tv r).toList ++ rest) (pc + 3)) : WG G p l e R s m args below meth c nL cells slots (vx_MQ below (QcT G o1 hs' tv1) (XCT G o1 hs') args s mc1 ms1 (gA G)) hs lv st pc := by
  obtain ⟨a0, fs, rfl, ha, h⟩ := rcv_s h
  refine q_fin (a := ((.ref a0 :: As)).toArray) (rest := rest) (fun o2 hs1 hm H locs ls hR hS c1 => ?_) h (fun k sz hs1 hk H locs ls ce q hR hS h1 h2 h3 c1 => by
    cases hk
    exact vx_out (fun x hx => (C2.2.2 x hx).elim) C2.2.1 h1 h2 h3 (fun t ht hW => ⟨⟨k, sz, rfl, rfl, by rw [ht]; exact hR⟩, hS.F ht⟩) hS.2.2 hcl.1 hcl.2) kk
  exact vx_runV C.fix (hM a0 o2 hs1 hm) ⟨k.B C hRm, C.2.2.2.2.1 _ hi, C.2.2.2.2.1 _ hsel⟩ ⟨PcT.blind _ _ _ _, va_recv C.2.2.2.2.2.1.1 (hR.P ha) hc (q0 := 0) rfl, fun U hU hW => PcT.at C hR hS _ U hU hW⟩ rfl hn c1.1.1 hst (lv_room (m := m) (pc := pc) (ls := ls) (rest := st) hroom) d hf
theorem q_callS (C : Cx G l p s m args c own cc nL) {index maxL F L mc ms n : Nat} {y : MethodName} {b : ByteArray} {rt1 : Option FieldType} {S1 : Type} {fr : OO S1} {tv : S1 → Option Value} {K : S1 → OO RT} (As : List Value) (rest : List Value) (hM : ∀ o2 hs1, fr hs = some (o2, hs1) → CT G l y b maxL rt1 F L mc ms As hs o2 hs1 tv) (k : Lk own index y b maxL rt1 n) (hi : Cond.static y ∈ Tg) (hRm : F + 1 ≤ R.frames ∧ 8 + (maxL + 11) + L ≤ R.locals) (hf : cells + mc ≤ R.cells ∧ slots + ms ≤ R.slots) (hn : As.length = n) (hst : st = (As.reverse ++ rest)) (hroom : (rest.map fun v => v.category).sum ≤ 8) (d : decode cc pc = .ok (.invokestatic index, 3)) (h : call fr K nox hs = some o) (kk : ∀ (r : S1) (hs1 : Hs), K r hs1 = some o → WG G p l e R s m args below meth c nL (cells + mc) (slots + ms) Q hs1 lv ((tv r).toList ++ rest) (pc + 3)) : WG G p l e R s m args below meth c nL cells slots Q hs lv st pc := by
  refine q_fin (a := (As).toArray) (rest := rest) (fun o2 hs1 hm H locs ls hR hS c1 => ?_) h (fun k sz hs1 hk => nomatch hk) kk
  exact vx_runS C.fix (hM o2 hs1 hm) ⟨k.B C hRm, C.2.2.2.2.1 _ hi⟩ ⟨PcT.blind _ _ _ _, fun U hU hW => PcT.at C hR hS _ U hU hW⟩ rfl hn c1.1.1 hst (lv_room (m := m) (pc := pc) (ls := ls) (rest := st) hroom) d hf
theorem q_callSX (C : Cx G l p s m args c own cc nL) {index maxL F L mc ms n : Nat} {y : MethodName} {b : ByteArray} {rt1 : Option FieldType} {S1 : Type} {fr : OO S1} {tv : S1 → Option Value} {K : S1 → OO RT} (As : List Value) (rest : List Value) {o1 : Except Nat RT} {hs' : Hs} {tv1 : RT → Option Value} {mc1 ms1 : Nat} (C2 : Cy meth c rt) (hcl : cells + mc ≤ mc1 ∧ slots + ms ≤ ms1) (hM : ∀ o2 hs1, fr hs = some (o2, hs1) → CT G l y b maxL rt1 F L mc ms As hs o2 hs1 tv) (k : Lk own index y b maxL rt1 n) (hi : Cond.static y ∈ Tg) (hRm : F + 1 ≤ R.frames ∧ 8 + (maxL + 11) + L ≤ R.locals) (hf : cells + mc ≤ R.cells ∧ slots + ms ≤ R.slots) (hn : As.length = n) (hst : st = (As.reverse ++ rest)) (hroom : (rest.map fun v => v.category).sum ≤ 8) (d : decode cc pc = .ok (.invokestatic index, 3)) (h : call fr K thr hs = some (o1, hs')) (kk : ∀ (r : S1) (hs1 : Hs), K r hs1 = some (o1, hs') → WG G p l e R s m args below meth c nL (cells + mc) (slots + ms) (vx_MQ below (QcT G o1 hs' tv1) (XCT G o1 hs') args s mc1 ms1 (gA G)) hs1 lv ((tv r).toList ++ rest) (pc + 3)) : WG G p l e R s m args below meth c nL cells slots (vx_MQ below (QcT G o1 hs' tv1) (XCT G o1 hs') args s mc1 ms1 (gA G)) hs lv st pc := by
  refine q_fin (a := (As).toArray) (rest := rest) (fun o2 hs1 hm H locs ls hR hS c1 => ?_) h (fun k sz hs1 hk H locs ls ce q hR hS h1 h2 h3 c1 => by
    cases hk
    exact vx_out (fun x hx => (C2.2.2 x hx).elim) C2.2.1 h1 h2 h3 (fun t ht hW => ⟨⟨k, sz, rfl, rfl, by rw [ht]; exact hR⟩, hS.F ht⟩) hS.2.2 hcl.1 hcl.2) kk
  exact vx_runS C.fix (hM o2 hs1 hm) ⟨k.B C hRm, C.2.2.2.2.1 _ hi⟩ ⟨PcT.blind _ _ _ _, fun U hU hW => PcT.at C hR hS _ U hU hW⟩ rfl hn c1.1.1 hst (lv_room (m := m) (pc := pc) (ls := ls) (rest := st) hroom) d hf
theorem q_callI (C : Cx G l p s m args c own cc nL) {index maxL F L mc ms n : Nat} {y : MethodName} {b : ByteArray} {a0 : Nat} {S1 : Type} {fr : OO S1} {tv : S1 → Option Value} {K : S1 → OO RT} (As : List Value) (rest : List Value) (hM : ∀ o2 hs1, fr hs = some (o2, hs1) → CT G l y b maxL none F L mc ms (.ref a0 :: As) hs o2 hs1 tv) (k : Lk own index y b maxL none n) (hi : Cond.instanceMethod y ∈ Tg) (hy : y.name = "<init>") (hRm : F + 1 ≤ R.frames ∧ 8 + (maxL + 11) + L ≤ R.locals) (hf : cells + mc ≤ R.cells ∧ slots + ms ≤ R.slots) (hn : As.length = n) (hst : st = (As.reverse ++ va_rf (some a0) :: rest)) (hroom : (rest.map fun v => v.category).sum ≤ 8) (d : decode cc pc = .ok (.invokespecial index, 3)) (h : call fr K nox hs = some o) (kk : ∀ (r : S1) (hs1 : Hs), K r hs1 = some o → WG G p l e R s m args below meth c nL (cells + mc) (slots + ms) Q hs1 lv ((tv r).toList ++ rest) (pc + 3)) : WG G p l e R s m args below meth c nL cells slots Q hs lv st pc := by
  refine q_fin (a := ((.ref a0 :: As)).toArray) (rest := rest) (fun o2 hs1 hm H locs ls hR hS c1 => ?_) h (fun k sz hs1 hk => nomatch hk) kk
  exact vx_runI C.fix (hM o2 hs1 hm) ⟨k.B C hRm, hy, C.2.2.2.2.1 _ hi⟩ ⟨PcT.blind _ _ _ _, fun U hU hW => PcT.at C hR hS _ U hU hW⟩ rfl hn c1.1.1 hst (lv_room (m := m) (pc := pc) (ls := ls) (rest := st) hroom) d hf
theorem q_callIX (C : Cx G l p s m args c own cc nL) {index maxL F L mc ms n : Nat} {y : MethodName} {b : ByteArray} {a0 : Nat} {S1 : Type} {fr : OO S1} {tv : S1 → Option Value} {K : S1 → OO RT} (As : List Value) (rest : List Value) {o1 : Except Nat RT} {hs' : Hs} {tv1 : RT → Option Value} {mc1 ms1 : Nat} (C2 : Cy meth c rt) (hcl : cells + mc ≤ mc1 ∧ slots + ms ≤ ms1) (hM : ∀ o2 hs1, fr hs = some (o2, hs1) → CT G l y b maxL none F L mc ms (.ref a0 :: As) hs o2 hs1 tv) (k : Lk own index y b maxL none n) (hi : Cond.instanceMethod y ∈ Tg) (hy : y.name = "<init>") (hRm : F + 1 ≤ R.frames ∧ 8 + (maxL + 11) + L ≤ R.locals) (hf : cells + mc ≤ R.cells ∧ slots + ms ≤ R.slots) (hn : As.length = n) (hst : st = (As.reverse ++ va_rf (some a0) :: rest)) (hroom : (rest.map fun v => v.category).sum ≤ 8) (d : decode cc pc = .ok (.invokespecial index, 3)) (h : call fr K thr hs = some (o1, hs')) (kk : ∀ (r : S1) (hs1 : Hs), K r hs1 = some (o1, hs') → WG G p l e R s m args below meth c nL (cells + mc) (slots + ms) (vx_MQ below (QcT G o1 hs' tv1) (XCT G o1 hs') args s mc1 ms1 (gA G)) hs1 lv ((tv r).toList ++ rest) (pc + 3)) : WG G p l e R s m args below meth c nL cells slots (vx_MQ below (QcT G o1 hs' tv1) (XCT G o1 hs') args s mc1 ms1 (gA G)) hs lv st pc := by
  refine q_fin (a := ((.ref a0 :: As)).toArray) (rest := rest) (fun o2 hs1 hm H locs ls hR hS c1 => ?_) h (fun k sz hs1 hk H locs ls ce q hR hS h1 h2 h3 c1 => by
    cases hk
    exact vx_out (fun x hx => (C2.2.2 x hx).elim) C2.2.1 h1 h2 h3 (fun t ht hW => ⟨⟨k, sz, rfl, rfl, by rw [ht]; exact hR⟩, hS.F ht⟩) hS.2.2 hcl.1 hcl.2) kk
  exact vx_runI C.fix (hM o2 hs1 hm) ⟨k.B C hRm, hy, C.2.2.2.2.1 _ hi⟩ ⟨PcT.blind _ _ _ _, fun U hU hW => PcT.at C hR hS _ U hU hW⟩ rfl hn c1.1.1 hst (lv_room (m := m) (pc := pc) (ls := ls) (rest := st) hroom) d hf
theorem q_callVN (C : Cx G l p s m args c own cc nL) {index maxL F L mc ms n : Nat} {y : MethodName} {b : ByteArray} {rt1 : Option FieldType} {host : String} {CN : String} {T : u_T} {ci N : Nat} {r : Option Nat} {S1 : Type} {fr : Nat → OO S1} {tv : S1 → Option Value} {K : S1 → OO RT} (As : List Value) (rest : List Value) (hM : ∀ a0 o2 hs1, fr a0 hs = some (o2, hs1) → CT G l y b maxL rt1 F L mc ms (.ref a0 :: As) hs o2 hs1 tv) (k : LkN own index y host b maxL rt1 n) (hi : Cond.instanceMethod y ∈ Tg) (hsel : Cond.selects CN y y ∈ Tg) (hc : vwCl[ci]? = some (CN, T, N)) (hRm : F + 1 ≤ R.frames ∧ 8 + (maxL + 11) + L ≤ R.locals) (hf : cells + mc ≤ R.cells ∧ slots + ms ≤ R.slots) (hn : As.length = n) (hst : st = (As.reverse ++ va_rf r :: rest)) (hroom : (rest.map fun v => v.category).sum ≤ 8) (d : decode cc pc = .ok (.invokevirtual index, 3)) (h : rcv r ci (fun a => call (fr a) K nox) hs = some o) (kk : ∀ (r : S1) (hs1 : Hs), K r hs1 = some o → WG G p l e R s m args below meth c nL (cells + mc) (slots + ms) Q hs1 lv ((tv r).toList ++ rest) (pc + 3)) : WG G p l e R s m args below meth c nL cells slots Q hs lv st pc := by
  obtain ⟨a0, fs, rfl, ha, h⟩ := rcv_s h
  refine q_fin (a := ((.ref a0 :: As)).toArray) (rest := rest) (fun o2 hs1 hm H locs ls hR hS c1 => ?_) h (fun k sz hs1 hk => nomatch hk) kk
  exact vx_runVN C.fix (hM a0 o2 hs1 hm) ⟨k.B C hRm, C.2.2.2.2.1 _ hi, C.2.2.2.2.1 _ hsel⟩ ⟨PcT.blind _ _ _ _, va_recv C.2.2.2.2.2.1.1 (hR.P ha) hc (q0 := 0) rfl, fun U hU hW => PcT.at C hR hS _ U hU hW⟩ rfl hn c1.1.1 hst (lv_room (m := m) (pc := pc) (ls := ls) (rest := st) hroom) d hf
theorem q_callVNX (C : Cx G l p s m args c own cc nL) {index maxL F L mc ms n : Nat} {y : MethodName} {b : ByteArray} {rt1 : Option FieldType} {host : String} {CN : String} {T : u_T} {ci N : Nat} {r : Option Nat} {S1 : Type} {fr : Nat → OO S1} {tv : S1 → Option Value} {K : S1 → OO RT} (As : List Value) (rest : List Value) {o1 : Except Nat RT} {hs' : Hs} {tv1 : RT → Option Value} {mc1 ms1 : Nat} (C2 : Cy meth c rt) (hcl : cells + mc ≤ mc1 ∧ slots + ms ≤ ms1) (hM : ∀ a0 o2 hs1, fr a0 hs = some (o2, hs1) → CT G l y b maxL rt1 F L mc ms (.ref a0 :: As) hs o2 hs1 tv) (k : LkN own index y host b maxL rt1 n) (hi : Cond.instanceMethod y ∈ Tg) (hsel : Cond.selects CN y y ∈ Tg) (hc : vwCl[ci]? = some (CN, T, N)) (hRm : F + 1 ≤ R.frames ∧ 8 + (maxL + 11) + L ≤ R.locals) (hf : cells + mc ≤ R.cells ∧ slots + ms ≤ R.slots) (hn : As.length = n) (hst : st = (As.reverse ++ va_rf r :: rest)) (hroom : (rest.map fun v => v.category).sum ≤ 8) (d : decode cc pc = .ok (.invokevirtual index, 3)) (h : rcv r ci (fun a => call (fr a) K thr) hs = some (o1, hs')) (kk : ∀ (r : S1) (hs1 : Hs), K r hs1 = some (o1, hs') → WG G p l e R s m args below meth c nL (cells + mc) (slots + ms) (vx_MQ below (QcT G o1 hs' tv1) (XCT G o1 hs') args s mc1 ms1 (gA G)) hs1 lv ((tv r).toList ++ rest) (pc + 3)) : WG G p l e R s m args below meth c nL cells slots (vx_MQ below (QcT G o1 hs' tv1) (XCT G o1 hs') args s mc1 ms1 (gA G)) hs lv st pc := by
  obtain ⟨a0, fs, rfl, ha, h⟩ := rcv_s h
  refine q_fin (a := ((.ref a0 :: As)).toArray) (rest := rest) (fun o2 hs1 hm H locs ls hR hS c1 => ?_) h (fun k sz hs1 hk H locs ls ce q hR hS h1 h2 h3 c1 => by
    cases hk
    exact vx_out (fun x hx => (C2.2.2 x hx).elim) C2.2.1 h1 h2 h3 (fun t ht hW => ⟨⟨k, sz, rfl, rfl, by rw [ht]; exact hR⟩, hS.F ht⟩) hS.2.2 hcl.1 hcl.2) kk
  exact vx_runVN C.fix (hM a0 o2 hs1 hm) ⟨k.B C hRm, C.2.2.2.2.1 _ hi, C.2.2.2.2.1 _ hsel⟩ ⟨PcT.blind _ _ _ _, va_recv C.2.2.2.2.2.1.1 (hR.P ha) hc (q0 := 0) rfl, fun U hU hW => PcT.at C hR hS _ U hU hW⟩ rfl hn c1.1.1 hst (lv_room (m := m) (pc := pc) (ls := ls) (rest := st) hroom) d hf
theorem q_callSN (C : Cx G l p s m args c own cc nL) {index maxL F L mc ms n : Nat} {y : MethodName} {b : ByteArray} {rt1 : Option FieldType} {host : String} {S1 : Type} {fr : OO S1} {tv : S1 → Option Value} {K : S1 → OO RT} (As : List Value) (rest : List Value) (hM : ∀ o2 hs1, fr hs = some (o2, hs1) → CT G l y b maxL rt1 F L mc ms As hs o2 hs1 tv) (k : LkN own index y host b maxL rt1 n) (hi : Cond.static y ∈ Tg) (hRm : F + 1 ≤ R.frames ∧ 8 + (maxL + 11) + L ≤ R.locals) (hf : cells + mc ≤ R.cells ∧ slots + ms ≤ R.slots) (hn : As.length = n) (hst : st = (As.reverse ++ rest)) (hroom : (rest.map fun v => v.category).sum ≤ 8) (d : decode cc pc = .ok (.invokestatic index, 3)) (h : call fr K nox hs = some o) (kk : ∀ (r : S1) (hs1 : Hs), K r hs1 = some o → WG G p l e R s m args below meth c nL (cells + mc) (slots + ms) Q hs1 lv ((tv r).toList ++ rest) (pc + 3)) : WG G p l e R s m args below meth c nL cells slots Q hs lv st pc := by
  refine q_fin (a := (As).toArray) (rest := rest) (fun o2 hs1 hm H locs ls hR hS c1 => ?_) h (fun k sz hs1 hk => nomatch hk) kk
  exact vx_runSN C.fix (hM o2 hs1 hm) ⟨k.B C hRm, C.2.2.2.2.1 _ hi, trivial⟩ ⟨PcT.blind _ _ _ _, fun U hU hW => PcT.at C hR hS _ U hU hW⟩ rfl hn c1.1.1 hst (lv_room (m := m) (pc := pc) (ls := ls) (rest := st) hroom) d hf
theorem q_callSNX (C : Cx G l p s m args c own cc nL) {index maxL F L mc ms n : Nat} {y : MethodName} {b : ByteArray} {rt1 : Option FieldType} {host : String} {S1 : Type} {fr : OO S1} {tv : S1 → Option Value} {K : S1 → OO RT} (As : List Value) (rest : List Value) {o1 : Except Nat RT} {hs' : Hs} {tv1 : RT → Option Value} {mc1 ms1 : Nat} (C2 : Cy meth c rt) (hcl : cells + mc ≤ mc1 ∧ slots + ms ≤ ms1) (hM : ∀ o2 hs1, fr hs = some (o2, hs1) → CT G l y b maxL rt1 F L mc ms As hs o2 hs1 tv) (k : LkN own index y host b maxL rt1 n) (hi : Cond.static y ∈ Tg) (hRm : F + 1 ≤ R.frames ∧ 8 + (maxL + 11) + L ≤ R.locals) (hf : cells + mc ≤ R.cells ∧ slots + ms ≤ R.slots) (hn : As.length = n) (hst : st = (As.reverse ++ rest)) (hroom : (rest.map fun v => v.category).sum ≤ 8) (d : decode cc pc = .ok (.invokestatic index, 3)) (h : call fr K thr hs = some (o1, hs')) (kk : ∀ (r : S1) (hs1 : Hs), K r hs1 = some (o1, hs') → WG G p l e R s m args below meth c nL (cells + mc) (slots + ms) (vx_MQ below (QcT G o1 hs' tv1) (XCT G o1 hs') args s mc1 ms1 (gA G)) hs1 lv ((tv r).toList ++ rest) (pc + 3)) : WG G p l e R s m args below meth c nL cells slots (vx_MQ below (QcT G o1 hs' tv1) (XCT G o1 hs') args s mc1 ms1 (gA G)) hs lv st pc := by
  refine q_fin (a := (As).toArray) (rest := rest) (fun o2 hs1 hm H locs ls hR hS c1 => ?_) h (fun k sz hs1 hk H locs ls ce q hR hS h1 h2 h3 c1 => by
    cases hk
    exact vx_out (fun x hx => (C2.2.2 x hx).elim) C2.2.1 h1 h2 h3 (fun t ht hW => ⟨⟨k, sz, rfl, rfl, by rw [ht]; exact hR⟩, hS.F ht⟩) hS.2.2 hcl.1 hcl.2) kk
  exact vx_runSN C.fix (hM o2 hs1 hm) ⟨k.B C hRm, C.2.2.2.2.1 _ hi, trivial⟩ ⟨PcT.blind _ _ _ _, fun U hU hW => PcT.at C hR hS _ U hU hW⟩ rfl hn c1.1.1 hst (lv_room (m := m) (pc := pc) (ls := ls) (rest := st) hroom) d hf
theorem q_callIN (C : Cx G l p s m args c own cc nL) {index maxL F L mc ms n : Nat} {y : MethodName} {b : ByteArray} {host : String} {a0 : Nat} {S1 : Type} {fr : OO S1} {tv : S1 → Option Value} {K : S1 → OO RT} (As : List Value) (rest : List Value) (hM : ∀ o2 hs1, fr hs = some (o2, hs1) → CT G l y b maxL none F L mc ms (.ref a0 :: As) hs o2 hs1 tv) (k : LkN own index y host b maxL none n) (hi : Cond.instanceMethod y ∈ Tg) (hy : y.name = "<init>") (hRm : F + 1 ≤ R.frames ∧ 8 + (maxL + 11) + L ≤ R.locals) (hf : cells + mc ≤ R.cells ∧ slots + ms ≤ R.slots) (hn : As.length = n) (hst : st = (As.reverse ++ va_rf (some a0) :: rest)) (hroom : (rest.map fun v => v.category).sum ≤ 8) (d : decode cc pc = .ok (.invokespecial index, 3)) (h : call fr K nox hs = some o) (kk : ∀ (r : S1) (hs1 : Hs), K r hs1 = some o → WG G p l e R s m args below meth c nL (cells + mc) (slots + ms) Q hs1 lv ((tv r).toList ++ rest) (pc + 3)) : WG G p l e R s m args below meth c nL cells slots Q hs lv st pc := by
  refine q_fin (a := ((.ref a0 :: As)).toArray) (rest := rest) (fun o2 hs1 hm H locs ls hR hS c1 => ?_) h (fun k sz hs1 hk => nomatch hk) kk
  exact vx_runIN C.fix (hM o2 hs1 hm) ⟨k.B C hRm, hy, C.2.2.2.2.1 _ hi⟩ ⟨PcT.blind _ _ _ _, fun U hU hW => PcT.at C hR hS _ U hU hW⟩ rfl hn c1.1.1 hst (lv_room (m := m) (pc := pc) (ls := ls) (rest := st) hroom) d hf
theorem q_callINX (C : Cx G l p s m args c own cc nL) {index maxL F L mc ms n : Nat} {y : MethodName} {b : ByteArray} {host : String} {a0 : Nat} {S1 : Type} {fr : OO S1} {tv : S1 → Option Value} {K : S1 → OO RT} (As : List Value) (rest : List Value) {o1 : Except Nat RT} {hs' : Hs} {tv1 : RT → Option Value} {mc1 ms1 : Nat} (C2 : Cy meth c rt) (hcl : cells + mc ≤ mc1 ∧ slots + ms ≤ ms1) (hM : ∀ o2 hs1, fr hs = some (o2, hs1) → CT G l y b maxL none F L mc ms (.ref a0 :: As) hs o2 hs1 tv) (k : LkN own index y host b maxL none n) (hi : Cond.instanceMethod y ∈ Tg) (hy : y.name = "<init>") (hRm : F + 1 ≤ R.frames ∧ 8 + (maxL + 11) + L ≤ R.locals) (hf : cells + mc ≤ R.cells ∧ slots + ms ≤ R.slots) (hn : As.length = n) (hst : st = (As.reverse ++ va_rf (some a0) :: rest)) (hroom : (rest.map fun v => v.category).sum ≤ 8) (d : decode cc pc = .ok (.invokespecial index, 3)) (h : call fr K thr hs = some (o1, hs')) (kk : ∀ (r : S1) (hs1 : Hs), K r hs1 = some (o1, hs') → WG G p l e R s m args below meth c nL (cells + mc) (slots + ms) (vx_MQ below (QcT G o1 hs' tv1) (XCT G o1 hs') args s mc1 ms1 (gA G)) hs1 lv ((tv r).toList ++ rest) (pc + 3)) : WG G p l e R s m args below meth c nL cells slots (vx_MQ below (QcT G o1 hs' tv1) (XCT G o1 hs') args s mc1 ms1 (gA G)) hs lv st pc := by
  refine q_fin (a := ((.ref a0 :: As)).toArray) (rest := rest) (fun o2 hs1 hm H locs ls hR hS c1 => ?_) h (fun k sz hs1 hk H locs ls ce q hR hS h1 h2 h3 c1 => by
    cases hk
    exact vx_out (fun x hx => (C2.2.2 x hx).elim) C2.2.1 h1 h2 h3 (fun t ht hW => ⟨⟨k, sz, rfl, rfl, by rw [ht]; exact hR⟩, hS.F ht⟩) hS.2.2 hcl.1 hcl.2) kk
  exact vx_runIN C.fix (hM o2 hs1 hm) ⟨k.B C hRm, hy, C.2.2.2.2.1 _ hi⟩ ⟨PcT.blind _ _ _ _, fun U hU hW => PcT.at C hR hS _ U hU hW⟩ rfl hn c1.1.1 hst (lv_room (m := m) (pc := pc) (ls := ls) (rest := st) hroom) d hf
end ROWS
