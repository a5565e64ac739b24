/-! memory: a row of numbers for each cell; the world: all cells of both systems, as one function of the memory -/
abbrev Mem : Type := Nat → Nat → Int32
abbrev Res : Type := Option (Int32 × Mem)
def mrow (σ : Mem) (k : Nat) (f : Nat → Int32) : Mem := fun q => if q = k then f else σ q
def mset (σ : Mem) (k j : Nat) (v : Int32) : Mem := mrow σ k (upd (σ k) j v)
abbrev Shp : Type := (Nat × List (Option Nat)) ⊕ (Bool × Nat)
def flv (ad : Nat → Nat) (f : Nat → Int32) : Nat → List (Option Nat) → List Value
  | _, [] => []
  | j, some r :: t => .ref (ad r) :: flv ad f (j + 1) t
  | j, none :: t => .int (f j) :: flv ad f (j + 1) t
def cont (cI cB : ClassId) (ad : Nat → Nat) (f : Nat → Int32) : Shp → va_E
  | .inl o => .inr (o.1, flv ad f 0 o.2)
  | .inr a => .inl (if a.1 = true then cB else cI, a.2, .inl f)
def shp : List Shp := [.inl (7, [some 1, some 21, some 41, some 46, some 50, some 52, none]), .inl (3, [some 2, some 7, some 13, some 16, some 19, none, some 20, none, none, none, none, none, none, none, none]), .inl (0, [some 3, some 4, some 5, some 6, none]), .inr (false, 6), .inr (false, 6), .inr (false, 6), .inr (false, 6), .inl (2, [some 8, some 9, some 10, some 11, some 12, none]), .inr (false, 5), .inr (false, 5), .inr (false, 5), .inr (false, 5), .inr (false, 5), .inl (5, [some 14, some 15, none, none]), .inr (false, 60), .inr (false, 60), .inl (5, [some 17, some 18, none, none]), .inr (false, 60), .inr (false, 60), .inr (true, 60), .inr (false, 24), .inl (3, [some 22, some 27, some 33, some 36, some 39, none, some 40, none, none, none, none, none, none, none, none]), .inl (0, [some 23, some 24, some 25, some 26, none]), .inr (false, 6), .inr (false, 6), .inr (false, 6), .inr (false, 6), .inl (2, [some 28, some 29, some 30, some 31, some 32, none]), .inr (false, 5), .inr (false, 5), .inr (false, 5), .inr (false, 5), .inr (false, 5), .inl (5, [some 34, some 35, none, none]), .inr (false, 60), .inr (false, 60), .inl (5, [some 37, some 38, none, none]), .inr (false, 60), .inr (false, 60), .inr (true, 60), .inr (false, 24), .inl (1, [some 42, some 45, none, none, none, none, none]), .inl (5, [some 43, some 44, none, none]), .inr (false, 60), .inr (false, 60), .inr (false, 60), .inl (4, [some 47, some 48, some 49]), .inr (false, 4), .inr (false, 4), .inr (false, 96), .inl (6, [some 51, none, none, none, none, none]), .inr (false, 30), .inr (false, 7), .inl (8, [some 54, some 55, none, some 56, some 57, some 58, some 59, some 60, some 61, some 62, some 63, none, none, none, none, none, some 64, none, none]), .inr (false, 386), .inr (false, 386), .inr (false, 7), .inr (false, 4), .inr (false, 4), .inr (false, 96), .inr (false, 60), .inr (false, 60), .inr (false, 3), .inr (false, 60), .inr (false, 30)]
def Wd (cI cB : ClassId) (ad : Nat → Nat) (σ : Mem) : va_W := (List.range shp.length).map fun k => (ad k, cont cI cB ad (σ k) (shp.getD k (.inr (false, 0))))
theorem Wd_get {cI cB : ClassId} {ad : Nat → Nat} {σ : Mem} {k : Nat} {S : Shp} (h : shp[k]? = some S) : (Wd cI cB ad σ)[k]? = some (ad k, cont cI cB ad (σ k) S) := by
  have hk : k < shp.length := (List.getElem?_eq_some_iff.mp h).1
  unfold Wd
  rw [List.getElem?_map, List.getElem?_range hk]
  show some (ad k, cont cI cB ad (σ k) (shp.getD k _)) = _
  rw [List.getD_eq_getElem?_getD, h]
  rfl
theorem Wd_of {cI cB : ClassId} {ad : Nat → Nat} {σ : Mem} {k : Nat} {q : Nat × va_E} (h : (Wd cI cB ad σ)[k]? = some q) : k < shp.length ∧ q.1 = ad k := by
  unfold Wd at h
  rw [List.getElem?_map] at h
  by_cases hk : k < shp.length
  · rw [List.getElem?_range hk] at h
    cases h
    exact ⟨hk, rfl⟩
  · rw [List.getElem?_eq_none (by rw [List.length_range]; omega)] at h
    cases h
theorem Wd_row {cI cB : ClassId} {ad : Nat → Nat} {σ : Mem} {k : Nat} {S : Shp} (h : shp[k]? = some S) (f : Nat → Int32) : (Wd cI cB ad σ).set k (ad k, cont cI cB ad f S) = Wd cI cB ad (mrow σ k f) := by
  have hk : k < shp.length := (List.getElem?_eq_some_iff.mp h).1
  apply List.ext_getElem?
  intro i
  by_cases hik : k = i
  · subst hik
    rw [List.getElem?_set_self (by unfold Wd; rw [List.length_map, List.length_range]; exact hk), Wd_get h]
    simp [mrow]
  · rw [List.getElem?_set_ne hik]
    unfold Wd
    rw [List.getElem?_map, List.getElem?_map]
    by_cases hi : i < shp.length
    · rw [List.getElem?_range hi]
      have e : mrow σ k f i = σ i := if_neg (fun q => hik q.symm)
      simp only [Option.map_some, e]
    · rw [List.getElem?_eq_none (by rw [List.length_range]; omega)]
      rfl
theorem flv_ref {ad : Nat → Nat} {f : Nat → Int32} : ∀ (l : List (Option Nat)) (n j r : Nat), l[j]? = some (some r) → (flv ad f n l)[j]? = some (.ref (ad r))
  | [], n, j, r, h => by simp at h
  | o :: t, n, 0, r, h => by
    simp only [List.getElem?_cons_zero, Option.some.injEq] at h
    subst h
    rfl
  | o :: t, n, j + 1, r, h => by
    rw [List.getElem?_cons_succ] at h
    cases o <;> exact flv_ref t (n + 1) j r h
theorem flv_int {ad : Nat → Nat} {f : Nat → Int32} : ∀ (l : List (Option Nat)) (n j : Nat), l[j]? = some none → (flv ad f n l)[j]? = some (.int (f (n + j)))
  | [], n, j, h => by simp at h
  | o :: t, n, 0, h => by
    simp only [List.getElem?_cons_zero, Option.some.injEq] at h
    subst h
    rfl
  | o :: t, n, j + 1, h => by
    rw [List.getElem?_cons_succ] at h
    have e : n + (j + 1) = (n + 1) + j := by omega
    rw [e]
    cases o <;> exact flv_int t (n + 1) j h
theorem flv_up {ad : Nat → Nat} {f : Nat → Int32} {k : Nat} {v : Int32} : ∀ (l : List (Option Nat)) (m : Nat), k < m → flv ad (upd f k v) m l = flv ad f m l
  | [], m, h => rfl
  | some r :: t, m, h => by
    show Value.ref (ad r) :: flv ad (upd f k v) (m + 1) t = Value.ref (ad r) :: flv ad f (m + 1) t
    rw [flv_up t (m + 1) (by omega)]
  | none :: t, m, h => by
    show Value.int (upd f k v m) :: flv ad (upd f k v) (m + 1) t = Value.int (f m) :: flv ad f (m + 1) t
    rw [flv_up t (m + 1) (by omega), show upd f k v m = f m from if_neg (by omega)]
theorem flv_set {ad : Nat → Nat} {f : Nat → Int32} {v : Int32} : ∀ (l : List (Option Nat)) (n j : Nat), l[j]? = some none → (flv ad f n l).set j (.int v) = flv ad (upd f (n + j) v) n l
  | [], n, j, h => by simp at h
  | o :: t, n, 0, h => by
    simp only [List.getElem?_cons_zero, Option.some.injEq] at h
    subst h
    show Value.int v :: flv ad f (n + 1) t = Value.int (upd f (n + 0) v n) :: flv ad (upd f (n + 0) v) (n + 1) t
    rw [flv_up t (n + 1) (by omega), show upd f (n + 0) v n = v from if_pos (by omega)]
  | some r :: t, n, j + 1, h => by
    rw [List.getElem?_cons_succ] at h
    show Value.ref (ad r) :: (flv ad f (n + 1) t).set j (.int v) = Value.ref (ad r) :: flv ad (upd f (n + (j + 1)) v) (n + 1) t
    rw [flv_set t (n + 1) j h, show n + 1 + j = n + (j + 1) by omega]
  | none :: t, n, j + 1, h => by
    rw [List.getElem?_cons_succ] at h
    show Value.int (f n) :: (flv ad f (n + 1) t).set j (.int v) = Value.int (upd f (n + (j + 1)) v n) :: flv ad (upd f (n + (j + 1)) v) (n + 1) t
    rw [flv_set t (n + 1) j h, show n + 1 + j = n + (j + 1) by omega, show upd f (n + (j + 1)) v n = f n from if_neg (by omega)]
theorem flv_len {ad : Nat → Nat} {f : Nat → Int32} : ∀ (l : List (Option Nat)) (n : Nat), (flv ad f n l).length = l.length
  | [], n => rfl
  | some r :: t, n => by
    show (flv ad f (n + 1) t).length + 1 = t.length + 1
    rw [flv_len t (n + 1)]
  | none :: t, n => by
    show (flv ad f (n + 1) t).length + 1 = t.length + 1
    rw [flv_len t (n + 1)]
def AA (ad : Nat → Nat) : Nat → Prop := fun q => ∃ k, k < shp.length ∧ q = ad k
def Inj (ad : Nat → Nat) : Prop := ∀ i j, i < shp.length → j < shp.length → ad i = ad j → i = j
theorem Wd_D {cI cB : ClassId} {ad : Nat → Nat} {σ : Mem} {A : Nat → Prop} (hI : Inj ad) (hA : ∀ k, k < shp.length → A (ad k)) : va_D A (Wd cI cB ad σ) := by
  refine ⟨fun i j x y hi hj hxy => ?_, fun k q hk => ?_⟩
  · obtain ⟨h1, e1⟩ := Wd_of hi
    obtain ⟨h2, e2⟩ := Wd_of hj
    exact hI i j h1 h2 (by rw [← e1, ← e2]; exact hxy)
  · obtain ⟨h1, e1⟩ := Wd_of hk
    rw [e1]
    exact hA k h1
def tA (j : Nat) : Int32 := ([-1, 0, 0, 0, 1, 2, 0] : List Int32).getD j 0
def tB (j : Nat) : Int32 := ([10, 11, 12, 13, 20, 0, 0, 21, 0, 30, 0, 0, 0, 0, 40, 0, 50, 0, 51, 0, 0, 60, 0, 0, 70, 71, 0, 0] : List Int32).getD j 0
def tN (j : Nat) : Int32 := ([97, 119, 111, 115, 109, 111] : List Int32).getD j 0
/-- the static rows that nobody writes, and the links among nest mates -/
def SN (A : Nat → Prop) (st : Nat → Nat) (U : State) (H : Heap) : Prop :=
  (va_Z "OffForSecond" "ABOVE" "[I" (.ref (st 0)) A U H ∧ va_T .int (st 0) 7 (fun j => .int (tA j)) A U H) ∧
  (va_Z "OffForSecond" "BODIES" "[I" (.ref (st 1)) A U H ∧ va_T .int (st 1) 28 (fun j => .int (tB j)) A U H) ∧
  (va_Z "OffForSecond" "NAMES" "[C" (.ref (st 2)) A U H ∧ va_T .char (st 2) 6 (fun j => .int (tN j)) A U H) ∧
  va_Nw (.fieldLinkNest "OffForSecond$Reader" 66 "OffForSecond" "NAMES" "[C" "OffForSecond") U ∧ va_Nw (.fieldLinkNest "OffForSecond$Throat" 51 "OffForSecond" "BODIES" "[I" "OffForSecond") U ∧ va_Nw (.fieldLinkNest "OffForSecond$Throat" 54 "OffForSecond" "ABOVE" "[I" "OffForSecond") U
theorem SN.to {A B : Nat → Prop} {st : Nat → Nat} {u U : State} {H H1 : Heap} (hvm : u.WarmedH U.vm) (hq : ∀ a : Nat, a < H.size → ¬ A a → H1[a]? = H[a]?) (hAB : ∀ q, B q → A q) (h : SN A st u H) : SN B st U H1 := by
  obtain ⟨⟨a1, a2⟩, ⟨b1, b2⟩, ⟨c1, c2⟩, d1, d2, d3⟩ := h
  have hal := hvm.alike
  exact ⟨⟨((a1.kept hq).moved hal).narrow hAB, ((a2.kept hq).moved hal).narrow hAB⟩, ⟨((b1.kept hq).moved hal).narrow hAB, ((b2.kept hq).moved hal).narrow hAB⟩, ⟨((c1.kept hq).moved hal).narrow hAB, ((c2.kept hq).moved hal).narrow hAB⟩, d1.warmF hvm, d2.warmF hvm, d3.warmF hvm⟩
theorem SN.blind {A : Nat → Prop} {st : Nat → Nat} {U : State} {H : Heap} {g : JFrame} {mk : MethodId} {a : Array Value} (h : SN A st U H) : SN A st (U.calling g mk a) H := by
  obtain ⟨⟨a1, a2⟩, ⟨b1, b2⟩, ⟨c1, c2⟩, d1, d2, d3⟩ := h
  have hal : U.vm.Alike (U.calling g mk a).vm := Vm.Alike.refl U.vm
  exact ⟨⟨a1.moved hal, a2.moved hal⟩, ⟨b1.moved hal, b2.moved hal⟩, ⟨c1.moved hal, c2.moved hal⟩, d1.same rfl rfl, d2.same rfl rfl, d3.same rfl rfl⟩
def tys2 (cI cB : ClassId) : List (ClassId × FieldType) := [(cI, .int), (cB, .byte)]
def WP (D : va_G) (cI cB : ClassId) (ad st : Nat → Nat) (σ : Mem) (U : State) : Prop := va_P D vwCl (Wd cI cB ad σ) U.heap ∧ va_K D vwCl (tys2 cI cB) U ∧ SN (AA ad) st U U.heap
theorem WP.blind {D : va_G} {cI cB : ClassId} {ad st : Nat → Nat} {σ : Mem} {U : State} {g : JFrame} {mk : MethodId} {a : Array Value} (h : WP D cI cB ad st σ U) : WP D cI cB ad st σ (U.calling g mk a) :=
  ⟨h.1, va_K.moved (u := U) (U := U.calling g mk a) (Vm.Alike.refl U.vm) h.2.1, h.2.2.blind⟩
/-- the pure side: a name for a value; a gate; a call -/
def nm {β : Type} (e : β) (K : β → Res) : Res := K e
def gi (i : Int32) (n : Nat) (x : Res) : Res := if ¬ (i < 0 ∨ n ≤ i.toNatClampNeg) then x else none
def gz (y : Int32) (x : Res) : Res := if ¬ y = 0 then x else none
def gb (v : Int32) (x : Res) : Res := if v = 0 ∨ v = 1 then x else none
def gt (b : Bool) (x : Res) : Res := if b = true then x else none
def bd (o : Res) (K : Int32 → Mem → Res) : Res := match o with
  | none => none
  | some z => K z.1 z.2
theorem gi_some {i : Int32} {n : Nat} {x : Res} {Z : Int32 × Mem} (h : gi i n x = some Z) : vp_in i n ∧ x = some Z := by
  unfold gi at h
  split at h
  · rename_i q
    exact ⟨q, h⟩
  · cases h
theorem gz_some {y : Int32} {x : Res} {Z : Int32 × Mem} (h : gz y x = some Z) : ¬ y = 0 ∧ x = some Z := by
  unfold gz at h
  split at h
  · rename_i q
    exact ⟨q, h⟩
  · cases h
theorem gb_some {v : Int32} {x : Res} {Z : Int32 × Mem} (h : gb v x = some Z) : (v = 0 ∨ v = 1) ∧ x = some Z := by
  unfold gb at h
  split at h
  · rename_i q
    exact ⟨q, h⟩
  · cases h
theorem gt_some {b : Bool} {x : Res} {Z : Int32 × Mem} (h : gt b x = some Z) : b = true ∧ x = some Z := by
  unfold gt at h
  split at h
  · rename_i q
    exact ⟨q, h⟩
  · cases h
theorem bd_some {o : Res} {K : Int32 → Mem → Res} {Z : Int32 × Mem} (h : bd o K = some Z) : ∃ z : Int32 × Mem, o = some z ∧ K z.1 z.2 = some Z := by
  cases o with
  | none => cases h
  | some z => exact ⟨z, rfl, h⟩
/-- the room of a method that calls d deep -/
def rmd (d : Nat) : Room := { frames := d, cells := 0, slots := 0, locals := 48 * d }
/-- the contracts: any world with memory σ; it answers Z.1, the memory is Z.2 then -/
def CT (l : Launch) (y : MethodName) (b : ByteArray) (mL : Nat) (ret : Option FieldType) (d : Nat) (av : (Nat → Nat) → List Value) (σ : Mem) (Z : Int32 × Mem) : Prop :=
  ∀ (D : va_G) (cI cB : ClassId) (ad st : Nat → Nat), Inj ad → Met l y (.code y b mL ret :: ALL) (rmd d) (va_Pc (av ad) (fun U => WP D cI cB ad st σ U)) (va_Qi (fun (r : Int32) (_ : Unit) => r = Z.1) (fun _ t => WP D cI cB ad st Z.2 t) (AA ad)) 0 0 (AA ad)
def CV (l : Launch) (y : MethodName) (b : ByteArray) (mL : Nat) (d : Nat) (av : (Nat → Nat) → List Value) (σ : Mem) (Z : Int32 × Mem) : Prop :=
  ∀ (D : va_G) (cI cB : ClassId) (ad st : Nat → Nat), Inj ad → Met l y (.code y b mL none :: ALL) (rmd d) (va_Pc (av ad) (fun U => WP D cI cB ad st σ U)) (va_Qv (fun (_ : Unit) => True) (fun _ t => WP D cI cB ad st Z.2 t) (AA ad)) 0 0 (AA ad)
/-- what stays fixed through a method: the machine, the words, the tables -/
def En (p : Program) (R : Room) (s : State) (m : MethodId) (args : Array Value) (c : Code) (cc : ByteArray) (nL : Nat) (own : String) (D : va_G) (cI cB : ClassId) (ad st : Nat → Nat) (A : Nat → Prop) (cells slots : Nat) : Prop :=
  CallFix p m c cc nL s args ALL own ∧ va_K D vwCl (tys2 cI cB) s ∧ SN A st s s.heap ∧ Inj ad ∧ (∀ k, k < shp.length → A (ad k)) ∧ cells ≤ R.cells ∧ slots ≤ R.slots
def Wo (D : va_G) (cI cB : ClassId) (ad : Nat → Nat) (A : Nat → Prop) (σ : Mem) (s : State) (H : Heap) (locs : List Loc) : Prop := va_P D vwCl (Wd cI cB ad σ) H ∧ va_S A s.heap H locs
theorem ALL_in {y : MethodName} {b : ByteArray} {mL : Nat} {ret : Option FieldType} {own : String} {idx : Nat} {w : Cond} {pre : List Cond} (hp : ∀ w ∈ pre, w ∈ ALL) (hc : Cond.code y b mL ret ∈ ALL) : GoodIn ALL (pre ++ (.code y b mL ret :: ALL)) := by
  intro w hw
  have hm : w ∈ ALL := by
    rcases List.mem_append.mp hw with h | h
    · exact hp w h
    · rcases List.mem_cons.mp h with h | h
      · rw [h]; exact hc
      · exact h
  exact ⟨hm, good_of_word (List.all_eq_true.mp ALL_good w hm)⟩
