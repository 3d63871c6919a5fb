/-! ===== the fixed pool of cells of this claim, and a judgement over it ===== -/
/-- the classes whose objects the pool holds -/
def ncl : List vw_C := [(RX5, TX5, 5), (RX4, TX4, 5), (RX1, TX1, 4), (RX3, TX3, 8), (RX2, TX2, 2), (RX0, TX0, 5)]
/-- numbers of classes and fields; the cells' addresses; the array classes -/
abbrev Geo : Type := va_G × (Nat → Nat) × (Nat → ClassId) × (Nat × Nat × (Nat → Int32)) × Nat
/-- the script: its cell, its length, what it holds; how many of the law's own arrays there are -/
def Gb (G : Geo) : Nat := G.2.2.2.1.1
def Gl (G : Geo) : Nat := G.2.2.2.1.2.1
def Gx (G : Geo) : Nat → Int32 := G.2.2.2.1.2.2
def Gn (G : Geo) : Nat := G.2.2.2.2
theorem gl {G : Geo} {k : Nat} (h : k < 36) : k < 36 + Gn G := Nat.lt_add_right _ h
def gtys (G : Geo) : List (ClassId × FieldType) := [(G.2.2.1 0, .int), (G.2.2.1 1, .long), (G.2.2.1 2, .boolean), (G.2.2.1 3, .array .int)]
/-- what the cells hold: numbers in fields, int and boolean arrays, long arrays, fields that change their cell -/
abbrev St : Type := (Nat → Nat → Int32) × (Nat → Nat → Int32) × (Nat → Nat → Int64) × (Nat → Nat → Nat)
def Zm (X : St) (k j : Nat) : Int32 := X.1 k j
def Zv (X : St) (k : Nat) : Nat → Int32 := X.2.1 k
def Zu (X : St) (k : Nat) : Nat → Int64 := X.2.2.1 k
def Zf (X : St) (k j : Nat) : Nat := X.2.2.2 k j
def up2 {α : Type} (f : Nat → Nat → α) (k j : Nat) (x : α) : Nat → Nat → α := fun a b => if a = k ∧ b = j then x else f a b
def up1 {α : Type} (f : Nat → α) (k : Nat) (x : α) : Nat → α := fun a => if a = k then x else f a
def Ym (X : St) (k j : Nat) (x : Int32) : St := (up2 X.1 k j x, X.2.1, X.2.2.1, X.2.2.2)
def Yv (X : St) (k : Nat) (f : Nat → Int32) : St := (X.1, up1 X.2.1 k f, X.2.2.1, X.2.2.2)
def Yu (X : St) (k : Nat) (f : Nat → Int64) : St := (X.1, X.2.1, up1 X.2.2.1 k f, X.2.2.2)
def Yf (X : St) (k j : Nat) (x : Nat) : St := (X.1, X.2.1, X.2.2.1, up2 X.2.2.2 k j x)
theorem Zm_Ym (X : St) (k j : Nat) (x : Int32) (a b : Nat) : Zm (Ym X k j x) a b = if a = k ∧ b = j then x else Zm X a b := rfl
theorem Zm_Yv (X : St) (k : Nat) (f : Nat → Int32) (a b : Nat) : Zm (Yv X k f) a b = Zm X a b := rfl
theorem Zm_Yu (X : St) (k : Nat) (f : Nat → Int64) (a b : Nat) : Zm (Yu X k f) a b = Zm X a b := rfl
theorem Zm_Yf (X : St) (k j : Nat) (x : Nat) (a b : Nat) : Zm (Yf X k j x) a b = Zm X a b := rfl
theorem Zv_Ym (X : St) (k j : Nat) (x : Int32) (a : Nat) : Zv (Ym X k j x) a = Zv X a := rfl
theorem Zv_Yv (X : St) (k : Nat) (f : Nat → Int32) (a : Nat) : Zv (Yv X k f) a = if a = k then f else Zv X a := rfl
theorem Zv_Yu (X : St) (k : Nat) (f : Nat → Int64) (a : Nat) : Zv (Yu X k f) a = Zv X a := rfl
theorem Zv_Yf (X : St) (k j : Nat) (x : Nat) (a : Nat) : Zv (Yf X k j x) a = Zv X a := rfl
theorem Zu_Ym (X : St) (k j : Nat) (x : Int32) (a : Nat) : Zu (Ym X k j x) a = Zu X a := rfl
theorem Zu_Yv (X : St) (k : Nat) (f : Nat → Int32) (a : Nat) : Zu (Yv X k f) a = Zu X a := rfl
theorem Zu_Yu (X : St) (k : Nat) (f : Nat → Int64) (a : Nat) : Zu (Yu X k f) a = if a = k then f else Zu X a := rfl
theorem Zu_Yf (X : St) (k j : Nat) (x : Nat) (a : Nat) : Zu (Yf X k j x) a = Zu X a := rfl
theorem Zf_Ym (X : St) (k j : Nat) (x : Int32) (a b : Nat) : Zf (Ym X k j x) a b = Zf X a b := rfl
theorem Zf_Yv (X : St) (k : Nat) (f : Nat → Int32) (a b : Nat) : Zf (Yv X k f) a b = Zf X a b := rfl
theorem Zf_Yu (X : St) (k : Nat) (f : Nat → Int64) (a b : Nat) : Zf (Yu X k f) a b = Zf X a b := rfl
theorem Zf_Yf (X : St) (k j : Nat) (x : Nat) (a b : Nat) : Zf (Yf X k j x) a b = if a = k ∧ b = j then x else Zf X a b := rfl
theorem Yv_Yv (X : St) (k : Nat) (f g : Nat → Int32) : Yv (Yv X k f) k g = Yv X k g := by
  unfold Yv up1
  refine congrArg (fun z => (X.1, z, X.2.2.1, X.2.2.2)) (funext fun a => ?_)
  by_cases h : a = k <;> simp [h]
theorem Yv_id (X : St) (k : Nat) : Yv X k (Zv X k) = X := by
  unfold Yv up1 Zv
  refine Prod.ext rfl (Prod.ext (funext fun a => ?_) rfl)
  by_cases h : a = k <;> simp [h]
theorem Yu_Yu (X : St) (k : Nat) (f g : Nat → Int64) : Yu (Yu X k f) k g = Yu X k g := by
  unfold Yu up1
  refine congrArg (fun z => (X.1, X.2.1, z, X.2.2.2)) (funext fun a => ?_)
  by_cases h : a = k <;> simp [h]
theorem Yu_id (X : St) (k : Nat) : Yu X k (Zu X k) = X := by
  unfold Yu up1 Zu
  refine Prod.ext rfl (Prod.ext rfl (Prod.ext (funext fun a => ?_) rfl))
  by_cases h : a = k <;> simp [h]
theorem Ym_Ym (X : St) (k j : Nat) (x y : Int32) : Ym (Ym X k j x) k j y = Ym X k j y := by
  unfold Ym up2
  refine Prod.ext (funext fun a => funext fun b => ?_) rfl
  by_cases h : a = k ∧ b = j <;> simp [h]
theorem Ym_id (X : St) (k j : Nat) : Ym X k j (Zm X k j) = X := by
  unfold Ym up2 Zm
  refine Prod.ext (funext fun a => funext fun b => ?_) rfl
  show (if a = k ∧ b = j then X.1 k j else X.1 a b) = X.1 a b
  by_cases h : a = k ∧ b = j
  · rw [if_pos h, h.1, h.2]
  · rw [if_neg h]
theorem Yf_Yf (X : St) (k j : Nat) (x y : Nat) : Yf (Yf X k j x) k j y = Yf X k j y := by
  unfold Yf up2
  refine Prod.ext rfl (Prod.ext rfl (Prod.ext rfl (funext fun a => funext fun b => ?_)))
  by_cases h : a = k ∧ b = j <;> simp [h]
/-- two states with the same cells are one -/
theorem St_ext {X Y : St} (h1 : ∀ k j, Zm X k j = Zm Y k j) (h2 : ∀ k j, Zv X k j = Zv Y k j) (h3 : ∀ k j, Zu X k j = Zu Y k j) (h4 : ∀ k j, Zf X k j = Zf Y k j) : X = Y :=
  Prod.ext (funext fun a => funext fun b => h1 a b) (Prod.ext (funext fun a => funext fun b => h2 a b) (Prod.ext (funext fun a => funext fun b => h3 a b) (funext fun a => funext fun b => h4 a b)))
/-- the cells: kind (0 object, 1 int[], 2 long[], 3 boolean[], 4 int[][]), class or length, fields -/
def lay : Nat → Nat × Nat × List (Option (Option Nat))
  | 0 => (0, 0, [some (some 1), some (some 3), some (some 7), some (some 25), none])
  | 1 => (0, 1, [some (some 2), none, none, none, none])
  | 2 => (1, 100, [])
  | 3 => (0, 2, [some (some 4), some (some 5), some (some 6), none])
  | 4 => (1, 800, [])
  | 5 => (1, 8, [])
  | 6 => (1, 8, [])
  | 7 => (0, 3, [some (some 8), some (some 9), none, some (some 13), some (some 10), some (some 11), some (some 12), none])
  | 8 => (1, 100, [])
  | 9 => (1, 10, [])
  | 10 => (1, 1024, [])
  | 11 => (1, 1024, [])
  | 12 => (1, 10, [])
  | 13 => (4, 11, [])
  | 14 => (1, 1024, [])
  | 15 => (1, 1024, [])
  | 16 => (1, 1024, [])
  | 17 => (1, 1024, [])
  | 18 => (1, 1024, [])
  | 19 => (1, 1024, [])
  | 20 => (1, 1024, [])
  | 21 => (1, 1024, [])
  | 22 => (1, 1024, [])
  | 23 => (1, 1024, [])
  | 24 => (1, 1024, [])
  | 25 => (0, 4, [some none, some none])
  | 26 => (0, 5, [some (some 27), some (some 28), some (some 29), some (some 30), none])
  | 27 => (1, 30, [])
  | 28 => (2, 30, [])
  | 29 => (1, 30, [])
  | 30 => (1, 30, [])
  | 31 => (0, 5, [some (some 32), some (some 33), some (some 34), some (some 35), none])
  | 32 => (1, 30, [])
  | 33 => (2, 30, [])
  | 34 => (1, 30, [])
  | 35 => (1, 30, [])
  | 36 => (1, 16, [])
  | 37 => (3, 4, [])
  | 38 => (3, 4, [])
  | 39 => (1, 16, [])
  | _ => (5, 0, [])
/-- a class's fields, in the order of the slots: a number, a cell, a cell that changes -/
def fvs (G : Geo) (X : St) (k : Nat) : Nat → List (Option (Option Nat)) → List Value
  | _, [] => []
  | j, none :: t => .int (Zm X k j) :: fvs G X k (j + 1) t
  | j, some (some i) :: t => .ref (G.2.1 i) :: fvs G X k (j + 1) t
  | j, some none :: t => .ref (G.2.1 (Zf X k j)) :: fvs G X k (j + 1) t
/-- what the cell k holds, its kind w -/
def sW (G : Geo) (X : St) (k : Nat) (w : Nat × Nat × List (Option (Option Nat))) : va_E :=
  match w.1 with
  | 0 => .inr (w.2.1, fvs G X k 0 w.2.2)
  | 1 => .inl (G.2.2.1 0, w.2.1, .inl (Zv X k))
  | 2 => .inl (G.2.2.1 1, w.2.1, .inr (.inl (Zu X k)))
  | 3 => .inl (G.2.2.1 2, w.2.1, .inl (Zv X k))
  | _ => .inl (G.2.2.1 3, w.2.1, .inr (.inr (.inr (.inr (fun i => if i < w.2.1 then some (G.2.1 (14 + i)) else none)))))
def sE (G : Geo) (X : St) (k : Nat) : va_E := sW G X k (lay k)
def wsX (G : Geo) (X : St) : va_W := (List.range (36 + Gn G)).map fun k => (G.2.1 k, sE G X k)
theorem wsX_len (G : Geo) (X : St) : (wsX G X).length = 36 + Gn G := by simp [wsX]
theorem wsX_get (G : Geo) (X : St) {k : Nat} (h : k < 36 + Gn G) : (wsX G X)[k]? = some (G.2.1 k, sE G X k) := by simp [wsX, h]
theorem wsX_of {G : Geo} {X : St} {k : Nat} {q : Nat × va_E} (h : (wsX G X)[k]? = some q) : k < 36 + Gn G ∧ q = (G.2.1 k, sE G X k) := by
  have hk : k < 36 + Gn G := by
    have := (List.getElem?_eq_some_iff.mp h).1
    rwa [wsX_len] at this
  rw [wsX_get G X hk] at h
  exact ⟨hk, (Option.some.inj h).symm⟩
theorem wsX_set (G : Geo) {X X' : St} {k : Nat} {e : va_E} (h : k < 36 + Gn G) (he : sE G X' k = e) (hs : ∀ j, j ≠ k → sE G X' j = sE G X j) : (wsX G X).set k (G.2.1 k, e) = wsX G X' := by
  apply List.ext_getElem?
  intro i
  by_cases hi : i < 36 + Gn G
  · by_cases hk : i = k
    · subst hk
      rw [List.getElem?_set_self (by rw [wsX_len]; exact hi), wsX_get G X' hi, he]
    · rw [List.getElem?_set_ne (fun q => hk q.symm), wsX_get G X hi, wsX_get G X' hi, hs i hk]
  · rw [List.getElem?_eq_none (by rw [List.length_set, wsX_len]; omega), List.getElem?_eq_none (by rw [wsX_len]; omega)]
theorem fvs_len (G : Geo) (X : St) (k : Nat) : ∀ (fs : List (Option (Option Nat))) (i : Nat), (fvs G X k i fs).length = fs.length
  | [], _ => rfl
  | none :: t, i => congrArg (· + 1) (fvs_len G X k t (i + 1))
  | some none :: t, i => congrArg (· + 1) (fvs_len G X k t (i + 1))
  | some (some _) :: t, i => congrArg (· + 1) (fvs_len G X k t (i + 1))
theorem fvs_n (G : Geo) (X : St) (k : Nat) : ∀ (fs : List (Option (Option Nat))) (i j : Nat), fs[j]? = some none → (fvs G X k i fs)[j]? = some (.int (Zm X k (i + j)))
  | [], _, _, h => by simp at h
  | a :: t, i, 0, h => by
    simp at h
    subst h
    rfl
  | a :: t, i, j + 1, h => by
    have h1 : t[j]? = some none := by simpa using h
    have := fvs_n G X k t (i + 1) j h1
    rw [show i + (j + 1) = i + 1 + j by omega]
    match a with
    | none => simpa [fvs] using this
    | some none => simpa [fvs] using this
    | some (some _) => simpa [fvs] using this
theorem fvs_r (G : Geo) (X : St) (k c : Nat) : ∀ (fs : List (Option (Option Nat))) (i j : Nat), fs[j]? = some (some (some c)) → (fvs G X k i fs)[j]? = some (.ref (G.2.1 c))
  | [], _, _, h => by simp at h
  | a :: t, i, 0, h => by
    simp at h
    subst h
    rfl
  | a :: t, i, j + 1, h => by
    have h1 : t[j]? = some (some (some c)) := by simpa using h
    have := fvs_r G X k c t (i + 1) j h1
    match a with
    | none => simpa [fvs] using this
    | some none => simpa [fvs] using this
    | some (some _) => simpa [fvs] using this
theorem fvs_m (G : Geo) (X : St) (k : Nat) : ∀ (fs : List (Option (Option Nat))) (i j : Nat), fs[j]? = some (some none) → (fvs G X k i fs)[j]? = some (.ref (G.2.1 (Zf X k (i + j))))
  | [], _, _, h => by simp at h
  | a :: t, i, 0, h => by
    simp at h
    subst h
    rfl
  | a :: t, i, j + 1, h => by
    have h1 : t[j]? = some (some none) := by simpa using h
    have := fvs_m G X k t (i + 1) j h1
    rw [show i + (j + 1) = i + 1 + j by omega]
    match a with
    | none => simpa [fvs] using this
    | some none => simpa [fvs] using this
    | some (some _) => simpa [fvs] using this
theorem fvs_cong {G : Geo} {X Y : St} {k : Nat} : ∀ (fs : List (Option (Option Nat))) (i : Nat), (∀ j, i ≤ j → Zm X k j = Zm Y k j) → (∀ j, i ≤ j → Zf X k j = Zf Y k j) → fvs G X k i fs = fvs G Y k i fs
  | [], _, _, _ => rfl
  | none :: t, i, h1, h2 => by
    rw [fvs, fvs, h1 i (Nat.le_refl i), fvs_cong t (i + 1) (fun j hj => h1 j (by omega)) (fun j hj => h2 j (by omega))]
  | some none :: t, i, h1, h2 => by
    rw [fvs, fvs, h2 i (Nat.le_refl i), fvs_cong t (i + 1) (fun j hj => h1 j (by omega)) (fun j hj => h2 j (by omega))]
  | some (some _) :: t, i, h1, h2 => by
    rw [fvs, fvs, fvs_cong t (i + 1) (fun j hj => h1 j (by omega)) (fun j hj => h2 j (by omega))]
theorem fvs_setn (G : Geo) (X : St) (k : Nat) (x : Int32) : ∀ (fs : List (Option (Option Nat))) (i j : Nat), fs[j]? = some none → fvs G (Ym X k (i + j) x) k i fs = (fvs G X k i fs).set j (.int x)
  | [], _, _, h => by simp at h
  | a :: t, i, 0, h => by
    simp at h
    subst h
    rw [fvs, fvs, fvs_cong (X := Ym X k (i + 0) x) (Y := X) t (i + 1) (fun j hj => by rw [Zm_Ym, if_neg (by omega)]) (fun j _ => rfl), Zm_Ym]
    simp
  | a :: t, i, j + 1, h => by
    have h1 : t[j]? = some none := by simpa using h
    have ih := fvs_setn G X k x t (i + 1) j h1
    rw [show i + 1 + j = i + (j + 1) by omega] at ih
    match a with
    | none => rw [fvs, fvs, ih, Zm_Ym, if_neg (by omega)]; rfl
    | some none => rw [fvs, fvs, ih]; rfl
    | some (some _) => rw [fvs, fvs, ih]; rfl
theorem fvs_setm (G : Geo) (X : St) (k : Nat) (x : Nat) : ∀ (fs : List (Option (Option Nat))) (i j : Nat), fs[j]? = some (some none) → fvs G (Yf X k (i + j) x) k i fs = (fvs G X k i fs).set j (.ref (G.2.1 x))
  | [], _, _, h => by simp at h
  | a :: t, i, 0, h => by
    simp at h
    subst h
    rw [fvs, fvs, fvs_cong (X := Yf X k (i + 0) x) (Y := X) t (i + 1) (fun j _ => rfl) (fun j hj => by rw [Zf_Yf, if_neg (by omega)]), Zf_Yf]
    simp
  | a :: t, i, j + 1, h => by
    have h1 : t[j]? = some (some none) := by simpa using h
    have ih := fvs_setm G X k x t (i + 1) j h1
    rw [show i + 1 + j = i + (j + 1) by omega] at ih
    match a with
    | none => rw [fvs, fvs, ih]; rfl
    | some none => rw [fvs, fvs, ih, Zf_Yf, if_neg (by omega)]; rfl
    | some (some _) => rw [fvs, fvs, ih]; rfl
theorem sW_cong {G : Geo} {X Y : St} {k : Nat} (w : Nat × Nat × List (Option (Option Nat))) (h1 : ∀ j, Zm X k j = Zm Y k j) (h2 : Zv X k = Zv Y k) (h3 : Zu X k = Zu Y k) (h4 : ∀ j, Zf X k j = Zf Y k j) : sW G X k w = sW G Y k w := by
  obtain ⟨a, n, fs⟩ := w
  unfold sW
  split
  · rw [fvs_cong fs 0 (fun j _ => h1 j) (fun j _ => h4 j)]
  · rw [h2]
  · rw [h3]
  · rw [h2]
  · rfl
/-- the world after a number is put, after an array is written .. -/
theorem wsX_Ym (G : Geo) (X : St) {k j ci : Nat} {fs : List (Option (Option Nat))} (x : Int32) (h : k < 36 + Gn G) (hl : lay k = (0, ci, fs)) (hj : fs[j]? = some none) : (wsX G X).set k (G.2.1 k, .inr (ci, (fvs G X k 0 fs).set j (.int x))) = wsX G (Ym X k j x) := by
  refine wsX_set G h ?_ fun i hi => sW_cong _ (fun b => ?_) rfl rfl (fun _ => rfl)
  · unfold sE
    rw [hl]
    show Sum.inr (ci, fvs G (Ym X k j x) k 0 fs) = _
    have := fvs_setn G X k x fs 0 j hj
    rw [Nat.zero_add] at this
    rw [this]
  · rw [Zm_Ym, if_neg (fun q => hi q.1)]
theorem wsX_Yf (G : Geo) (X : St) {k j ci : Nat} {fs : List (Option (Option Nat))} (x : Nat) (h : k < 36 + Gn G) (hl : lay k = (0, ci, fs)) (hj : fs[j]? = some (some none)) : (wsX G X).set k (G.2.1 k, .inr (ci, (fvs G X k 0 fs).set j (.ref (G.2.1 x)))) = wsX G (Yf X k j x) := by
  refine wsX_set G h ?_ fun i hi => sW_cong _ (fun _ => rfl) rfl rfl (fun b => ?_)
  · unfold sE
    rw [hl]
    show Sum.inr (ci, fvs G (Yf X k j x) k 0 fs) = _
    have := fvs_setm G X k x fs 0 j hj
    rw [Nat.zero_add] at this
    rw [this]
  · rw [Zf_Yf, if_neg (fun q => hi q.1)]
theorem wsX_YvI (G : Geo) (X : St) {k n : Nat} {fs : List (Option (Option Nat))} (f : Nat → Int32) (h : k < 36 + Gn G) (hl : lay k = (1, n, fs)) : (wsX G X).set k (G.2.1 k, .inl (G.2.2.1 0, n, .inl f)) = wsX G (Yv X k f) := by
  refine wsX_set G h ?_ fun i hi => sW_cong _ (fun _ => rfl) (by rw [Zv_Yv, if_neg hi]) rfl (fun _ => rfl)
  unfold sE
  rw [hl]
  show Sum.inl (G.2.2.1 0, n, Sum.inl (Zv (Yv X k f) k)) = _
  rw [Zv_Yv, if_pos rfl]
theorem wsX_YvZ (G : Geo) (X : St) {k n : Nat} {fs : List (Option (Option Nat))} (f : Nat → Int32) (h : k < 36 + Gn G) (hl : lay k = (3, n, fs)) : (wsX G X).set k (G.2.1 k, .inl (G.2.2.1 2, n, .inl f)) = wsX G (Yv X k f) := by
  refine wsX_set G h ?_ fun i hi => sW_cong _ (fun _ => rfl) (by rw [Zv_Yv, if_neg hi]) rfl (fun _ => rfl)
  unfold sE
  rw [hl]
  show Sum.inl (G.2.2.1 2, n, Sum.inl (Zv (Yv X k f) k)) = _
  rw [Zv_Yv, if_pos rfl]
theorem wsX_Yu (G : Geo) (X : St) {k n : Nat} {fs : List (Option (Option Nat))} (f : Nat → Int64) (h : k < 36 + Gn G) (hl : lay k = (2, n, fs)) : (wsX G X).set k (G.2.1 k, .inl (G.2.2.1 1, n, .inr (.inl f))) = wsX G (Yu X k f) := by
  refine wsX_set G h ?_ fun i hi => sW_cong _ (fun _ => rfl) rfl (by rw [Zu_Yu, if_neg hi]) (fun _ => rfl)
  unfold sE
  rw [hl]
  show Sum.inl (G.2.2.1 1, n, Sum.inr (Sum.inl (Zu (Yu X k f) k))) = _
  rw [Zu_Yu, if_pos rfl]
theorem sE_o (G : Geo) (X : St) {k ci : Nat} {fs : List (Option (Option Nat))} (hl : lay k = (0, ci, fs)) : sE G X k = .inr (ci, fvs G X k 0 fs) := by unfold sE; rw [hl]; rfl
theorem sE_I (G : Geo) (X : St) {k n : Nat} {fs : List (Option (Option Nat))} (hl : lay k = (1, n, fs)) : sE G X k = .inl (G.2.2.1 0, n, .inl (Zv X k)) := by unfold sE; rw [hl]; rfl
theorem sE_J (G : Geo) (X : St) {k n : Nat} {fs : List (Option (Option Nat))} (hl : lay k = (2, n, fs)) : sE G X k = .inl (G.2.2.1 1, n, .inr (.inl (Zu X k))) := by unfold sE; rw [hl]; rfl
theorem sE_Z (G : Geo) (X : St) {k n : Nat} {fs : List (Option (Option Nat))} (hl : lay k = (3, n, fs)) : sE G X k = .inl (G.2.2.1 2, n, .inl (Zv X k)) := by unfold sE; rw [hl]; rfl
theorem sE_A (G : Geo) (X : St) {k n : Nat} {fs : List (Option (Option Nat))} (hl : lay k = (4, n, fs)) : sE G X k = .inl (G.2.2.1 3, n, .inr (.inr (.inr (.inr (fun i => if i < n then some (G.2.1 (14 + i)) else none))))) := by unfold sE; rw [hl]; rfl
/-! locals: the last put first -/
def afind : List (Nat × Value) → Nat → Option Value
  | [], _ => none
  | (i, v) :: t, j => bif Nat.beq j i then some v else bif Nat.beq j (i + 1) && Nat.beq v.category 2 then none else bif Nat.beq (j + 1) i then (match afind t j with | some w => bif Nat.beq w.category 2 then none else some w | none => none) else afind t j
def lvOk (ls : Array Slot) (nL : Nat) (lv : List (Nat × Value)) : Prop := ls.size = nL ∧ lv_wf ls ∧ ∀ i v, afind lv i = some v → ls[i]? = some (.val v)
theorem afind_mem : ∀ (lv : List (Nat × Value)) (i : Nat) (v : Value), afind lv i = some v → (i, v) ∈ lv
  | [], _, _, h => by simp [afind] at h
  | (a, w) :: t, i, v, h => by
    unfold afind at h
    by_cases h1 : Nat.beq i a = true
    · rw [h1] at h
      have e : i = a := Nat.eq_of_beq_eq_true h1
      subst e
      cases h
      exact List.mem_cons_self
    · rw [Bool.eq_false_iff.mpr h1] at h
      refine List.mem_cons_of_mem _ (afind_mem t i v ?_)
      simp only [cond_false] at h
      by_cases h2 : (Nat.beq i (a + 1) && Nat.beq w.category 2) = true
      · rw [h2] at h; cases h
      · rw [Bool.eq_false_iff.mpr h2] at h
        simp only [cond_false] at h
        by_cases h3 : Nat.beq (i + 1) a = true
        · rw [h3] at h
          simp only [cond_true] at h
          cases h4 : afind t i with
          | none => rw [h4] at h; cases h
          | some x =>
            rw [h4] at h
            simp only at h
            by_cases h5 : Nat.beq x.category 2 = true
            · rw [h5] at h; cases h
            · rw [Bool.eq_false_iff.mpr h5] at h
              exact h
        · rw [Bool.eq_false_iff.mpr h3] at h
          exact h
theorem lvOk_of {ls : Array Slot} {nL : Nat} {lv : List (Nat × Value)} (h : lv_has ls nL lv) : lvOk ls nL lv := ⟨h.1, h.2.1, fun i v hi => h.2.2 (i, v) (afind_mem lv i v hi)⟩
/-- all that is known of the locals, a place once -/
def alist (nL : Nat) (lv : List (Nat × Value)) : List (Nat × Value) := (List.range nL).filterMap fun i => (afind lv i).map fun v => (i, v)
theorem alist_has {ls : Array Slot} {nL : Nat} {lv : List (Nat × Value)} (h : lvOk ls nL lv) : lv_has ls nL (alist nL lv) := by
  refine ⟨h.1, h.2.1, fun q hq => ?_⟩
  obtain ⟨i, -, hi⟩ := List.mem_filterMap.mp hq
  obtain ⟨v, hv, rfl⟩ := Option.map_eq_some_iff.mp hi
  exact h.2.2 i v hv
theorem alist_mem {ls : Array Slot} {nL : Nat} {lv : List (Nat × Value)} (h : lvOk ls nL lv) {i : Nat} {v : Value} (hi : afind lv i = some v) : (i, v) ∈ alist nL lv := by
  refine List.mem_filterMap.mpr ⟨i, List.mem_range.mpr ?_, by rw [hi]; rfl⟩
  have := (Array.getElem?_eq_some_iff.mp (h.2.2 i v hi)).1
  rwa [h.1] at this
theorem afind_cons1 {i : Nat} {v : Value} {t : List (Nat × Value)} (hc : v.category = 1) {j : Nat} {w : Value} (h : afind ((i, v) :: t) j = some w) : (j = i ∧ w = v) ∨ (j ≠ i ∧ afind t j = some w ∧ ¬ (j + 1 = i ∧ w.category = 2)) := by
  unfold afind at h
  by_cases h1 : Nat.beq j i = true
  · rw [h1] at h
    exact Or.inl ⟨Nat.eq_of_beq_eq_true h1, (Option.some.inj h).symm⟩
  · rw [Bool.eq_false_iff.mpr h1] at h
    have hne : j ≠ i := fun e => h1 (by rw [e]; exact Nat.beq_refl i)
    rw [hc] at h
    have h2 : (Nat.beq j (i + 1) && Nat.beq 1 2) = false := by rw [show Nat.beq 1 2 = false from rfl, Bool.and_false]
    rw [h2] at h
    simp only [cond_false] at h
    by_cases h3 : Nat.beq (j + 1) i = true
    · rw [h3] at h
      simp only [cond_true] at h
      cases h4 : afind t j with
      | none => rw [h4] at h; cases h
      | some x =>
        rw [h4] at h
        simp only at h
        by_cases h5 : Nat.beq x.category 2 = true
        · rw [h5] at h; cases h
        · rw [Bool.eq_false_iff.mpr h5] at h
          cases h
          exact Or.inr ⟨hne, rfl, fun q => h5 (by rw [q.2]; rfl)⟩
    · rw [Bool.eq_false_iff.mpr h3] at h
      exact Or.inr ⟨hne, h, fun q => h3 (by rw [q.1]; exact Nat.beq_refl i)⟩
theorem afind_cons2 {i : Nat} {v : Value} {t : List (Nat × Value)} (hc : v.category = 2) {j : Nat} {w : Value} (h : afind ((i, v) :: t) j = some w) : (j = i ∧ w = v) ∨ (j ≠ i ∧ j ≠ i + 1 ∧ afind t j = some w ∧ ¬ (j + 1 = i ∧ w.category = 2)) := by
  unfold afind at h
  by_cases h1 : Nat.beq j i = true
  · rw [h1] at h
    exact Or.inl ⟨Nat.eq_of_beq_eq_true h1, (Option.some.inj h).symm⟩
  · rw [Bool.eq_false_iff.mpr h1] at h
    have hne : j ≠ i := fun e => h1 (by rw [e]; exact Nat.beq_refl i)
    rw [hc] at h
    by_cases h2 : Nat.beq j (i + 1) = true
    · rw [h2] at h
      simp at h
    · rw [Bool.eq_false_iff.mpr h2] at h
      have hne2 : j ≠ i + 1 := fun e => h2 (by rw [e]; exact Nat.beq_refl _)
      simp only [cond_false, Bool.false_and] at h
      by_cases h3 : Nat.beq (j + 1) i = true
      · rw [h3] at h
        simp only [cond_true] at h
        cases h4 : afind t j with
        | none => rw [h4] at h; cases h
        | some x =>
          rw [h4] at h
          simp only at h
          by_cases h5 : Nat.beq x.category 2 = true
          · rw [h5] at h; cases h
          · rw [Bool.eq_false_iff.mpr h5] at h
            cases h
            exact Or.inr ⟨hne, hne2, rfl, fun q => h5 (by rw [q.2]; rfl)⟩
      · rw [Bool.eq_false_iff.mpr h3] at h
        exact Or.inr ⟨hne, hne2, h, fun q => h3 (by rw [q.1]; exact Nat.beq_refl i)⟩
theorem lvOk_put1 {ls ls' : Array Slot} {nL i : Nat} {v : Value} {lv : List (Nat × Value)} (h : lvOk ls nL lv) (hc : v.category = 1) (h' : lv_has ls' nL ((i, v) :: (alist nL lv).filter (fun q => !(q.1 == i) && !(q.1 + 1 == i && q.2.category == 2)))) : lvOk ls' nL ((i, v) :: lv) := by
  refine ⟨h'.1, h'.2.1, fun j w hj => ?_⟩
  rcases afind_cons1 hc hj with ⟨rfl, rfl⟩ | ⟨hne, hf, hn⟩
  · exact h'.2.2 _ List.mem_cons_self
  · refine h'.2.2 (j, w) (List.mem_cons_of_mem _ (List.mem_filter.mpr ⟨alist_mem h hf, ?_⟩))
    simp only [Bool.and_eq_true, Bool.not_eq_true', beq_eq_false_iff_ne, Bool.and_eq_false_iff]
    refine ⟨hne, ?_⟩
    by_cases e : j + 1 = i
    · exact Or.inr (fun q => hn ⟨e, q⟩)
    · exact Or.inl e
theorem lvOk_put2 {ls ls' : Array Slot} {nL i : Nat} {v : Value} {lv : List (Nat × Value)} (h : lvOk ls nL lv) (hc : v.category = 2) (h' : lv_has ls' nL ((i, v) :: (alist nL lv).filter (fun q => !(q.1 == i) && (!(q.1 == i + 1) && !(q.1 + 1 == i && q.2.category == 2))))) : lvOk ls' nL ((i, v) :: lv) := by
  refine ⟨h'.1, h'.2.1, fun j w hj => ?_⟩
  rcases afind_cons2 hc hj with ⟨rfl, rfl⟩ | ⟨hne, hne2, hf, hn⟩
  · exact h'.2.2 _ List.mem_cons_self
  · refine h'.2.2 (j, w) (List.mem_cons_of_mem _ (List.mem_filter.mpr ⟨alist_mem h hf, ?_⟩))
    simp only [Bool.and_eq_true, Bool.not_eq_true', beq_eq_false_iff_ne, Bool.and_eq_false_iff]
    refine ⟨hne, hne2, ?_⟩
    by_cases e : j + 1 = i
    · exact Or.inr (fun q => hn ⟨e, q⟩)
    · exact Or.inl e
/-- fewer locals, or in another order -/
def lvSub (lv : List (Nat × Value)) : List (Nat × Value) → Prop
  | [] => True
  | q :: t => afind lv q.1 = some q.2 ∧ lvSub lv t
theorem lvSub_mem {lv : List (Nat × Value)} : ∀ {lv' : List (Nat × Value)}, lvSub lv lv' → ∀ q ∈ lv', afind lv q.1 = some q.2
  | [], _, q, hq => by simp at hq
  | a :: t, h, q, hq => by
    rcases List.mem_cons.mp hq with rfl | h1
    · exact h.1
    · exact lvSub_mem h.2 q h1
theorem lvOk_sub {ls : Array Slot} {nL : Nat} {lv lv' : List (Nat × Value)} (h : lvOk ls nL lv) (hs : lvSub lv lv') : lvOk ls nL lv' :=
  ⟨h.1, h.2.1, fun i v hi => h.2.2 i v (lvSub_mem hs (i, v) (afind_mem lv' i v hi))⟩
theorem lvOk_lt {ls : Array Slot} {nL : Nat} {lv : List (Nat × Value)} {i : Nat} {v : Value} (h : lvOk ls nL lv) (hi : afind lv i = some v) : i < nL := by
  have := (Array.getElem?_eq_some_iff.mp (h.2.2 i v hi)).1
  rwa [h.1] at this
theorem lay_small {k a n : Nat} {fs : List (Option (Option Nat))} (h : lay k = (a, n, fs)) : n < 2 ^ 31 := by
  have hd : ∀ j, j < 40 → (lay j).2.1 < 12000 := by decide +kernel
  by_cases hk : k < 40
  · have := hd k hk
    rw [h] at this
    exact Nat.lt_trans this (by decide)
  · have e : lay k = (5, 0, []) := by
      unfold lay
      split <;> first | rfl | omega
    rw [h] at e
    cases e
    decide
theorem Yv_comm (X : St) {k k' : Nat} (h : k ≠ k') (f g : Nat → Int32) : Yv (Yv X k f) k' g = Yv (Yv X k' g) k f := by
  unfold Yv up1
  refine Prod.ext rfl (Prod.ext (funext fun a => ?_) rfl)
  by_cases h1 : a = k' <;> by_cases h2 : a = k
  · exact absurd (h2.symm.trans h1) h
  · simp [h1, h, Ne.symm h]
  · simp [h2, h, Ne.symm h]
  · simp [h1, h2]
theorem Yv_mid (X : St) {k k' : Nat} (h : k ≠ k') (f g f' : Nat → Int32) : Yv (Yv (Yv X k f) k' g) k f' = Yv (Yv X k f') k' g := by
  rw [Yv_comm (Yv X k f) (Ne.symm h) g f', Yv_Yv]
