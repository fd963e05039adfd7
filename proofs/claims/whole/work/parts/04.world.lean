/-! THE WORLD: cells by their places behind a base, ints and references as functions of place and slot; a walk's point over it -/
abbrev zI : Type := Nat → Nat → Int32
abbrev zJ : Type := Nat → Nat → Int64
abbrev zR : Type := Nat → Nat → Option Nat
abbrev zT : Type := List (Nat × Nat)
abbrev zW : Type := zT × zI × zJ × zR
/-- what stands fixed: the numbers of classes and fields; where the first cell lies; the script: its cell, length, ints; the text constants and their bytes; a static -/
abbrev zG : Type := va_G × Nat × (Nat × Nat × (Nat → Int32)) × ((Nat → Nat) × (Nat → Nat)) × Option Nat
abbrev gD (G : zG) : va_G := G.1
abbrev gb (G : zG) : Nat := G.2.1
abbrev gsb (G : zG) : Nat := G.2.2.1.1
abbrev gsL (G : zG) : Nat := G.2.2.1.2.1
abbrev gxs (G : zG) : Nat → Int32 := G.2.2.1.2.2
abbrev gK (G : zG) : Nat → Nat := G.2.2.2.1.1
abbrev gV (G : zG) : Nat → Nat := G.2.2.2.1.2
abbrev gv (G : zG) : Option Nat := G.2.2.2.2
/-- places below a million are the run's own cells; a million is the script; then texts, their bytes, a static's value -/
def zrl (G : zG) : Value → Value
  | .ref k => if k < 1000000 then .ref (gb G + k) else if k = 1000000 then .ref (gsb G) else if k < 1000100 then .ref (gK G (k - 1000001)) else if k < 1000200 then .ref (gV G (k - 1000101)) else va_rf (gv G)
  | v => v
theorem zrl_cat (G : zG) (v : Value) : (zrl G v).category = v.category := by
  cases v with
  | ref k =>
    unfold zrl
    dsimp only
    split
    · rfl
    · split
      · rfl
      · split
        · rfl
        · split
          · rfl
          · cases gv G <;> rfl
  | _ => rfl
theorem zrl_ref (G : zG) {k : Nat} (h : k < 1000000) : zrl G (.ref k) = .ref (gb G + k) := by
  show (if k < 1000000 then _ else _) = _
  rw [if_pos h]
theorem zrl_scr (G : zG) : zrl G (.ref 1000000) = .ref (gsb G) := rfl
def zfv (G : zG) (ci : Nat) (w : zW) (k j : Nat) : Value := match zty ci j with
  | .long => .long (w.2.2.1 k j)
  | .int => .int (w.2.1 k j)
  | .boolean => .int (w.2.1 k j)
  | _ => va_rf ((w.2.2.2 k j).map (fun q => gb G + q))
def zat (c : Nat) : FieldType := if c = 50 then .int else if c = 51 then .byte else if c = 52 then .boolean else .object (zcl (c - 53)).1
def zce (G : zG) (ac : Nat → ClassId) (w : zW) (k : Nat) (e : Nat × Nat) : va_E :=
  if e.1 < 12 then .inr (e.1, (List.range (zcl e.1).2.2).map (zfv G e.1 w k))
  else if e.1 < 53 then .inl (ac k, e.2, .inl (w.2.1 k))
  else .inl (ac k, e.2, .inr (.inr (.inr (.inr (fun j => (w.2.2.2 k j).map (fun q => gb G + q))))))
def zwl (G : zG) (ac : Nat → ClassId) (w : zW) : va_W := (List.range w.1.length).map (fun k => (gb G + k, zce G ac w k (w.1.getD k (0, 0))))
def zA (G : zG) : Nat → Prop := fun q => gb G ≤ q
theorem zwl_at {G : zG} {ac : Nat → ClassId} {w : zW} {k : Nat} {e : Nat × Nat} (h : w.1[k]? = some e) : (zwl G ac w)[k]? = some (gb G + k, zce G ac w k e) := by
  have hl := (List.getElem?_eq_some_iff.mp h).1
  unfold zwl
  rw [List.getElem?_map, List.getElem?_range hl]
  show some (gb G + k, zce G ac w k (w.1.getD k (0, 0))) = _
  rw [List.getD_eq_getElem?_getD, h]
  rfl
theorem zwl_inv {G : zG} {ac : Nat → ClassId} {w : zW} {k : Nat} {q : Nat × va_E} (h : (zwl G ac w)[k]? = some q) : k < w.1.length ∧ q.1 = gb G + k := by
  unfold zwl at h
  rw [List.getElem?_map] at h
  cases hr : (List.range w.1.length)[k]? with
  | none => rw [hr] at h; cases h
  | some i =>
    rw [hr] at h
    have hk := (List.getElem?_eq_some_iff.mp hr).1
    rw [List.length_range] at hk
    rw [List.getElem?_range hk] at hr
    cases hr
    cases h
    exact ⟨hk, rfl⟩
theorem zwl_D {G : zG} {ac : Nat → ClassId} {w : zW} : va_D (zA G) (zwl G ac w) := by
  refine ⟨fun i j p q hi hj hpq => ?_, fun k q hk => ?_⟩
  · have h1 := (zwl_inv hi).2
    have h2 := (zwl_inv hj).2
    omega
  · show gb G ≤ q.1
    rw [(zwl_inv hk).2]
    omega
/-- a cell of the world anew -/
theorem zwl_set {G : zG} {ac : Nat → ClassId} {w w' : zW} {k : Nat} {e : Nat × Nat} {x : va_E} (h : w.1[k]? = some e) (hT : w'.1 = w.1) (hx : zce G ac w' k e = x)
    (ho : ∀ q e', q ≠ k → w.1[q]? = some e' → zce G ac w' q e' = zce G ac w q e') : (zwl G ac w).set k (gb G + k, x) = zwl G ac w' := by
  have hl := (List.getElem?_eq_some_iff.mp h).1
  refine List.ext_getElem? fun i => ?_
  rcases Nat.lt_or_ge i w.1.length with hi | hi
  · have hw : w.1[i]? = some (w.1[i]) := List.getElem?_eq_getElem hi
    have hw' : w'.1[i]? = some (w.1[i]) := by rw [hT]; exact hw
    rw [zwl_at hw']
    by_cases e1 : i = k
    · subst e1
      rw [List.getElem?_set_self (by unfold zwl; simpa using hl)]
      rw [h] at hw
      have := Option.some.inj hw
      rw [← this, hx]
    · rw [List.getElem?_set_ne (Ne.symm e1), zwl_at hw, ho i _ e1 hw]
  · have n1 : (zwl G ac w')[i]? = none := by unfold zwl; simp [hT]; exact hi
    have n2 : ((zwl G ac w).set k (gb G + k, x))[i]? = none := by unfold zwl; simp; exact hi
    rw [n1, n2]
theorem zwl_push {G : zG} {ac : Nat → ClassId} {w w' : zW} {e : Nat × Nat} {x : va_E} (ac' : Nat → ClassId) (hT : w'.1 = w.1 ++ [e]) (hx : zce G ac' w' w.1.length e = x)
    (ho : ∀ q e', q < w.1.length → w.1[q]? = some e' → zce G ac' w' q e' = zce G ac w q e') : zwl G ac w ++ [(gb G + w.1.length, x)] = zwl G ac' w' := by
  have hz : (zwl G ac w).length = w.1.length := by unfold zwl; simp
  refine List.ext_getElem? fun i => ?_
  rcases Nat.lt_trichotomy i w.1.length with hi | hi | hi
  · have hw : w.1[i]? = some (w.1[i]) := List.getElem?_eq_getElem hi
    have hw' : w'.1[i]? = some (w.1[i]) := by rw [hT, List.getElem?_append_left hi]; exact hw
    rw [List.getElem?_append_left (by rw [hz]; exact hi), zwl_at hw, zwl_at hw', ho i _ hi hw]
  · subst hi
    have hw' : w'.1[w.1.length]? = some e := by rw [hT, List.getElem?_append_right (Nat.le_refl _), Nat.sub_self]; rfl
    rw [List.getElem?_append_right (by rw [hz]; exact Nat.le_refl _), zwl_at hw', hx, hz, Nat.sub_self]
    rfl
  · have n1 : (zwl G ac' w')[i]? = none := by unfold zwl; simp [hT]; omega
    have n2 : (zwl G ac w ++ [(gb G + w.1.length, x)])[i]? = none := by
      rw [List.getElem?_eq_none]
      rw [List.length_append, hz]
      simp
      omega
    rw [n1, n2]
/-- the tables: classes, and the arrays' classes -/
def zK (G : zG) (ac : Nat → ClassId) (w : zW) (U : State) : Prop := va_K (gD G) vwCl [] U ∧ ∀ (k : Nat) (e : Nat × Nat), w.1[k]? = some e → 12 ≤ e.1 → ArrOfT U (ac k) (zat e.1) ∧ va_RA U (ac k) (zat e.1)
theorem zK.moved {G : zG} {ac : Nat → ClassId} {w : zW} {u U : State} (hvm : u.vm.Alike U.vm) (h : zK G ac w u) : zK G ac w U :=
  ⟨va_K.moved hvm h.1, fun k e hk h12 => ⟨arrOfT_moved hvm (h.2 k e hk h12).1, (h.2 k e hk h12).2.moved hvm⟩⟩
theorem zK.one {G : zG} {ac : Nat → ClassId} {w : zW} {U : State} {k : Nat} {e : Nat × Nat} (h : zK G ac w U) (hk : w.1[k]? = some e) (h12 : 12 ≤ e.1) : va_K (gD G) vwCl [(ac k, zat e.1)] U := by
  refine ⟨h.1.1, fun i q hq => ?_⟩
  cases i with
  | zero => cases hq; exact h.2 k e hk h12
  | succ i => simp at hq
theorem zK.two {G : zG} {ac : Nat → ClassId} {w : zW} {U : State} {k k2 : Nat} {e e2 : Nat × Nat} (h : zK G ac w U) (hk : w.1[k]? = some e) (h12 : 12 ≤ e.1) (hk2 : w.1[k2]? = some e2) (h122 : 12 ≤ e2.1) : va_K (gD G) vwCl [(ac k, zat e.1), (ac k2, zat e2.1)] U := by
  refine ⟨h.1.1, fun i q hq => ?_⟩
  match i, hq with
  | 0, hq => cases hq; exact h.2 k e hk h12
  | 1, hq => cases hq; exact h.2 k2 e2 hk2 h122
  | i + 2, hq => simp at hq
/-- the text constants -/
def zslen : List Nat := [5, 6, 3, 7, 4, 4, 3, 4, 4]
def zsbyt : List (List Int32) := [[112, 108, 97, 105, 110], [115, 117, 108, 108, 101, 110], [110, 117, 110], [98, 114, 111, 116, 104, 101, 114], [104, 97, 116, 101], [98, 111, 116, 104], [112, 111, 116], [115, 108, 105, 112], [112, 108, 97, 110]]
def zsidx : List Nat := [94, 100, 102, 104, 106, 108, 110, 112, 114]
def zstx : List String := ["plain", "sullen", "nun", "brother", "hate", "both", "pot", "slip", "plan"]
/-- what lies outside the world and stays -/
def zS (G : zG) (U : State) (H : Heap) : Prop :=
  va_X (gsb G) (gsL G) (gxs G) U H ∧ gsb G < gb G ∧ gb G ≤ H.size ∧ vk_S 9 zslen zsbyt (gK G) (gV G) (zA G) U H ∧ va_Z "java/lang/String" "COMPACT_STRINGS" "Z" (.int 1) (zA G) U H ∧
  va_Z "jdk/internal/util/Preconditions" "SIOOBE_FORMATTER" "Ljava/util/function/BiFunction;" (va_rf (gv G)) (zA G) U H ∧ (∀ i, i < 9 → vk_R "SpoonHates$Reader" (zsidx.getD i 0) (zstx.getD i "") (gK G i) U) ∧
  (∀ (a : String) (i : Nat) (x : MethodName) (h : String), Cond.methodLinkNest a i x h ∈ lw_tbl → va_Nw (.methodLinkNest a i x h) U) ∧ ∀ C : String, Cond.arrayOver (.object C) ∈ lw_tbl → va_AO C U
theorem zS.moved {G : zG} {u U : State} {H0 H : Heap} (hW : u.WarmedH U.vm) (h : zS G u H0) (hz : H0.size ≤ H.size) (hk : ∀ q : Nat, q < H0.size → ¬ zA G q → H[q]? = H0[q]?) : zS G U H := by
  obtain ⟨h1, h2, h3, h4, h5, h6, h7, h8, h9⟩ := h
  have hv := hW.alike
  refine ⟨va_X.moved hv (h1.kept (hk _ (by omega) (fun z => by have z' : gb G ≤ gsb G := z; omega))), h2, by omega, vk_S.moved hv (h4.kept hk), va_Z.moved hv (h5.kept hk), va_Z.moved hv (h6.kept hk), fun i hi => (h7 i hi).warm hW, fun a i x hh hm => (h8 a i x hh hm).warmM hW, fun C hm => (h9 C hm).moved hv⟩
/-- the locals -/
def zas (G : zG) (lo : List (Option Value)) : List (Nat × Value) := (List.range lo.length).filterMap (fun i => (lo.getD i none).map (fun v => (i, zrl G v)))
theorem zas_mem {G : zG} {lo : List (Option Value)} {q : Nat × Value} : q ∈ zas G lo ↔ ∃ v, lo[q.1]? = some (some v) ∧ q.2 = zrl G v := by
  unfold zas
  rw [List.mem_filterMap]
  constructor
  · rintro ⟨i, hi, h⟩
    rw [List.getD_eq_getElem?_getD] at h
    have hi2 := List.mem_range.mp hi
    rw [List.getElem?_eq_getElem hi2] at h
    cases hv : lo[i] with
    | none => rw [hv] at h; cases h
    | some v =>
      rw [hv] at h
      cases h
      exact ⟨v, by rw [List.getElem?_eq_getElem hi2, hv], rfl⟩
  · rintro ⟨v, h1, h2⟩
    have hl := (List.getElem?_eq_some_iff.mp h1).1
    refine ⟨q.1, List.mem_range.mpr hl, ?_⟩
    rw [List.getD_eq_getElem?_getD, h1]
    show some (q.1, zrl G v) = some q
    rw [← h2]
def zLh (G : zG) (n : Nat) (lo : List (Option Value)) (ls : Array Slot) : Prop := lv_has ls n (zas G lo)
theorem zLh.at {G : zG} {n : Nat} {lo : List (Option Value)} {ls : Array Slot} {i : Nat} {v : Value} (h : zLh G n lo ls) (hi : lo[i]? = some (some v)) : ls[i]? = some (.val (zrl G v)) :=
  h.2.2 (i, zrl G v) (zas_mem.mpr ⟨v, hi, rfl⟩)
theorem zLh.sub {G : zG} {n : Nat} {lo lo' : List (Option Value)} {ls : Array Slot} (h : zLh G n lo ls) (hs : ∀ (i : Nat) (v : Value), lo'[i]? = some (some v) → lo[i]? = some (some v)) : zLh G n lo' ls :=
  ⟨h.1, h.2.1, fun q hq => by
    obtain ⟨v, h1, h2⟩ := zas_mem.mp hq
    rw [h2]
    exact h.at (hs _ _ h1)⟩
/-- what a store at i leaves of the locals below it: no long whose second half was there -/
def zkl (lo : List (Option Value)) (i : Nat) : List (Option Value) := match i with
  | 0 => lo
  | j + 1 => match lo.getD j none with
    | some (.long _) => lo.set j none
    | some (.double _) => lo.set j none
    | _ => lo
theorem zkl_at {lo : List (Option Value)} {i j : Nat} {v : Value} (h : (zkl lo i)[j]? = some (some v)) : lo[j]? = some (some v) ∧ ¬ (j + 1 = i ∧ v.category = 2) := by
  cases i with
  | zero => exact ⟨h, fun z => by omega⟩
  | succ k =>
    unfold zkl at h
    dsimp only at h
    split at h
    · by_cases e : j = k
      · subst e
        by_cases hl : j < lo.length
        · rw [List.getElem?_set_self hl] at h; cases h
        · rw [List.getElem?_eq_none (by simpa using hl)] at h; cases h
      · rw [List.getElem?_set_ne (Ne.symm e)] at h
        exact ⟨h, fun z => e (by omega)⟩
    · by_cases e : j = k
      · subst e
        by_cases hl : j < lo.length
        · rw [List.getElem?_set_self hl] at h; cases h
        · rw [List.getElem?_eq_none (by simpa using hl)] at h; cases h
      · rw [List.getElem?_set_ne (Ne.symm e)] at h
        exact ⟨h, fun z => e (by omega)⟩
    · rename_i n1 n2
      refine ⟨h, fun z => ?_⟩
      have e : j = k := by omega
      subst e
      have hg : lo.getD j none = some v := by rw [List.getD_eq_getElem?_getD, h]; rfl
      cases v with
      | long x => exact n1 x hg
      | double x => exact n2 x hg
      | _ => cases z.2
def zst (lo : List (Option Value)) (i : Nat) (v : Value) : List (Option Value) := (zkl lo i).set i (some v)
def zstL (lo : List (Option Value)) (i : Nat) (v : Value) : List (Option Value) := ((zkl lo i).set (i + 1) none).set i (some v)
theorem zLh.st {G : zG} {n : Nat} {lo : List (Option Value)} {ls' : Array Slot} {i : Nat} {v : Value} (h : lv_has ls' n ((i, zrl G v) :: (zas G lo).filter (fun q => !(q.1 == i) && !(q.1 + 1 == i && q.2.category == 2)))) : zLh G n (zst lo i v) ls' := by
  refine ⟨h.1, h.2.1, fun q hq => ?_⟩
  obtain ⟨u, h1, h2⟩ := zas_mem.mp hq
  by_cases e : q.1 = i
  · have hu : u = v := by
      unfold zst at h1
      rw [e] at h1
      by_cases hl : i < (zkl lo i).length
      · rw [List.getElem?_set_self hl] at h1
        exact (Option.some.inj (Option.some.inj h1)).symm
      · rw [List.getElem?_eq_none (by simpa using hl)] at h1; cases h1
    rw [h2, hu, e]
    exact h.2.2 (i, zrl G v) List.mem_cons_self
  · unfold zst at h1
    rw [List.getElem?_set_ne (Ne.symm e)] at h1
    obtain ⟨g1, g2⟩ := zkl_at h1
    refine h.2.2 q (List.mem_cons_of_mem _ (List.mem_filter.mpr ⟨zas_mem.mpr ⟨u, g1, h2⟩, ?_⟩))
    rw [h2, zrl_cat]
    simp only [Bool.and_eq_true, Bool.not_eq_true', beq_eq_false_iff_ne, Bool.and_eq_false_iff]
    refine ⟨e, ?_⟩
    by_cases a : q.1 + 1 = i
    · exact Or.inr fun b => g2 ⟨a, b⟩
    · exact Or.inl a
theorem zLh.stL {G : zG} {n : Nat} {lo : List (Option Value)} {ls' : Array Slot} {i : Nat} {v : Value} (h : lv_has ls' n ((i, zrl G v) :: (zas G lo).filter (fun q => !(q.1 == i) && (!(q.1 == i + 1) && !(q.1 + 1 == i && q.2.category == 2))))) : zLh G n (zstL lo i v) ls' := by
  refine ⟨h.1, h.2.1, fun q hq => ?_⟩
  obtain ⟨u, h1, h2⟩ := zas_mem.mp hq
  by_cases e : q.1 = i
  · have hu : u = v := by
      unfold zstL at h1
      rw [e] at h1
      by_cases hl : i < ((zkl lo i).set (i + 1) none).length
      · rw [List.getElem?_set_self hl] at h1
        exact (Option.some.inj (Option.some.inj h1)).symm
      · rw [List.getElem?_eq_none (by simpa using hl)] at h1; cases h1
    rw [h2, hu, e]
    exact h.2.2 (i, zrl G v) List.mem_cons_self
  · unfold zstL at h1
    rw [List.getElem?_set_ne (Ne.symm e)] at h1
    by_cases e2 : q.1 = i + 1
    · rw [e2] at h1
      by_cases hl : i + 1 < (zkl lo i).length
      · rw [List.getElem?_set_self hl] at h1; cases h1
      · rw [List.getElem?_eq_none (by simpa using hl)] at h1; cases h1
    · rw [List.getElem?_set_ne (Ne.symm e2)] at h1
      obtain ⟨g1, g2⟩ := zkl_at h1
      refine h.2.2 q (List.mem_cons_of_mem _ (List.mem_filter.mpr ⟨zas_mem.mpr ⟨u, g1, h2⟩, ?_⟩))
      rw [h2, zrl_cat]
      simp only [Bool.and_eq_true, Bool.not_eq_true', beq_eq_false_iff_ne, Bool.and_eq_false_iff]
      refine ⟨e, e2, ?_⟩
      by_cases a : q.1 + 1 = i
      · exact Or.inr fun b => g2 ⟨a, b⟩
      · exact Or.inl a
/-- a method's locals at its entry -/
def zargs : List Value → List (Option Value)
  | [] => []
  | v :: t => if v.category = 2 then some v :: none :: zargs t else some v :: zargs t
def zent (av : List Value) (n : Nat) : List (Option Value) := zargs av ++ List.replicate (n - (zargs av).length) none
theorem zargs_len (G : zG) : ∀ av : List Value, (zargs av).length = (lg_sl (av.map (zrl G))).length
  | [] => rfl
  | v :: t => by
    have h := zargs_len G t
    unfold lg_sl at h ⊢
    simp only [List.map_cons, List.flatMap_cons, List.length_append, zrl_cat]
    unfold zargs
    by_cases hc : v.category = 2
    · rw [if_pos hc, if_pos hc, List.length_cons, List.length_cons, h]
      simp
      omega
    · rw [if_neg hc, if_neg hc, List.length_cons, h]
      simp
      omega
theorem zargs_in (G : zG) : ∀ (av : List Value) (o i : Nat) (v : Value), (zargs av)[i]? = some (some v) → (o + i, zrl G v) ∈ lv_args o (av.map (zrl G))
  | [], _, i, v, h => by simp [zargs] at h
  | u :: t, o, i, v, h => by
    unfold zargs at h
    rw [List.map_cons]
    unfold lv_args
    rw [zrl_cat]
    by_cases hc : u.category = 2
    · rw [if_pos hc] at h ⊢
      match i, h with
      | 0, h => cases h; exact List.mem_cons_self
      | 1, h => cases h
      | i + 2, h =>
        have := zargs_in G t (o + 2) i v h
        rw [show o + (i + 2) = o + 2 + i by omega]
        exact List.mem_cons_of_mem _ this
    · rw [if_neg hc] at h ⊢
      match i, h with
      | 0, h => cases h; exact List.mem_cons_self
      | i + 1, h =>
        have := zargs_in G t (o + 1) i v h
        rw [show o + (i + 1) = o + 1 + i by omega]
        exact List.mem_cons_of_mem _ this
theorem zLh.ent {G : zG} {n : Nat} {av : List Value} {ls : Array Slot} (h : lv_has ls n (lv_args 0 (av.map (zrl G)))) : zLh G n (zent av n) ls := by
  refine ⟨h.1, h.2.1, fun q hq => ?_⟩
  obtain ⟨v, h1, h2⟩ := zas_mem.mp hq
  unfold zent at h1
  by_cases hl : q.1 < (zargs av).length
  · rw [List.getElem?_append_left hl] at h1
    have := zargs_in G av 0 q.1 v h1
    rw [Nat.zero_add] at this
    rw [h2]
    exact h.2.2 (q.1, zrl G v) this
  · rw [List.getElem?_append_right (by omega)] at h1
    have := List.eq_of_mem_replicate (List.mem_of_getElem? h1)
    cases this
