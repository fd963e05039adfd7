def zfind : Nat → List zE → Option (Instr × Nat × List Nat)
  | _, [] => none
  | pc, (q, r) :: t => if pc = q then some r else zfind pc t
def zmOf (mid : Nat) : zM := zms.getD mid zm_0
abbrev zy (mid : Nat) : MethodName := (zmOf mid).1
abbrev zb (mid : Nat) : ByteArray := (zmOf mid).2.1
abbrev zL (mid : Nat) : Nat := (zmOf mid).2.2.1
abbrev zr (mid : Nat) : Option FieldType := (zmOf mid).2.2.2.1
abbrev zf (mid : Nat) : Nat := (zmOf mid).2.2.2.2.1
abbrev zq (mid : Nat) : Nat := (zmOf mid).2.2.2.2.2.1
def zcode (mid pc : Nat) : Option (Instr × Nat × List Nat) := zfind pc (zmOf mid).2.2.2.2.2.2
/-- the tables' words that stay under warmer tables -/
def zbig : List Cond := lw_tbl.filter goodWord
def zTab (j : Nat) : List Cond := match j with
  | 0 => k2_sels lw_privs
  | 1 => tables_1_1
  | 2 => tables_1_2
  | 3 => tables_1_3
  | 4 => tables_1_4
  | 5 => tables_1_5
  | 6 => tables_1_6
  | 7 => tables_1_7
  | _ => []
theorem zTab_mem {j : Nat} {w : Cond} (h : w ∈ zTab j) : w ∈ lw_tbl := by
  unfold lw_tbl tables_1
  simp only [List.mem_append]
  unfold zTab at h
  split at h
  · exact Or.inl h
  · exact Or.inr (Or.inl h)
  · exact Or.inr (Or.inr (Or.inl h))
  · exact Or.inr (Or.inr (Or.inr (Or.inl h)))
  · exact Or.inr (Or.inr (Or.inr (Or.inr (Or.inl h))))
  · exact Or.inr (Or.inr (Or.inr (Or.inr (Or.inr (Or.inl h)))))
  · exact Or.inr (Or.inr (Or.inr (Or.inr (Or.inr (Or.inr (Or.inl h))))))
  · exact Or.inr (Or.inr (Or.inr (Or.inr (Or.inr (Or.inr (Or.inr h))))))
  · cases h
def zHasA (k : Nat) (w : Cond) : Bool := decide ((zTab (k / 1000))[k % 1000]? = some w)
theorem zHasA_mem {k : Nat} {w : Cond} (h : zHasA k w = true) : w ∈ lw_tbl := zTab_mem (List.mem_of_getElem? (of_decide_eq_true h))
def zHas (k : Nat) (w : Cond) : Bool := zHasA k w && goodWord w
theorem zHas_mem {k : Nat} {w : Cond} (h : zHas k w = true) : w ∈ zbig := by
  simp only [zHas, Bool.and_eq_true] at h
  exact List.mem_filter.mpr ⟨zHasA_mem h.1, h.2⟩
def zcl (ci : Nat) : vw_C := vwCl.getD ci (RX0, TX0, 4)
def zFld (own : String) (idx ci k h : Nat) : Bool := decide (ci < 12) && (decide (k < (zcl ci).2.2) && zHas h (.fieldLink own idx ((zcl ci).2.1 k).1 ((zcl ci).2.1 k).2.1 ((zcl ci).2.1 k).2.2.1))
/-- a call's callee: its words, and that it fits the caller's room -/
def zCal (own : String) (fr lo : Nat) (a : List Nat) : Bool :=
  zHas (a.getD 2 0) (.code (zy (a.getD 0 0)) (zb (a.getD 0 0)) (zL (a.getD 0 0)) (zr (a.getD 0 0))) && (zHas (a.getD 3 0) (.initialized (zy (a.getD 0 0)).cls) &&
  (decide ((zy (a.getD 0 0)).cls ≠ "java/lang/invoke/MethodHandle") && (decide ((zy (a.getD 0 0)).cls ≠ "java/lang/invoke/VarHandle") && (decide ((parseMethodDescriptor (zy (a.getD 0 0)).desc).map (fun d => d.parameters.length) = some (a.getD 4 0)) &&
  (decide (zf (a.getD 0 0) + 1 ≤ fr) && decide (8 + (zL (a.getD 0 0) + 11) + zq (a.getD 0 0) ≤ lo))))))
def zNest (y : MethodName) (own : String) (idx h : Nat) : Bool := match (zTab (h / 1000))[h % 1000]? with
  | some (.methodLinkNest o i y2 _) => decide (o = own) && (decide (i = idx) && decide (y2 = y))
  | _ => false
def zCkI (own name : String) (fr lo pc : Nat) (i : Instr) (a : List Nat) : Bool := match i with
  | .goto off => decide ((pc : Int) + off = (a.getD 0 0 : Nat))
  | .ifCond _ off => decide ((pc : Int) + off = (a.getD 0 0 : Nat))
  | .if_icmp _ off => decide ((pc : Int) + off = (a.getD 0 0 : Nat))
  | .ldc idx => if a.length = 2 then zHas (a.getD 0 0) (.constant own idx (Int32.ofNat (a.getD 1 0))) else true
  | .ldc_w idx => zHas (a.getD 0 0) (.constant own idx (Int32.ofNat (a.getD 1 0)))
  | .ldc2_w idx => zHas (a.getD 0 0) (.constantLong own idx (Int64.ofNat (a.getD 1 0)))
  | .getfield idx => if a.getD 0 0 = 99 then true else zFld own idx (a.getD 0 0) (a.getD 1 0) (a.getD 2 0)
  | .putfield idx => zFld own idx (a.getD 0 0) (a.getD 1 0) (a.getD 2 0) && (decide (((zcl (a.getD 0 0)).2.1 (a.getD 1 0)).2.2.2 = false) || (decide (name = "<init>") && decide (((zcl (a.getD 0 0)).2.1 (a.getD 1 0)).1 = own)))
  | .new idx => decide (a.getD 0 0 < 12) && (zHas (a.getD 1 0) (.classLink own idx (zcl (a.getD 0 0)).1) && (zHas (a.getD 2 0) (.instantiable (zcl (a.getD 0 0)).1 (zcl (a.getD 0 0)).2.2) && zHas (a.getD 3 0) (.initialized (zcl (a.getD 0 0)).1)))
  | .newarray t => zHas (a.getD 0 0) (.arrayClass (newarray.typeOf t))
  | .anewarray idx => decide (a.getD 0 0 < 12) && (zHas (a.getD 1 0) (.classLink own idx (zcl (a.getD 0 0)).1) && zHasA (a.getD 2 0) (.arrayOver (.object (zcl (a.getD 0 0)).1)))
  | .invokevirtual idx => decide (a.getD 0 0 = 9999) || (zCal own fr lo a && (zHas (a.getD 1 0) (.methodLink own idx (zy (a.getD 0 0))) && (zHas (a.getD 5 0) (.instanceMethod (zy (a.getD 0 0))) && zHas (a.getD 6 0) (.selects (zy (a.getD 0 0)).cls (zy (a.getD 0 0)) (zy (a.getD 0 0))))))
  | .invokestatic idx => if a.getD 0 0 = 9999 then true else if a.getD 0 0 = 1000 then decide (1 ≤ fr) && (decide (21 ≤ lo) && (zHas (a.getD 1 0) (.methodLink own idx Lib.Math.max.name) && (zHas (a.getD 2 0) (.static Lib.Math.max.name) && (zHas (a.getD 3 0) (.initialized "java/lang/Math") && zHas (a.getD 4 0) (.code Lib.Math.max.name Lib.Math.max.code 2 (some .int))))))
      else if a.getD 0 0 = 1001 then decide (1 ≤ fr) && (decide (21 ≤ lo) && (zHas (a.getD 1 0) (.methodLink own idx Lib.Math.min.name) && (zHas (a.getD 2 0) (.static Lib.Math.min.name) && (zHas (a.getD 3 0) (.initialized "java/lang/Math") && zHas (a.getD 4 0) (.code Lib.Math.min.name Lib.Math.min.code 2 (some .int))))))
      else if a.getD 0 0 = 1002 then decide (1 ≤ fr) && (decide (26 ≤ lo) && (zHas (a.getD 1 0) (.methodLink own idx arraycopyName) && (zHas (a.getD 2 0) (.native arraycopyName) && (zHas (a.getD 3 0) (.static arraycopyName) && zHas (a.getD 4 0) (.initialized "java/lang/System")))))
      else zCal own fr lo a && (zHas (a.getD 1 0) (.methodLink own idx (zy (a.getD 0 0))) && zHas (a.getD 5 0) (.static (zy (a.getD 0 0))))
  | .invokespecial idx => if a.getD 0 0 = 1003 then decide (1 ≤ fr) && (decide (20 ≤ lo) && (zHas (a.getD 1 0) (.methodLink own idx objectInit) && (zHas (a.getD 2 0) (.instanceMethod objectInit) && zHas (a.getD 3 0) (.code objectInit ⟨#[0xb1]⟩ 1 none))))
      else zCal own fr lo a && ((if a.getD 6 0 = 1 then zNest (zy (a.getD 0 0)) own idx (a.getD 1 0) else zHas (a.getD 1 0) (.methodLink own idx (zy (a.getD 0 0)))) && (zHas (a.getD 5 0) (.instanceMethod (zy (a.getD 0 0))) && (decide ((zy (a.getD 0 0)).name = "<init>") && decide (zr (a.getD 0 0) = none))))
  | _ => true
def zCkE (m : zM) (e : zE) : Bool := decide (decode m.2.1 e.1 = .ok (e.2.1, e.2.2.1)) && zCkI m.1.cls m.1.name m.2.2.2.2.1 m.2.2.2.2.2.1 e.1 e.2.1 e.2.2.2
def zCkM (m : zM) : Bool := m.2.2.2.2.2.2.all (zCkE m)
