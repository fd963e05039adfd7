/-! THE PURE LAYER: the world as the constructors leave it: cells M0, references R0; ints and longs move -/
def M0 : zT := [(10, 0), (0, 0), (8, 0), (50, 5), (50, 25), (7, 0), (50, 6), (50, 6), (50, 6), (2, 0), (50, 8), (5, 0), (50, 6), (50, 6), (53, 2), (3, 0), (0, 0), (8, 0), (50, 5), (50, 25), (7, 0), (50, 6), (50, 6), (50, 6), (2, 0), (50, 8), (5, 0), (50, 6), (50, 6), (9, 0), (51, 160), (8, 0), (50, 5), (50, 25), (4, 0), (50, 4), (50, 10), (50, 4), (61, 5), (8, 0), (50, 5), (50, 25), (8, 0), (50, 5), (50, 25), (8, 0), (50, 5), (50, 25), (8, 0), (50, 5), (50, 25), (8, 0), (50, 5), (50, 25), (1, 0), (50, 5), (50, 5), (50, 5), (59, 4), (0, 0), (8, 0), (50, 5), (50, 25), (7, 0), (50, 6), (50, 6), (50, 6), (2, 0), (50, 8), (5, 0), (50, 6), (50, 6), (0, 0), (8, 0), (50, 5), (50, 25), (7, 0), (50, 6), (50, 6), (50, 6), (2, 0), (50, 8), (5, 0), (50, 6), (50, 6), (6, 0), (50, 40), (6, 0), (50, 40), (6, 0), (50, 40), (6, 0), (50, 40), (11, 0), (50, 174), (50, 58), (52, 2), (50, 6), (50, 6), (50, 6), (50, 58), (50, 6), (50, 6), (50, 6), (50, 160), (50, 10), (50, 5), (50, 4), (50, 4), (50, 160), (50, 58)]
def R0 : List (Nat × Nat × Nat) := [(0, 0, 1), (0, 1, 14), (0, 3, 15), (0, 4, 29), (0, 5, 31), (0, 6, 34), (0, 7, 54), (0, 8, 58), (1, 0, 2), (1, 1, 5), (1, 2, 9), (1, 3, 11), (2, 6, 3), (2, 7, 4), (5, 2, 6), (5, 3, 7), (5, 4, 8), (9, 1, 10), (11, 1, 12), (11, 2, 13), (14, 0, 59), (14, 1, 72), (15, 0, 16), (15, 4, 29), (16, 0, 17), (16, 1, 20), (16, 2, 24), (16, 3, 26), (17, 6, 18), (17, 7, 19), (20, 2, 21), (20, 3, 22), (20, 4, 23), (24, 1, 25), (26, 1, 27), (26, 2, 28), (29, 0, 30), (31, 6, 32), (31, 7, 33), (34, 3, 35), (34, 4, 36), (34, 7, 37), (34, 8, 38), (38, 0, 39), (38, 1, 42), (38, 2, 45), (38, 3, 48), (38, 4, 51), (39, 6, 40), (39, 7, 41), (42, 6, 43), (42, 7, 44), (45, 6, 46), (45, 7, 47), (48, 6, 49), (48, 7, 50), (51, 6, 52), (51, 7, 53), (54, 1, 55), (54, 2, 56), (54, 3, 57), (58, 0, 85), (58, 1, 87), (58, 2, 89), (58, 3, 91), (59, 0, 60), (59, 1, 63), (59, 2, 67), (59, 3, 69), (60, 6, 61), (60, 7, 62), (63, 2, 64), (63, 3, 65), (63, 4, 66), (67, 1, 68), (69, 1, 70), (69, 2, 71), (72, 0, 73), (72, 1, 76), (72, 2, 80), (72, 3, 82), (73, 6, 74), (73, 7, 75), (76, 2, 77), (76, 3, 78), (76, 4, 79), (80, 1, 81), (82, 1, 83), (82, 2, 84), (85, 1, 86), (87, 1, 88), (89, 1, 90), (91, 1, 92), (93, 0, 94), (93, 1, 95), (93, 2, 96), (93, 5, 97), (93, 6, 98), (93, 7, 99), (93, 8, 100), (93, 11, 101), (93, 12, 102), (93, 13, 103), (93, 17, 104), (93, 26, 105), (93, 27, 106), (93, 31, 107), (93, 32, 108), (93, 33, 109), (93, 35, 110)]
def Rok (R : zR) : Prop := ∀ e ∈ R0, R e.1 e.2.1 = some e.2.2
theorem M0_lt {q : Nat} {e : Nat × Nat} (h : M0[q]? = some e) : q < 1000000 := by
  have h1 := (List.getElem?_eq_some_iff.mp h).1
  have h2 : M0.length = 111 := by decide +kernel
  omega
theorem R0_lt {e : Nat × Nat × Nat} (h : e ∈ R0) : e.2.2 < 1000000 := by
  have : ∀ e ∈ R0, e.2.2 < 1000000 := by decide +kernel
  exact this e h
abbrev zP : Type := Option Value → zI → zJ → Prop
def Zp (G : zG) (mid pc : Nat) (lo : List (Option Value)) (st : List Value) (I : zI) (L : zJ) (Q : zP) : Prop :=
  ∀ R : zR, Rok R → ZW G mid pc lo st (M0, I, L, R) 0 0 (fun r w => ∃ I' L', w = (M0, I', L', R) ∧ Q r I' L')
/-- a method's contract -/
def Zm (G : zG) (mid : Nat) (av : List Value) (I : zI) (L : zJ) (Q : zP) : Prop :=
  ∀ R : zR, Rok R → ZM G mid av (M0, I, L, R) 0 0 (fun r w => ∃ I' L', w = (M0, I', L', R) ∧ Q r I' L')
/-- what a call asks of the method t of the class ci: n words of locals -/
def zCv (t ci n : Nat) : Bool := decide (t < 1000) && (decide (ci < 12) && (decide ((zy t).cls = (zcl ci).1) && decide (zL t = n)))
def zCs (t n : Nat) : Bool := decide (t < 1000) && decide (zL t = n)
/-- an answer of yes or no -/
def zbo (p : Prop) [Decidable p] : Int32 := if p then 1 else 0
theorem zbo_t {p : Prop} [Decidable p] (h : p) : zbo p = 1 := if_pos h
theorem zbo_f {p : Prop} [Decidable p] (h : ¬ p) : zbo p = 0 := if_neg h
theorem zbo_01 (p : Prop) [Decidable p] : zbo p = 0 ∨ zbo p = 1 := by
  by_cases h : p
  · exact Or.inr (zbo_t h)
  · exact Or.inl (zbo_f h)
theorem zbo_ne {p : Prop} [Decidable p] : ¬ zbo p = 0 ↔ p := by
  by_cases h : p
  · rw [zbo_t h]; exact ⟨fun _ => h, fun _ => by decide⟩
  · rw [zbo_f h]; exact ⟨fun q => absurd rfl q, fun q => absurd q h⟩
theorem zbo_eq {p : Prop} [Decidable p] : zbo p = 0 ↔ ¬ p := by
  by_cases h : p
  · rw [zbo_t h]; exact ⟨fun q => absurd q (by decide), fun q => absurd h q⟩
  · rw [zbo_f h]; exact ⟨fun _ => h, fun _ => rfl⟩
theorem zbo_narrow (p : Prop) [Decidable p] : narrow .boolean (.int (zbo p)) = .int (zbo p) := by
  rcases zbo_01 p with h | h <;> rw [h] <;> rfl
section ZPR
variable {G : zG} {mid pc pc' : Nat} {lo : List (Option Value)} {st : List Value} {I : zI} {L : zJ} {Q : zP} {a : List Nat}
theorem Zp.mono {Q' : zP} (h : ∀ r I' L', Q r I' L' → Q' r I' L') (k : Zp G mid pc lo st I L Q) : Zp G mid pc lo st I L Q' := fun R hR => ZW.mono (fun r w ⟨I', L', e, q⟩ => ⟨I', L', e, h r I' L' q⟩) (k R hR)
theorem Zm.mono {av : List Value} {Q' : zP} (h : ∀ r I' L', Q r I' L' → Q' r I' L') (k : Zm G mid av I L Q) : Zm G mid av I L Q' := fun R hR => ZW.mono (fun r w ⟨I', L', e, q⟩ => ⟨I', L', e, h r I' L' q⟩) (k R hR)
theorem Zm.go {n : Nat} {av : List Value} (lo : List (Option Value)) (hL : zL mid = n) (hl : zent av n = lo) (k : Zp G mid 0 lo [] I L Q) : Zm G mid av I L Q := by
  subst hL; subst hl
  exact k
theorem Zp.locs (lo' : List (Option Value)) (hs : ∀ (i : Nat) (v : Value), lo'[i]? = some (some v) → lo[i]? = some (some v)) (k : Zp G mid pc lo' st I L Q) : Zp G mid pc lo st I L Q := fun R hR => ZW.locs hs (k R hR)
theorem Zp.iconst {n : Int} (v : Int32) (h : zIn mid pc pc' (.iconst n) 1 a) (hv : Int32.ofInt n = v) (k : Zp G mid pc' lo (.int v :: st) I L Q) : Zp G mid pc lo (st) I L Q := fun R hR => ZW.iconst v h hv (k R hR)
theorem Zp.bipush {n : Int} (v : Int32) (h : zIn mid pc pc' (.bipush n) 2 a) (hv : (Int8.ofInt n).toInt32 = v) (k : Zp G mid pc' lo (.int v :: st) I L Q) : Zp G mid pc lo (st) I L Q := fun R hR => ZW.bipush v h hv (k R hR)
theorem Zp.sipush {n : Int} (v : Int32) (h : zIn mid pc pc' (.sipush n) 3 a) (hv : (Int16.ofInt n).toInt32 = v) (k : Zp G mid pc' lo (.int v :: st) I L Q) : Zp G mid pc lo (st) I L Q := fun R hR => ZW.sipush v h hv (k R hR)
theorem Zp.lconst {n : Fin 2} (v : Int64) (h : zIn mid pc pc' (.lconst n) 1 a) (hv : Int64.ofNat (n : Nat) = v) (k : Zp G mid pc' lo (.long v :: st) I L Q) : Zp G mid pc lo (st) I L Q := fun R hR => ZW.lconst v h hv (k R hR)
theorem Zp.ldc {idx h0 u : Nat} (v : Int32) (h : zIn mid pc pc' (.ldc idx) 2 [h0, u]) (hv : Int32.ofNat u = v) (k : Zp G mid pc' lo (.int v :: st) I L Q) : Zp G mid pc lo (st) I L Q := fun R hR => ZW.ldc v h hv (k R hR)
theorem Zp.ldcw {idx h0 u : Nat} (v : Int32) (h : zIn mid pc pc' (.ldc_w idx) 3 [h0, u]) (hv : Int32.ofNat u = v) (k : Zp G mid pc' lo (.int v :: st) I L Q) : Zp G mid pc lo (st) I L Q := fun R hR => ZW.ldcw v h hv (k R hR)
theorem Zp.ldc2 {idx h0 u : Nat} (v : Int64) (h : zIn mid pc pc' (.ldc2_w idx) 3 [h0, u]) (hv : Int64.ofNat u = v) (k : Zp G mid pc' lo (.long v :: st) I L Q) : Zp G mid pc lo (st) I L Q := fun R hR => ZW.ldc2 v h hv (k R hR)
theorem Zp.iload_n {n : Fin 4} {x : Int32} (h : zIn mid pc pc' (.iload_n n) 1 a) (hl : lo[(n : Nat)]? = some (some (.int x))) (k : Zp G mid pc' lo (.int x :: st) I L Q) : Zp G mid pc lo (st) I L Q := fun R hR => ZW.iload_n h hl (k R hR)
theorem Zp.iload {n : Nat} {x : Int32} (h : zIn mid pc pc' (.iload n) 2 a) (hl : lo[n]? = some (some (.int x))) (k : Zp G mid pc' lo (.int x :: st) I L Q) : Zp G mid pc lo (st) I L Q := fun R hR => ZW.iload h hl (k R hR)
theorem Zp.lload_n {n : Fin 4} {x : Int64} (h : zIn mid pc pc' (.lload_n n) 1 a) (hl : lo[(n : Nat)]? = some (some (.long x))) (k : Zp G mid pc' lo (.long x :: st) I L Q) : Zp G mid pc lo (st) I L Q := fun R hR => ZW.lload_n h hl (k R hR)
theorem Zp.lload {n : Nat} {x : Int64} (h : zIn mid pc pc' (.lload n) 2 a) (hl : lo[n]? = some (some (.long x))) (k : Zp G mid pc' lo (.long x :: st) I L Q) : Zp G mid pc lo (st) I L Q := fun R hR => ZW.lload h hl (k R hR)
theorem Zp.aload_n {n : Fin 4} {x : Nat} (h : zIn mid pc pc' (.aload_n n) 1 a) (hl : lo[(n : Nat)]? = some (some (.ref x))) (k : Zp G mid pc' lo (.ref x :: st) I L Q) : Zp G mid pc lo (st) I L Q := fun R hR => ZW.aload_n h hl (k R hR)
theorem Zp.aload {n : Nat} {x : Nat} (hx : x < 1000200) (h : zIn mid pc pc' (.aload n) 2 a) (hl : lo[n]? = some (some (.ref x))) (k : Zp G mid pc' lo (.ref x :: st) I L Q) : Zp G mid pc lo (st) I L Q := fun R hR => ZW.aload hx h hl (k R hR)
theorem Zp.istore_n {n : Fin 4} {x : Int32} (lo' : List (Option Value)) (h : zIn mid pc pc' (.istore_n n) 1 a) (hn : (n : Nat) < zL mid) (hl : zst lo n (.int x) = lo') (k : Zp G mid pc' lo' (st) I L Q) : Zp G mid pc lo (.int x :: st) I L Q := fun R hR => ZW.istore_n lo' h hn hl (k R hR)
theorem Zp.istore {n : Nat} {x : Int32} (lo' : List (Option Value)) (h : zIn mid pc pc' (.istore n) 2 a) (hn : n < zL mid) (hl : zst lo n (.int x) = lo') (k : Zp G mid pc' lo' (st) I L Q) : Zp G mid pc lo (.int x :: st) I L Q := fun R hR => ZW.istore lo' h hn hl (k R hR)
theorem Zp.lstore_n {n : Fin 4} {x : Int64} (lo' : List (Option Value)) (h : zIn mid pc pc' (.lstore_n n) 1 a) (hn : (n : Nat) + 1 < zL mid) (hl : zstL lo n (.long x) = lo') (k : Zp G mid pc' lo' (st) I L Q) : Zp G mid pc lo (.long x :: st) I L Q := fun R hR => ZW.lstore_n lo' h hn hl (k R hR)
theorem Zp.lstore {n : Nat} {x : Int64} (lo' : List (Option Value)) (h : zIn mid pc pc' (.lstore n) 2 a) (hn : n + 1 < zL mid) (hl : zstL lo n (.long x) = lo') (k : Zp G mid pc' lo' (st) I L Q) : Zp G mid pc lo (.long x :: st) I L Q := fun R hR => ZW.lstore lo' h hn hl (k R hR)
theorem Zp.astore_n {n : Fin 4} {x : Nat} (lo' : List (Option Value)) (hx : x < 1000200) (h : zIn mid pc pc' (.astore_n n) 1 a) (hn : (n : Nat) < zL mid) (hl : zst lo n (.ref x) = lo') (k : Zp G mid pc' lo' (st) I L Q) : Zp G mid pc lo (.ref x :: st) I L Q := fun R hR => ZW.astore_n lo' hx h hn hl (k R hR)
theorem Zp.astore {n : Nat} {x : Nat} (lo' : List (Option Value)) (hx : x < 1000200) (h : zIn mid pc pc' (.astore n) 2 a) (hn : n < zL mid) (hl : zst lo n (.ref x) = lo') (k : Zp G mid pc' lo' (st) I L Q) : Zp G mid pc lo (.ref x :: st) I L Q := fun R hR => ZW.astore lo' hx h hn hl (k R hR)
theorem Zp.iinc {i : Nat} {n : Int} {x : Int32} (v : Int32) (lo' : List (Option Value)) (h : zIn mid pc pc' (.iinc i n) 3 a) (hx : lo[i]? = some (some (.int x))) (hv : x + Int32.ofInt n = v) (hn : i < zL mid) (hl : zst lo i (.int v) = lo') (k : Zp G mid pc' lo' (st) I L Q) : Zp G mid pc lo (st) I L Q := fun R hR => ZW.iinc v lo' h hx hv hn hl (k R hR)
theorem Zp.iadd {x y : Int32} (h : zIn mid pc pc' (.iadd) 1 a) (k : Zp G mid pc' lo (.int (x + y) :: st) I L Q) : Zp G mid pc lo (.int y :: .int x :: st) I L Q := fun R hR => ZW.iadd h (k R hR)
theorem Zp.isub {x y : Int32} (h : zIn mid pc pc' (.isub) 1 a) (k : Zp G mid pc' lo (.int (x - y) :: st) I L Q) : Zp G mid pc lo (.int y :: .int x :: st) I L Q := fun R hR => ZW.isub h (k R hR)
theorem Zp.imul {x y : Int32} (h : zIn mid pc pc' (.imul) 1 a) (k : Zp G mid pc' lo (.int (x * y) :: st) I L Q) : Zp G mid pc lo (.int y :: .int x :: st) I L Q := fun R hR => ZW.imul h (k R hR)
theorem Zp.iand {x y : Int32} (h : zIn mid pc pc' (.iand) 1 a) (k : Zp G mid pc' lo (.int (x &&& y) :: st) I L Q) : Zp G mid pc lo (.int y :: .int x :: st) I L Q := fun R hR => ZW.iand h (k R hR)
theorem Zp.ior {x y : Int32} (h : zIn mid pc pc' (.ior) 1 a) (k : Zp G mid pc' lo (.int (x ||| y) :: st) I L Q) : Zp G mid pc lo (.int y :: .int x :: st) I L Q := fun R hR => ZW.ior h (k R hR)
theorem Zp.ishl {x y : Int32} (h : zIn mid pc pc' (.ishl) 1 a) (k : Zp G mid pc' lo (.int (x <<< (y &&& 31)) :: st) I L Q) : Zp G mid pc lo (.int y :: .int x :: st) I L Q := fun R hR => ZW.ishl h (k R hR)
theorem Zp.ishr {x y : Int32} (h : zIn mid pc pc' (.ishr) 1 a) (k : Zp G mid pc' lo (.int (x >>> (y &&& 31)) :: st) I L Q) : Zp G mid pc lo (.int y :: .int x :: st) I L Q := fun R hR => ZW.ishr h (k R hR)
theorem Zp.iushr {x y : Int32} (h : zIn mid pc pc' (.iushr) 1 a) (k : Zp G mid pc' lo (.int ((x.toUInt32 >>> (y.toUInt32 &&& Int32.toUInt32 31)).toInt32) :: st) I L Q) : Zp G mid pc lo (.int y :: .int x :: st) I L Q := fun R hR => ZW.iushr h (k R hR)
theorem Zp.ladd {x y : Int64} (h : zIn mid pc pc' (.ladd) 1 a) (k : Zp G mid pc' lo (.long (x + y) :: st) I L Q) : Zp G mid pc lo (.long y :: .long x :: st) I L Q := fun R hR => ZW.ladd h (k R hR)
theorem Zp.lsub {x y : Int64} (h : zIn mid pc pc' (.lsub) 1 a) (k : Zp G mid pc' lo (.long (x - y) :: st) I L Q) : Zp G mid pc lo (.long y :: .long x :: st) I L Q := fun R hR => ZW.lsub h (k R hR)
theorem Zp.lmul {x y : Int64} (h : zIn mid pc pc' (.lmul) 1 a) (k : Zp G mid pc' lo (.long (x * y) :: st) I L Q) : Zp G mid pc lo (.long y :: .long x :: st) I L Q := fun R hR => ZW.lmul h (k R hR)
theorem Zp.idiv {x y : Int32} (h : zIn mid pc pc' (.idiv) 1 a) (hne : ¬ y = 0) (k : Zp G mid pc' lo (.int (x / y) :: st) I L Q) : Zp G mid pc lo (.int y :: .int x :: st) I L Q := fun R hR => ZW.idiv h hne (k R hR)
theorem Zp.irem {x y : Int32} (h : zIn mid pc pc' (.irem) 1 a) (hne : ¬ y = 0) (k : Zp G mid pc' lo (.int (x - x / y * y) :: st) I L Q) : Zp G mid pc lo (.int y :: .int x :: st) I L Q := fun R hR => ZW.irem h hne (k R hR)
theorem Zp.ldiv {x y : Int64} (h : zIn mid pc pc' (.ldiv) 1 a) (hne : ¬ y = 0) (k : Zp G mid pc' lo (.long (x / y) :: st) I L Q) : Zp G mid pc lo (.long y :: .long x :: st) I L Q := fun R hR => ZW.ldiv h hne (k R hR)
theorem Zp.lrem {x y : Int64} (h : zIn mid pc pc' (.lrem) 1 a) (hne : ¬ y = 0) (k : Zp G mid pc' lo (.long (x - x / y * y) :: st) I L Q) : Zp G mid pc lo (.long y :: .long x :: st) I L Q := fun R hR => ZW.lrem h hne (k R hR)
theorem Zp.i2l {x : Int32} (h : zIn mid pc pc' (.i2l) 1 a) (k : Zp G mid pc' lo (.long x.toInt64 :: st) I L Q) : Zp G mid pc lo (.int x :: st) I L Q := fun R hR => ZW.i2l h (k R hR)
theorem Zp.i2b {x : Int32} (h : zIn mid pc pc' (.i2b) 1 a) (k : Zp G mid pc' lo (.int x.toInt8.toInt32 :: st) I L Q) : Zp G mid pc lo (.int x :: st) I L Q := fun R hR => ZW.i2b h (k R hR)
theorem Zp.i2s {x : Int32} (h : zIn mid pc pc' (.i2s) 1 a) (k : Zp G mid pc' lo (.int x.toInt16.toInt32 :: st) I L Q) : Zp G mid pc lo (.int x :: st) I L Q := fun R hR => ZW.i2s h (k R hR)
theorem Zp.i2c {x : Int32} (h : zIn mid pc pc' (.i2c) 1 a) (k : Zp G mid pc' lo (.int (x.toUInt32 % 65536).toInt32 :: st) I L Q) : Zp G mid pc lo (.int x :: st) I L Q := fun R hR => ZW.i2c h (k R hR)
theorem Zp.l2i {x : Int64} (h : zIn mid pc pc' (.l2i) 1 a) (k : Zp G mid pc' lo (.int x.toInt32 :: st) I L Q) : Zp G mid pc lo (.long x :: st) I L Q := fun R hR => ZW.l2i h (k R hR)
theorem Zp.lcmp {x y : Int64} (h : zIn mid pc pc' (.lcmp) 1 a) (k : Zp G mid pc' lo (.int (lg_cmp x y) :: st) I L Q) : Zp G mid pc lo (.long y :: .long x :: st) I L Q := fun R hR => ZW.lcmp h (k R hR)
theorem Zp.dup {v : Value} (h : zIn mid pc pc' (.dup) 1 a) (hv : v.category = 1) (k : Zp G mid pc' lo (v :: v :: st) I L Q) : Zp G mid pc lo (v :: st) I L Q := fun R hR => ZW.dup h hv (k R hR)
theorem Zp.pop {v : Value} (h : zIn mid pc pc' (.pop) 1 a) (hv : v.category = 1) (k : Zp G mid pc' lo (st) I L Q) : Zp G mid pc lo (v :: st) I L Q := fun R hR => ZW.pop h hv (k R hR)
theorem Zp.dup2 {u v : Value} (h : zIn mid pc pc' (.dup2) 1 a) (hu : u.category = 1) (hv : v.category = 1) (k : Zp G mid pc' lo (u :: v :: u :: v :: st) I L Q) : Zp G mid pc lo (u :: v :: st) I L Q := fun R hR => ZW.dup2 h hu hv (k R hR)
theorem Zp.goto {off : Int} {t : Nat} (h : zIn mid pc pc' (.goto off) 3 [t]) (k : Zp G mid t lo st I L Q) : Zp G mid pc lo st I L Q := fun R hR => ZW.goto h (k R hR)
theorem Zp.if_eq {x : Int32} {off : Int} {t : Nat} (h : zIn mid pc pc' (.ifCond .eq off) 3 [t]) (kt : x = 0 → Zp G mid t lo st I L Q) (kf : ¬ x = 0 → Zp G mid pc' lo st I L Q) : Zp G mid pc lo (.int x :: st) I L Q := fun R hR => ZW.if_eq h (fun q => kt q R hR) (fun q => kf q R hR)
theorem Zp.icmp_eq {x y : Int32} {off : Int} {t : Nat} (h : zIn mid pc pc' (.if_icmp .eq off) 3 [t]) (kt : x = y → Zp G mid t lo st I L Q) (kf : ¬ x = y → Zp G mid pc' lo st I L Q) : Zp G mid pc lo (.int y :: .int x :: st) I L Q := fun R hR => ZW.icmp_eq h (fun q => kt q R hR) (fun q => kf q R hR)
theorem Zp.if_lt {x : Int32} {off : Int} {t : Nat} (h : zIn mid pc pc' (.ifCond .lt off) 3 [t]) (kt : x < 0 → Zp G mid t lo st I L Q) (kf : ¬ x < 0 → Zp G mid pc' lo st I L Q) : Zp G mid pc lo (.int x :: st) I L Q := fun R hR => ZW.if_lt h (fun q => kt q R hR) (fun q => kf q R hR)
theorem Zp.icmp_lt {x y : Int32} {off : Int} {t : Nat} (h : zIn mid pc pc' (.if_icmp .lt off) 3 [t]) (kt : x < y → Zp G mid t lo st I L Q) (kf : ¬ x < y → Zp G mid pc' lo st I L Q) : Zp G mid pc lo (.int y :: .int x :: st) I L Q := fun R hR => ZW.icmp_lt h (fun q => kt q R hR) (fun q => kf q R hR)
theorem Zp.if_ge {x : Int32} {off : Int} {t : Nat} (h : zIn mid pc pc' (.ifCond .ge off) 3 [t]) (kt : 0 ≤ x → Zp G mid t lo st I L Q) (kf : ¬ 0 ≤ x → Zp G mid pc' lo st I L Q) : Zp G mid pc lo (.int x :: st) I L Q := fun R hR => ZW.if_ge h (fun q => kt q R hR) (fun q => kf q R hR)
theorem Zp.icmp_ge {x y : Int32} {off : Int} {t : Nat} (h : zIn mid pc pc' (.if_icmp .ge off) 3 [t]) (kt : y ≤ x → Zp G mid t lo st I L Q) (kf : ¬ y ≤ x → Zp G mid pc' lo st I L Q) : Zp G mid pc lo (.int y :: .int x :: st) I L Q := fun R hR => ZW.icmp_ge h (fun q => kt q R hR) (fun q => kf q R hR)
theorem Zp.if_gt {x : Int32} {off : Int} {t : Nat} (h : zIn mid pc pc' (.ifCond .gt off) 3 [t]) (kt : 0 < x → Zp G mid t lo st I L Q) (kf : ¬ 0 < x → Zp G mid pc' lo st I L Q) : Zp G mid pc lo (.int x :: st) I L Q := fun R hR => ZW.if_gt h (fun q => kt q R hR) (fun q => kf q R hR)
theorem Zp.icmp_gt {x y : Int32} {off : Int} {t : Nat} (h : zIn mid pc pc' (.if_icmp .gt off) 3 [t]) (kt : y < x → Zp G mid t lo st I L Q) (kf : ¬ y < x → Zp G mid pc' lo st I L Q) : Zp G mid pc lo (.int y :: .int x :: st) I L Q := fun R hR => ZW.icmp_gt h (fun q => kt q R hR) (fun q => kf q R hR)
theorem Zp.if_le {x : Int32} {off : Int} {t : Nat} (h : zIn mid pc pc' (.ifCond .le off) 3 [t]) (kt : x ≤ 0 → Zp G mid t lo st I L Q) (kf : ¬ x ≤ 0 → Zp G mid pc' lo st I L Q) : Zp G mid pc lo (.int x :: st) I L Q := fun R hR => ZW.if_le h (fun q => kt q R hR) (fun q => kf q R hR)
theorem Zp.icmp_le {x y : Int32} {off : Int} {t : Nat} (h : zIn mid pc pc' (.if_icmp .le off) 3 [t]) (kt : x ≤ y → Zp G mid t lo st I L Q) (kf : ¬ x ≤ y → Zp G mid pc' lo st I L Q) : Zp G mid pc lo (.int y :: .int x :: st) I L Q := fun R hR => ZW.icmp_le h (fun q => kt q R hR) (fun q => kf q R hR)
theorem Zp.if_ne {x : Int32} {off : Int} {t : Nat} (h : zIn mid pc pc' (.ifCond .ne off) 3 [t]) (kt : ¬ x = 0 → Zp G mid t lo st I L Q) (kf : x = 0 → Zp G mid pc' lo st I L Q) : Zp G mid pc lo (.int x :: st) I L Q := fun R hR => ZW.if_ne h (fun q => kt q R hR) (fun q => kf q R hR)
theorem Zp.icmp_ne {x y : Int32} {off : Int} {t : Nat} (h : zIn mid pc pc' (.if_icmp .ne off) 3 [t]) (kt : ¬ x = y → Zp G mid t lo st I L Q) (kf : x = y → Zp G mid pc' lo st I L Q) : Zp G mid pc lo (.int y :: .int x :: st) I L Q := fun R hR => ZW.icmp_ne h (fun q => kt q R hR) (fun q => kf q R hR)
theorem Zp.icmp_eqN {x y : Nat} {off : Int} {t : Nat} (h : zIn mid pc pc' (.if_icmp .eq off) 3 [t]) (hx : x < 2 ^ 31) (hy : y < 2 ^ 31) (kt : x = y → Zp G mid t lo st I L Q) (kf : ¬ x = y → Zp G mid pc' lo st I L Q) : Zp G mid pc lo (.int (nI y) :: .int (nI x) :: st) I L Q := Zp.icmp_eq h (fun q => kt ((nI_eq hx hy).mp q)) (fun q => kf (fun z => q ((nI_eq hx hy).mpr z)))
theorem Zp.icmp_ltN {x y : Nat} {off : Int} {t : Nat} (h : zIn mid pc pc' (.if_icmp .lt off) 3 [t]) (hx : x < 2 ^ 31) (hy : y < 2 ^ 31) (kt : x < y → Zp G mid t lo st I L Q) (kf : ¬ x < y → Zp G mid pc' lo st I L Q) : Zp G mid pc lo (.int (nI y) :: .int (nI x) :: st) I L Q := Zp.icmp_lt h (fun q => kt ((nI_ltI hx hy).mp q)) (fun q => kf (fun z => q ((nI_ltI hx hy).mpr z)))
theorem Zp.icmp_geN {x y : Nat} {off : Int} {t : Nat} (h : zIn mid pc pc' (.if_icmp .ge off) 3 [t]) (hx : x < 2 ^ 31) (hy : y < 2 ^ 31) (kt : y ≤ x → Zp G mid t lo st I L Q) (kf : ¬ y ≤ x → Zp G mid pc' lo st I L Q) : Zp G mid pc lo (.int (nI y) :: .int (nI x) :: st) I L Q := Zp.icmp_ge h (fun q => kt ((nI_leI hy hx).mp q)) (fun q => kf (fun z => q ((nI_leI hy hx).mpr z)))
theorem Zp.icmp_gtN {x y : Nat} {off : Int} {t : Nat} (h : zIn mid pc pc' (.if_icmp .gt off) 3 [t]) (hx : x < 2 ^ 31) (hy : y < 2 ^ 31) (kt : y < x → Zp G mid t lo st I L Q) (kf : ¬ y < x → Zp G mid pc' lo st I L Q) : Zp G mid pc lo (.int (nI y) :: .int (nI x) :: st) I L Q := Zp.icmp_gt h (fun q => kt ((nI_ltI hy hx).mp q)) (fun q => kf (fun z => q ((nI_ltI hy hx).mpr z)))
theorem Zp.icmp_leN {x y : Nat} {off : Int} {t : Nat} (h : zIn mid pc pc' (.if_icmp .le off) 3 [t]) (hx : x < 2 ^ 31) (hy : y < 2 ^ 31) (kt : x ≤ y → Zp G mid t lo st I L Q) (kf : ¬ x ≤ y → Zp G mid pc' lo st I L Q) : Zp G mid pc lo (.int (nI y) :: .int (nI x) :: st) I L Q := Zp.icmp_le h (fun q => kt ((nI_leI hx hy).mp q)) (fun q => kf (fun z => q ((nI_leI hx hy).mpr z)))
theorem Zp.icmp_neN {x y : Nat} {off : Int} {t : Nat} (h : zIn mid pc pc' (.if_icmp .ne off) 3 [t]) (hx : x < 2 ^ 31) (hy : y < 2 ^ 31) (kt : ¬ x = y → Zp G mid t lo st I L Q) (kf : x = y → Zp G mid pc' lo st I L Q) : Zp G mid pc lo (.int (nI y) :: .int (nI x) :: st) I L Q := Zp.icmp_ne h (fun q => kt (fun z => q ((nI_eq hx hy).mpr z))) (fun q => kf ((nI_eq hx hy).mp q))
theorem nI_z {x : Nat} (hx : x < 2 ^ 31) : nI x = 0 ↔ x = 0 := by
  rw [show (0 : Int32) = nI 0 from rfl]
  exact nI_eq hx (by decide)
theorem nI_gz {x : Nat} (hx : x < 2 ^ 31) : 0 < nI x ↔ 0 < x := by
  rw [show (0 : Int32) = nI 0 from rfl]
  exact nI_ltI (by decide) hx
theorem nI_lz {x : Nat} (hx : x < 2 ^ 31) : nI x ≤ 0 ↔ x = 0 := by
  rw [show (0 : Int32) = nI 0 from rfl, nI_leI hx (by decide)]
  omega
theorem Zp.if_eqN {x : Nat} {off : Int} {t : Nat} (h : zIn mid pc pc' (.ifCond .eq off) 3 [t]) (hx : x < 2 ^ 31) (kt : x = 0 → Zp G mid t lo st I L Q) (kf : ¬ x = 0 → Zp G mid pc' lo st I L Q) : Zp G mid pc lo (.int (nI x) :: st) I L Q := Zp.if_eq h (fun q => kt ((nI_z hx).mp q)) (fun q => kf (fun z => q ((nI_z hx).mpr z)))
theorem Zp.if_neN {x : Nat} {off : Int} {t : Nat} (h : zIn mid pc pc' (.ifCond .ne off) 3 [t]) (hx : x < 2 ^ 31) (kt : ¬ x = 0 → Zp G mid t lo st I L Q) (kf : x = 0 → Zp G mid pc' lo st I L Q) : Zp G mid pc lo (.int (nI x) :: st) I L Q := Zp.if_ne h (fun q => kt (fun z => q ((nI_z hx).mpr z))) (fun q => kf ((nI_z hx).mp q))
theorem Zp.if_gtN {x : Nat} {off : Int} {t : Nat} (h : zIn mid pc pc' (.ifCond .gt off) 3 [t]) (hx : x < 2 ^ 31) (kt : 0 < x → Zp G mid t lo st I L Q) (kf : ¬ 0 < x → Zp G mid pc' lo st I L Q) : Zp G mid pc lo (.int (nI x) :: st) I L Q := Zp.if_gt h (fun q => kt ((nI_gz hx).mp q)) (fun q => kf (fun z => q ((nI_gz hx).mpr z)))
theorem Zp.if_leN {x : Nat} {off : Int} {t : Nat} (h : zIn mid pc pc' (.ifCond .le off) 3 [t]) (hx : x < 2 ^ 31) (kt : x = 0 → Zp G mid t lo st I L Q) (kf : ¬ x = 0 → Zp G mid pc' lo st I L Q) : Zp G mid pc lo (.int (nI x) :: st) I L Q := Zp.if_le h (fun q => kt ((nI_lz hx).mp q)) (fun q => kf (fun z => q ((nI_lz hx).mpr z)))
theorem Zp.if_ltN {x : Nat} {off : Int} {t : Nat} (h : zIn mid pc pc' (.ifCond .lt off) 3 [t]) (hx : x < 2 ^ 31) (kf : Zp G mid pc' lo st I L Q) : Zp G mid pc lo (.int (nI x) :: st) I L Q := Zp.if_lt h (fun q => absurd q (nI_pos hx)) (fun _ => kf)
theorem Zp.if_geN {x : Nat} {off : Int} {t : Nat} (h : zIn mid pc pc' (.ifCond .ge off) 3 [t]) (hx : x < 2 ^ 31) (kt : Zp G mid t lo st I L Q) : Zp G mid pc lo (.int (nI x) :: st) I L Q := Zp.if_ge h (fun _ => kt) (fun q => absurd (nI_pos' hx) q)
theorem Zp.if_eqB {p : Prop} [Decidable p] {off : Int} {t : Nat} (h : zIn mid pc pc' (.ifCond .eq off) 3 [t]) (kt : ¬ p → Zp G mid t lo st I L Q) (kf : p → Zp G mid pc' lo st I L Q) : Zp G mid pc lo (.int (zbo p) :: st) I L Q := Zp.if_eq h (fun q => kt (zbo_eq.mp q)) (fun q => kf (zbo_ne.mp q))
theorem Zp.if_neB {p : Prop} [Decidable p] {off : Int} {t : Nat} (h : zIn mid pc pc' (.ifCond .ne off) 3 [t]) (kt : p → Zp G mid t lo st I L Q) (kf : ¬ p → Zp G mid pc' lo st I L Q) : Zp G mid pc lo (.int (zbo p) :: st) I L Q := Zp.if_ne h (fun q => kt (zbo_ne.mp q)) (fun q => kf (zbo_eq.mp q))
theorem Zp.iaddN {x y : Nat} (h : zIn mid pc pc' .iadd 1 a) (k : Zp G mid pc' lo (.int (nI (x + y)) :: st) I L Q) : Zp G mid pc lo (.int (nI y) :: .int (nI x) :: st) I L Q := Zp.iadd h (by rw [nI_add]; exact k)
theorem Zp.imulN {x y : Nat} (h : zIn mid pc pc' .imul 1 a) (k : Zp G mid pc' lo (.int (nI (x * y)) :: st) I L Q) : Zp G mid pc lo (.int (nI y) :: .int (nI x) :: st) I L Q := Zp.imul h (by rw [pk_mul]; exact k)
theorem Zp.isubN {x y : Nat} (h : zIn mid pc pc' .isub 1 a) (hy : y ≤ x) (k : Zp G mid pc' lo (.int (nI (x - y)) :: st) I L Q) : Zp G mid pc lo (.int (nI y) :: .int (nI x) :: st) I L Q := Zp.isub h (by rw [pk_sub hy]; exact k)
theorem Zp.idivN {x y : Nat} (h : zIn mid pc pc' .idiv 1 a) (hx : x < 2 ^ 31) (h0 : 0 < y) (hy : y < 2 ^ 31) (k : Zp G mid pc' lo (.int (nI (x / y)) :: st) I L Q) : Zp G mid pc lo (.int (nI y) :: .int (nI x) :: st) I L Q := Zp.idiv h (nI_ne0 h0 hy) (by rw [pk_div hx h0 hy]; exact k)
theorem Zp.iremN {x y : Nat} (h : zIn mid pc pc' .irem 1 a) (hx : x < 2 ^ 31) (h0 : 0 < y) (hy : y < 2 ^ 31) (k : Zp G mid pc' lo (.int (nI (x % y)) :: st) I L Q) : Zp G mid pc lo (.int (nI y) :: .int (nI x) :: st) I L Q := Zp.irem h (nI_ne0 h0 hy) (by rw [pk_rem hx h0 hy]; exact k)
theorem Zp.tabOut {dflt low high : Int} {offs : Array Int} {len : Nat} {x : Int32} (t : Nat) (h : zIn mid pc pc' (.tableswitch dflt low high offs) len a) (hx : x.toInt < low ∨ high < x.toInt) (ht : (pc : Int) + dflt = (t : Int)) (k : Zp G mid t lo st I L Q) : Zp G mid pc lo (.int x :: st) I L Q := fun R hR => ZW.tabOut t h hx ht (k R hR)
theorem Zp.tabIn {dflt low high : Int} {offs : Array Int} {len : Nat} {x : Int32} {off : Int} (t : Nat) (h : zIn mid pc pc' (.tableswitch dflt low high offs) len a) (h1 : ¬ x.toInt < low) (h2 : ¬ high < x.toInt) (ho : offs[(x.toInt - low).toNat]? = some off) (ht : (pc : Int) + off = (t : Int)) (k : Zp G mid t lo st I L Q) : Zp G mid pc lo (.int x :: st) I L Q := fun R hR => ZW.tabIn t h h1 h2 ho ht (k R hR)
theorem Zp.iret {v : Int32} (ty : FieldType) (h : zIn mid pc pc' .ireturn 1 a) (hr : zr mid = some ty) (hn : narrow ty (.int v) = .int v) (hq : Q (some (.int v)) I L) : Zp G mid pc lo [.int v] I L Q := fun R hR => ZW.iret h hr hn ⟨I, L, rfl, hq⟩
theorem Zp.lret {v : Int64} (h : zIn mid pc pc' .lreturn 1 a) (hr : zr mid = some .long) (hq : Q (some (.long v)) I L) : Zp G mid pc lo [.long v] I L Q := fun R hR => ZW.lret h hr ⟨I, L, rfl, hq⟩
theorem Zp.vret (h : zIn mid pc pc' .return_ 1 a) (hr : zr mid = none) (hq : Q none I L) : Zp G mid pc lo [] I L Q := fun R hR => ZW.vret h hr ⟨I, L, rfl, hq⟩
theorem Zp.getI {idx ci kk h0 q n : Nat} (h : zIn mid pc pc' (.getfield idx) 3 [ci, kk, h0]) (hf : zfk ci kk = 0) (hc : ci < 12) (hM : M0[q]? = some (ci, n)) (k : Zp G mid pc' lo (.int (I q kk) :: st) I L Q) : Zp G mid pc lo (.ref q :: st) I L Q := fun R hR => ZW.getI h hc hf hM (M0_lt hM) (k R hR)
/-- a field that is known -/
theorem Zp.getV {idx ci kk h0 q n : Nat} {v : Int32} (h : zIn mid pc pc' (.getfield idx) 3 [ci, kk, h0]) (hf : zfk ci kk = 0) (hc : ci < 12) (hM : M0[q]? = some (ci, n)) (hv : I q kk = v) (k : Zp G mid pc' lo (.int v :: st) I L Q) : Zp G mid pc lo (.ref q :: st) I L Q := Zp.getI h hf hc hM (by rw [hv]; exact k)
theorem Zp.getL {idx ci kk h0 q n : Nat} (h : zIn mid pc pc' (.getfield idx) 3 [ci, kk, h0]) (hf : zfk ci kk = 1) (hc : ci < 12) (hM : M0[q]? = some (ci, n)) (k : Zp G mid pc' lo (.long (L q kk) :: st) I L Q) : Zp G mid pc lo (.ref q :: st) I L Q := fun R hR => ZW.getL h hc hf hM (M0_lt hM) (k R hR)
theorem Zp.getR {idx ci kk h0 q n r : Nat} (h : zIn mid pc pc' (.getfield idx) 3 [ci, kk, h0]) (hf : zfk ci kk = 2) (hc : ci < 12) (hM : M0[q]? = some (ci, n)) (hr : (q, kk, r) ∈ R0) (k : Zp G mid pc' lo (.ref r :: st) I L Q) : Zp G mid pc lo (.ref q :: st) I L Q := fun R hR => ZW.getR h hc hf hM (M0_lt hM) (hR _ hr) (R0_lt hr) (k R hR)
/-- ints: the cell q's slot k becomes x -/
def zpu (I : zI) (q k : Nat) (x : Int32) : zI := va_up I q (upd (I q) k x)
theorem zpu_s (I : zI) (q k : Nat) (x : Int32) : zpu I q k x q k = x := by unfold zpu; rw [va_up_s, upd_s]
theorem zpu_k (I : zI) (q : Nat) {k j : Nat} (x : Int32) (h : j ≠ k) : zpu I q k x q j = I q j := by unfold zpu; rw [va_up_s, upd_n _ _ h]
theorem zpu_q (I : zI) {q p : Nat} (k : Nat) (x : Int32) (h : p ≠ q) : zpu I q k x p = I p := va_up_n _ _ h
theorem zpu_at (I : zI) (q k p j : Nat) (x : Int32) : zpu I q k x p j = if p = q ∧ j = k then x else I p j := by
  by_cases hp : p = q
  · subst hp
    by_cases hj : j = k
    · subst hj; rw [zpu_s, if_pos ⟨rfl, rfl⟩]
    · rw [zpu_k _ _ _ hj, if_neg (fun z => hj z.2)]
  · rw [zpu_q _ _ _ hp, if_neg (fun z => hp z.1)]
theorem Zp.putI {idx ci kk h0 q n : Nat} {x : Int32} (h : zIn mid pc pc' (.putfield idx) 3 [ci, kk, h0]) (hf : zty ci kk = .int) (hc : ci < 12) (hM : M0[q]? = some (ci, n)) (k : Zp G mid pc' lo st (zpu I q kk x) L Q) : Zp G mid pc lo (.int x :: .ref q :: st) I L Q := fun R hR => ZW.putI h hc hf hM (M0_lt hM) (k R hR)
theorem Zp.putZ {idx ci kk h0 q n : Nat} {x : Int32} (h : zIn mid pc pc' (.putfield idx) 3 [ci, kk, h0]) (hf : zty ci kk = .boolean) (hc : ci < 12) (hx : x = 0 ∨ x = 1) (hM : M0[q]? = some (ci, n)) (k : Zp G mid pc' lo st (zpu I q kk x) L Q) : Zp G mid pc lo (.int x :: .ref q :: st) I L Q := fun R hR => ZW.putZ h hc hf hx hM (M0_lt hM) (k R hR)
theorem Zp.putL {idx ci kk h0 q n : Nat} {x : Int64} (h : zIn mid pc pc' (.putfield idx) 3 [ci, kk, h0]) (hf : zty ci kk = .long) (hc : ci < 12) (hM : M0[q]? = some (ci, n)) (k : Zp G mid pc' lo st I (va_up L q (va_up (L q) kk x)) Q) : Zp G mid pc lo (.long x :: .ref q :: st) I L Q := fun R hR => ZW.putL h hc hf hM (M0_lt hM) (k R hR)
theorem Zp.iald {q n : Nat} (j : Nat) {i : Int32} {v : Int32} (h : zIn mid pc pc' .iaload 1 a) (hM : M0[q]? = some (50, n)) (hi : i = nI j) (hj : j < n) (hn : n < 2 ^ 31) (hv : I q j = v) (k : Zp G mid pc' lo (.int v :: st) I L Q) : Zp G mid pc lo (.int i :: .ref q :: st) I L Q := fun R hR => by
  subst hi; subst hv
  have hc : (nI j).toNatClampNeg = j := nI_clamp (by omega)
  exact ZW.iald h hM (M0_lt hM) (vp_in_nI hj hn) (by rw [hc]; exact k R hR)
theorem Zp.bald {q n : Nat} (j : Nat) {i : Int32} {v : Int32} (h : zIn mid pc pc' .baload 1 a) (hM : M0[q]? = some (51, n)) (hi : i = nI j) (hj : j < n) (hn : n < 2 ^ 31) (hv : I q j = v) (k : Zp G mid pc' lo (.int v :: st) I L Q) : Zp G mid pc lo (.int i :: .ref q :: st) I L Q := fun R hR => by
  subst hi; subst hv
  have hc : (nI j).toNatClampNeg = j := nI_clamp (by omega)
  exact ZW.bald h hM (M0_lt hM) (vp_in_nI hj hn) (by rw [hc]; exact k R hR)
theorem Zp.zald {q n : Nat} (j : Nat) {i : Int32} {v : Int32} (h : zIn mid pc pc' .baload 1 a) (hM : M0[q]? = some (52, n)) (hi : i = nI j) (hj : j < n) (hn : n < 2 ^ 31) (hv : I q j = v) (k : Zp G mid pc' lo (.int v :: st) I L Q) : Zp G mid pc lo (.int i :: .ref q :: st) I L Q := fun R hR => by
  subst hi; subst hv
  have hc : (nI j).toNatClampNeg = j := nI_clamp (by omega)
  exact ZW.zald h hM (M0_lt hM) (vp_in_nI hj hn) (by rw [hc]; exact k R hR)
theorem Zp.aald {q cn n r : Nat} (j : Nat) {i : Int32} (h : zIn mid pc pc' .aaload 1 a) (hM : M0[q]? = some (cn, n)) (hcn : 53 ≤ cn) (hi : i = nI j) (hj : j < n) (hn : n < 2 ^ 31) (hr : (q, j, r) ∈ R0) (k : Zp G mid pc' lo (.ref r :: st) I L Q) : Zp G mid pc lo (.int i :: .ref q :: st) I L Q := fun R hR => by
  subst hi
  have hc : (nI j).toNatClampNeg = j := nI_clamp (by omega)
  exact ZW.aald h hM hcn (M0_lt hM) (vp_in_nI hj hn) (by rw [hc]; exact hR _ hr) (R0_lt hr) (k R hR)
theorem Zp.iast {q n : Nat} (j : Nat) {i x : Int32} (h : zIn mid pc pc' .iastore 1 a) (hM : M0[q]? = some (50, n)) (hi : i = nI j) (hj : j < n) (hn : n < 2 ^ 31) (k : Zp G mid pc' lo st (zpu I q j x) L Q) : Zp G mid pc lo (.int x :: .int i :: .ref q :: st) I L Q := fun R hR => by
  subst hi
  have hc : (nI j).toNatClampNeg = j := nI_clamp (by omega)
  exact ZW.iast h hM (M0_lt hM) (vp_in_nI hj hn) (by rw [hc]; exact k R hR)
theorem Zp.bast {q n : Nat} (j : Nat) {i x : Int32} (h : zIn mid pc pc' .bastore 1 a) (hM : M0[q]? = some (51, n)) (hi : i = nI j) (hj : j < n) (hn : n < 2 ^ 31) (k : Zp G mid pc' lo st (zpu I q j x.toInt8.toInt32) L Q) : Zp G mid pc lo (.int x :: .int i :: .ref q :: st) I L Q := fun R hR => by
  subst hi
  have hc : (nI j).toNatClampNeg = j := nI_clamp (by omega)
  exact ZW.bast h hM (M0_lt hM) (vp_in_nI hj hn) (by rw [hc]; exact k R hR)
theorem Zp.zast {q n : Nat} (j : Nat) {i x : Int32} (h : zIn mid pc pc' .bastore 1 a) (hM : M0[q]? = some (52, n)) (hi : i = nI j) (hj : j < n) (hn : n < 2 ^ 31) (hx : x = 0 ∨ x = 1) (k : Zp G mid pc' lo st (zpu I q j x) L Q) : Zp G mid pc lo (.int x :: .int i :: .ref q :: st) I L Q := fun R hR => by
  subst hi
  have hc : (nI j).toNatClampNeg = j := nI_clamp (by omega)
  exact ZW.zast h hM (M0_lt hM) (vp_in_nI hj hn) hx (by rw [hc]; exact k R hR)
theorem Zp.alen {q cn n : Nat} (h : zIn mid pc pc' .arraylength 1 a) (hM : M0[q]? = some (cn, n)) (h12 : 12 ≤ cn) (k : Zp G mid pc' lo (.int (nI n) :: st) I L Q) : Zp G mid pc lo (.ref q :: st) I L Q := fun R hR => ZW.alen h hM h12 (M0_lt hM) (k R hR)
theorem Zp.mmax {idx k1 k2 k3 k4 : Nat} {x y : Int32} (h : zIn mid pc pc' (.invokestatic idx) 3 [1000, k1, k2, k3, k4]) (hr : st.length ≤ 4) (k : Zp G mid pc' lo (.int (if x < y then y else x) :: st) I L Q) : Zp G mid pc lo (.int y :: .int x :: st) I L Q := fun R hR => ZW.mmax h hr (k R hR)
theorem Zp.mmin {idx k1 k2 k3 k4 : Nat} {x y : Int32} (h : zIn mid pc pc' (.invokestatic idx) 3 [1001, k1, k2, k3, k4]) (hr : st.length ≤ 4) (k : Zp G mid pc' lo (.int (if y < x then y else x) :: st) I L Q) : Zp G mid pc lo (.int y :: .int x :: st) I L Q := fun R hR => ZW.mmin h hr (k R hR)
theorem nI_max {x y : Nat} (hx : x < 2 ^ 31) (hy : y < 2 ^ 31) : (if nI x < nI y then nI y else nI x) = nI (max x y) := by
  by_cases h : x < y
  · rw [if_pos ((nI_ltI hx hy).mpr h), Nat.max_eq_right (by omega)]
  · rw [if_neg (fun z => h ((nI_ltI hx hy).mp z)), Nat.max_eq_left (by omega)]
theorem nI_min {x y : Nat} (hx : x < 2 ^ 31) (hy : y < 2 ^ 31) : (if nI y < nI x then nI y else nI x) = nI (min x y) := by
  by_cases h : y < x
  · rw [if_pos ((nI_ltI hy hx).mpr h), Nat.min_eq_right (by omega)]
  · rw [if_neg (fun z => h ((nI_ltI hy hx).mp z)), Nat.min_eq_left (by omega)]
theorem Zp.mmaxN {idx k1 k2 k3 k4 : Nat} {x y : Nat} (h : zIn mid pc pc' (.invokestatic idx) 3 [1000, k1, k2, k3, k4]) (hr : st.length ≤ 4) (hx : x < 2 ^ 31) (hy : y < 2 ^ 31) (k : Zp G mid pc' lo (.int (nI (max x y)) :: st) I L Q) : Zp G mid pc lo (.int (nI y) :: .int (nI x) :: st) I L Q := Zp.mmax h hr (by rw [nI_max hx hy]; exact k)
theorem Zp.mminN {idx k1 k2 k3 k4 : Nat} {x y : Nat} (h : zIn mid pc pc' (.invokestatic idx) 3 [1001, k1, k2, k3, k4]) (hr : st.length ≤ 4) (hx : x < 2 ^ 31) (hy : y < 2 ^ 31) (k : Zp G mid pc' lo (.int (nI (min x y)) :: st) I L Q) : Zp G mid pc lo (.int (nI y) :: .int (nI x) :: st) I L Q := Zp.mmin h hr (by rw [nI_min hx hy]; exact k)
theorem Zp.copy {idx k1 k2 k3 k4 q0 q1 n0 n1 sp dp n : Nat} {x1 x2 x3 : Int32} (h : zIn mid pc pc' (.invokestatic idx) 3 [1002, k1, k2, k3, k4]) (hr : st.length ≤ 4) (hM0 : M0[q0]? = some (50, n0)) (hM1 : M0[q1]? = some (50, n1)) (e1 : x1 = nI sp) (e2 : x2 = nI dp) (e3 : x3 = nI n) (hs : sp + n ≤ n0) (hd : dp + n ≤ n1) (hb : n0 < 2 ^ 31) (hb1 : n1 < 2 ^ 31)
    (k : Zp G mid pc' lo st (va_up I q1 (va_cpy (I q0) (I q1) sp dp n)) L Q) : Zp G mid pc lo (.int x3 :: .int x2 :: .ref q1 :: .int x1 :: .ref q0 :: st) I L Q := fun R hR => ZW.copy h hr hM0 hM1 (M0_lt hM0) (M0_lt hM1) e1 e2 e3 hs hd hb hb1 (k R hR)
theorem Zp.sld {i : Int32} (h : zIn mid pc pc' .iaload 1 a) (hin : vp_in i (gsL G)) (k : Zp G mid pc' lo (.int (gxs G i.toNatClampNeg) :: st) I L Q) : Zp G mid pc lo (.int i :: .ref 1000000 :: st) I L Q := fun R hR => ZW.sld h hin (k R hR)
theorem Zp.slen (h : zIn mid pc pc' .arraylength 1 a) (k : Zp G mid pc' lo (.int (nI (gsL G)) :: st) I L Q) : Zp G mid pc lo (.ref 1000000 :: st) I L Q := fun R hR => ZW.slen h (k R hR)
/-! calls: what is behind the call is the contract's own end -/
theorem Zp.callv {idx t k1 k2 k3 n k5 k6 q cn nn m : Nat} {As rest : List Value} (hv : zCv t cn m = true) (h : zIn mid pc pc' (.invokevirtual idx) 3 [t, k1, k2, k3, n, k5, k6]) (hM : M0[q]? = some (cn, nn)) (hn : As.length = n) (hr : rest.length ≤ 4) (hlen : (zargs (.ref q :: As)).length ≤ m)
    (hk : Zm G t (.ref q :: As) I L (fun r I' L' => Zp G mid pc' lo (r.toList ++ rest) I' L' Q)) : Zp G mid pc lo (As.reverse ++ .ref q :: rest) I L Q := fun R hR => by
  simp only [zCv, Bool.and_eq_true, decide_eq_true_eq] at hv
  obtain ⟨v1, v2, v3, v4⟩ := hv
  exact ZW.callv (c1 := 0) (s1 := 0) (kc := 0) (ks := 0) h v1 v2 v3 hM (M0_lt hM) hn hr (by rw [v4]; exact hlen) (hk R hR) (fun r w' ⟨I', L', e, _⟩ => by rw [e]; rfl) (fun r w' ⟨I', L', e, q⟩ => by rw [e]; exact q R hR)
theorem Zp.calls {idx t k1 k2 k3 n k5 m : Nat} {As rest : List Value} (hv : zCs t m = true) (h : zIn mid pc pc' (.invokestatic idx) 3 [t, k1, k2, k3, n, k5]) (hn : As.length = n) (hr : rest.length ≤ 4) (hlen : (zargs As).length ≤ m)
    (hk : Zm G t As I L (fun r I' L' => Zp G mid pc' lo (r.toList ++ rest) I' L' Q)) : Zp G mid pc lo (As.reverse ++ rest) I L Q := fun R hR => by
  simp only [zCs, Bool.and_eq_true, decide_eq_true_eq] at hv
  obtain ⟨v1, v4⟩ := hv
  exact ZW.calls (c1 := 0) (s1 := 0) (kc := 0) (ks := 0) h v1 hn hr (by rw [v4]; exact hlen) (hk R hR) (fun r w' ⟨I', L', e, _⟩ => by rw [e]; rfl) (fun r w' ⟨I', L', e, q⟩ => by rw [e]; exact q R hR)
end ZPR
theorem v_0 : zCv 0 0 1 = true := by decide +kernel
theorem vs_0 : zCs 0 1 = true := by decide +kernel
theorem vr_0 : zr 0 = none := rfl
theorem vl_0 : zL 0 = 1 := rfl
theorem v_1 : zCv 1 0 2 = true := by decide +kernel
theorem vs_1 : zCs 1 2 = true := by decide +kernel
theorem vr_1 : zr 1 = none := rfl
theorem vl_1 : zL 1 = 2 := rfl
theorem v_2 : zCv 2 0 2 = true := by decide +kernel
theorem vs_2 : zCs 2 2 = true := by decide +kernel
theorem vr_2 : zr 2 = none := rfl
theorem vl_2 : zL 2 = 2 := rfl
theorem v_3 : zCv 3 1 1 = true := by decide +kernel
theorem vs_3 : zCs 3 1 = true := by decide +kernel
theorem vr_3 : zr 3 = none := rfl
theorem vl_3 : zL 3 = 1 := rfl
theorem v_4 : zCv 4 1 4 = true := by decide +kernel
theorem vs_4 : zCs 4 4 = true := by decide +kernel
theorem vr_4 : zr 4 = none := rfl
theorem vl_4 : zL 4 = 4 := rfl
theorem v_5 : zCv 5 1 6 = true := by decide +kernel
theorem vs_5 : zCs 5 6 = true := by decide +kernel
theorem vr_5 : zr 5 = none := rfl
theorem vl_5 : zL 5 = 6 := rfl
theorem v_6 : zCv 6 1 4 = true := by decide +kernel
theorem vs_6 : zCs 6 4 = true := by decide +kernel
theorem vr_6 : zr 6 = (some .boolean) := rfl
theorem vl_6 : zL 6 = 4 := rfl
theorem v_7 : zCv 7 1 4 = true := by decide +kernel
theorem vs_7 : zCs 7 4 = true := by decide +kernel
theorem vr_7 : zr 7 = none := rfl
theorem vl_7 : zL 7 = 4 := rfl
theorem v_8 : zCv 8 2 1 = true := by decide +kernel
theorem vs_8 : zCs 8 1 = true := by decide +kernel
theorem vr_8 : zr 8 = none := rfl
theorem vl_8 : zL 8 = 1 := rfl
theorem v_9 : zCv 9 2 2 = true := by decide +kernel
theorem vs_9 : zCs 9 2 = true := by decide +kernel
theorem vr_9 : zr 9 = none := rfl
theorem vl_9 : zL 9 = 2 := rfl
theorem v_10 : zCv 10 2 1 = true := by decide +kernel
theorem vs_10 : zCs 10 1 = true := by decide +kernel
theorem vr_10 : zr 10 = (some .boolean) := rfl
theorem vl_10 : zL 10 = 1 := rfl
theorem v_11 : zCv 11 2 3 = true := by decide +kernel
theorem vs_11 : zCs 11 3 = true := by decide +kernel
theorem vr_11 : zr 11 = none := rfl
theorem vl_11 : zL 11 = 3 := rfl
theorem v_12 : zCv 12 2 3 = true := by decide +kernel
theorem vs_12 : zCs 12 3 = true := by decide +kernel
theorem vr_12 : zr 12 = (some .int) := rfl
theorem vl_12 : zL 12 = 3 := rfl
theorem v_13 : zCv 13 3 1 = true := by decide +kernel
theorem vs_13 : zCs 13 1 = true := by decide +kernel
theorem vr_13 : zr 13 = none := rfl
theorem vl_13 : zL 13 = 1 := rfl
theorem v_14 : zCv 14 3 2 = true := by decide +kernel
theorem vs_14 : zCs 14 2 = true := by decide +kernel
theorem vr_14 : zr 14 = (some .boolean) := rfl
theorem vl_14 : zL 14 = 2 := rfl
theorem v_15 : zCv 15 3 3 = true := by decide +kernel
theorem vs_15 : zCs 15 3 = true := by decide +kernel
theorem vr_15 : zr 15 = (some .boolean) := rfl
theorem vl_15 : zL 15 = 3 := rfl
theorem v_16 : zCv 16 3 1 = true := by decide +kernel
theorem vs_16 : zCs 16 1 = true := by decide +kernel
theorem vr_16 : zr 16 = (some .int) := rfl
theorem vl_16 : zL 16 = 1 := rfl
theorem v_17 : zCv 17 3 2 = true := by decide +kernel
theorem vs_17 : zCs 17 2 = true := by decide +kernel
theorem vr_17 : zr 17 = (some .boolean) := rfl
theorem vl_17 : zL 17 = 2 := rfl
theorem v_18 : zCv 18 3 7 = true := by decide +kernel
theorem vs_18 : zCs 18 7 = true := by decide +kernel
theorem vr_18 : zr 18 = (some .boolean) := rfl
theorem vl_18 : zL 18 = 7 := rfl
theorem v_19 : zCv 19 3 3 = true := by decide +kernel
theorem vs_19 : zCs 19 3 = true := by decide +kernel
theorem vr_19 : zr 19 = (some .boolean) := rfl
theorem vl_19 : zL 19 = 3 := rfl
theorem v_20 : zCv 20 3 4 = true := by decide +kernel
theorem vs_20 : zCs 20 4 = true := by decide +kernel
theorem vr_20 : zr 20 = (some .boolean) := rfl
theorem vl_20 : zL 20 = 4 := rfl
theorem v_21 : zCv 21 3 3 = true := by decide +kernel
theorem vs_21 : zCs 21 3 = true := by decide +kernel
theorem vr_21 : zr 21 = (some .boolean) := rfl
theorem vl_21 : zL 21 = 3 := rfl
theorem v_22 : zCv 22 3 3 = true := by decide +kernel
theorem vs_22 : zCs 22 3 = true := by decide +kernel
theorem vr_22 : zr 22 = (some .int) := rfl
theorem vl_22 : zL 22 = 3 := rfl
theorem v_23 : zCv 23 3 5 = true := by decide +kernel
theorem vs_23 : zCs 23 5 = true := by decide +kernel
theorem vr_23 : zr 23 = (some .int) := rfl
theorem vl_23 : zL 23 = 5 := rfl
theorem v_24 : zCv 24 3 2 = true := by decide +kernel
theorem vs_24 : zCs 24 2 = true := by decide +kernel
theorem vr_24 : zr 24 = (some .boolean) := rfl
theorem vl_24 : zL 24 = 2 := rfl
theorem v_25 : zCv 25 3 2 = true := by decide +kernel
theorem vs_25 : zCs 25 2 = true := by decide +kernel
theorem vr_25 : zr 25 = (some .boolean) := rfl
theorem vl_25 : zL 25 = 2 := rfl
theorem v_26 : zCv 26 4 2 = true := by decide +kernel
theorem vs_26 : zCs 26 2 = true := by decide +kernel
theorem vr_26 : zr 26 = none := rfl
theorem vl_26 : zL 26 = 2 := rfl
theorem v_27 : zCv 27 4 5 = true := by decide +kernel
theorem vs_27 : zCs 27 5 = true := by decide +kernel
theorem vr_27 : zr 27 = none := rfl
theorem vl_27 : zL 27 = 5 := rfl
theorem v_28 : zCv 28 4 4 = true := by decide +kernel
theorem vs_28 : zCs 28 4 = true := by decide +kernel
theorem vr_28 : zr 28 = (some .boolean) := rfl
theorem vl_28 : zL 28 = 4 := rfl
theorem v_29 : zCv 29 4 2 = true := by decide +kernel
theorem vs_29 : zCs 29 2 = true := by decide +kernel
theorem vr_29 : zr 29 = (some .int) := rfl
theorem vl_29 : zL 29 = 2 := rfl
theorem v_30 : zCv 30 4 4 = true := by decide +kernel
theorem vs_30 : zCs 30 4 = true := by decide +kernel
theorem vr_30 : zr 30 = none := rfl
theorem vl_30 : zL 30 = 4 := rfl
theorem v_31 : zCv 31 4 4 = true := by decide +kernel
theorem vs_31 : zCs 31 4 = true := by decide +kernel
theorem vr_31 : zr 31 = none := rfl
theorem vl_31 : zL 31 = 4 := rfl
theorem v_32 : zCv 32 4 3 = true := by decide +kernel
theorem vs_32 : zCs 32 3 = true := by decide +kernel
theorem vr_32 : zr 32 = (some .int) := rfl
theorem vl_32 : zL 32 = 3 := rfl
theorem v_33 : zCv 33 4 2 = true := by decide +kernel
theorem vs_33 : zCs 33 2 = true := by decide +kernel
theorem vr_33 : zr 33 = none := rfl
theorem vl_33 : zL 33 = 2 := rfl
theorem v_34 : zCv 34 4 5 = true := by decide +kernel
theorem vs_34 : zCs 34 5 = true := by decide +kernel
theorem vr_34 : zr 34 = none := rfl
theorem vl_34 : zL 34 = 5 := rfl
theorem v_35 : zCv 35 4 2 = true := by decide +kernel
theorem vs_35 : zCs 35 2 = true := by decide +kernel
theorem vr_35 : zr 35 = none := rfl
theorem vl_35 : zL 35 = 2 := rfl
theorem v_36 : zCv 36 5 1 = true := by decide +kernel
theorem vs_36 : zCs 36 1 = true := by decide +kernel
theorem vr_36 : zr 36 = none := rfl
theorem vl_36 : zL 36 = 1 := rfl
theorem v_37 : zCv 37 5 2 = true := by decide +kernel
theorem vs_37 : zCs 37 2 = true := by decide +kernel
theorem vr_37 : zr 37 = none := rfl
theorem vl_37 : zL 37 = 2 := rfl
theorem v_38 : zCv 38 5 1 = true := by decide +kernel
theorem vs_38 : zCs 38 1 = true := by decide +kernel
theorem vr_38 : zr 38 = (some .boolean) := rfl
theorem vl_38 : zL 38 = 1 := rfl
theorem v_39 : zCv 39 5 3 = true := by decide +kernel
theorem vs_39 : zCs 39 3 = true := by decide +kernel
theorem vr_39 : zr 39 = none := rfl
theorem vl_39 : zL 39 = 3 := rfl
theorem v_40 : zCv 40 5 4 = true := by decide +kernel
theorem vs_40 : zCs 40 4 = true := by decide +kernel
theorem vr_40 : zr 40 = (some .boolean) := rfl
theorem vl_40 : zL 40 = 4 := rfl
theorem v_41 : zCv 41 6 1 = true := by decide +kernel
theorem vs_41 : zCs 41 1 = true := by decide +kernel
theorem vr_41 : zr 41 = none := rfl
theorem vl_41 : zL 41 = 1 := rfl
theorem v_42 : zCv 42 6 1 = true := by decide +kernel
theorem vs_42 : zCs 42 1 = true := by decide +kernel
theorem vr_42 : zr 42 = (some .boolean) := rfl
theorem vl_42 : zL 42 = 1 := rfl
theorem v_43 : zCv 43 6 2 = true := by decide +kernel
theorem vs_43 : zCs 43 2 = true := by decide +kernel
theorem vr_43 : zr 43 = (some .boolean) := rfl
theorem vl_43 : zL 43 = 2 := rfl
theorem v_44 : zCv 44 6 4 = true := by decide +kernel
theorem vs_44 : zCs 44 4 = true := by decide +kernel
theorem vr_44 : zr 44 = none := rfl
theorem vl_44 : zL 44 = 4 := rfl
theorem v_45 : zCv 45 6 3 = true := by decide +kernel
theorem vs_45 : zCs 45 3 = true := by decide +kernel
theorem vr_45 : zr 45 = none := rfl
theorem vl_45 : zL 45 = 3 := rfl
theorem v_46 : zCv 46 6 2 = true := by decide +kernel
theorem vs_46 : zCs 46 2 = true := by decide +kernel
theorem vr_46 : zr 46 = (some .int) := rfl
theorem vl_46 : zL 46 = 2 := rfl
theorem v_47 : zCv 47 7 1 = true := by decide +kernel
theorem vs_47 : zCs 47 1 = true := by decide +kernel
theorem vr_47 : zr 47 = none := rfl
theorem vl_47 : zL 47 = 1 := rfl
theorem v_48 : zCv 48 7 2 = true := by decide +kernel
theorem vs_48 : zCs 48 2 = true := by decide +kernel
theorem vr_48 : zr 48 = none := rfl
theorem vl_48 : zL 48 = 2 := rfl
theorem v_49 : zCv 49 7 2 = true := by decide +kernel
theorem vs_49 : zCs 49 2 = true := by decide +kernel
theorem vr_49 : zr 49 = (some .boolean) := rfl
theorem vl_49 : zL 49 = 2 := rfl
theorem v_50 : zCv 50 7 2 = true := by decide +kernel
theorem vs_50 : zCs 50 2 = true := by decide +kernel
theorem vr_50 : zr 50 = (some .boolean) := rfl
theorem vl_50 : zL 50 = 2 := rfl
theorem v_51 : zCv 51 7 1 = true := by decide +kernel
theorem vs_51 : zCs 51 1 = true := by decide +kernel
theorem vr_51 : zr 51 = (some .boolean) := rfl
theorem vl_51 : zL 51 = 1 := rfl
theorem v_52 : zCv 52 7 4 = true := by decide +kernel
theorem vs_52 : zCs 52 4 = true := by decide +kernel
theorem vr_52 : zr 52 = none := rfl
theorem vl_52 : zL 52 = 4 := rfl
theorem v_53 : zCv 53 7 4 = true := by decide +kernel
theorem vs_53 : zCs 53 4 = true := by decide +kernel
theorem vr_53 : zr 53 = (some .int) := rfl
theorem vl_53 : zL 53 = 4 := rfl
theorem v_54 : zCv 54 8 1 = true := by decide +kernel
theorem vs_54 : zCs 54 1 = true := by decide +kernel
theorem vr_54 : zr 54 = none := rfl
theorem vl_54 : zL 54 = 1 := rfl
theorem v_55 : zCv 55 8 2 = true := by decide +kernel
theorem vs_55 : zCs 55 2 = true := by decide +kernel
theorem vr_55 : zr 55 = none := rfl
theorem vl_55 : zL 55 = 2 := rfl
theorem v_56 : zCv 56 8 2 = true := by decide +kernel
theorem vs_56 : zCs 56 2 = true := by decide +kernel
theorem vr_56 : zr 56 = (some .boolean) := rfl
theorem vl_56 : zL 56 = 2 := rfl
theorem v_57 : zCv 57 8 3 = true := by decide +kernel
theorem vs_57 : zCs 57 3 = true := by decide +kernel
theorem vr_57 : zr 57 = (some .boolean) := rfl
theorem vl_57 : zL 57 = 3 := rfl
theorem v_58 : zCv 58 8 3 = true := by decide +kernel
theorem vs_58 : zCs 58 3 = true := by decide +kernel
theorem vr_58 : zr 58 = (some .int) := rfl
theorem vl_58 : zL 58 = 3 := rfl
theorem v_59 : zCv 59 8 4 = true := by decide +kernel
theorem vs_59 : zCs 59 4 = true := by decide +kernel
theorem vr_59 : zr 59 = none := rfl
theorem vl_59 : zL 59 = 4 := rfl
theorem v_60 : zCv 60 8 4 = true := by decide +kernel
theorem vs_60 : zCs 60 4 = true := by decide +kernel
theorem vr_60 : zr 60 = (some .int) := rfl
theorem vl_60 : zL 60 = 4 := rfl
theorem v_61 : zCv 61 8 3 = true := by decide +kernel
theorem vs_61 : zCs 61 3 = true := by decide +kernel
theorem vr_61 : zr 61 = (some .int) := rfl
theorem vl_61 : zL 61 = 3 := rfl
theorem v_62 : zCv 62 8 1 = true := by decide +kernel
theorem vs_62 : zCs 62 1 = true := by decide +kernel
theorem vr_62 : zr 62 = (some .boolean) := rfl
theorem vl_62 : zL 62 = 1 := rfl
theorem v_63 : zCv 63 8 3 = true := by decide +kernel
theorem vs_63 : zCs 63 3 = true := by decide +kernel
theorem vr_63 : zr 63 = none := rfl
theorem vl_63 : zL 63 = 3 := rfl
theorem v_64 : zCv 64 8 4 = true := by decide +kernel
theorem vs_64 : zCs 64 4 = true := by decide +kernel
theorem vr_64 : zr 64 = none := rfl
theorem vl_64 : zL 64 = 4 := rfl
theorem v_65 : zCv 65 8 4 = true := by decide +kernel
theorem vs_65 : zCs 65 4 = true := by decide +kernel
theorem vr_65 : zr 65 = (some .boolean) := rfl
theorem vl_65 : zL 65 = 4 := rfl
theorem v_66 : zCv 66 8 4 = true := by decide +kernel
theorem vs_66 : zCs 66 4 = true := by decide +kernel
theorem vr_66 : zr 66 = (some .int) := rfl
theorem vl_66 : zL 66 = 4 := rfl
theorem v_67 : zCv 67 8 3 = true := by decide +kernel
theorem vs_67 : zCs 67 3 = true := by decide +kernel
theorem vr_67 : zr 67 = (some .int) := rfl
theorem vl_67 : zL 67 = 3 := rfl
theorem v_68 : zCv 68 9 1 = true := by decide +kernel
theorem vs_68 : zCs 68 1 = true := by decide +kernel
theorem vr_68 : zr 68 = none := rfl
theorem vl_68 : zL 68 = 1 := rfl
theorem v_69 : zCv 69 9 1 = true := by decide +kernel
theorem vs_69 : zCs 69 1 = true := by decide +kernel
theorem vr_69 : zr 69 = none := rfl
theorem vl_69 : zL 69 = 1 := rfl
theorem v_70 : zCv 70 9 5 = true := by decide +kernel
theorem vs_70 : zCs 70 5 = true := by decide +kernel
theorem vr_70 : zr 70 = (some .int) := rfl
theorem vl_70 : zL 70 = 5 := rfl
theorem v_71 : zCv 71 9 3 = true := by decide +kernel
theorem vs_71 : zCs 71 3 = true := by decide +kernel
theorem vr_71 : zr 71 = (some .int) := rfl
theorem vl_71 : zL 71 = 3 := rfl
theorem v_72 : zCv 72 9 3 = true := by decide +kernel
theorem vs_72 : zCs 72 3 = true := by decide +kernel
theorem vr_72 : zr 72 = (some .boolean) := rfl
theorem vl_72 : zL 72 = 3 := rfl
theorem v_73 : zCv 73 10 2 = true := by decide +kernel
theorem vs_73 : zCs 73 2 = true := by decide +kernel
theorem vr_73 : zr 73 = none := rfl
theorem vl_73 : zL 73 = 2 := rfl
theorem v_74 : zCv 74 10 2 = true := by decide +kernel
theorem vs_74 : zCs 74 2 = true := by decide +kernel
theorem vr_74 : zr 74 = (some .int) := rfl
theorem vl_74 : zL 74 = 2 := rfl
theorem v_75 : zCv 75 10 3 = true := by decide +kernel
theorem vs_75 : zCs 75 3 = true := by decide +kernel
theorem vr_75 : zr 75 = (some .int) := rfl
theorem vl_75 : zL 75 = 3 := rfl
theorem v_76 : zCv 76 10 2 = true := by decide +kernel
theorem vs_76 : zCs 76 2 = true := by decide +kernel
theorem vr_76 : zr 76 = (some .int) := rfl
theorem vl_76 : zL 76 = 2 := rfl
theorem v_77 : zCv 77 10 1 = true := by decide +kernel
theorem vs_77 : zCs 77 1 = true := by decide +kernel
theorem vr_77 : zr 77 = (some .int) := rfl
theorem vl_77 : zL 77 = 1 := rfl
theorem v_78 : zCv 78 10 2 = true := by decide +kernel
theorem vs_78 : zCs 78 2 = true := by decide +kernel
theorem vr_78 : zr 78 = (some .int) := rfl
theorem vl_78 : zL 78 = 2 := rfl
theorem v_79 : zCv 79 10 2 = true := by decide +kernel
theorem vs_79 : zCs 79 2 = true := by decide +kernel
theorem vr_79 : zr 79 = (some .int) := rfl
theorem vl_79 : zL 79 = 2 := rfl
theorem v_80 : zCv 80 10 4 = true := by decide +kernel
theorem vs_80 : zCs 80 4 = true := by decide +kernel
theorem vr_80 : zr 80 = (some .int) := rfl
theorem vl_80 : zL 80 = 4 := rfl
theorem v_81 : zCv 81 10 3 = true := by decide +kernel
theorem vs_81 : zCs 81 3 = true := by decide +kernel
theorem vr_81 : zr 81 = (some .int) := rfl
theorem vl_81 : zL 81 = 3 := rfl
theorem v_82 : zCv 82 10 2 = true := by decide +kernel
theorem vs_82 : zCs 82 2 = true := by decide +kernel
theorem vr_82 : zr 82 = (some .int) := rfl
theorem vl_82 : zL 82 = 2 := rfl
theorem v_83 : zCv 83 10 5 = true := by decide +kernel
theorem vs_83 : zCs 83 5 = true := by decide +kernel
theorem vr_83 : zr 83 = (some .int) := rfl
theorem vl_83 : zL 83 = 5 := rfl
theorem v_84 : zCv 84 10 2 = true := by decide +kernel
theorem vs_84 : zCs 84 2 = true := by decide +kernel
theorem vr_84 : zr 84 = (some .int) := rfl
theorem vl_84 : zL 84 = 2 := rfl
theorem v_85 : zCv 85 10 4 = true := by decide +kernel
theorem vs_85 : zCs 85 4 = true := by decide +kernel
theorem vr_85 : zr 85 = (some .int) := rfl
theorem vl_85 : zL 85 = 4 := rfl
theorem v_86 : zCv 86 10 2 = true := by decide +kernel
theorem vs_86 : zCs 86 2 = true := by decide +kernel
theorem vr_86 : zr 86 = (some .int) := rfl
theorem vl_86 : zL 86 = 2 := rfl
theorem v_87 : zCv 87 10 4 = true := by decide +kernel
theorem vs_87 : zCs 87 4 = true := by decide +kernel
theorem vr_87 : zr 87 = (some .int) := rfl
theorem vl_87 : zL 87 = 4 := rfl
theorem v_88 : zCv 88 10 3 = true := by decide +kernel
theorem vs_88 : zCs 88 3 = true := by decide +kernel
theorem vr_88 : zr 88 = (some .int) := rfl
theorem vl_88 : zL 88 = 3 := rfl
theorem v_89 : zCv 89 10 3 = true := by decide +kernel
theorem vs_89 : zCs 89 3 = true := by decide +kernel
theorem vr_89 : zr 89 = (some .int) := rfl
theorem vl_89 : zL 89 = 3 := rfl
theorem v_90 : zCv 90 10 3 = true := by decide +kernel
theorem vs_90 : zCs 90 3 = true := by decide +kernel
theorem vr_90 : zr 90 = (some .int) := rfl
theorem vl_90 : zL 90 = 3 := rfl
theorem v_91 : zCv 91 10 3 = true := by decide +kernel
theorem vs_91 : zCs 91 3 = true := by decide +kernel
theorem vr_91 : zr 91 = (some .int) := rfl
theorem vl_91 : zL 91 = 3 := rfl
theorem v_92 : zCv 92 10 3 = true := by decide +kernel
theorem vs_92 : zCs 92 3 = true := by decide +kernel
theorem vr_92 : zr 92 = (some .int) := rfl
theorem vl_92 : zL 92 = 3 := rfl
theorem v_93 : zCv 93 10 3 = true := by decide +kernel
theorem vs_93 : zCs 93 3 = true := by decide +kernel
theorem vr_93 : zr 93 = (some .int) := rfl
theorem vl_93 : zL 93 = 3 := rfl
theorem v_94 : zCv 94 10 3 = true := by decide +kernel
theorem vs_94 : zCs 94 3 = true := by decide +kernel
theorem vr_94 : zr 94 = (some .int) := rfl
theorem vl_94 : zL 94 = 3 := rfl
theorem v_95 : zCv 95 10 3 = true := by decide +kernel
theorem vs_95 : zCs 95 3 = true := by decide +kernel
theorem vr_95 : zr 95 = (some .int) := rfl
theorem vl_95 : zL 95 = 3 := rfl
theorem v_96 : zCv 96 10 5 = true := by decide +kernel
theorem vs_96 : zCs 96 5 = true := by decide +kernel
theorem vr_96 : zr 96 = (some .int) := rfl
theorem vl_96 : zL 96 = 5 := rfl
theorem v_97 : zCv 97 10 4 = true := by decide +kernel
theorem vs_97 : zCs 97 4 = true := by decide +kernel
theorem vr_97 : zr 97 = (some .int) := rfl
theorem vl_97 : zL 97 = 4 := rfl
theorem v_98 : zCv 98 10 4 = true := by decide +kernel
theorem vs_98 : zCs 98 4 = true := by decide +kernel
theorem vr_98 : zr 98 = (some .int) := rfl
theorem vl_98 : zL 98 = 4 := rfl
theorem v_99 : zCv 99 10 7 = true := by decide +kernel
theorem vs_99 : zCs 99 7 = true := by decide +kernel
theorem vr_99 : zr 99 = (some .int) := rfl
theorem vl_99 : zL 99 = 7 := rfl
theorem v_100 : zCv 100 10 3 = true := by decide +kernel
theorem vs_100 : zCs 100 3 = true := by decide +kernel
theorem vr_100 : zr 100 = (some .int) := rfl
theorem vl_100 : zL 100 = 3 := rfl
theorem v_101 : zCv 101 10 2 = true := by decide +kernel
theorem vs_101 : zCs 101 2 = true := by decide +kernel
theorem vr_101 : zr 101 = (some .int) := rfl
theorem vl_101 : zL 101 = 2 := rfl
theorem v_102 : zCv 102 10 1 = true := by decide +kernel
theorem vs_102 : zCs 102 1 = true := by decide +kernel
theorem vr_102 : zr 102 = (some .boolean) := rfl
theorem vl_102 : zL 102 = 1 := rfl
theorem v_103 : zCv 103 10 3 = true := by decide +kernel
theorem vs_103 : zCs 103 3 = true := by decide +kernel
theorem vr_103 : zr 103 = (some .int) := rfl
theorem vl_103 : zL 103 = 3 := rfl
theorem v_104 : zCv 104 10 5 = true := by decide +kernel
theorem vs_104 : zCs 104 5 = true := by decide +kernel
theorem vr_104 : zr 104 = (some .int) := rfl
theorem vl_104 : zL 104 = 5 := rfl
theorem v_105 : zCv 105 10 3 = true := by decide +kernel
theorem vs_105 : zCs 105 3 = true := by decide +kernel
theorem vr_105 : zr 105 = (some .boolean) := rfl
theorem vl_105 : zL 105 = 3 := rfl
theorem v_106 : zCv 106 10 5 = true := by decide +kernel
theorem vs_106 : zCs 106 5 = true := by decide +kernel
theorem vr_106 : zr 106 = (some .int) := rfl
theorem vl_106 : zL 106 = 5 := rfl
theorem v_107 : zCv 107 10 3 = true := by decide +kernel
theorem vs_107 : zCs 107 3 = true := by decide +kernel
theorem vr_107 : zr 107 = (some .int) := rfl
theorem vl_107 : zL 107 = 3 := rfl
theorem v_108 : zCv 108 10 3 = true := by decide +kernel
theorem vs_108 : zCs 108 3 = true := by decide +kernel
theorem vr_108 : zr 108 = (some .int) := rfl
theorem vl_108 : zL 108 = 3 := rfl
theorem v_109 : zCv 109 10 3 = true := by decide +kernel
theorem vs_109 : zCs 109 3 = true := by decide +kernel
theorem vr_109 : zr 109 = (some .int) := rfl
theorem vl_109 : zL 109 = 3 := rfl
theorem v_110 : zCv 110 10 8 = true := by decide +kernel
theorem vs_110 : zCs 110 8 = true := by decide +kernel
theorem vr_110 : zr 110 = (some .int) := rfl
theorem vl_110 : zL 110 = 8 := rfl
theorem v_111 : zCv 111 10 5 = true := by decide +kernel
theorem vs_111 : zCs 111 5 = true := by decide +kernel
theorem vr_111 : zr 111 = (some .boolean) := rfl
theorem vl_111 : zL 111 = 5 := rfl
theorem v_112 : zCv 112 10 4 = true := by decide +kernel
theorem vs_112 : zCs 112 4 = true := by decide +kernel
theorem vr_112 : zr 112 = (some .int) := rfl
theorem vl_112 : zL 112 = 4 := rfl
theorem v_113 : zCv 113 10 5 = true := by decide +kernel
theorem vs_113 : zCs 113 5 = true := by decide +kernel
theorem vr_113 : zr 113 = (some .long) := rfl
theorem vl_113 : zL 113 = 5 := rfl
theorem v_114 : zCv 114 10 5 = true := by decide +kernel
theorem vs_114 : zCs 114 5 = true := by decide +kernel
theorem vr_114 : zr 114 = (some .long) := rfl
theorem vl_114 : zL 114 = 5 := rfl
theorem v_115 : zCv 115 10 5 = true := by decide +kernel
theorem vs_115 : zCs 115 5 = true := by decide +kernel
theorem vr_115 : zr 115 = (some .boolean) := rfl
theorem vl_115 : zL 115 = 5 := rfl
theorem v_116 : zCv 116 10 14 = true := by decide +kernel
theorem vs_116 : zCs 116 14 = true := by decide +kernel
theorem vr_116 : zr 116 = (some .long) := rfl
theorem vl_116 : zL 116 = 14 := rfl
theorem v_117 : zCv 117 10 2 = true := by decide +kernel
theorem vs_117 : zCs 117 2 = true := by decide +kernel
theorem vr_117 : zr 117 = (some .int) := rfl
theorem vl_117 : zL 117 = 2 := rfl
theorem v_118 : zCv 118 10 11 = true := by decide +kernel
theorem vs_118 : zCs 118 11 = true := by decide +kernel
theorem vr_118 : zr 118 = (some .long) := rfl
theorem vl_118 : zL 118 = 11 := rfl
theorem v_119 : zCv 119 10 9 = true := by decide +kernel
theorem vs_119 : zCs 119 9 = true := by decide +kernel
theorem vr_119 : zr 119 = (some .int) := rfl
theorem vl_119 : zL 119 = 9 := rfl
theorem v_120 : zCv 120 10 1 = true := by decide +kernel
theorem vs_120 : zCs 120 1 = true := by decide +kernel
theorem vr_120 : zr 120 = (some .int) := rfl
theorem vl_120 : zL 120 = 1 := rfl
theorem v_121 : zCv 121 10 1 = true := by decide +kernel
theorem vs_121 : zCs 121 1 = true := by decide +kernel
theorem vr_121 : zr 121 = (some .int) := rfl
theorem vl_121 : zL 121 = 1 := rfl
theorem v_122 : zCv 122 10 3 = true := by decide +kernel
theorem vs_122 : zCs 122 3 = true := by decide +kernel
theorem vr_122 : zr 122 = (some .int) := rfl
theorem vl_122 : zL 122 = 3 := rfl
theorem v_123 : zCv 123 10 2 = true := by decide +kernel
theorem vs_123 : zCs 123 2 = true := by decide +kernel
theorem vr_123 : zr 123 = (some .int) := rfl
theorem vl_123 : zL 123 = 2 := rfl
theorem v_124 : zCv 124 10 4 = true := by decide +kernel
theorem vs_124 : zCs 124 4 = true := by decide +kernel
theorem vr_124 : zr 124 = (some .int) := rfl
theorem vl_124 : zL 124 = 4 := rfl
theorem v_125 : zCv 125 10 4 = true := by decide +kernel
theorem vs_125 : zCs 125 4 = true := by decide +kernel
theorem vr_125 : zr 125 = (some .int) := rfl
theorem vl_125 : zL 125 = 4 := rfl
theorem v_126 : zCv 126 10 10 = true := by decide +kernel
theorem vs_126 : zCs 126 10 = true := by decide +kernel
theorem vr_126 : zr 126 = (some .int) := rfl
theorem vl_126 : zL 126 = 10 := rfl
theorem v_127 : zCv 127 10 1 = true := by decide +kernel
theorem vs_127 : zCs 127 1 = true := by decide +kernel
theorem vr_127 : zr 127 = (some .int) := rfl
theorem vl_127 : zL 127 = 1 := rfl
theorem v_128 : zCv 128 10 2 = true := by decide +kernel
theorem vs_128 : zCs 128 2 = true := by decide +kernel
theorem vr_128 : zr 128 = (some .int) := rfl
theorem vl_128 : zL 128 = 2 := rfl
theorem v_129 : zCv 129 10 3 = true := by decide +kernel
theorem vs_129 : zCs 129 3 = true := by decide +kernel
theorem vr_129 : zr 129 = (some .boolean) := rfl
theorem vl_129 : zL 129 = 3 := rfl
theorem v_130 : zCv 130 11 2 = true := by decide +kernel
theorem vs_130 : zCs 130 2 = true := by decide +kernel
theorem vr_130 : zr 130 = none := rfl
theorem vl_130 : zL 130 = 2 := rfl
theorem v_131 : zCv 131 11 6 = true := by decide +kernel
theorem vs_131 : zCs 131 6 = true := by decide +kernel
theorem vr_131 : zr 131 = (some .boolean) := rfl
theorem vl_131 : zL 131 = 6 := rfl
theorem v_132 : zCv 132 11 1 = true := by decide +kernel
theorem vs_132 : zCs 132 1 = true := by decide +kernel
theorem vr_132 : zr 132 = (some .int) := rfl
theorem vl_132 : zL 132 = 1 := rfl
theorem v_133 : zCv 133 11 2 = true := by decide +kernel
theorem vs_133 : zCs 133 2 = true := by decide +kernel
theorem vr_133 : zr 133 = none := rfl
theorem vl_133 : zL 133 = 2 := rfl
theorem v_134 : zCv 134 11 2 = true := by decide +kernel
theorem vs_134 : zCs 134 2 = true := by decide +kernel
theorem vr_134 : zr 134 = none := rfl
theorem vl_134 : zL 134 = 2 := rfl
theorem v_135 : zCv 135 11 2 = true := by decide +kernel
theorem vs_135 : zCs 135 2 = true := by decide +kernel
theorem vr_135 : zr 135 = (some .int) := rfl
theorem vl_135 : zL 135 = 2 := rfl
theorem v_136 : zCv 136 11 3 = true := by decide +kernel
theorem vs_136 : zCs 136 3 = true := by decide +kernel
theorem vr_136 : zr 136 = (some .int) := rfl
theorem vl_136 : zL 136 = 3 := rfl
theorem v_137 : zCv 137 11 3 = true := by decide +kernel
theorem vs_137 : zCs 137 3 = true := by decide +kernel
theorem vr_137 : zr 137 = none := rfl
theorem vl_137 : zL 137 = 3 := rfl
theorem v_138 : zCv 138 11 2 = true := by decide +kernel
theorem vs_138 : zCs 138 2 = true := by decide +kernel
theorem vr_138 : zr 138 = (some .int) := rfl
theorem vl_138 : zL 138 = 2 := rfl
theorem v_139 : zCv 139 11 5 = true := by decide +kernel
theorem vs_139 : zCs 139 5 = true := by decide +kernel
theorem vr_139 : zr 139 = (some .boolean) := rfl
theorem vl_139 : zL 139 = 5 := rfl
theorem v_140 : zCv 140 11 5 = true := by decide +kernel
theorem vs_140 : zCs 140 5 = true := by decide +kernel
theorem vr_140 : zr 140 = (some .boolean) := rfl
theorem vl_140 : zL 140 = 5 := rfl
theorem v_141 : zCv 141 11 1 = true := by decide +kernel
theorem vs_141 : zCs 141 1 = true := by decide +kernel
theorem vr_141 : zr 141 = (some .int) := rfl
theorem vl_141 : zL 141 = 1 := rfl
theorem v_142 : zCv 142 11 2 = true := by decide +kernel
theorem vs_142 : zCs 142 2 = true := by decide +kernel
theorem vr_142 : zr 142 = none := rfl
theorem vl_142 : zL 142 = 2 := rfl
theorem v_143 : zCv 143 11 3 = true := by decide +kernel
theorem vs_143 : zCs 143 3 = true := by decide +kernel
theorem vr_143 : zr 143 = (some .int) := rfl
theorem vl_143 : zL 143 = 3 := rfl
theorem v_144 : zCv 144 11 4 = true := by decide +kernel
theorem vs_144 : zCs 144 4 = true := by decide +kernel
theorem vr_144 : zr 144 = (some .int) := rfl
theorem vl_144 : zL 144 = 4 := rfl
theorem v_145 : zCv 145 11 2 = true := by decide +kernel
theorem vs_145 : zCs 145 2 = true := by decide +kernel
theorem vr_145 : zr 145 = (some .int) := rfl
theorem vl_145 : zL 145 = 2 := rfl
theorem v_146 : zCv 146 11 6 = true := by decide +kernel
theorem vs_146 : zCs 146 6 = true := by decide +kernel
theorem vr_146 : zr 146 = (some .int) := rfl
theorem vl_146 : zL 146 = 6 := rfl
theorem v_147 : zCv 147 11 5 = true := by decide +kernel
theorem vs_147 : zCs 147 5 = true := by decide +kernel
theorem vr_147 : zr 147 = none := rfl
theorem vl_147 : zL 147 = 5 := rfl
theorem v_148 : zCv 148 11 1 = true := by decide +kernel
theorem vs_148 : zCs 148 1 = true := by decide +kernel
theorem vr_148 : zr 148 = none := rfl
theorem vl_148 : zL 148 = 1 := rfl
theorem v_149 : zCv 149 11 2 = true := by decide +kernel
theorem vs_149 : zCs 149 2 = true := by decide +kernel
theorem vr_149 : zr 149 = (some .int) := rfl
theorem vl_149 : zL 149 = 2 := rfl
theorem v_150 : zCv 150 11 3 = true := by decide +kernel
theorem vs_150 : zCs 150 3 = true := by decide +kernel
theorem vr_150 : zr 150 = none := rfl
theorem vl_150 : zL 150 = 3 := rfl
theorem v_151 : zCv 151 11 2 = true := by decide +kernel
theorem vs_151 : zCs 151 2 = true := by decide +kernel
theorem vr_151 : zr 151 = none := rfl
theorem vl_151 : zL 151 = 2 := rfl
theorem v_152 : zCv 152 11 3 = true := by decide +kernel
theorem vs_152 : zCs 152 3 = true := by decide +kernel
theorem vr_152 : zr 152 = none := rfl
theorem vl_152 : zL 152 = 3 := rfl
theorem v_153 : zCv 153 11 2 = true := by decide +kernel
theorem vs_153 : zCs 153 2 = true := by decide +kernel
theorem vr_153 : zr 153 = (some .int) := rfl
theorem vl_153 : zL 153 = 2 := rfl
theorem v_154 : zCv 154 11 1 = true := by decide +kernel
theorem vs_154 : zCs 154 1 = true := by decide +kernel
theorem vr_154 : zr 154 = (some .int) := rfl
theorem vl_154 : zL 154 = 1 := rfl
theorem v_155 : zCv 155 11 2 = true := by decide +kernel
theorem vs_155 : zCs 155 2 = true := by decide +kernel
theorem vr_155 : zr 155 = (some .boolean) := rfl
theorem vl_155 : zL 155 = 2 := rfl
theorem v_156 : zCv 156 11 3 = true := by decide +kernel
theorem vs_156 : zCs 156 3 = true := by decide +kernel
theorem vr_156 : zr 156 = (some .boolean) := rfl
theorem vl_156 : zL 156 = 3 := rfl
theorem v_157 : zCv 157 11 2 = true := by decide +kernel
theorem vs_157 : zCs 157 2 = true := by decide +kernel
theorem vr_157 : zr 157 = (some .boolean) := rfl
theorem vl_157 : zL 157 = 2 := rfl
theorem v_158 : zCv 158 11 1 = true := by decide +kernel
theorem vs_158 : zCs 158 1 = true := by decide +kernel
theorem vr_158 : zr 158 = (some .boolean) := rfl
theorem vl_158 : zL 158 = 1 := rfl
theorem v_159 : zCv 159 11 2 = true := by decide +kernel
theorem vs_159 : zCs 159 2 = true := by decide +kernel
theorem vr_159 : zr 159 = none := rfl
theorem vl_159 : zL 159 = 2 := rfl
theorem v_160 : zCv 160 11 2 = true := by decide +kernel
theorem vs_160 : zCs 160 2 = true := by decide +kernel
theorem vr_160 : zr 160 = none := rfl
theorem vl_160 : zL 160 = 2 := rfl
theorem v_161 : zCv 161 11 3 = true := by decide +kernel
theorem vs_161 : zCs 161 3 = true := by decide +kernel
theorem vr_161 : zr 161 = (some .int) := rfl
theorem vl_161 : zL 161 = 3 := rfl
theorem v_162 : zCv 162 11 4 = true := by decide +kernel
theorem vs_162 : zCs 162 4 = true := by decide +kernel
theorem vr_162 : zr 162 = none := rfl
theorem vl_162 : zL 162 = 4 := rfl
theorem v_163 : zCv 163 11 4 = true := by decide +kernel
theorem vs_163 : zCs 163 4 = true := by decide +kernel
theorem vr_163 : zr 163 = (some .int) := rfl
theorem vl_163 : zL 163 = 4 := rfl
theorem v_164 : zCv 164 11 2 = true := by decide +kernel
theorem vs_164 : zCs 164 2 = true := by decide +kernel
theorem vr_164 : zr 164 = (some .int) := rfl
theorem vl_164 : zL 164 = 2 := rfl
theorem v_165 : zCv 165 11 3 = true := by decide +kernel
theorem vs_165 : zCs 165 3 = true := by decide +kernel
theorem vr_165 : zr 165 = (some .int) := rfl
theorem vl_165 : zL 165 = 3 := rfl
theorem v_166 : zCv 166 11 2 = true := by decide +kernel
theorem vs_166 : zCs 166 2 = true := by decide +kernel
theorem vr_166 : zr 166 = (some .int) := rfl
theorem vl_166 : zL 166 = 2 := rfl
theorem v_167 : zCv 167 11 3 = true := by decide +kernel
theorem vs_167 : zCs 167 3 = true := by decide +kernel
theorem vr_167 : zr 167 = none := rfl
theorem vl_167 : zL 167 = 3 := rfl
theorem v_168 : zCv 168 11 3 = true := by decide +kernel
theorem vs_168 : zCs 168 3 = true := by decide +kernel
theorem vr_168 : zr 168 = (some .boolean) := rfl
theorem vl_168 : zL 168 = 3 := rfl
theorem v_169 : zCv 169 11 3 = true := by decide +kernel
theorem vs_169 : zCs 169 3 = true := by decide +kernel
theorem vr_169 : zr 169 = (some .boolean) := rfl
theorem vl_169 : zL 169 = 3 := rfl
theorem v_170 : zCv 170 11 3 = true := by decide +kernel
theorem vs_170 : zCs 170 3 = true := by decide +kernel
theorem vr_170 : zr 170 = (some .int) := rfl
theorem vl_170 : zL 170 = 3 := rfl
theorem v_171 : zCv 171 11 3 = true := by decide +kernel
theorem vs_171 : zCs 171 3 = true := by decide +kernel
theorem vr_171 : zr 171 = none := rfl
theorem vl_171 : zL 171 = 3 := rfl
theorem v_172 : zCv 172 11 2 = true := by decide +kernel
theorem vs_172 : zCs 172 2 = true := by decide +kernel
theorem vr_172 : zr 172 = (some .int) := rfl
theorem vl_172 : zL 172 = 2 := rfl
theorem v_173 : zCv 173 11 2 = true := by decide +kernel
theorem vs_173 : zCs 173 2 = true := by decide +kernel
theorem vr_173 : zr 173 = (some .int) := rfl
theorem vl_173 : zL 173 = 2 := rfl
theorem v_174 : zCv 174 11 4 = true := by decide +kernel
theorem vs_174 : zCs 174 4 = true := by decide +kernel
theorem vr_174 : zr 174 = (some .int) := rfl
theorem vl_174 : zL 174 = 4 := rfl
theorem v_175 : zCv 175 11 3 = true := by decide +kernel
theorem vs_175 : zCs 175 3 = true := by decide +kernel
theorem vr_175 : zr 175 = (some .int) := rfl
theorem vl_175 : zL 175 = 3 := rfl
theorem v_176 : zCv 176 11 2 = true := by decide +kernel
theorem vs_176 : zCs 176 2 = true := by decide +kernel
theorem vr_176 : zr 176 = (some .int) := rfl
theorem vl_176 : zL 176 = 2 := rfl
theorem v_177 : zCv 177 11 4 = true := by decide +kernel
theorem vs_177 : zCs 177 4 = true := by decide +kernel
theorem vr_177 : zr 177 = (some .int) := rfl
theorem vl_177 : zL 177 = 4 := rfl
theorem v_178 : zCv 178 11 4 = true := by decide +kernel
theorem vs_178 : zCs 178 4 = true := by decide +kernel
theorem vr_178 : zr 178 = (some .int) := rfl
theorem vl_178 : zL 178 = 4 := rfl
theorem v_179 : zCv 179 11 2 = true := by decide +kernel
theorem vs_179 : zCs 179 2 = true := by decide +kernel
theorem vr_179 : zr 179 = none := rfl
theorem vl_179 : zL 179 = 2 := rfl
theorem v_180 : zCv 180 11 2 = true := by decide +kernel
theorem vs_180 : zCs 180 2 = true := by decide +kernel
theorem vr_180 : zr 180 = (some .int) := rfl
theorem vl_180 : zL 180 = 2 := rfl
theorem v_181 : zCv 181 11 5 = true := by decide +kernel
theorem vs_181 : zCs 181 5 = true := by decide +kernel
theorem vr_181 : zr 181 = (some .int) := rfl
theorem vl_181 : zL 181 = 5 := rfl
theorem v_182 : zCv 182 11 4 = true := by decide +kernel
theorem vs_182 : zCs 182 4 = true := by decide +kernel
theorem vr_182 : zr 182 = (some .int) := rfl
theorem vl_182 : zL 182 = 4 := rfl
theorem v_183 : zCv 183 11 3 = true := by decide +kernel
theorem vs_183 : zCs 183 3 = true := by decide +kernel
theorem vr_183 : zr 183 = (some .int) := rfl
theorem vl_183 : zL 183 = 3 := rfl
theorem v_184 : zCv 184 11 3 = true := by decide +kernel
theorem vs_184 : zCs 184 3 = true := by decide +kernel
theorem vr_184 : zr 184 = (some .int) := rfl
theorem vl_184 : zL 184 = 3 := rfl
theorem v_185 : zCv 185 11 3 = true := by decide +kernel
theorem vs_185 : zCs 185 3 = true := by decide +kernel
theorem vr_185 : zr 185 = (some .int) := rfl
theorem vl_185 : zL 185 = 3 := rfl
theorem v_186 : zCv 186 11 2 = true := by decide +kernel
theorem vs_186 : zCs 186 2 = true := by decide +kernel
theorem vr_186 : zr 186 = (some .int) := rfl
theorem vl_186 : zL 186 = 2 := rfl
theorem v_187 : zCv 187 11 3 = true := by decide +kernel
theorem vs_187 : zCs 187 3 = true := by decide +kernel
theorem vr_187 : zr 187 = (some .int) := rfl
theorem vl_187 : zL 187 = 3 := rfl
theorem v_188 : zCv 188 11 3 = true := by decide +kernel
theorem vs_188 : zCs 188 3 = true := by decide +kernel
theorem vr_188 : zr 188 = (some .int) := rfl
theorem vl_188 : zL 188 = 3 := rfl
theorem v_189 : zCv 189 11 2 = true := by decide +kernel
theorem vs_189 : zCs 189 2 = true := by decide +kernel
theorem vr_189 : zr 189 = (some .int) := rfl
theorem vl_189 : zL 189 = 2 := rfl
theorem v_190 : zCv 190 11 5 = true := by decide +kernel
theorem vs_190 : zCs 190 5 = true := by decide +kernel
theorem vr_190 : zr 190 = (some .int) := rfl
theorem vl_190 : zL 190 = 5 := rfl
theorem v_191 : zCv 191 11 4 = true := by decide +kernel
theorem vs_191 : zCs 191 4 = true := by decide +kernel
theorem vr_191 : zr 191 = (some .int) := rfl
theorem vl_191 : zL 191 = 4 := rfl
theorem v_192 : zCv 192 11 6 = true := by decide +kernel
theorem vs_192 : zCs 192 6 = true := by decide +kernel
theorem vr_192 : zr 192 = (some .int) := rfl
theorem vl_192 : zL 192 = 6 := rfl
theorem v_193 : zCv 193 11 1 = true := by decide +kernel
theorem vs_193 : zCs 193 1 = true := by decide +kernel
theorem vr_193 : zr 193 = (some .int) := rfl
theorem vl_193 : zL 193 = 1 := rfl
theorem v_194 : zCv 194 11 6 = true := by decide +kernel
theorem vs_194 : zCs 194 6 = true := by decide +kernel
theorem vr_194 : zr 194 = (some .int) := rfl
theorem vl_194 : zL 194 = 6 := rfl
theorem v_195 : zCv 195 11 4 = true := by decide +kernel
theorem vs_195 : zCs 195 4 = true := by decide +kernel
theorem vr_195 : zr 195 = (some .int) := rfl
theorem vl_195 : zL 195 = 4 := rfl
theorem v_196 : zCv 196 11 4 = true := by decide +kernel
theorem vs_196 : zCs 196 4 = true := by decide +kernel
theorem vr_196 : zr 196 = (some .int) := rfl
theorem vl_196 : zL 196 = 4 := rfl
theorem v_197 : zCv 197 11 6 = true := by decide +kernel
theorem vs_197 : zCs 197 6 = true := by decide +kernel
theorem vr_197 : zr 197 = none := rfl
theorem vl_197 : zL 197 = 6 := rfl
theorem v_198 : zCv 198 11 2 = true := by decide +kernel
theorem vs_198 : zCs 198 2 = true := by decide +kernel
theorem vr_198 : zr 198 = none := rfl
theorem vl_198 : zL 198 = 2 := rfl
theorem v_199 : zCv 199 11 9 = true := by decide +kernel
theorem vs_199 : zCs 199 9 = true := by decide +kernel
theorem vr_199 : zr 199 = (some .int) := rfl
theorem vl_199 : zL 199 = 9 := rfl
theorem v_200 : zCv 200 11 4 = true := by decide +kernel
theorem vs_200 : zCs 200 4 = true := by decide +kernel
theorem vr_200 : zr 200 = (some .int) := rfl
theorem vl_200 : zL 200 = 4 := rfl
theorem v_201 : zCv 201 11 3 = true := by decide +kernel
theorem vs_201 : zCs 201 3 = true := by decide +kernel
theorem vr_201 : zr 201 = (some .int) := rfl
theorem vl_201 : zL 201 = 3 := rfl
theorem v_202 : zCv 202 11 6 = true := by decide +kernel
theorem vs_202 : zCs 202 6 = true := by decide +kernel
theorem vr_202 : zr 202 = (some .int) := rfl
theorem vl_202 : zL 202 = 6 := rfl
theorem v_203 : zCv 203 11 6 = true := by decide +kernel
theorem vs_203 : zCs 203 6 = true := by decide +kernel
theorem vr_203 : zr 203 = (some .int) := rfl
theorem vl_203 : zL 203 = 6 := rfl
theorem v_204 : zCv 204 11 3 = true := by decide +kernel
theorem vs_204 : zCs 204 3 = true := by decide +kernel
theorem vr_204 : zr 204 = (some .int) := rfl
theorem vl_204 : zL 204 = 3 := rfl
theorem v_205 : zCv 205 11 5 = true := by decide +kernel
theorem vs_205 : zCs 205 5 = true := by decide +kernel
theorem vr_205 : zr 205 = (some .boolean) := rfl
theorem vl_205 : zL 205 = 5 := rfl
theorem v_206 : zCv 206 11 3 = true := by decide +kernel
theorem vs_206 : zCs 206 3 = true := by decide +kernel
theorem vr_206 : zr 206 = (some .int) := rfl
theorem vl_206 : zL 206 = 3 := rfl
theorem v_207 : zCv 207 11 6 = true := by decide +kernel
theorem vs_207 : zCs 207 6 = true := by decide +kernel
theorem vr_207 : zr 207 = (some .int) := rfl
theorem vl_207 : zL 207 = 6 := rfl
theorem v_208 : zCv 208 11 3 = true := by decide +kernel
theorem vs_208 : zCs 208 3 = true := by decide +kernel
theorem vr_208 : zr 208 = (some .int) := rfl
theorem vl_208 : zL 208 = 3 := rfl
theorem v_209 : zCv 209 11 2 = true := by decide +kernel
theorem vs_209 : zCs 209 2 = true := by decide +kernel
theorem vr_209 : zr 209 = (some .int) := rfl
theorem vl_209 : zL 209 = 2 := rfl
theorem v_210 : zCv 210 11 8 = true := by decide +kernel
theorem vs_210 : zCs 210 8 = true := by decide +kernel
theorem vr_210 : zr 210 = (some .boolean) := rfl
theorem vl_210 : zL 210 = 8 := rfl
theorem v_211 : zCv 211 11 8 = true := by decide +kernel
theorem vs_211 : zCs 211 8 = true := by decide +kernel
theorem vr_211 : zr 211 = (some .int) := rfl
theorem vl_211 : zL 211 = 8 := rfl
theorem v_212 : zCv 212 11 5 = true := by decide +kernel
theorem vs_212 : zCs 212 5 = true := by decide +kernel
theorem vr_212 : zr 212 = (some .int) := rfl
theorem vl_212 : zL 212 = 5 := rfl
theorem v_213 : zCv 213 11 10 = true := by decide +kernel
theorem vs_213 : zCs 213 10 = true := by decide +kernel
theorem vr_213 : zr 213 = (some .long) := rfl
theorem vl_213 : zL 213 = 10 := rfl
theorem v_214 : zCv 214 11 7 = true := by decide +kernel
theorem vs_214 : zCs 214 7 = true := by decide +kernel
theorem vr_214 : zr 214 = (some .long) := rfl
theorem vl_214 : zL 214 = 7 := rfl
theorem v_215 : zCv 215 11 3 = true := by decide +kernel
theorem vs_215 : zCs 215 3 = true := by decide +kernel
theorem vr_215 : zr 215 = none := rfl
theorem vl_215 : zL 215 = 3 := rfl
theorem v_216 : zCv 216 11 10 = true := by decide +kernel
theorem vs_216 : zCs 216 10 = true := by decide +kernel
theorem vr_216 : zr 216 = none := rfl
theorem vl_216 : zL 216 = 10 := rfl
theorem v_217 : zCv 217 11 5 = true := by decide +kernel
theorem vs_217 : zCs 217 5 = true := by decide +kernel
theorem vr_217 : zr 217 = (some .long) := rfl
theorem vl_217 : zL 217 = 5 := rfl
theorem v_218 : zCv 218 11 5 = true := by decide +kernel
theorem vs_218 : zCs 218 5 = true := by decide +kernel
theorem vr_218 : zr 218 = (some .long) := rfl
theorem vl_218 : zL 218 = 5 := rfl
theorem v_219 : zCv 219 11 8 = true := by decide +kernel
theorem vs_219 : zCs 219 8 = true := by decide +kernel
theorem vr_219 : zr 219 = (some .int) := rfl
theorem vl_219 : zL 219 = 8 := rfl
theorem v_220 : zCv 220 11 4 = true := by decide +kernel
theorem vs_220 : zCs 220 4 = true := by decide +kernel
theorem vr_220 : zr 220 = none := rfl
theorem vl_220 : zL 220 = 4 := rfl
theorem v_221 : zCv 221 11 3 = true := by decide +kernel
theorem vs_221 : zCs 221 3 = true := by decide +kernel
theorem vr_221 : zr 221 = (some .int) := rfl
theorem vl_221 : zL 221 = 3 := rfl
theorem v_222 : zCv 222 11 2 = true := by decide +kernel
theorem vs_222 : zCs 222 2 = true := by decide +kernel
theorem vr_222 : zr 222 = (some .int) := rfl
theorem vl_222 : zL 222 = 2 := rfl
theorem v_223 : zCv 223 11 2 = true := by decide +kernel
theorem vs_223 : zCs 223 2 = true := by decide +kernel
theorem vr_223 : zr 223 = (some .boolean) := rfl
theorem vl_223 : zL 223 = 2 := rfl
theorem v_224 : zCv 224 11 5 = true := by decide +kernel
theorem vs_224 : zCs 224 5 = true := by decide +kernel
theorem vr_224 : zr 224 = (some .int) := rfl
theorem vl_224 : zL 224 = 5 := rfl
theorem v_225 : zCv 225 11 4 = true := by decide +kernel
theorem vs_225 : zCs 225 4 = true := by decide +kernel
theorem vr_225 : zr 225 = (some .int) := rfl
theorem vl_225 : zL 225 = 4 := rfl
theorem v_226 : zCv 226 11 11 = true := by decide +kernel
theorem vs_226 : zCs 226 11 = true := by decide +kernel
theorem vr_226 : zr 226 = (some .int) := rfl
theorem vl_226 : zL 226 = 11 := rfl
theorem v_227 : zCv 227 11 1 = true := by decide +kernel
theorem vs_227 : zCs 227 1 = true := by decide +kernel
theorem vr_227 : zr 227 = (some .int) := rfl
theorem vl_227 : zL 227 = 1 := rfl
theorem v_228 : zCv 228 11 2 = true := by decide +kernel
theorem vs_228 : zCs 228 2 = true := by decide +kernel
theorem vr_228 : zr 228 = (some .int) := rfl
theorem vl_228 : zL 228 = 2 := rfl
theorem vs_229 : zCs 229 4 = true := by decide +kernel
theorem vr_229 : zr 229 = (some .boolean) := rfl
theorem vl_229 : zL 229 = 4 := rfl
theorem vs_230 : zCs 230 1 = true := by decide +kernel
theorem vr_230 : zr 230 = (some .int) := rfl
theorem vl_230 : zL 230 = 1 := rfl
theorem vs_231 : zCs 231 1 = true := by decide +kernel
theorem vr_231 : zr 231 = (some .int) := rfl
theorem vl_231 : zL 231 = 1 := rfl
theorem vs_232 : zCs 232 2 = true := by decide +kernel
theorem vr_232 : zr 232 = (some .char) := rfl
theorem vl_232 : zL 232 = 2 := rfl
theorem vs_233 : zCs 233 1 = true := by decide +kernel
theorem vr_233 : zr 233 = (some .byte) := rfl
theorem vl_233 : zL 233 = 1 := rfl
theorem vs_234 : zCs 234 1 = true := by decide +kernel
theorem vr_234 : zr 234 = (some .boolean) := rfl
theorem vl_234 : zL 234 = 1 := rfl
theorem vs_235 : zCs 235 2 = true := by decide +kernel
theorem vr_235 : zr 235 = none := rfl
theorem vl_235 : zL 235 = 2 := rfl
theorem vs_236 : zCs 236 2 = true := by decide +kernel
theorem vr_236 : zr 236 = (some .char) := rfl
theorem vl_236 : zL 236 = 2 := rfl
theorem vs_237 : zCs 237 3 = true := by decide +kernel
theorem vr_237 : zr 237 = (some .int) := rfl
theorem vl_237 : zL 237 = 3 := rfl
