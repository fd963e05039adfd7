/-! A WALK OVER THE WORLD -/
/-- where a method's body stands -/
def ZC (G : zG) (mid : Nat) (p : Program) (R : Room) (s : State) (m : MethodId) (args : Array Value) (meth : Method) (c : Code) : Prop :=
  p.tables.exec = Jvm.exec ∧ c.code = zb mid ∧ c.maxLocals = zL mid ∧ s.vm.findClass (zy mid).cls = some m.cls ∧ (∀ w ∈ zbig, w.before args s = true) ∧
  ((zy mid).name = "<init>" → meth.name = "<init>") ∧ zS G s s.heap ∧ zf mid ≤ R.frames ∧ zq mid ≤ R.locals
/-- a heap that holds the world w -/
def ZH (G : zG) (ac : Nat → ClassId) (w : zW) (s : State) (H : Heap) (locs : List Loc) (cells : Nat) : Prop :=
  va_P (gD G) vwCl (zwl G ac w) H ∧ va_S (zA G) s.heap H locs ∧ zK G ac w s ∧ s.heap.size + cells = gb G + w.1.length
/-- an instruction that answers r -/
def zRet (mid pc : Nat) (r : Option Value) : Prop := match r with
  | none => zr mid = none ∧ decode (zb mid) pc = .ok (.return_, 1)
  | some (.int v) => (∃ ty, zr mid = some ty ∧ narrow ty (.int v) = .int v) ∧ decode (zb mid) pc = .ok (.ireturn, 1)
  | some (.long _) => zr mid = some .long ∧ decode (zb mid) pc = .ok (.lreturn, 1)
  | _ => False
/-- from the place pc with locals lo, stack st, world w, with kc cells of ks slots still to be made: the method comes to an answer and a world of which Q holds -/
def ZW (G : zG) (mid pc : Nat) (lo : List (Option Value)) (st : List Value) (w : zW) (kc ks : Nat) (Q : Option Value → zW → Prop) : Prop :=
  ∀ (p : Program) (l : Launch) (e : Env) (R : Room) (s : State) (m : MethodId) (args : Array Value) (below : List Frame) (meth : Method) (c : Code) (H : Heap) (locs : List Loc) (cells slots : Nat) (ac : Nat → ClassId) (ls : Array Slot) (Qf : State → Prop),
    ZC G mid p R s m args meth c → ZH G ac w s H locs cells → cells + kc ≤ R.cells → slots + ks ≤ R.slots → zLh G (zL mid) lo ls →
    (∀ (r : Option Value) (w' : zW) (H' : Heap) (locs' : List Loc) (cells' slots' : Nat) (ac' : Nat → ClassId) (pc' : Nat) (ls' : Array Slot), Q r w' → ZH G ac' w' s H' locs' cells' → cells' ≤ R.cells → slots' ≤ R.slots → zRet mid pc' r →
      W p l e R s m args below meth c H' locs' cells' slots' Qf (F0 m pc' ls' r.toList)) →
    W p l e R s m args below meth c H locs cells slots Qf (F0 m pc ls (st.map (zrl G)))
section ZROWS
variable {G : zG} {mid pc pc' : Nat} {lo : List (Option Value)} {st : List Value} {w : zW} {kc ks : Nat} {Q : Option Value → zW → Prop} {a : List Nat}
/-- an instruction that moves place and stack alone -/
theorem ZW.go {st' : List Value} (h : ∀ (p : Program) (l : Launch) (e : Env) (R : Room) (s : State) (m : MethodId) (args : Array Value) (below : List Frame) (meth : Method) (c : Code) (H : Heap) (locs : List Loc) (cells slots : Nat) (ls : Array Slot) (Qf : State → Prop),
      ZC G mid p R s m args meth c → zLh G (zL mid) lo ls → W p l e R s m args below meth c H locs cells slots Qf (F0 m pc' ls (st'.map (zrl G))) → W p l e R s m args below meth c H locs cells slots Qf (F0 m pc ls (st.map (zrl G))))
    (k : ZW G mid pc' lo st' w kc ks Q) : ZW G mid pc lo st w kc ks Q :=
  fun p l e R s m args below meth c H locs cells slots ac ls Qf C hH h1 h2 hL hret => h p l e R s m args below meth c H locs cells slots ls Qf C hL (k p l e R s m args below meth c H locs cells slots ac ls Qf C hH h1 h2 hL hret)
/-- an instruction that forks -/
theorem ZW.fork {pt pf : Nat} {st' : List Value} {P : Prop} (h : ∀ (p : Program) (l : Launch) (e : Env) (R : Room) (s : State) (m : MethodId) (args : Array Value) (below : List Frame) (meth : Method) (c : Code) (H : Heap) (locs : List Loc) (cells slots : Nat) (ls : Array Slot) (Qf : State → Prop),
      ZC G mid p R s m args meth c → (P → W p l e R s m args below meth c H locs cells slots Qf (F0 m pt ls (st'.map (zrl G)))) → (¬ P → W p l e R s m args below meth c H locs cells slots Qf (F0 m pf ls (st'.map (zrl G)))) → W p l e R s m args below meth c H locs cells slots Qf (F0 m pc ls (st.map (zrl G))))
    (kt : P → ZW G mid pt lo st' w kc ks Q) (kf : ¬ P → ZW G mid pf lo st' w kc ks Q) : ZW G mid pc lo st w kc ks Q :=
  fun p l e R s m args below meth c H locs cells slots ac ls Qf C hH h1 h2 hL hret => h p l e R s m args below meth c H locs cells slots ls Qf C (fun q => kt q p l e R s m args below meth c H locs cells slots ac ls Qf C hH h1 h2 hL hret) (fun q => kf q p l e R s m args below meth c H locs cells slots ac ls Qf C hH h1 h2 hL hret)
/-- a store into the locals -/
theorem ZW.sto {lo' : List (Option Value)} {st' : List Value} (h : ∀ (p : Program) (l : Launch) (e : Env) (R : Room) (s : State) (m : MethodId) (args : Array Value) (below : List Frame) (meth : Method) (c : Code) (H : Heap) (locs : List Loc) (cells slots : Nat) (ls : Array Slot) (Qf : State → Prop),
      ZC G mid p R s m args meth c → zLh G (zL mid) lo ls → (∀ ls' : Array Slot, zLh G (zL mid) lo' ls' → W p l e R s m args below meth c H locs cells slots Qf (F0 m pc' ls' (st'.map (zrl G)))) → W p l e R s m args below meth c H locs cells slots Qf (F0 m pc ls (st.map (zrl G))))
    (k : ZW G mid pc' lo' st' w kc ks Q) : ZW G mid pc lo st w kc ks Q :=
  fun p l e R s m args below meth c H locs cells slots ac ls Qf C hH h1 h2 hL hret => h p l e R s m args below meth c H locs cells slots ls Qf C hL (fun ls' hL' => k p l e R s m args below meth c H locs cells slots ac ls' Qf C hH h1 h2 hL' hret)
theorem ZW.iconst {n : Int} (v : Int32) (h : zIn mid pc pc' (.iconst n) 1 a) (hv : Int32.ofInt n = v) (k : ZW G mid pc' lo (.int v :: st) w kc ks Q) : ZW G mid pc lo st w kc ks Q := by
  obtain ⟨hc, rfl⟩ := id h
  exact ZW.go (fun p l e R s m args below meth c H locs cells slots ls Qf C _ k => lv_iconst C.1 C.2.1 h.dec hv k) k
theorem ZW.bipush {n : Int} (v : Int32) (h : zIn mid pc pc' (.bipush n) 2 a) (hv : (Int8.ofInt n).toInt32 = v) (k : ZW G mid pc' lo (.int v :: st) w kc ks Q) : ZW G mid pc lo st w kc ks Q := by
  obtain ⟨hc, rfl⟩ := id h
  exact ZW.go (fun p l e R s m args below meth c H locs cells slots ls Qf C _ k => lv_bipush C.1 C.2.1 h.dec hv k) k
theorem ZW.sipush {n : Int} (v : Int32) (h : zIn mid pc pc' (.sipush n) 3 a) (hv : (Int16.ofInt n).toInt32 = v) (k : ZW G mid pc' lo (.int v :: st) w kc ks Q) : ZW G mid pc lo st w kc ks Q := by
  obtain ⟨hc, rfl⟩ := id h
  exact ZW.go (fun p l e R s m args below meth c H locs cells slots ls Qf C _ k => lv_sipush C.1 C.2.1 h.dec hv k) k
theorem ZW.lconst {n : Fin 2} (v : Int64) (h : zIn mid pc pc' (.lconst n) 1 a) (hv : Int64.ofNat (n : Nat) = v) (k : ZW G mid pc' lo (.long v :: st) w kc ks Q) : ZW G mid pc lo st w kc ks Q := by
  obtain ⟨hc, rfl⟩ := id h
  exact ZW.go (fun p l e R s m args below meth c H locs cells slots ls Qf C _ k => lv_lconst C.1 C.2.1 h.dec hv k) k
theorem ZW.ldc {idx h0 u : Nat} (v : Int32) (h : zIn mid pc pc' (.ldc idx) 2 [h0, u]) (hv : Int32.ofNat u = v) (k : ZW G mid pc' lo (.int v :: st) w kc ks Q) : ZW G mid pc lo st w kc ks Q := by
  obtain ⟨hc, rfl⟩ := id h
  subst hv
  have hk := zHas_mem (by have := h.ck.2; simpa [zCkI] using this)
  exact ZW.go (fun p l e R s m args below meth c H locs cells slots ls Qf C _ k => lv_ldc C.1 C.2.1 C.2.2.2.1 (C.2.2.2.2.1 _ hk) h.dec k) k
theorem ZW.ldcw {idx h0 u : Nat} (v : Int32) (h : zIn mid pc pc' (.ldc_w idx) 3 [h0, u]) (hv : Int32.ofNat u = v) (k : ZW G mid pc' lo (.int v :: st) w kc ks Q) : ZW G mid pc lo st w kc ks Q := by
  obtain ⟨hc, rfl⟩ := id h
  subst hv
  have hk := zHas_mem (by have := h.ck.2; simpa [zCkI] using this)
  exact ZW.go (fun p l e R s m args below meth c H locs cells slots ls Qf C _ k => lv_ldcw C.1 C.2.1 C.2.2.2.1 (C.2.2.2.2.1 _ hk) h.dec k) k
theorem ZW.ldc2 {idx h0 u : Nat} (v : Int64) (h : zIn mid pc pc' (.ldc2_w idx) 3 [h0, u]) (hv : Int64.ofNat u = v) (k : ZW G mid pc' lo (.long v :: st) w kc ks Q) : ZW G mid pc lo st w kc ks Q := by
  obtain ⟨hc, rfl⟩ := id h
  subst hv
  have hk := zHas_mem (by have := h.ck.2; simpa [zCkI] using this)
  exact ZW.go (fun p l e R s m args below meth c H locs cells slots ls Qf C _ k => lv_ldc2 C.1 C.2.1 C.2.2.2.1 (C.2.2.2.2.1 _ hk) h.dec k) k
theorem ZW.iload_n {n : Fin 4} {x : Int32} (h : zIn mid pc pc' (.iload_n n) 1 a) (hl : lo[(n : Nat)]? = some (some (.int x))) (k : ZW G mid pc' lo (.int x :: st) w kc ks Q) : ZW G mid pc lo st w kc ks Q := by
  obtain ⟨hc, rfl⟩ := id h
  exact ZW.go (fun p l e R s m args below meth c H locs cells slots ls Qf C hL k => lv_iload_n C.1 C.2.1 h.dec rfl (hL.at hl) k) k
theorem ZW.iload {n : Nat} {x : Int32} (h : zIn mid pc pc' (.iload n) 2 a) (hl : lo[n]? = some (some (.int x))) (k : ZW G mid pc' lo (.int x :: st) w kc ks Q) : ZW G mid pc lo st w kc ks Q := by
  obtain ⟨hc, rfl⟩ := id h
  exact ZW.go (fun p l e R s m args below meth c H locs cells slots ls Qf C hL k => lv_iload C.1 C.2.1 h.dec (hL.at hl) k) k
theorem ZW.lload_n {n : Fin 4} {x : Int64} (h : zIn mid pc pc' (.lload_n n) 1 a) (hl : lo[(n : Nat)]? = some (some (.long x))) (k : ZW G mid pc' lo (.long x :: st) w kc ks Q) : ZW G mid pc lo st w kc ks Q := by
  obtain ⟨hc, rfl⟩ := id h
  exact ZW.go (fun p l e R s m args below meth c H locs cells slots ls Qf C hL k => lv_lload_n C.1 C.2.1 h.dec rfl (hL.at hl) k) k
theorem ZW.lload {n : Nat} {x : Int64} (h : zIn mid pc pc' (.lload n) 2 a) (hl : lo[n]? = some (some (.long x))) (k : ZW G mid pc' lo (.long x :: st) w kc ks Q) : ZW G mid pc lo st w kc ks Q := by
  obtain ⟨hc, rfl⟩ := id h
  exact ZW.go (fun p l e R s m args below meth c H locs cells slots ls Qf C hL k => lv_lload C.1 C.2.1 h.dec (hL.at hl) k) k
/-- a reference below a million is a reference of the machine -/
theorem zrl_isref (G : zG) {x : Nat} (hx : x < 1000200) : ∃ q, zrl G (.ref x) = .ref q := by
  unfold zrl
  dsimp only
  split
  · exact ⟨_, rfl⟩
  · split
    · exact ⟨_, rfl⟩
    · split
      · exact ⟨_, rfl⟩
      · exact ⟨_, rfl⟩
theorem ZW.aload_n {n : Fin 4} {x : Nat} (h : zIn mid pc pc' (.aload_n n) 1 a) (hl : lo[(n : Nat)]? = some (some (.ref x))) (k : ZW G mid pc' lo (.ref x :: st) w kc ks Q) : ZW G mid pc lo st w kc ks Q := by
  obtain ⟨hc, rfl⟩ := id h
  refine ZW.go (fun p l e R s m args below meth c H locs cells slots ls Qf C hL k => ?_) k
  have hat := hL.at hl
  cases hz : zrl G (.ref x) with
  | ref q => rw [hz] at hat; rw [List.map_cons, hz] at k; exact lv_aload_n C.1 C.2.1 h.dec rfl hat k
  | null => rw [hz] at hat; rw [List.map_cons, hz] at k; exact lv_aload_nN C.1 C.2.1 h.dec rfl hat k
  | _ =>
    exfalso
    unfold zrl at hz
    dsimp only at hz
    split at hz
    · cases hz
    · split at hz
      · cases hz
      · split at hz
        · cases hz
        · split at hz
          · cases hz
          · cases hg : gv G <;> rw [hg] at hz <;> cases hz
theorem ZW.aload {n : Nat} {x : Nat} (hx : x < 1000200) (h : zIn mid pc pc' (.aload n) 2 a) (hl : lo[n]? = some (some (.ref x))) (k : ZW G mid pc' lo (.ref x :: st) w kc ks Q) : ZW G mid pc lo st w kc ks Q := by
  obtain ⟨hc, rfl⟩ := id h
  refine ZW.go (fun p l e R s m args below meth c H locs cells slots ls Qf C hL k => ?_) k
  have hat := hL.at hl
  obtain ⟨q, hz⟩ := zrl_isref G hx
  rw [hz] at hat
  rw [List.map_cons, hz] at k
  exact lv_aload C.1 C.2.1 h.dec hat k
theorem ZW.istore_n {n : Fin 4} {x : Int32} (lo' : List (Option Value)) (h : zIn mid pc pc' (.istore_n n) 1 a) (hn : (n : Nat) < zL mid) (hl : zst lo n (.int x) = lo') (k : ZW G mid pc' lo' st w kc ks Q) : ZW G mid pc lo (.int x :: st) w kc ks Q := by
  obtain ⟨hc, rfl⟩ := id h
  subst hl
  exact ZW.sto (fun p l e R s m args below meth c H locs cells slots ls Qf C hL k => lv_istore_n C.1 C.2.1 h.dec rfl hL hn rfl (fun ls' h' => k ls' (zLh.st (v := .int x) h'))) k
theorem ZW.istore {n : Nat} {x : Int32} (lo' : List (Option Value)) (h : zIn mid pc pc' (.istore n) 2 a) (hn : n < zL mid) (hl : zst lo n (.int x) = lo') (k : ZW G mid pc' lo' st w kc ks Q) : ZW G mid pc lo (.int x :: st) w kc ks Q := by
  obtain ⟨hc, rfl⟩ := id h
  subst hl
  exact ZW.sto (fun p l e R s m args below meth c H locs cells slots ls Qf C hL k => lv_istore C.1 C.2.1 h.dec hL hn rfl (fun ls' h' => k ls' (zLh.st (v := .int x) h'))) k
theorem ZW.lstore_n {n : Fin 4} {x : Int64} (lo' : List (Option Value)) (h : zIn mid pc pc' (.lstore_n n) 1 a) (hn : (n : Nat) + 1 < zL mid) (hl : zstL lo n (.long x) = lo') (k : ZW G mid pc' lo' st w kc ks Q) : ZW G mid pc lo (.long x :: st) w kc ks Q := by
  obtain ⟨hc, rfl⟩ := id h
  subst hl
  exact ZW.sto (fun p l e R s m args below meth c H locs cells slots ls Qf C hL k => lv_lstore_n C.1 C.2.1 h.dec rfl hL hn rfl (fun ls' h' => k ls' (zLh.stL (v := .long x) h'))) k
theorem ZW.lstore {n : Nat} {x : Int64} (lo' : List (Option Value)) (h : zIn mid pc pc' (.lstore n) 2 a) (hn : n + 1 < zL mid) (hl : zstL lo n (.long x) = lo') (k : ZW G mid pc' lo' st w kc ks Q) : ZW G mid pc lo (.long x :: st) w kc ks Q := by
  obtain ⟨hc, rfl⟩ := id h
  subst hl
  exact ZW.sto (fun p l e R s m args below meth c H locs cells slots ls Qf C hL k => lv_lstore C.1 C.2.1 h.dec hL hn rfl (fun ls' h' => k ls' (zLh.stL (v := .long x) h'))) k
theorem ZW.astore_n {n : Fin 4} {x : Nat} (lo' : List (Option Value)) (hx : x < 1000200) (h : zIn mid pc pc' (.astore_n n) 1 a) (hn : (n : Nat) < zL mid) (hl : zst lo n (.ref x) = lo') (k : ZW G mid pc' lo' st w kc ks Q) : ZW G mid pc lo (.ref x :: st) w kc ks Q := by
  obtain ⟨hc, rfl⟩ := id h
  subst hl
  refine ZW.sto (fun p l e R s m args below meth c H locs cells slots ls Qf C hL k => ?_) k
  obtain ⟨q, hz⟩ := zrl_isref G hx
  rw [List.map_cons, hz]
  exact lv_astore_n C.1 C.2.1 h.dec rfl hL hn rfl (fun ls' h' => k ls' (zLh.st (v := .ref x) (by rw [hz]; exact h')))
theorem ZW.astore {n : Nat} {x : Nat} (lo' : List (Option Value)) (hx : x < 1000200) (h : zIn mid pc pc' (.astore n) 2 a) (hn : n < zL mid) (hl : zst lo n (.ref x) = lo') (k : ZW G mid pc' lo' st w kc ks Q) : ZW G mid pc lo (.ref x :: st) w kc ks Q := by
  obtain ⟨hc, rfl⟩ := id h
  subst hl
  refine ZW.sto (fun p l e R s m args below meth c H locs cells slots ls Qf C hL k => ?_) k
  obtain ⟨q, hz⟩ := zrl_isref G hx
  rw [List.map_cons, hz]
  exact lv_astore C.1 C.2.1 h.dec hL hn rfl (fun ls' h' => k ls' (zLh.st (v := .ref x) (by rw [hz]; exact h')))
theorem ZW.iinc {i : Nat} {n : Int} {x : Int32} (v : Int32) (lo' : List (Option Value)) (h : zIn mid pc pc' (.iinc i n) 3 a) (hx : lo[i]? = some (some (.int x))) (hv : x + Int32.ofInt n = v) (hn : i < zL mid) (hl : zst lo i (.int v) = lo') (k : ZW G mid pc' lo' st w kc ks Q) : ZW G mid pc lo st w kc ks Q := by
  obtain ⟨hc, rfl⟩ := id h
  subst hl
  obtain ⟨j, hj⟩ := List.getElem?_of_mem (zas_mem (G := G) (q := (i, .int x)) |>.mpr ⟨.int x, hx, rfl⟩)
  exact ZW.sto (fun p l e R s m args below meth c H locs cells slots ls Qf C hL k => lv_iinc C.1 C.2.1 h.dec hL hj hv hn rfl (fun ls' h' => k ls' (zLh.st (v := .int v) h'))) k
theorem ZW.iadd {x y : Int32} (h : zIn mid pc pc' .iadd 1 a) (k : ZW G mid pc' lo (.int (x + y) :: st) w kc ks Q) : ZW G mid pc lo (.int y :: .int x :: st) w kc ks Q := by
  obtain ⟨hc, rfl⟩ := id h
  exact ZW.go (fun p l e R s m args below meth c H locs cells slots ls Qf C _ k => lv_iadd C.1 C.2.1 h.dec k) k
theorem ZW.isub {x y : Int32} (h : zIn mid pc pc' .isub 1 a) (k : ZW G mid pc' lo (.int (x - y) :: st) w kc ks Q) : ZW G mid pc lo (.int y :: .int x :: st) w kc ks Q := by
  obtain ⟨hc, rfl⟩ := id h
  exact ZW.go (fun p l e R s m args below meth c H locs cells slots ls Qf C _ k => lv_isub C.1 C.2.1 h.dec k) k
theorem ZW.imul {x y : Int32} (h : zIn mid pc pc' .imul 1 a) (k : ZW G mid pc' lo (.int (x * y) :: st) w kc ks Q) : ZW G mid pc lo (.int y :: .int x :: st) w kc ks Q := by
  obtain ⟨hc, rfl⟩ := id h
  exact ZW.go (fun p l e R s m args below meth c H locs cells slots ls Qf C _ k => lv_imul C.1 C.2.1 h.dec k) k
theorem ZW.iand {x y : Int32} (h : zIn mid pc pc' .iand 1 a) (k : ZW G mid pc' lo (.int (x &&& y) :: st) w kc ks Q) : ZW G mid pc lo (.int y :: .int x :: st) w kc ks Q := by
  obtain ⟨hc, rfl⟩ := id h
  exact ZW.go (fun p l e R s m args below meth c H locs cells slots ls Qf C _ k => lv_iand C.1 C.2.1 h.dec k) k
theorem ZW.ior {x y : Int32} (h : zIn mid pc pc' .ior 1 a) (k : ZW G mid pc' lo (.int (x ||| y) :: st) w kc ks Q) : ZW G mid pc lo (.int y :: .int x :: st) w kc ks Q := by
  obtain ⟨hc, rfl⟩ := id h
  exact ZW.go (fun p l e R s m args below meth c H locs cells slots ls Qf C _ k => lv_ior C.1 C.2.1 h.dec k) k
theorem ZW.ladd {x y : Int64} (h : zIn mid pc pc' .ladd 1 a) (k : ZW G mid pc' lo (.long (x + y) :: st) w kc ks Q) : ZW G mid pc lo (.long y :: .long x :: st) w kc ks Q := by
  obtain ⟨hc, rfl⟩ := id h
  exact ZW.go (fun p l e R s m args below meth c H locs cells slots ls Qf C _ k => lv_ladd C.1 C.2.1 h.dec k) k
theorem ZW.lsub {x y : Int64} (h : zIn mid pc pc' .lsub 1 a) (k : ZW G mid pc' lo (.long (x - y) :: st) w kc ks Q) : ZW G mid pc lo (.long y :: .long x :: st) w kc ks Q := by
  obtain ⟨hc, rfl⟩ := id h
  exact ZW.go (fun p l e R s m args below meth c H locs cells slots ls Qf C _ k => lv_lsub C.1 C.2.1 h.dec k) k
theorem ZW.lmul {x y : Int64} (h : zIn mid pc pc' .lmul 1 a) (k : ZW G mid pc' lo (.long (x * y) :: st) w kc ks Q) : ZW G mid pc lo (.long y :: .long x :: st) w kc ks Q := by
  obtain ⟨hc, rfl⟩ := id h
  exact ZW.go (fun p l e R s m args below meth c H locs cells slots ls Qf C _ k => lv_lmul C.1 C.2.1 h.dec k) k
theorem ZW.idiv {x y : Int32} (h : zIn mid pc pc' .idiv 1 a) (hne : ¬ y = 0) (k : ZW G mid pc' lo (.int (x / y) :: st) w kc ks Q) : ZW G mid pc lo (.int y :: .int x :: st) w kc ks Q := by
  obtain ⟨hc, rfl⟩ := id h
  exact ZW.go (fun p l e R s m args below meth c H locs cells slots ls Qf C _ k => lv_idiv C.1 C.2.1 h.dec hne k) k
theorem ZW.irem {x y : Int32} (h : zIn mid pc pc' .irem 1 a) (hne : ¬ y = 0) (k : ZW G mid pc' lo (.int (x - x / y * y) :: st) w kc ks Q) : ZW G mid pc lo (.int y :: .int x :: st) w kc ks Q := by
  obtain ⟨hc, rfl⟩ := id h
  exact ZW.go (fun p l e R s m args below meth c H locs cells slots ls Qf C _ k => lv_irem C.1 C.2.1 h.dec hne k) k
theorem ZW.ldiv {x y : Int64} (h : zIn mid pc pc' .ldiv 1 a) (hne : ¬ y = 0) (k : ZW G mid pc' lo (.long (x / y) :: st) w kc ks Q) : ZW G mid pc lo (.long y :: .long x :: st) w kc ks Q := by
  obtain ⟨hc, rfl⟩ := id h
  exact ZW.go (fun p l e R s m args below meth c H locs cells slots ls Qf C _ k => lv_ldiv C.1 C.2.1 h.dec hne k) k
theorem ZW.lrem {x y : Int64} (h : zIn mid pc pc' .lrem 1 a) (hne : ¬ y = 0) (k : ZW G mid pc' lo (.long (x - x / y * y) :: st) w kc ks Q) : ZW G mid pc lo (.long y :: .long x :: st) w kc ks Q := by
  obtain ⟨hc, rfl⟩ := id h
  exact ZW.go (fun p l e R s m args below meth c H locs cells slots ls Qf C _ k => lv_lrem C.1 C.2.1 h.dec hne k) k
theorem ZW.ishl {x y : Int32} (h : zIn mid pc pc' .ishl 1 a) (k : ZW G mid pc' lo (.int (x <<< (y &&& 31)) :: st) w kc ks Q) : ZW G mid pc lo (.int y :: .int x :: st) w kc ks Q := by
  obtain ⟨hc, rfl⟩ := id h
  exact ZW.go (fun p l e R s m args below meth c H locs cells slots ls Qf C _ k => lv_ishl C.1 C.2.1 h.dec k) k
theorem ZW.ishr {x y : Int32} (h : zIn mid pc pc' .ishr 1 a) (k : ZW G mid pc' lo (.int (x >>> (y &&& 31)) :: st) w kc ks Q) : ZW G mid pc lo (.int y :: .int x :: st) w kc ks Q := by
  obtain ⟨hc, rfl⟩ := id h
  exact ZW.go (fun p l e R s m args below meth c H locs cells slots ls Qf C _ k => lv_ishr C.1 C.2.1 h.dec k) k
theorem ZW.iushr {x y : Int32} (h : zIn mid pc pc' .iushr 1 a) (k : ZW G mid pc' lo (.int ((x.toUInt32 >>> (y.toUInt32 &&& Int32.toUInt32 31)).toInt32) :: st) w kc ks Q) : ZW G mid pc lo (.int y :: .int x :: st) w kc ks Q := by
  obtain ⟨hc, rfl⟩ := id h
  exact ZW.go (fun p l e R s m args below meth c H locs cells slots ls Qf C _ k => lv_iushr C.1 C.2.1 h.dec rfl k) k
theorem ZW.i2l {x : Int32} (h : zIn mid pc pc' .i2l 1 a) (k : ZW G mid pc' lo (.long x.toInt64 :: st) w kc ks Q) : ZW G mid pc lo (.int x :: st) w kc ks Q := by
  obtain ⟨hc, rfl⟩ := id h
  exact ZW.go (fun p l e R s m args below meth c H locs cells slots ls Qf C _ k => lv_i2l C.1 C.2.1 h.dec rfl k) k
theorem ZW.l2i {x : Int64} (h : zIn mid pc pc' .l2i 1 a) (k : ZW G mid pc' lo (.int x.toInt32 :: st) w kc ks Q) : ZW G mid pc lo (.long x :: st) w kc ks Q := by
  obtain ⟨hc, rfl⟩ := id h
  exact ZW.go (fun p l e R s m args below meth c H locs cells slots ls Qf C _ k => lv_l2i C.1 C.2.1 h.dec rfl k) k
theorem ZW.i2b {x : Int32} (h : zIn mid pc pc' .i2b 1 a) (k : ZW G mid pc' lo (.int x.toInt8.toInt32 :: st) w kc ks Q) : ZW G mid pc lo (.int x :: st) w kc ks Q := by
  obtain ⟨hc, rfl⟩ := id h
  exact ZW.go (fun p l e R s m args below meth c H locs cells slots ls Qf C _ k => lv_i2b C.1 C.2.1 h.dec rfl k) k
theorem ZW.i2s {x : Int32} (h : zIn mid pc pc' .i2s 1 a) (k : ZW G mid pc' lo (.int x.toInt16.toInt32 :: st) w kc ks Q) : ZW G mid pc lo (.int x :: st) w kc ks Q := by
  obtain ⟨hc, rfl⟩ := id h
  exact ZW.go (fun p l e R s m args below meth c H locs cells slots ls Qf C _ k => lv_i2s C.1 C.2.1 h.dec rfl k) k
theorem ZW.i2c {x : Int32} (h : zIn mid pc pc' .i2c 1 a) (k : ZW G mid pc' lo (.int (x.toUInt32 % 65536).toInt32 :: st) w kc ks Q) : ZW G mid pc lo (.int x :: st) w kc ks Q := by
  obtain ⟨hc, rfl⟩ := id h
  exact ZW.go (fun p l e R s m args below meth c H locs cells slots ls Qf C _ k => lv_i2c C.1 C.2.1 h.dec rfl k) k
theorem ZW.lcmp {x y : Int64} (h : zIn mid pc pc' .lcmp 1 a) (k : ZW G mid pc' lo (.int (lg_cmp x y) :: st) w kc ks Q) : ZW G mid pc lo (.long y :: .long x :: st) w kc ks Q := by
  obtain ⟨hc, rfl⟩ := id h
  exact ZW.go (fun p l e R s m args below meth c H locs cells slots ls Qf C _ k => W.lcmp C.1 C.2.1 h.dec k) k
theorem ZW.dup {v : Value} (h : zIn mid pc pc' .dup 1 a) (hv : v.category = 1) (k : ZW G mid pc' lo (v :: v :: st) w kc ks Q) : ZW G mid pc lo (v :: st) w kc ks Q := by
  obtain ⟨hc, rfl⟩ := id h
  exact ZW.go (fun p l e R s m args below meth c H locs cells slots ls Qf C _ k => lv_dup C.1 C.2.1 h.dec ((zrl_cat G v).trans hv) k) k
theorem ZW.pop {v : Value} (h : zIn mid pc pc' .pop 1 a) (hv : v.category = 1) (k : ZW G mid pc' lo (st) w kc ks Q) : ZW G mid pc lo (v :: st) w kc ks Q := by
  obtain ⟨hc, rfl⟩ := id h
  exact ZW.go (fun p l e R s m args below meth c H locs cells slots ls Qf C _ k => lv_pop C.1 C.2.1 h.dec ((zrl_cat G v).trans hv) k) k
theorem ZW.dup2 {u v : Value} (h : zIn mid pc pc' .dup2 1 a) (hu : u.category = 1) (hv : v.category = 1) (k : ZW G mid pc' lo (u :: v :: u :: v :: st) w kc ks Q) : ZW G mid pc lo (u :: v :: st) w kc ks Q := by
  obtain ⟨hc, rfl⟩ := id h
  exact ZW.go (fun p l e R s m args below meth c H locs cells slots ls Qf C _ k => lv_dup2_11 C.1 C.2.1 h.dec ((zrl_cat G u).trans hu) ((zrl_cat G v).trans hv) k) k
theorem ZW.goto {off : Int} {t : Nat} (h : zIn mid pc pc' (.goto off) 3 [t]) (k : ZW G mid t lo st w kc ks Q) : ZW G mid pc lo st w kc ks Q := by
  have ht : (pc : Int) + off = (t : Int) := by have := h.ck.2; simpa [zCkI] using this
  exact ZW.go (fun p l e R s m args below meth c H locs cells slots ls Qf C _ k => lv_goto C.1 C.2.1 h.dec ht k) k
theorem ZW.if_eq {x : Int32} {off : Int} {t : Nat} (h : zIn mid pc pc' (.ifCond .eq off) 3 [t]) (kt : x = 0 → ZW G mid t lo st w kc ks Q) (kf : ¬ x = 0 → ZW G mid pc' lo st w kc ks Q) : ZW G mid pc lo (.int x :: st) w kc ks Q := by
  obtain ⟨hc, rfl⟩ := id h
  have ht : (pc : Int) + off = (t : Int) := by have := h.ck.2; simpa [zCkI] using this
  exact ZW.fork (fun p l e R s m args below meth c H locs cells slots ls Qf C k1 k2 => lv_if_eq C.1 C.2.1 h.dec ht k1 k2) kt kf
theorem ZW.icmp_eq {x y : Int32} {off : Int} {t : Nat} (h : zIn mid pc pc' (.if_icmp .eq off) 3 [t]) (kt : x = y → ZW G mid t lo st w kc ks Q) (kf : ¬ x = y → ZW G mid pc' lo st w kc ks Q) : ZW G mid pc lo (.int y :: .int x :: st) w kc ks Q := by
  obtain ⟨hc, rfl⟩ := id h
  have ht : (pc : Int) + off = (t : Int) := by have := h.ck.2; simpa [zCkI] using this
  exact ZW.fork (fun p l e R s m args below meth c H locs cells slots ls Qf C k1 k2 => lv_icmp_eq C.1 C.2.1 h.dec ht k1 k2) kt kf
theorem ZW.if_lt {x : Int32} {off : Int} {t : Nat} (h : zIn mid pc pc' (.ifCond .lt off) 3 [t]) (kt : x < 0 → ZW G mid t lo st w kc ks Q) (kf : ¬ x < 0 → ZW G mid pc' lo st w kc ks Q) : ZW G mid pc lo (.int x :: st) w kc ks Q := by
  obtain ⟨hc, rfl⟩ := id h
  have ht : (pc : Int) + off = (t : Int) := by have := h.ck.2; simpa [zCkI] using this
  exact ZW.fork (fun p l e R s m args below meth c H locs cells slots ls Qf C k1 k2 => lv_if_lt C.1 C.2.1 h.dec ht k1 k2) kt kf
theorem ZW.icmp_lt {x y : Int32} {off : Int} {t : Nat} (h : zIn mid pc pc' (.if_icmp .lt off) 3 [t]) (kt : x < y → ZW G mid t lo st w kc ks Q) (kf : ¬ x < y → ZW G mid pc' lo st w kc ks Q) : ZW G mid pc lo (.int y :: .int x :: st) w kc ks Q := by
  obtain ⟨hc, rfl⟩ := id h
  have ht : (pc : Int) + off = (t : Int) := by have := h.ck.2; simpa [zCkI] using this
  exact ZW.fork (fun p l e R s m args below meth c H locs cells slots ls Qf C k1 k2 => lv_icmp_lt C.1 C.2.1 h.dec ht k1 k2) kt kf
theorem ZW.if_ge {x : Int32} {off : Int} {t : Nat} (h : zIn mid pc pc' (.ifCond .ge off) 3 [t]) (kt : 0 ≤ x → ZW G mid t lo st w kc ks Q) (kf : ¬ 0 ≤ x → ZW G mid pc' lo st w kc ks Q) : ZW G mid pc lo (.int x :: st) w kc ks Q := by
  obtain ⟨hc, rfl⟩ := id h
  have ht : (pc : Int) + off = (t : Int) := by have := h.ck.2; simpa [zCkI] using this
  exact ZW.fork (fun p l e R s m args below meth c H locs cells slots ls Qf C k1 k2 => lv_if_ge C.1 C.2.1 h.dec ht k1 k2) kt kf
theorem ZW.icmp_ge {x y : Int32} {off : Int} {t : Nat} (h : zIn mid pc pc' (.if_icmp .ge off) 3 [t]) (kt : y ≤ x → ZW G mid t lo st w kc ks Q) (kf : ¬ y ≤ x → ZW G mid pc' lo st w kc ks Q) : ZW G mid pc lo (.int y :: .int x :: st) w kc ks Q := by
  obtain ⟨hc, rfl⟩ := id h
  have ht : (pc : Int) + off = (t : Int) := by have := h.ck.2; simpa [zCkI] using this
  exact ZW.fork (fun p l e R s m args below meth c H locs cells slots ls Qf C k1 k2 => lv_icmp_ge C.1 C.2.1 h.dec ht k1 k2) kt kf
theorem ZW.if_gt {x : Int32} {off : Int} {t : Nat} (h : zIn mid pc pc' (.ifCond .gt off) 3 [t]) (kt : 0 < x → ZW G mid t lo st w kc ks Q) (kf : ¬ 0 < x → ZW G mid pc' lo st w kc ks Q) : ZW G mid pc lo (.int x :: st) w kc ks Q := by
  obtain ⟨hc, rfl⟩ := id h
  have ht : (pc : Int) + off = (t : Int) := by have := h.ck.2; simpa [zCkI] using this
  exact ZW.fork (fun p l e R s m args below meth c H locs cells slots ls Qf C k1 k2 => lv_if_gt C.1 C.2.1 h.dec ht k1 k2) kt kf
theorem ZW.icmp_gt {x y : Int32} {off : Int} {t : Nat} (h : zIn mid pc pc' (.if_icmp .gt off) 3 [t]) (kt : y < x → ZW G mid t lo st w kc ks Q) (kf : ¬ y < x → ZW G mid pc' lo st w kc ks Q) : ZW G mid pc lo (.int y :: .int x :: st) w kc ks Q := by
  obtain ⟨hc, rfl⟩ := id h
  have ht : (pc : Int) + off = (t : Int) := by have := h.ck.2; simpa [zCkI] using this
  exact ZW.fork (fun p l e R s m args below meth c H locs cells slots ls Qf C k1 k2 => lv_icmp_gt C.1 C.2.1 h.dec ht k1 k2) kt kf
theorem ZW.if_le {x : Int32} {off : Int} {t : Nat} (h : zIn mid pc pc' (.ifCond .le off) 3 [t]) (kt : x ≤ 0 → ZW G mid t lo st w kc ks Q) (kf : ¬ x ≤ 0 → ZW G mid pc' lo st w kc ks Q) : ZW G mid pc lo (.int x :: st) w kc ks Q := by
  obtain ⟨hc, rfl⟩ := id h
  have ht : (pc : Int) + off = (t : Int) := by have := h.ck.2; simpa [zCkI] using this
  exact ZW.fork (fun p l e R s m args below meth c H locs cells slots ls Qf C k1 k2 => lv_if_le C.1 C.2.1 h.dec ht k1 k2) kt kf
theorem ZW.icmp_le {x y : Int32} {off : Int} {t : Nat} (h : zIn mid pc pc' (.if_icmp .le off) 3 [t]) (kt : x ≤ y → ZW G mid t lo st w kc ks Q) (kf : ¬ x ≤ y → ZW G mid pc' lo st w kc ks Q) : ZW G mid pc lo (.int y :: .int x :: st) w kc ks Q := by
  obtain ⟨hc, rfl⟩ := id h
  have ht : (pc : Int) + off = (t : Int) := by have := h.ck.2; simpa [zCkI] using this
  exact ZW.fork (fun p l e R s m args below meth c H locs cells slots ls Qf C k1 k2 => lv_icmp_le C.1 C.2.1 h.dec ht k1 k2) kt kf
theorem ZW.if_ne {x : Int32} {off : Int} {t : Nat} (h : zIn mid pc pc' (.ifCond .ne off) 3 [t]) (kt : ¬ x = 0 → ZW G mid t lo st w kc ks Q) (kf : x = 0 → ZW G mid pc' lo st w kc ks Q) : ZW G mid pc lo (.int x :: st) w kc ks Q := by
  obtain ⟨hc, rfl⟩ := id h
  have ht : (pc : Int) + off = (t : Int) := by have := h.ck.2; simpa [zCkI] using this
  exact ZW.fork (P := x = 0) (fun p l e R s m args below meth c H locs cells slots ls Qf C k1 k2 => lv_if_ne C.1 C.2.1 h.dec ht k2 k1) kf kt
theorem ZW.icmp_ne {x y : Int32} {off : Int} {t : Nat} (h : zIn mid pc pc' (.if_icmp .ne off) 3 [t]) (kt : ¬ x = y → ZW G mid t lo st w kc ks Q) (kf : x = y → ZW G mid pc' lo st w kc ks Q) : ZW G mid pc lo (.int y :: .int x :: st) w kc ks Q := by
  obtain ⟨hc, rfl⟩ := id h
  have ht : (pc : Int) + off = (t : Int) := by have := h.ck.2; simpa [zCkI] using this
  exact ZW.fork (P := x = y) (fun p l e R s m args below meth c H locs cells slots ls Qf C k1 k2 => lv_icmp_ne C.1 C.2.1 h.dec ht k2 k1) kf kt
theorem ZW.tabOut {dflt low high : Int} {offs : Array Int} {len : Nat} {x : Int32} (t : Nat) (h : zIn mid pc pc' (.tableswitch dflt low high offs) len a) (hx : x.toInt < low ∨ high < x.toInt) (ht : (pc : Int) + dflt = (t : Int)) (k : ZW G mid t lo st w kc ks Q) : ZW G mid pc lo (.int x :: st) w kc ks Q :=
  ZW.go (fun p l e R s m args below meth c H locs cells slots ls Qf C _ k => lv_tableOut C.1 C.2.1 h.dec hx ht k) k
theorem ZW.tabIn {dflt low high : Int} {offs : Array Int} {len : Nat} {x : Int32} {off : Int} (t : Nat) (h : zIn mid pc pc' (.tableswitch dflt low high offs) len a) (h1 : ¬ x.toInt < low) (h2 : ¬ high < x.toInt) (ho : offs[(x.toInt - low).toNat]? = some off) (ht : (pc : Int) + off = (t : Int)) (k : ZW G mid t lo st w kc ks Q) : ZW G mid pc lo (.int x :: st) w kc ks Q :=
  ZW.go (fun p l e R s m args below meth c H locs cells slots ls Qf C _ k => lv_tableIn C.1 C.2.1 h.dec h1 h2 ho ht k) k
theorem ZW.iret {v : Int32} {ty : FieldType} (h : zIn mid pc pc' .ireturn 1 a) (hr : zr mid = some ty) (hn : narrow ty (.int v) = .int v) (hq : Q (some (.int v)) w) : ZW G mid pc lo [.int v] w 0 0 Q :=
  fun p l e R s m args below meth c H locs cells slots ac ls Qf C hH h1 h2 hL hret => hret (some (.int v)) w H locs cells slots ac pc ls hq hH h1 h2 ⟨⟨ty, hr, hn⟩, h.dec⟩
theorem ZW.lret {v : Int64} (h : zIn mid pc pc' .lreturn 1 a) (hr : zr mid = some .long) (hq : Q (some (.long v)) w) : ZW G mid pc lo [.long v] w 0 0 Q :=
  fun p l e R s m args below meth c H locs cells slots ac ls Qf C hH h1 h2 hL hret => hret (some (.long v)) w H locs cells slots ac pc ls hq hH h1 h2 ⟨hr, h.dec⟩
theorem ZW.vret (h : zIn mid pc pc' .return_ 1 a) (hr : zr mid = none) (hq : Q none w) : ZW G mid pc lo [] w 0 0 Q :=
  fun p l e R s m args below meth c H locs cells slots ac ls Qf C hH h1 h2 hL hret => hret none w H locs cells slots ac pc ls hq hH h1 h2 ⟨hr, h.dec⟩
theorem ZW.mono {Q' : Option Value → zW → Prop} (h : ∀ r w', Q r w' → Q' r w') (k : ZW G mid pc lo st w kc ks Q) : ZW G mid pc lo st w kc ks Q' :=
  fun p l e R s m args below meth c H locs cells slots ac ls Qf C hH h1 h2 hL hret => k p l e R s m args below meth c H locs cells slots ac ls Qf C hH h1 h2 hL (fun r w' H' locs' cells' slots' ac' pc' ls' hq => hret r w' H' locs' cells' slots' ac' pc' ls' (h r w' hq))
theorem ZW.locs {lo' : List (Option Value)} (hs : ∀ (i : Nat) (v : Value), lo'[i]? = some (some v) → lo[i]? = some (some v)) (k : ZW G mid pc lo' st w kc ks Q) : ZW G mid pc lo st w kc ks Q :=
  fun p l e R s m args below meth c H locs cells slots ac ls Qf C hH h1 h2 hL hret => k p l e R s m args below meth c H locs cells slots ac ls Qf C hH h1 h2 (hL.sub hs) hret
theorem zce_obj {ac : Nat → ClassId} {q ci n : Nat} (h : ci < 12) : zce G ac w q (ci, n) = .inr (ci, (List.range (zcl ci).2.2).map (zfv G ci w q)) := if_pos h
theorem zce_arr {ac : Nat → ClassId} {q c n : Nat} (h : 12 ≤ c) (h2 : c < 53) : zce G ac w q (c, n) = .inl (ac q, n, .inl (w.2.1 q)) := by
  unfold zce
  rw [if_neg (by show ¬ c < 12; omega), if_pos h2]
theorem zce_ref {ac : Nat → ClassId} {q c n : Nat} (h2 : 53 ≤ c) : zce G ac w q (c, n) = .inl (ac q, n, .inr (.inr (.inr (.inr (fun j => (w.2.2.2 q j).map (fun r => gb G + r)))))) := by
  unfold zce
  rw [if_neg (by show ¬ c < 12; omega), if_neg (by show ¬ c < 53; omega)]
theorem ZC.hA {p : Program} {R : Room} {s : State} {m : MethodId} {args : Array Value} {meth : Method} {c : Code} (C : ZC G mid p R s m args meth c) : ∀ q, s.heap.size ≤ q → zA G q := fun q h => by
  have := C.2.2.2.2.2.2.1.2.2.1
  show gb G ≤ q
  omega
/-- a field is read -/
theorem ZW.getf {idx ci k h0 q n : Nat} (v : Value) (h : zIn mid pc pc' (.getfield idx) 3 [ci, k, h0]) (hc : ci < 12) (hM : w.1[q]? = some (ci, n)) (hq : q < 1000000) (hv : zfv G ci w q k = zrl G v) (kk : ZW G mid pc' lo (v :: st) w kc ks Q) : ZW G mid pc lo (.ref q :: st) w kc ks Q := by
  obtain ⟨-, rfl⟩ := id h
  have hck := h.ck.2
  have hne : ¬ ci = 99 := by omega
  simp only [zCkI, zFld, List.getD_cons_zero, List.getD_cons_succ, hne, if_false, Bool.and_eq_true, decide_eq_true_eq] at hck
  obtain ⟨-, hk, hl⟩ := hck
  intro p l e R s m args below meth c H locs cells slots ac ls Qf C hH h1 h2 hL hret
  have hP := hH.1
  have key := kk p l e R s m args below meth c H locs cells slots ac ls Qf C hH h1 h2 hL hret
  rw [List.map_cons, ← hv] at key
  rw [List.map_cons, zrl_ref G hq]
  have he := zwl_at (G := G) (ac := ac) hM
  rw [zce_obj hc] at he
  exact va_get (C := (zcl ci).1) (T := (zcl ci).2.1) (N := (zcl ci).2.2) C.1 C.2.1 C.2.2.2.2.1 (zcl_ws ci hc) C.2.2.2.1 hH.2.2.1.1 hP q he (zcl_at ci hc) k hk (C.2.2.2.2.1 _ (zHas_mem hl)) (fun _ h9 => h9) (by rw [List.getElem?_map, List.getElem?_range hk]; rfl) h.dec key
def zfk (ci k : Nat) : Nat := match zty ci k with
  | .long => 1
  | .int => 0
  | .boolean => 0
  | _ => 2
theorem zfv_0 {ci k q : Nat} (h : zfk ci k = 0) : zfv G ci w q k = .int (w.2.1 q k) := by
  unfold zfk at h
  unfold zfv
  split at h
  · cases h
  · rename_i e; rw [e]
  · rename_i e; rw [e]
  · cases h
theorem zfv_1 {ci k q : Nat} (h : zfk ci k = 1) : zfv G ci w q k = .long (w.2.2.1 q k) := by
  unfold zfk at h
  unfold zfv
  split at h
  · rename_i e; rw [e]
  · cases h
  · cases h
  · cases h
theorem zfv_2 {ci k q : Nat} (h : zfk ci k = 2) : zfv G ci w q k = va_rf ((w.2.2.2 q k).map (fun r => gb G + r)) := by
  unfold zfk at h
  unfold zfv
  split at h
  · cases h
  · cases h
  · cases h
  · rename_i e1 e2 e3
    split
    · rename_i e; exact absurd e e1
    · rename_i e; exact absurd e e2
    · rename_i e; exact absurd e e3
    · rfl
theorem ZW.getI {idx ci k h0 q n : Nat} (h : zIn mid pc pc' (.getfield idx) 3 [ci, k, h0]) (hc : ci < 12) (hf : zfk ci k = 0) (hM : w.1[q]? = some (ci, n)) (hq : q < 1000000) (kk : ZW G mid pc' lo (.int (w.2.1 q k) :: st) w kc ks Q) : ZW G mid pc lo (.ref q :: st) w kc ks Q :=
  ZW.getf (.int (w.2.1 q k)) h hc hM hq (zfv_0 hf) kk
theorem ZW.getL {idx ci k h0 q n : Nat} (h : zIn mid pc pc' (.getfield idx) 3 [ci, k, h0]) (hc : ci < 12) (hf : zfk ci k = 1) (hM : w.1[q]? = some (ci, n)) (hq : q < 1000000) (kk : ZW G mid pc' lo (.long (w.2.2.1 q k) :: st) w kc ks Q) : ZW G mid pc lo (.ref q :: st) w kc ks Q :=
  ZW.getf (.long (w.2.2.1 q k)) h hc hM hq (zfv_1 hf) kk
theorem ZW.getR {idx ci k h0 q n r : Nat} (h : zIn mid pc pc' (.getfield idx) 3 [ci, k, h0]) (hc : ci < 12) (hf : zfk ci k = 2) (hM : w.1[q]? = some (ci, n)) (hq : q < 1000000) (hr : w.2.2.2 q k = some r) (hr2 : r < 1000000) (kk : ZW G mid pc' lo (.ref r :: st) w kc ks Q) : ZW G mid pc lo (.ref q :: st) w kc ks Q :=
  ZW.getf (.ref r) h hc hM hq (by rw [zfv_2 hf, hr, zrl_ref G hr2]; rfl) kk
end ZROWS
