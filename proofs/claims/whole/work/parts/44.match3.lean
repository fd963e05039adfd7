/-! PAIRS FOR SPOONS: both sides -/
section MATCH2
variable {G : zG} {A : zQs} {I : zI} {L : zJ} {Q : zP} {x : Int32}
theorem zsub10 (x : Int32) : (x - nI 10).toInt = x.toInt - 10 ∨ (x - nI 10).toInt = x.toInt - 10 + 4294967296 := by
  have h1 := fb_rngZ x
  rw [Int32.toInt_sub, nI_toInt (by decide), Int.bmod_def]
  omega
/-- the first matching is there -/
theorem bst_some (S : zSo) : ∀ l : List (List Nat), l ≠ [] → ∃ y, bst S l = some y := by
  have step : ∀ (l : List (List Nat)) (o : Option (List Nat × Nat)), (o = none → l ≠ []) → ∃ y, l.foldl (bsp S) o = some y := by
    intro l
    induction l with
    | nil =>
      intro o h
      cases o with
      | none => exact absurd rfl (h rfl)
      | some y => exact ⟨y, rfl⟩
    | cons z t ih =>
      intro o h
      refine ih _ (fun z2 => ?_)
      exfalso
      unfold bsp at z2
      split at z2
      · exact absurd z2 (by simp)
      · split at z2
        · exact absurd z2 (by simp)
        · exact absurd z2 (by simp)
  intro l hl
  exact step l none (fun _ => hl)
theorem mateL_ne {m : Nat} (h : m ≤ 5) : mateL m ≠ [] := by
  have : ∀ m, m < 6 → mateL m ≠ [] := by decide +kernel
  exact this m (by omega)
/-- the reference's best so far: its sum, its code -/
def MR (m : Nat) (o : Option (List Nat × Nat)) (v : Int32) (f : Nat) : Prop := v = bsV o ∧ f < 6 ^ m ∧ ∀ x s, o = some (x, s) → mtR m f = some x
theorem pow6_le {m : Nat} (h : m ≤ 5) : 6 ^ m ≤ 7776 ∧ 0 < 6 ^ m := ⟨Nat.pow_le_pow_right (n := 6) (by decide) h, Nat.pow_pos (by decide)⟩
theorem mtR_eq {m f : Nat} {x : List Nat} (h : mtR m f = some x) : x = (List.range m).map (dgt m f) := by
  unfold mtR at h
  split at h
  · exact (Option.some.inj h).symm
  · exact absurd h (by simp)
theorem c_matchLoopM {w : Int32} (ho : Ao A)
    (hend : ∀ I2 f, PicM A I2 → FrM I I2 → MR (sn (kS (aK A))) (bst (kS (aK A)) (mateL (sn (kS (aK A))))) (bsV (bst (kS (aK A)) (mateL (sn (kS (aK A)))))) f → Zp G 207 88 [some (.ref 93), some (.int w), some (.int (bsV (bst (kS (aK A)) (mateL (sn (kS (aK A))))))), some (.int (nI f)), none, none] [] I2 L Q) :
    ∀ k i (I1 : zI) (v : Int32) (f : Nat), i + k = 6 ^ sn (kS (aK A)) → MR (sn (kS (aK A))) (bst (kS (aK A)) ((List.range i).filterMap (mtR (sn (kS (aK A)))))) v f → PicM A I1 → Mp (I1 95) (kS (aK A)) → FrM I I1 → Zp G 207 28 [some (.ref 93), some (.int w), some (.int v), some (.int (nI f)), some (.int (nI i)), none] [] I1 L Q := by
  obtain ⟨⟨so, sz, sst, lo, po, eo⟩, ok0, ok1, oi0, oi1, ot, ob, of_, or_, oh⟩ := id ho
  obtain ⟨o1, o2, o3, o4, o5, o6, o7⟩ := id so
  obtain ⟨p1, p2, p3⟩ := id lo
  obtain ⟨u1, u2⟩ := id po
  obtain ⟨e1, e2⟩ := id eo
  have p6 := pow6_le o1
  intro k
  induction k with
  | zero =>
    intro i I1 v f hi hb pm1 mp1 f1
    have e : i = 6 ^ sn (kS (aK A)) := by omega
    subst e
    rw [mate_eq o1] at hb
    have hv := hb.1
    subst hv
    have m3 : I1 93 3 = nI (sn (kS (aK A))) := pm1.1
    refine Zp.iload k_207_28 rfl ?_
    refine Zp.aload_n k_207_30 rfl ?_
    refine Zp.callv0I v_204 k_207_31 m_93 (Nat.le_of_ble_eq_true rfl) (Nat.le_of_ble_eq_true rfl) (c_codesM m3 o1 ⟨_, rfl, ?_⟩)
    refine Zp.icmp_geN k_207_34 (by omega) (by omega) (fun c_34 => ?_) (fun c_34 => absurd c_34 (by omega))
    exact Zp.locs _ (zle_sub (by simp [zle])) (hend I1 f pm1 f1 hb)
  | succ k ih =>
    intro i I1 v f hi hb pm1 mp1 f1
    have m3 : I1 93 3 = nI (sn (kS (aK A))) := pm1.1
    obtain ⟨hv, hf, hx⟩ := id hb
    have blt := bst_lt so ((List.range i).filterMap (mtR (sn (kS (aK A)))))
    have no : ∀ I2 : zI, mtR (sn (kS (aK A))) i = none → (∀ q, q ≠ 106 → I2 q = I1 q) → Zp G 207 43 [some (.ref 93), some (.int w), some (.int v), some (.int (nI f)), some (.int (nI i)), none] [.int (nI 0)] I2 L Q := by
      intro I2 hn f2
      have hb2 : MR (sn (kS (aK A))) (bst (kS (aK A)) ((List.range (i + 1)).filterMap (mtR (sn (kS (aK A)))))) v f := by rw [bst_no hn]; exact hb
      have pm2 : PicM A I2 := pm1.fr (by rw [f2 93 (by decide)]) (by rw [f2 93 (by decide)]) (by rw [f2 93 (by decide)]) (by rw [f2 93 (by decide)]) (by rw [f2 93 (by decide)]) (fun q h => f2 q (by omega))
      have hvt : -1 ≤ v.toInt := by
        rw [hv]
        rcases bsV_t blt with z | z
        · omega
        · obtain ⟨x, s, _, e⟩ := z; omega
      refine Zp.if_eqN k_207_43 (by omega) (fun _ => ?_) (fun c => absurd c (by decide))
      refine Zp.iconst (-1) k_207_53 (by decide) ?_
      refine Zp.istore [some (.ref _), some (.int _), some (.int _), some (.int _), some (.int _), some (.int _)] k_207_54 (Nat.lt_of_lt_of_eq (zlt rfl : 5 < 6) vl_207.symm) rfl ?_
      refine Zp.iload k_207_56 rfl ?_
      refine Zp.iload_n k_207_58 rfl ?_
      refine Zp.icmp_leZ (-1) _ k_207_59 (by decide) rfl (fun c_59 => ?_) (fun c_59 => absurd c_59 (by omega))
      refine Zp.iload_n k_207_67 rfl ?_
      refine Zp.istore_n [some (.ref _), some (.int _), some (.int _), some (.int _), some (.int _), some (.int _)] k_207_68 (Nat.lt_of_lt_of_eq (zlt rfl : 3 < 6) vl_207.symm) rfl ?_
      refine Zp.iload k_207_69 rfl ?_
      refine Zp.iload_n k_207_71 rfl ?_
      refine Zp.icmp_leZ (-1) _ k_207_72 (by decide) rfl (fun c_72 => ?_) (fun c_72 => absurd c_72 (by omega))
      refine Zp.iload_n k_207_80 rfl ?_
      refine Zp.istore_n [some (.ref _), some (.int _), some (.int _), some (.int _), some (.int _), some (.int _)] k_207_81 (Nat.lt_of_lt_of_eq (zlt rfl : 2 < 6) vl_207.symm) rfl ?_
      refine Zp.iinc (nI (_ + 1)) [some (.ref _), some (.int _), some (.int _), some (.int _), some (.int _), some (.int _)] k_207_82 rfl (nI_1 _) (Nat.lt_of_lt_of_eq (zlt rfl : 4 < 6) vl_207.symm) rfl ?_
      refine Zp.goto k_207_85 ?_
      exact Zp.locs _ (zle_sub (by simp [zle])) (ih (i + 1) I2 v f (by omega) hb2 pm2 (by rw [f2 95 (by decide)]; exact mp1) (fun q h => (f2 q (by omega)).trans (f1 q h)))
    have yes : ∀ I2 : zI, mtR (sn (kS (aK A))) i = some ((List.range (sn (kS (aK A)))).map (dgt (sn (kS (aK A))) i)) → (∀ a, a < sn (kS (aK A)) → dgt (sn (kS (aK A))) i a ≤ sn (kS (aK A))) → (∀ a, a < sn (kS (aK A)) → I2 106 a = wM (dgt (sn (kS (aK A))) i a)) → (∀ q, q ≠ 106 → I2 q = I1 q) → Zp G 207 43 [some (.ref 93), some (.int w), some (.int v), some (.int (nI f)), some (.int (nI i)), none] [.int (nI 1)] I2 L Q := by
      intro I2 hn hle h106 f2
      have pm2 : PicM A I2 := pm1.fr (by rw [f2 93 (by decide)]) (by rw [f2 93 (by decide)]) (by rw [f2 93 (by decide)]) (by rw [f2 93 (by decide)]) (by rw [f2 93 (by decide)]) (fun q h => f2 q (by omega))
      have mp2 : Mp (I2 95) (kS (aK A)) := by rw [f2 95 (by decide)]; exact mp1
      have hsm : sm (ctr (kS (aK A)) fun a => ((List.range (sn (kS (aK A)))).map (dgt (sn (kS (aK A))) i)).getD a 0) (sn (kS (aK A))) = sm (ctr (kS (aK A)) (dgt (sn (kS (aK A))) i)) (sn (kS (aK A))) := sm_cong _ fun j hj => by
        show (if j + 1 < ((List.range (sn (kS (aK A)))).map (dgt (sn (kS (aK A))) i)).getD j 0 then tn (kS (aK A)) j (((List.range (sn (kS (aK A)))).map (dgt (sn (kS (aK A))) i)).getD j 0 - 1) else 0) = _
        rw [mapr_at hj]
        rfl
      have hsl := sm_le (f := ctr (kS (aK A)) (dgt (sn (kS (aK A))) i)) (m := 18) (ctr_le so _) (sn (kS (aK A)))
      have by_ := bst_yes (S := kS (aK A)) (g := mtR (sn (kS (aK A)))) hn
      have hbl := fun h => (by_.trans (bsp_less (by rw [hsm]; exact h) blt))
      have hbm := fun h => (by_.trans (bsp_more (by rw [hsm]; exact h) blt))
      rw [hsm] at hbm
      rw [← hv] at hbl hbm
      refine Zp.if_eqN k_207_43 (by omega) (fun c => absurd c (by decide)) (fun _ => ?_)
      refine Zp.aload_n k_207_46 rfl ?_
      refine Zp.callv0I v_206 k_207_47 m_93 (Nat.le_of_ble_eq_true rfl) (Nat.le_of_ble_eq_true rfl) (c_turnsNowM mp2 so pm2.1 h106 hle ⟨_, rfl, ?_⟩)
      refine Zp.goto k_207_50 ?_
      refine Zp.istore [some (.ref _), some (.int _), some (.int _), some (.int _), some (.int _), some (.int _)] k_207_54 (Nat.lt_of_lt_of_eq (zlt rfl : 5 < 6) vl_207.symm) rfl ?_
      refine Zp.iload k_207_56 rfl ?_
      refine Zp.iload_n k_207_58 rfl ?_
      refine Zp.icmp_leZ _ _ k_207_59 (nI_toInt (by omega)) rfl (fun c_59 => ?_) (fun c_59 => ?_)
      · refine Zp.iload_n k_207_67 rfl ?_
        refine Zp.istore_n [some (.ref _), some (.int _), some (.int _), some (.int _), some (.int _), some (.int _)] k_207_68 (Nat.lt_of_lt_of_eq (zlt rfl : 3 < 6) vl_207.symm) rfl ?_
        refine Zp.iload k_207_69 rfl ?_
        refine Zp.iload_n k_207_71 rfl ?_
        refine Zp.icmp_leZ _ _ k_207_72 (nI_toInt (by omega)) rfl (fun c_72 => ?_) (fun c_72 => ?_)
        · refine Zp.iload_n k_207_80 rfl ?_
          refine Zp.istore_n [some (.ref _), some (.int _), some (.int _), some (.int _), some (.int _), some (.int _)] k_207_81 (Nat.lt_of_lt_of_eq (zlt rfl : 2 < 6) vl_207.symm) rfl ?_
          refine Zp.iinc (nI (_ + 1)) [some (.ref _), some (.int _), some (.int _), some (.int _), some (.int _), some (.int _)] k_207_82 rfl (nI_1 _) (Nat.lt_of_lt_of_eq (zlt rfl : 4 < 6) vl_207.symm) rfl ?_
          refine Zp.goto k_207_85 ?_
          first
            | (exfalso; omega)
            | (have e := hbl (by omega)
               exact Zp.locs _ (zle_sub (by simp [zle])) (ih (i + 1) I2 v f (by omega) (by rw [e]; exact hb) pm2 mp2 (fun q h => (f2 q (by omega)).trans (f1 q h))))
            | (have e := hbm (by omega)
               exact Zp.locs _ (zle_sub (by simp [zle])) (ih (i + 1) I2 (nI (sm (ctr (kS (aK A)) (dgt (sn (kS (aK A))) i)) (sn (kS (aK A))))) i (by omega) (by rw [e]; exact ⟨rfl, by omega, fun x s hx => by rw [hn]; exact congrArg some (congrArg Prod.fst (Option.some.inj hx))⟩) pm2 mp2 (fun q h => (f2 q (by omega)).trans (f1 q h))))
        · refine Zp.iload k_207_75 rfl ?_
          refine Zp.goto k_207_77 ?_
          refine Zp.istore_n [some (.ref _), some (.int _), some (.int _), some (.int _), some (.int _), some (.int _)] k_207_81 (Nat.lt_of_lt_of_eq (zlt rfl : 2 < 6) vl_207.symm) rfl ?_
          refine Zp.iinc (nI (_ + 1)) [some (.ref _), some (.int _), some (.int _), some (.int _), some (.int _), some (.int _)] k_207_82 rfl (nI_1 _) (Nat.lt_of_lt_of_eq (zlt rfl : 4 < 6) vl_207.symm) rfl ?_
          refine Zp.goto k_207_85 ?_
          first
            | (exfalso; omega)
            | (have e := hbl (by omega)
               exact Zp.locs _ (zle_sub (by simp [zle])) (ih (i + 1) I2 v f (by omega) (by rw [e]; exact hb) pm2 mp2 (fun q h => (f2 q (by omega)).trans (f1 q h))))
            | (have e := hbm (by omega)
               exact Zp.locs _ (zle_sub (by simp [zle])) (ih (i + 1) I2 (nI (sm (ctr (kS (aK A)) (dgt (sn (kS (aK A))) i)) (sn (kS (aK A))))) i (by omega) (by rw [e]; exact ⟨rfl, by omega, fun x s hx => by rw [hn]; exact congrArg some (congrArg Prod.fst (Option.some.inj hx))⟩) pm2 mp2 (fun q h => (f2 q (by omega)).trans (f1 q h))))
      · refine Zp.iload k_207_62 rfl ?_
        refine Zp.goto k_207_64 ?_
        refine Zp.istore_n [some (.ref _), some (.int _), some (.int _), some (.int _), some (.int _), some (.int _)] k_207_68 (Nat.lt_of_lt_of_eq (zlt rfl : 3 < 6) vl_207.symm) rfl ?_
        refine Zp.iload k_207_69 rfl ?_
        refine Zp.iload_n k_207_71 rfl ?_
        refine Zp.icmp_leZ _ _ k_207_72 (nI_toInt (by omega)) rfl (fun c_72 => ?_) (fun c_72 => ?_)
        · refine Zp.iload_n k_207_80 rfl ?_
          refine Zp.istore_n [some (.ref _), some (.int _), some (.int _), some (.int _), some (.int _), some (.int _)] k_207_81 (Nat.lt_of_lt_of_eq (zlt rfl : 2 < 6) vl_207.symm) rfl ?_
          refine Zp.iinc (nI (_ + 1)) [some (.ref _), some (.int _), some (.int _), some (.int _), some (.int _), some (.int _)] k_207_82 rfl (nI_1 _) (Nat.lt_of_lt_of_eq (zlt rfl : 4 < 6) vl_207.symm) rfl ?_
          refine Zp.goto k_207_85 ?_
          first
            | (exfalso; omega)
            | (have e := hbl (by omega)
               exact Zp.locs _ (zle_sub (by simp [zle])) (ih (i + 1) I2 v f (by omega) (by rw [e]; exact hb) pm2 mp2 (fun q h => (f2 q (by omega)).trans (f1 q h))))
            | (have e := hbm (by omega)
               exact Zp.locs _ (zle_sub (by simp [zle])) (ih (i + 1) I2 (nI (sm (ctr (kS (aK A)) (dgt (sn (kS (aK A))) i)) (sn (kS (aK A))))) i (by omega) (by rw [e]; exact ⟨rfl, by omega, fun x s hx => by rw [hn]; exact congrArg some (congrArg Prod.fst (Option.some.inj hx))⟩) pm2 mp2 (fun q h => (f2 q (by omega)).trans (f1 q h))))
        · refine Zp.iload k_207_75 rfl ?_
          refine Zp.goto k_207_77 ?_
          refine Zp.istore_n [some (.ref _), some (.int _), some (.int _), some (.int _), some (.int _), some (.int _)] k_207_81 (Nat.lt_of_lt_of_eq (zlt rfl : 2 < 6) vl_207.symm) rfl ?_
          refine Zp.iinc (nI (_ + 1)) [some (.ref _), some (.int _), some (.int _), some (.int _), some (.int _), some (.int _)] k_207_82 rfl (nI_1 _) (Nat.lt_of_lt_of_eq (zlt rfl : 4 < 6) vl_207.symm) rfl ?_
          refine Zp.goto k_207_85 ?_
          first
            | (exfalso; omega)
            | (have e := hbl (by omega)
               exact Zp.locs _ (zle_sub (by simp [zle])) (ih (i + 1) I2 v f (by omega) (by rw [e]; exact hb) pm2 mp2 (fun q h => (f2 q (by omega)).trans (f1 q h))))
            | (have e := hbm (by omega)
               exact Zp.locs _ (zle_sub (by simp [zle])) (ih (i + 1) I2 (nI (sm (ctr (kS (aK A)) (dgt (sn (kS (aK A))) i)) (sn (kS (aK A))))) i (by omega) (by rw [e]; exact ⟨rfl, by omega, fun x s hx => by rw [hn]; exact congrArg some (congrArg Prod.fst (Option.some.inj hx))⟩) pm2 mp2 (fun q h => (f2 q (by omega)).trans (f1 q h))))
    refine Zp.iload k_207_28 rfl ?_
    refine Zp.aload_n k_207_30 rfl ?_
    refine Zp.callv0I v_204 k_207_31 m_93 (Nat.le_of_ble_eq_true rfl) (Nat.le_of_ble_eq_true rfl) (c_codesM m3 o1 ⟨_, rfl, ?_⟩)
    refine Zp.icmp_geN k_207_34 (by omega) (by omega) (fun c_34 => absurd c_34 (by omega)) (fun c_34 => ?_)
    refine Zp.aload_n k_207_37 rfl ?_
    refine Zp.iload k_207_38 rfl ?_
    refine Zp.callv1I v_205 k_207_40 m_93 (Nat.le_of_ble_eq_true rfl) (Nat.le_of_ble_eq_true rfl) (c_isMatchM m3 o1 (by omega) (fun hn I2 h106 f2 => ⟨_, rfl, no I2 hn f2⟩) (fun hn hle I2 h106 f2 => ⟨_, rfl, yes I2 hn hle h106 f2⟩))
    
theorem c_matchM {w : Int32} (pm : PicM A I) (ho : Ao A)
    (hend : ∀ I2 x s, bst (kS (aK A)) (mateL (sn (kS (aK A)))) = some (x, s) → (∀ a, a < sn (kS (aK A)) → I2 106 a = wM (x.getD a 0)) → (∀ a, a < sn (kS (aK A)) → x.getD a 0 < 6) → PicM A I2 → FrM I I2 → Zp G 207 94 [some (.ref 93), some (.int w), some (.int (nI s)), none, none, none] [] I2 L Q) :
    Zp G 207 17 [some (.ref 93), some (.int w), none, none, none, none] [] I L Q := by
  obtain ⟨⟨so, sz, sst, lo, po, eo⟩, ok0, ok1, oi0, oi1, ot, ob, of_, or_, oh⟩ := id ho
  obtain ⟨o1, o2, o3, o4, o5, o6, o7⟩ := id so
  obtain ⟨p1, p2, p3⟩ := id lo
  obtain ⟨u1, u2⟩ := id po
  obtain ⟨e1, e2⟩ := id eo
  have p6 := pow6_le o1
  obtain ⟨y, hy⟩ := bst_some (kS (aK A)) _ (mateL_ne o1)
  have last : ∀ I2 f, PicM A I2 → FrM I I2 → MR (sn (kS (aK A))) (bst (kS (aK A)) (mateL (sn (kS (aK A))))) (bsV (bst (kS (aK A)) (mateL (sn (kS (aK A)))))) f → Zp G 207 88 [some (.ref 93), some (.int w), some (.int (bsV (bst (kS (aK A)) (mateL (sn (kS (aK A))))))), some (.int (nI f)), none, none] [] I2 L Q := by
    intro I2 f pm2 f2 hr
    have m3 : I2 93 3 = nI (sn (kS (aK A))) := pm2.1
    have hm := hr.2.2 y.1 y.2 hy
    have hf := hr.2.1
    have ex := mtR_eq hm
    rw [hy]
    have fin : ∀ (I3 : zI) (u : Int32), (∀ a, a < sn (kS (aK A)) → I3 106 a = wM (dgt (sn (kS (aK A))) f a)) → (∀ q, q ≠ 106 → I3 q = I2 q) → Zp G 207 93 [some (.ref 93), some (.int w), some (.int (bsV (some y))), some (.int (nI f)), none, none] [.int u] I3 L Q := by
      intro I3 u h106 f3
      refine Zp.pop k_207_93 rfl ?_
      exact Zp.locs _ (zle_sub (by simp [zle, bsV])) (hend I3 y.1 y.2 hy (fun a ha => by rw [ex, mapr_at ha]; exact h106 a ha) (fun a ha => by rw [ex, mapr_at ha]; exact dgt_lt _ _ _) (pm2.fr (by rw [f3 93 (by decide)]) (by rw [f3 93 (by decide)]) (by rw [f3 93 (by decide)]) (by rw [f3 93 (by decide)]) (by rw [f3 93 (by decide)]) (fun q h => f3 q (by omega))) (fun q h => (f3 q (by omega)).trans (f2 q h)))
    refine Zp.aload_n k_207_88 rfl ?_
    refine Zp.iload_n k_207_89 rfl ?_
    refine Zp.callv1I v_205 k_207_90 m_93 (Nat.le_of_ble_eq_true rfl) (Nat.le_of_ble_eq_true rfl) (c_isMatchM m3 o1 (by omega) (fun hn I3 h106 f3 => ⟨_, rfl, fin I3 _ h106 f3⟩) (fun hn hle I3 h106 f3 => ⟨_, rfl, fin I3 _ h106 f3⟩))
    
  refine Zp.iconst (-1) k_207_17 (by decide) ?_
  refine Zp.istore_n [some (.ref _), some (.int _), some (.int _), none, none, none] k_207_18 (Nat.lt_of_lt_of_eq (zlt rfl : 2 < 6) vl_207.symm) rfl ?_
  refine Zp.iconst (nI 0) k_207_19 (by decide) ?_
  refine Zp.istore_n [some (.ref _), some (.int _), some (.int _), some (.int _), none, none] k_207_20 (Nat.lt_of_lt_of_eq (zlt rfl : 3 < 6) vl_207.symm) rfl ?_
  refine Zp.aload_n k_207_21 rfl ?_
  refine Zp.callv0V v_159 k_207_22 m_93 (Nat.le_of_ble_eq_true rfl) (Nat.le_of_ble_eq_true rfl) (c_goM pm ho (fun I2 pm2 mq xq s2 => ⟨rfl, ?_⟩))
  refine Zp.iconst (nI 0) k_207_25 (by decide) ?_
  refine Zp.istore [some (.ref _), some (.int _), some (.int _), some (.int _), some (.int _), none] k_207_26 (Nat.lt_of_lt_of_eq (zlt rfl : 4 < 6) vl_207.symm) rfl ?_
  exact c_matchLoopM ho (fun I3 f pm3 f3 hr => last I3 f pm3 (fun q h => (f3 q h).trans (s2 q (by omega))) hr) (6 ^ sn (kS (aK A))) 0 I2 (-1) 0 (by omega) ⟨rfl, p6.2, fun x s hx => absurd hx (by simp [bst])⟩ pm2 mq (FrM.rf I2)
end MATCH2
section MATCH3
variable {G : zG} {A : zQs} {x y : Int32}
theorem PicC.pair_ {A : zQs} {I I' : zI} (h : PicC A I) (e : ∀ q, q < 54 ∨ 57 < q → I' q = I q) : PicC A I' := h.fr fun q hq => e q (by omega)
theorem B_match (ho : Ao A) : zBoth G 107 207 [.int x] A := by
  obtain ⟨⟨so, sz, sst, lo, po, eo⟩, ok0, ok1, oi0, oi1, ot, ob, of_, or_, oh⟩ := id ho
  obtain ⟨o1, o2, o3, o4, o5, o6, o7⟩ := id so
  obtain ⟨p1, p2, p3⟩ := id lo
  obtain ⟨u1, u2⟩ := id po
  obtain ⟨e1, e2⟩ := id eo
  have x10 := zsub10 x
  have xr := fb_rngZ x
  obtain ⟨y, hy⟩ := bst_some (kS (aK A)) _ (mateL_ne o1)
  have hy2 := bst_lt so _ y.1 y.2 hy
  by_cases v : x.toInt = 0
  · obtain ⟨c, hc, rfl, ec⟩ := zin_nI (n := 1) (x := x) (by omega) (by omega)
    refine ⟨.int (nI y.2), A, ho, fun I L Q pc hq => ?_, fun I L Q pm hq => ?_⟩
    · obtain ⟨⟨hp, lp, pp, ep⟩, hk, hi0, hi1, ht, hb, hf, hr, hh⟩ := id pc
      refine Zm.go [some (.ref _), some (.int _), none] vl_107 rfl ?_
      refine Zp.iload_n k_107_0 rfl ?_
      refine Zp.bipush (nI 10) k_107_1 (by decide) ?_
      refine Zp.isub k_107_3 ?_
      refine Zp.istore_n [some (.ref _), some (.int _), some (.int _)] k_107_4 (Nat.lt_of_lt_of_eq (zlt rfl : 2 < 3) vl_107.symm) rfl ?_
      refine Zp.iload_n k_107_5 rfl ?_
      refine Zp.if_eqN k_107_6 (by omega) (fun c_6 => ?_) (fun c_6 => absurd c_6 (by omega))
      refine Zp.aload_n k_107_31 rfl ?_
      refine Zp.getR k_107_32 rfl (zlt rfl) m_0 r_0_7 ?_
      refine Zp.aload_n k_107_35 rfl ?_
      refine Zp.getR k_107_36 rfl (zlt rfl) m_0 r_0_0 ?_
      refine Zp.getR k_107_39 rfl (zlt rfl) m_1 r_1_0 ?_
      refine Zp.callv1V v_4 k_107_42 m_54 (Nat.le_of_ble_eq_true rfl) (Nat.le_of_ble_eq_true rfl) (c_seek hp so (fun I2 mb f2 => ⟨rfl, ?_⟩))
      have h54 : I2 54 0 = nI y.2 := by rw [mb.1, hy]; rfl
      refine Zp.iload_n k_107_45 rfl ?_
      refine Zp.if_neN k_107_46 (by omega) (fun c_46 => absurd c_46 (by omega)) (fun c_46 => ?_)
      refine Zp.aload_n k_107_49 rfl ?_
      refine Zp.getR k_107_50 rfl (zlt rfl) m_0 r_0_7 ?_
      refine Zp.getV k_107_53 rfl (zlt rfl) m_54 h54 ?_
      refine Zp.goto k_107_56 ?_
      refine Zp.iret _ k_107_68 vr_107 rfl ?_
      exact hq I2 (pc.pair_ f2) (fun q h => f2 q (by omega))
    · obtain ⟨m3, ⟨mp, xp⟩, m4, ms1, ms2, ms3, mk0, mk1, mi0, mi1, mt, mb, mf, mr, mh⟩ := id pm
      have fin : ∀ I2 x s, bst (kS (aK A)) (mateL (sn (kS (aK A)))) = some (x, s) → (∀ a, a < sn (kS (aK A)) → I2 106 a = wM (x.getD a 0)) → (∀ a, a < sn (kS (aK A)) → x.getD a 0 < 6) → PicM A I2 → FrM I I2 → Zp G 207 94 [some (.ref 93), some (.int (nI c)), some (.int (nI s)), none, none, none] [] I2 L Q := by
        intro I2 x s hb _ _ pm2 f2
        rw [hy] at hb
        have e : y = (x, s) := Option.some.inj hb
        have e2 : y.2 = s := by rw [e]
        refine Zp.iload_n k_207_94 rfl ?_
        refine Zp.if_neN k_207_95 (by omega) (fun c_95 => absurd c_95 (by omega)) (fun c_95 => ?_)
        refine Zp.iload_n k_207_98 rfl ?_
        refine Zp.goto k_207_99 ?_
        refine Zp.iret _ k_207_128 vr_207 rfl ?_
        rw [← e2]
        exact hq I2 L pm2 f2
      
      refine Zm.go [some (.ref _), some (.int _), none, none, none, none] vl_207 rfl ?_
      refine Zp.iload_n k_207_0 rfl ?_
      refine Zp.if_eqN k_207_1 (by omega) (fun c_1 => ?_) (fun c_1 => absurd c_1 (by omega))
      exact c_matchM pm ho fin
  · by_cases w : 10 ≤ x.toInt ∧ x.toInt < 10 + (sn (kS (aK A)) : Int)
    · obtain ⟨c, hc, rfl, ec⟩ := zin_nI (n := 15) (x := x) (by omega) (by omega)
      have e10 : (nI (c - 10)).toInt = (c : Int) - 10 := by rw [nI_toInt (by omega)]; omega
      refine ⟨.int (vM (y.1.getD (c - 10) 0)), A, ho, fun I L Q pc hq => ?_, fun I L Q pm hq => ?_⟩
      · obtain ⟨⟨hp, lp, pp, ep⟩, hk, hi0, hi1, ht, hb, hf, hr, hh⟩ := id pc
        refine Zm.go [some (.ref _), some (.int _), none] vl_107 rfl ?_
        refine Zp.iload_n k_107_0 rfl ?_
        refine Zp.bipush (nI 10) k_107_1 (by decide) ?_
        refine Zp.isubN k_107_3 (by omega) ?_
        refine Zp.istore_n [some (.ref _), some (.int _), some (.int _)] k_107_4 (Nat.lt_of_lt_of_eq (zlt rfl : 2 < 3) vl_107.symm) rfl ?_
        refine Zp.iload_n k_107_5 rfl ?_
        refine Zp.if_eqN k_107_6 (by omega) (fun c_6 => absurd c_6 (by omega)) (fun c_6 => ?_)
        refine Zp.iload_n k_107_9 rfl ?_
        refine Zp.bipush (nI 10) k_107_10 (by decide) ?_
        refine Zp.icmp_ltN k_107_12 (by omega) (by omega) (fun c_12 => absurd c_12 (by omega)) (fun c_12 => ?_)
        refine Zp.aload_n k_107_15 rfl ?_
        refine Zp.getR k_107_16 rfl (zlt rfl) m_0 r_0_0 ?_
        refine Zp.getR k_107_19 rfl (zlt rfl) m_1 r_1_0 ?_
        refine Zp.iload_n k_107_22 rfl ?_
        refine Zp.callv1I v_56 k_107_23 m_2 (Nat.le_of_ble_eq_true rfl) (Nat.le_of_ble_eq_true rfl) (c_isHelper sa_2 hp so ⟨_, rfl, ?_⟩)
        refine Zp.if_neB k_107_26 (fun c_26 => ?_) (fun c_26 => absurd c_26 (by omega))
        refine Zp.aload_n k_107_31 rfl ?_
        refine Zp.getR k_107_32 rfl (zlt rfl) m_0 r_0_7 ?_
        refine Zp.aload_n k_107_35 rfl ?_
        refine Zp.getR k_107_36 rfl (zlt rfl) m_0 r_0_0 ?_
        refine Zp.getR k_107_39 rfl (zlt rfl) m_1 r_1_0 ?_
        refine Zp.callv1V v_4 k_107_42 m_54 (Nat.le_of_ble_eq_true rfl) (Nat.le_of_ble_eq_true rfl) (c_seek hp so (fun I2 mb f2 => ⟨rfl, ?_⟩))
        have h55 := mb.2 y.1 y.2 hy
        refine Zp.iload_n k_107_45 rfl ?_
        refine Zp.if_neN k_107_46 (by omega) (fun c_46 => ?_) (fun c_46 => absurd c_46 (by omega))
        refine Zp.aload_n k_107_59 rfl ?_
        refine Zp.getR k_107_60 rfl (zlt rfl) m_0 r_0_7 ?_
        refine Zp.getR k_107_63 rfl (zlt rfl) m_54 r_54_1 ?_
        refine Zp.iload_n k_107_66 rfl ?_
        refine Zp.iald _ k_107_67 m_55 rfl (by omega) (zlt rfl) (h55 (c - 10) (by omega)) ?_
        refine Zp.iret _ k_107_68 vr_107 rfl ?_
        exact hq I2 (pc.pair_ f2) (fun q h => f2 q (by omega))
      · obtain ⟨m3, ⟨mp, xp⟩, m4, ms1, ms2, ms3, mk0, mk1, mi0, mi1, mt, mb, mf, mr, mh⟩ := id pm
        have fin : ∀ I2 x s, bst (kS (aK A)) (mateL (sn (kS (aK A)))) = some (x, s) → (∀ a, a < sn (kS (aK A)) → I2 106 a = wM (x.getD a 0)) → (∀ a, a < sn (kS (aK A)) → x.getD a 0 < 6) → PicM A I2 → FrM I I2 → Zp G 207 94 [some (.ref 93), some (.int (nI c)), some (.int (nI s)), none, none, none] [] I2 L Q := by
          intro I2 x s hb h106 hlt pm2 f2
          rw [hy] at hb
          have e : y = (x, s) := Option.some.inj hb
          have hq1 := hq I2 L pm2 f2
          rw [e] at hq1
          have hx := hlt (c - 10) (by omega)
          have ga := h106 (c - 10) (by omega)
          have ta := wM_t (v := x.getD (c - 10) 0) (by omega)
          refine Zp.iload_n k_207_94 rfl ?_
          refine Zp.if_neN k_207_95 (by omega) (fun c_95 => ?_) (fun c_95 => absurd c_95 (by omega))
          refine Zp.aload_n k_207_102 rfl ?_
          refine Zp.getR k_207_103 rfl (zlt rfl) m_93 r_93_27 ?_
          refine Zp.iload_n k_207_106 rfl ?_
          refine Zp.bipush (nI 10) k_207_107 (by decide) ?_
          refine Zp.isubN k_207_109 (by omega) ?_
          refine Zp.iald _ k_207_110 m_106 rfl (by omega) (zlt rfl) ga ?_
          refine Zp.if_geZ _ k_207_111 rfl (fun c_111 => ?_) (fun c_111 => ?_)
          · refine Zp.aload_n k_207_119 rfl ?_
            refine Zp.getR k_207_120 rfl (zlt rfl) m_93 r_93_27 ?_
            refine Zp.iload_n k_207_123 rfl ?_
            refine Zp.bipush (nI 10) k_207_124 (by decide) ?_
            refine Zp.isubN k_207_126 (by omega) ?_
            refine Zp.iald _ k_207_127 m_106 rfl (by omega) (zlt rfl) ga ?_
            refine Zp.iret _ k_207_128 vr_207 rfl ?_
            first
              | (have e3 : vM (x.getD (c - 10) 0) = -4 := if_pos (by omega)
                 rw [e3] at hq1
                 exact hq1)
              | (have e3 : vM (x.getD (c - 10) 0) = wM (x.getD (c - 10) 0) := (if_neg (by omega)).trans (wM_n (by omega) (by omega)).symm
                 rw [e3] at hq1
                 exact hq1)
          · refine Zp.bipush (-4) k_207_114 (by decide) ?_
            refine Zp.goto k_207_116 ?_
            refine Zp.iret _ k_207_128 vr_207 rfl ?_
            first
              | (have e3 : vM (x.getD (c - 10) 0) = -4 := if_pos (by omega)
                 rw [e3] at hq1
                 exact hq1)
              | (have e3 : vM (x.getD (c - 10) 0) = wM (x.getD (c - 10) 0) := (if_neg (by omega)).trans (wM_n (by omega) (by omega)).symm
                 rw [e3] at hq1
                 exact hq1)
        
        refine Zm.go [some (.ref _), some (.int _), none, none, none, none] vl_207 rfl ?_
        refine Zp.iload_n k_207_0 rfl ?_
        refine Zp.if_eqN k_207_1 (by omega) (fun c_1 => absurd c_1 (by omega)) (fun c_1 => ?_)
        refine Zp.aload_n k_207_4 rfl ?_
        refine Zp.iload_n k_207_5 rfl ?_
        refine Zp.bipush (nI 10) k_207_6 (by decide) ?_
        refine Zp.isubN k_207_8 (by omega) ?_
        refine Zp.callv1I v_155 k_207_9 m_93 (Nat.le_of_ble_eq_true rfl) (Nat.le_of_ble_eq_true rfl) (c_isHelperM m3 (by omega) ⟨_, rfl, ?_⟩)
        refine Zp.if_neB k_207_12 (fun c_12 => ?_) (fun c_12 => absurd c_12 (by omega))
        exact c_matchM pm ho fin
    · refine ⟨.int (-1), A, ho, fun I L Q pc hq => ?_, fun I L Q pm hq => ?_⟩
      · obtain ⟨⟨hp, lp, pp, ep⟩, hk, hi0, hi1, ht, hb, hf, hr, hh⟩ := id pc
        refine Zm.go [some (.ref _), some (.int _), none] vl_107 rfl ?_
        refine Zp.iload_n k_107_0 rfl ?_
        refine Zp.bipush (nI 10) k_107_1 (by decide) ?_
        refine Zp.isub k_107_3 ?_
        refine Zp.istore_n [some (.ref _), some (.int _), some (.int _)] k_107_4 (Nat.lt_of_lt_of_eq (zlt rfl : 2 < 3) vl_107.symm) rfl ?_
        refine Zp.iload_n k_107_5 rfl ?_
        refine Zp.if_eqZ _ k_107_6 rfl (fun c_6 => absurd c_6 (by omega)) (fun c_6 => ?_)
        refine Zp.iload_n k_107_9 rfl ?_
        refine Zp.bipush (nI 10) k_107_10 (by decide) ?_
        refine Zp.icmp_ltZ _ _ k_107_12 rfl (nI_toInt (by omega)) (fun c_12 => ?_) (fun c_12 => ?_)
        · refine Zp.iconst (-1) k_107_29 (by decide) ?_
          refine Zp.iret _ k_107_30 vr_107 rfl ?_
          exact hq I pc (FrC.rf I)
        · refine Zp.aload_n k_107_15 rfl ?_
          refine Zp.getR k_107_16 rfl (zlt rfl) m_0 r_0_0 ?_
          refine Zp.getR k_107_19 rfl (zlt rfl) m_1 r_1_0 ?_
          refine Zp.iload_n k_107_22 rfl ?_
          refine Zp.callv1I v_56 k_107_23 m_2 (Nat.le_of_ble_eq_true rfl) (Nat.le_of_ble_eq_true rfl) (c_isHelper sa_2 hp so ⟨_, rfl, ?_⟩)
          refine Zp.if_neB k_107_26 (fun c_26 => absurd c_26 (by omega)) (fun c_26 => ?_)
          refine Zp.iconst (-1) k_107_29 (by decide) ?_
          refine Zp.iret _ k_107_30 vr_107 rfl ?_
          exact hq I pc (FrC.rf I)
      · obtain ⟨m3, ⟨mp, xp⟩, m4, ms1, ms2, ms3, mk0, mk1, mi0, mi1, mt, mb, mf, mr, mh⟩ := id pm
        refine Zm.go [some (.ref _), some (.int _), none, none, none, none] vl_207 rfl ?_
        refine Zp.iload_n k_207_0 rfl ?_
        refine Zp.if_eqZ _ k_207_1 rfl (fun c_1 => absurd c_1 (by omega)) (fun c_1 => ?_)
        refine Zp.aload_n k_207_4 rfl ?_
        refine Zp.iload_n k_207_5 rfl ?_
        refine Zp.bipush (nI 10) k_207_6 (by decide) ?_
        refine Zp.isub k_207_8 ?_
        refine Zp.callv1I v_155 k_207_9 m_93 (Nat.le_of_ble_eq_true rfl) (Nat.le_of_ble_eq_true rfl) (c_isHelperM m3 (by omega) ⟨_, rfl, ?_⟩)
        refine Zp.if_neB k_207_12 (fun c_12 => absurd c_12 (by omega)) (fun c_12 => ?_)
        refine Zp.iconst (-1) k_207_15 (by decide) ?_
        refine Zp.iret _ k_207_16 vr_207 rfl ?_
        first | exact hq I L pm (FrM.rf I) | exact hq I2 L pm2 (fun q hq => s2 q (by omega))
end MATCH3
