/-! ===== two rows of ints made at once ===== -/
section FXM
variable {g : fx_G} {M M' : fx_M} {pc : Nat} {lv : List (Nat × Value)} {st : List Value} {h : fx_H} {Q : fx_O → fx_H → Prop} {mc ms : Nat}
theorem fx_R_newr {H H' : Heap} {ak N : Nat} (hak : 3 ≤ ak) (hR : fx_R g h H) (e1 : H'[fx_n h]? = some (arrV (fx_dA g ak) N (fun _ => .null))) (e2 : H'.size = H.size + 1) (e3 : ∀ q, q < H.size → H'[q]? = H[q]?) : fx_R g (fx_nw h (.inr (ak, N))) H' := by
  refine fx_R_new hR e2 e3 ⟨?_, fun z => by omega⟩
  rw [fx_ar, if_neg (by omega), if_neg (by omega), vp_cell_q, e1]
  congr 2
  funext k
  rw [fx_r_nw, if_pos rfl]
  rfl
theorem fx_R_newi {H H' : Heap} {N : Nat} (hR : fx_R g h H) (e1 : H'[fx_n h]? = some (arrV (fx_dA g 0) N (fun _ => .int 0))) (e2 : H'.size = H.size + 1) (e3 : ∀ q, q < H.size → H'[q]? = H[q]?) : fx_R g (fx_nw h (.inr (0, N))) H' := by
  refine fx_R_new hR e2 e3 ⟨?_, fun z => by omega⟩
  rw [fx_ar, if_pos (by decide), vp_cell_i, e1]
  congr 2
  funext k
  rw [fx_i_nw, if_pos rfl]
theorem fx_R_setr {H H' : Heap} {a n ak j b : Nat} (hak : 3 ≤ ak) (hR : fx_R g h H) (hs : fx_s h a = some (.inr (ak, n))) (e1 : ∀ cell, H[a]? = some cell → H'[a]? = some (cell.setSlot j (.ref b))) (e2 : H'.size = H.size) (e3 : ∀ q, q ≠ a → H'[q]? = H[q]?) : fx_R g (fx_wr h a j (some b)) H' := by
  obtain ⟨hba, -, hcell, -⟩ := hR.2.2.2 a _ hs
  have ea : fx_ar h a ak = .inr (.inr (.inr (.inr (fx_r h a)))) := by
    rw [fx_ar, if_neg (by omega), if_neg (by omega)]
  rw [ea] at hcell
  refine fx_R_upd hR rfl (fun _ => rfl) (fun _ _ _ => rfl) (fun b' hb' k => ?_) hba e2 e3 (fun y hy => ?_)
  · rw [fx_r_wr, if_neg (fun z => hb' z.1)]
  · cases hs.symm.trans hy
    refine ⟨?_, fun z => by omega⟩
    rw [e1 _ hcell, fx_ar, if_neg (by omega), if_neg (by omega), vp_cell_q, vp_cell_q, arrV_store]
    congr 2
    funext k
    rw [fx_r_wr]
    by_cases hk : k = j
    · simp [updV, hk, va_rf]
    · simp [updV, hk]
def fx_ma (h : fx_H) : fx_H := fx_wr (fx_nw (fx_wr (fx_nw (fx_nw h (.inr (5, 2))) (.inr (0, 24))) (fx_n h) 0 (some (fx_n h + 1))) (.inr (0, 24))) (fx_n h) 1 (some (fx_n h + 2))
theorem fx_multi (ok : fx_ok g) {idx : Nat} (hlk : Cond.classLink (fx_y M).cls idx "[[I" ∈ fx_tb) (hov : Cond.arrayOver (.array .int) ∈ fx_tb) (harr : Cond.arrayClass .int ∈ fx_tb) (d : decode (fx_cc M) pc = .ok (.multianewarray idx 2, 4))
    (K : fx_X g M (pc + 4) lv (.ref (fx_n h) :: st) (fx_ma h) Q mc ms) : fx_X g M pc lv (.int 24 :: .int 2 :: st) h Q (mc + 3) (ms + 50) := by
  intro p e R s m args below meth c F H locs cells slots ls hR hL hc hs hl T hT X
  have hW := F.2.2.2.2.2.1
  have hs0 : "[" ++ (FieldType.array FieldType.int).toString = "[[I" := by decide
  have hlk' : (Cond.classLink (fx_y M).cls idx ("[" ++ (FieldType.array FieldType.int).toString)).before args s = true := by
    rw [hs0]
    exact fx_word ok hlk (by first | rfl | simp [goodWord, Cond.onTables, Cond.keeps, Cond.steady]) hW
  obtain ⟨vm₁, cA, comp, hW1, hfA, hfC, X1, step⟩ := X.multianewarray2 F.1 (ty := .int) F.2.2.2.2.2.2.1 hlk' (fx_ov ok hov _ _ hW) (fx_word ok harr rfl hW) (g := F0 m pc ls (.int 24 :: .int 2 :: st)) rfl (by rw [F.2.1]; exact d) (n := 2) (k := 24) (rest := st) rfl (by decide) (by decide) (by decide) (by decide) (by decide) rfl rfl (by show cells + 3 ≤ _; omega) (by show slots + 50 ≤ _; omega)
  have hcA : cA = fx_dA g 5 := by
    have h2 := (fx_Ty ok hW (ak := 5) rfl).2
    exact Option.some.inj (hfA.symm.trans h2)
  have hcm : comp = fx_dA g 0 := by
    have h2 := (fx_Ty ok hW (ak := 0) rfl).2
    exact Option.some.inj (hfC.symm.trans h2)
  subst hcA hcm
  have hz : T.heap.size = fx_n h := by rw [hT]; exact hR.1
  have hR' : fx_R g (fx_ma h) (Jvm.Free.Multi.fill (T.setVm vm₁) (fx_dA g 5) (fx_dA g 0) 2 24 (.int 0) 2).heap := by
    have r0 : fx_R g (fx_nw h (.inr (5, 2))) (Jvm.Free.Multi.fill (T.setVm vm₁) (fx_dA g 5) (fx_dA g 0) 2 24 (.int 0) 0).heap := by
      refine fx_R_newr (H := H) (by decide) hR ?_ ?_ ?_
      · rw [← hz]
        exact (Jvm.Free.Multi.fill_facts (T.setVm vm₁) (fx_dA g 5) (fx_dA g 0) 2 24 (.int 0) 0).2.1.trans (congrArg some (arrV_new _ _ _))
      · rw [(Jvm.Free.Multi.fill_facts (T.setVm vm₁) (fx_dA g 5) (fx_dA g 0) 2 24 (.int 0) 0).1, ← hT]
        rfl
      · intro q hq
        rw [← hT] at hq ⊢
        exact Jvm.Free.Multi.fill_old (T.setVm vm₁) (fx_dA g 5) (fx_dA g 0) 2 24 (.int 0) hq 0
    have stepR : ∀ (i : Nat) (k : fx_H), fx_n k = fx_n h + 1 + i → fx_s k (fx_n h) = some (.inr (5, 2)) → fx_R g k (Jvm.Free.Multi.fill (T.setVm vm₁) (fx_dA g 5) (fx_dA g 0) 2 24 (.int 0) i).heap → fx_R g (fx_wr (fx_nw k (.inr (0, 24))) (fx_n h) i (some (fx_n h + 1 + i))) (Jvm.Free.Multi.fill (T.setVm vm₁) (fx_dA g 5) (fx_dA g 0) 2 24 (.int 0) (i + 1)).heap := by
      intro i k hk hsk hr
      obtain ⟨f1, f2, f3, f4⟩ := Jvm.Free.Multi.fill_facts (T.setVm vm₁) (fx_dA g 5) (fx_dA g 0) 2 24 (.int 0) i
      have r1 : fx_R g (fx_nw k (.inr (0, 24))) ((Jvm.Free.Multi.fill (T.setVm vm₁) (fx_dA g 5) (fx_dA g 0) 2 24 (.int 0) i).pushCell (Jvm.Free.Multi.innerC (fx_dA g 0) 24 (.int 0))).heap := by
        refine fx_R_newi hr ?_ ?_ ?_
        · rw [← hr.1]
          exact (State.heap_pushCell_size _ _).trans (congrArg some (arrV_new _ _ _))
        · simp [State.pushCell]
        · intro q hq
          exact State.heap_pushCell_of_lt _ _ hq
      have hlt : T.heap.size < (Jvm.Free.Multi.fill (T.setVm vm₁) (fx_dA g 5) (fx_dA g 0) 2 24 (.int 0) i).heap.size := by
        rw [f1]
        show T.heap.size < T.heap.size + 1 + i
        omega
      have hb : ((Jvm.Free.Multi.fill (T.setVm vm₁) (fx_dA g 5) (fx_dA g 0) 2 24 (.int 0) i).pushCell (Jvm.Free.Multi.innerC (fx_dA g 0) 24 (.int 0))).heap[T.heap.size]? = some (Jvm.Free.Multi.outerC (fx_dA g 5) 2 T.heap.size i) := by
        rw [State.heap_pushCell_of_lt (h := hlt)]
        exact f2
      refine fx_R_setr (n := 2) (ak := 5) (by decide) r1 ?_ ?_ ?_ ?_
      · rw [nw_o hk (by omega)]
        exact hsk
      · intro cell hc9
        rw [← hz] at hc9 ⊢
        cases hb.symm.trans hc9
        exact State.heap_setCell_self hb
      · simp [Jvm.Free.Multi.fill, State.setCell]
      · intro q hq
        rw [← hz] at hq
        exact State.heap_setCell_other (Ne.symm hq)
    have r1 := stepR 0 _ rfl (nw_s h (.inr (5, 2)) rfl) r0
    have r2 := stepR 1 _ rfl (by
      show fx_s (fx_nw (fx_nw h (.inr (5, 2))) (.inr (0, 24))) (fx_n h) = _
      rw [nw_o (h := fx_nw h (.inr (5, 2))) (n := fx_n h + 1) rfl (by omega)]
      exact nw_s h (.inr (5, 2)) rfl) r1
    exact r2
  have hL' : ∀ z ∈ locs ++ (List.range 2).map (fun j => (⟨T.heap.size, j⟩ : Loc)), fx_b g ≤ z.base := by
    intro z hz9
    rcases List.mem_append.mp hz9 with h1 | h1
    · exact hL z h1
    · obtain ⟨j, -, rfl⟩ := List.mem_map.mp h1
      show fx_b g ≤ T.heap.size
      rw [hz]
      exact hR.2.1
  obtain ⟨t, a1, b1⟩ := K p e R s m args below meth c F _ _ (cells + 1 + 2) (slots + 2 + 2 * 24) ls hR' hL' (by omega) (by omega) hl _ rfl X1
  rw [← hz] at a1
  exact ⟨t, step t a1, b1⟩
end FXM
