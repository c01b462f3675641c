/-! System.arraycopy over stores -/
theorem so_cq_some {r0 r1 : Option Nat} {sp dp n : Int32} {t : Nat} {cis : List Nat} {st st' : st_S} (h : so_cq r0 sp r1 dp n t cis st = some st') : ∃ (b0 b1 n0 n1 : Nat) (f g : Nat → Option Nat), r0 = some b0 ∧ r1 = some b1 ∧ st.1 b0 = some (.inr (.inl (t, n0, f))) ∧ st.1 b1 = some (.inr (.inl (t, n1, g))) ∧ 0 < n1 ∧ ¬ sp < 0 ∧ ¬ dp < 0 ∧ ¬ n < 0 ∧ sp.toNatClampNeg + n.toNatClampNeg ≤ n0 ∧ dp.toNatClampNeg + n.toNatClampNeg ≤ n1 ∧ (∀ i, i < n.toNatClampNeg → so_is st (f (sp.toNatClampNeg + i)) cis = true) ∧ st' = st_up st b1 (.inr (.inl (t, n1, va_cpy f g sp.toNatClampNeg dp.toNatClampNeg n.toNatClampNeg))) := by
  unfold so_cq at h
  split at h
  · rename_i b0 b1
    split at h
    · rename_i x y hx hy
      obtain ⟨tx, n0, f⟩ := x
      obtain ⟨ty, n1, g⟩ := y
      split at h
      · rename_i hc
        obtain ⟨c1, c2, c3, c4, c5, c6, c7, c8, c9, c10⟩ := hc
        dsimp only at c1 c2
        subst c1
        subst c2
        exact ⟨b0, b1, n0, n1, f, g, rfl, rfl, hx, hy, c4, c5, c6, c7, c8, c9, c10, (Option.some.inj h).symm⟩
      · cases h
    · cases h
  · cases h
theorem so_ci_some {r0 r1 : Option Nat} {sp dp n : Int32} {t : Nat} {st st' : st_S} (h : so_ci r0 sp r1 dp n t st = some st') : ∃ (b0 b1 n0 n1 : Nat) (f g : Nat → Int32), r0 = some b0 ∧ r1 = some b1 ∧ st.1 b0 = some (.inl (t, n0, f)) ∧ st.1 b1 = some (.inl (t, n1, g)) ∧ ¬ sp < 0 ∧ ¬ dp < 0 ∧ ¬ n < 0 ∧ sp.toNatClampNeg + n.toNatClampNeg ≤ n0 ∧ dp.toNatClampNeg + n.toNatClampNeg ≤ n1 ∧ st' = st_up st b1 (.inl (t, n1, va_cpy f g sp.toNatClampNeg dp.toNatClampNeg n.toNatClampNeg)) := by
  unfold so_ci at h
  split at h
  · rename_i b0 b1
    split at h
    · rename_i x y hx hy
      obtain ⟨tx, n0, f⟩ := x
      obtain ⟨ty, n1, g⟩ := y
      split at h
      · rename_i hc
        obtain ⟨c1, c2, c5, c6, c7, c8, c9⟩ := hc
        dsimp only at c1 c2
        subst c1
        subst c2
        exact ⟨b0, b1, n0, n1, f, g, rfl, rfl, hx, hy, c5, c6, c7, c8, c9, (Option.some.inj h).symm⟩
      · cases h
    · cases h
  · cases h
section RRG
variable {p : Program} {l : Launch} {e : Env} {R : Room} {s : State} {m : MethodId} {args : Array Value} {below : List Frame} {meth : Method} {c : Code} {H : Heap} {locs : List Loc} {cells slots : Nat} {Q : State → Prop}
variable {cc : ByteArray} {pc nL : Nat} {ls : Array Slot} {rest st0 : List Value} {D : va_G} {ac : Nat → ClassId} {a0 : Nat} {gl : gl_T} {st st' : st_S} {own : String} {tb : List Cond} {index : Nat}
theorem rr_set {cl : List vw_C} {b1 : Nat} {ce : ce_E} {cell : Cell} {L : List Loc} (hw : ww_ D cl ac a0 st s.heap H locs) (ha0 : a0 ≤ b1) (hlt : b1 < H.size) (hat : ∀ H1 : Heap, H1[b1]? = some cell → va_at D cl (b1, ce_v ac ce) H1) (hL : ∀ q ∈ L, q.base = b1) : ww_ D cl ac a0 (st_up st b1 ce) s.heap (H.setIfInBounds b1 cell) (locs ++ L) := by
  have oq : ∀ q : Nat, q ≠ b1 → (H.setIfInBounds b1 cell)[q]? = H[q]? := fun q hq => by simp [Array.getElem?_setIfInBounds, Ne.symm hq]
  have z : (H.setIfInBounds b1 cell).size = H.size := by simp
  refine ⟨wd_up hw.1 (hat _ (by simp [Array.getElem?_setIfInBounds, hlt])) z oq ha0, ⟨by rw [z]; exact hw.2.1.1, fun q g1 g2 => ?_, fun q hq => ?_⟩, hw.2.2⟩
  · rw [oq q (fun h => g2 (by rw [h]; exact ha0))]
    exact hw.2.1.2.1 q g1 g2
  · rcases List.mem_append.mp hq with h | h
    · exact hw.2.1.2.2 q h
    · rw [hL q h]
      exact ha0
theorem rr_cpq {r0 r1 : Option Nat} {sp dp n : Int32} {cis : List Nat} (X : cx_ p s m args c cc nL own tb D cl_ (ty_ ac)) (hKs : kn_ D ac a0 gl s) (hw : ww_ D cl_ ac a0 st s.heap H locs)
    (ht : ∀ t ∈ ([9] : List Nat), ∃ E : String, (ty_ ac)[t]? = some (ac t, .object E) ∧ ∀ ci ∈ cis, ∃ q : vw_C, cl_[ci]? = some q ∧ ∀ comp c0 : ClassId, s.vm.findClass E = some comp → s.vm.findClass q.1 = some c0 → s.vm.assignable c0 comp = true)
    (hv : so_cq r0 sp r1 dp n 9 cis st = some st') (hls : ls.size = nL) (hlink : Cond.methodLink own index arraycopyName ∈ tb) (hnat : Cond.native arraycopyName ∈ tb) (hstat : Cond.static arraycopyName ∈ tb) (hini : Cond.initialized "java/lang/System" ∈ tb)
    (hfr : 1 ≤ R.frames) (hlo : (rest.map fun v => v.category).sum + (nativeFrameWords "java/lang/System" "arraycopy" 5 + 11) ≤ R.locals) (hdg : decode cc pc = .ok (.invokestatic index, 3))
    (kk : ∀ (H1 : Heap) (locs1 : List Loc), ww_ D cl_ ac a0 st' s.heap H1 locs1 → W p l e R s m args below meth c H1 locs1 cells slots Q (F0 m (pc + 3) ls rest)) : W p l e R s m args below meth c H locs cells slots Q (F0 m pc ls (.int n :: .int dp :: va_rf r1 :: .int sp :: va_rf r0 :: rest)) := by
  obtain ⟨b0, b1, n0, n1, f, g, rfl, rfl, hb0, hb1, hpos, h1, h2, h3, h4, h5, hel, rfl⟩ := so_cq_some hv
  obtain ⟨E, hE, hasg⟩ := ht 9 (List.mem_singleton.mpr rfl)
  obtain ⟨x1, x2, x3, x4, x5, x6⟩ := X
  have hat := hw.1.2.2 b1 _ hb1
  have ha0 : a0 ≤ b1 := hat.1.elim id (fun ⟨_, _, z⟩ => by cases z; exact absurd hpos (Nat.lt_irrefl _))
  have hc0 : H[b0]? = some (vp_cell (ac 9) (n0, .inr (.inr (.inr (.inr f))))) := (hw.1.2.2 b0 _ hb0).2
  have hc1 : H[b1]? = some (vp_cell (ac 9) (n1, .inr (.inr (.inr (.inr g))))) := hat.2
  obtain ⟨-, k0, hk0, cm0, hkk0⟩ := (x6.2 9 _ hE).1 n0 (fun j => va_rf (f j))
  obtain ⟨-, k1, hk1, cm1, hkk1⟩ := (x6.2 9 _ hE).1 n1 (fun j => va_rf (g j))
  intro T hT Y
  obtain ⟨vm', Y', step⟩ := Y.arraycopy x1 x4 (x5 _ hlink) (x5 _ hnat) (x5 _ hstat) (x5 _ hini) (src := b0) (dst := b1) (cs := vp_cell (ac 9) (n0, .inr (.inr (.inr (.inr f))))) (cd := vp_cell (ac 9) (n1, .inr (.inr (.inr (.inr g))))) (srcPos := sp) (destPos := dp) (n := n) (by rw [hT]; exact hc0) (by rw [hT]; exact hc1)
    (fun _ h => by cases h) (fun _ h => by cases h) (fun h => by cases h) (fun h => by cases h) hk0 hk1 hkk0 hkk1 rfl h1 h2 h3
    (by rw [nn_i sp h1, nn_i n h3]; show ¬ _ > ((arrV (ac 9) n0 (fun j => va_rf (f j))).slots.size : Int); rw [arrV_size]; omega)
    (by rw [nn_i dp h2, nn_i n h3]; show ¬ _ > ((arrV (ac 9) n1 (fun j => va_rf (g j))).slots.size : Int); rw [arrV_size]; omega)
    (fun vm₁ hal i hi => by
      have e0 : (vp_cell (ac 9) (n0, .inr (.inr (.inr (.inr f))))).slots.getD (sp.toNatClampNeg + i) .null = va_rf (f (sp.toNatClampNeg + i)) := by
        show (arrV (ac 9) n0 (fun j => va_rf (f j))).slots.getD _ _ = _
        rw [Array.getD_eq_getD_getElem?, arrV_read _ _ (by omega)]
        rfl
      rw [e0]
      have his := hel i hi
      cases hy : f (sp.toNatClampNeg + i) with
      | none => exact ⟨rfl, trivial⟩
      | some y =>
        rw [hy] at his
        obtain ⟨ci, fs, hb, hci⟩ := so_is_some his
        obtain ⟨q, hq, hg⟩ := hasg ci hci
        obtain ⟨q', hq', cellV, g1, g2, g3, -⟩ : va_at D cl_ (y, .inr (ci, fs)) H := (hw.1.2.2 y _ hb).2
        have hcls := (x6.1 ci q hq).2
        obtain ⟨kA, comp, r1, r2, r3, -⟩ := (x6.2 9 _ hE).2
        cases hk1.symm.trans r1
        cases hkk1.symm.trans r2
        obtain ⟨kC, hkC, -⟩ := hcls.2
        obtain ⟨kE, hkE, -⟩ := Vm.findClass_spec r3
        obtain ⟨kC', hkC', -⟩ := hal.2.2 _ _ hkC
        obtain ⟨kE', hkE', -⟩ := hal.2.2 _ _ hkE
        refine ⟨rfl, cellV, (show T.heap[y]? = some cellV by rw [hT]; exact g1), (fun q h => by rw [g3] at h; cases h), ⟨kC', by rw [g2]; exact hkC'⟩, ⟨kE', hkE'⟩, ?_⟩
        show vm₁.assignable _ _ = true
        rw [hal.assignable, g2]
        exact hg _ _ r3 hcls.1)
    (g := F0 m pc ls (.int n :: .int dp :: .ref b1 :: .int sp :: .ref b0 :: rest)) rfl (hls.trans x3.symm) (rest := rest) rfl (by rw [x2]; exact hdg) hfr (by show 2 * 0 + _ + _ ≤ _; omega)
  have e1 : copied (vp_cell (ac 9) (n0, .inr (.inr (.inr (.inr f))))) (vp_cell (ac 9) (n1, .inr (.inr (.inr (.inr g))))) sp dp n = vp_cell (ac 9) (n1, .inr (.inr (.inr (.inr (va_cpy f g sp.toNatClampNeg dp.toNatClampNeg n.toNatClampNeg))))) := by
    rw [vp_cell_q, vp_cell_q, vp_cell_q]
    exact va_copied (fun z => va_rf z) (ac 9) (ac 9) f g h4
  rw [e1] at Y' step
  have hheap : ((T.setVm vm').setCell b1 (vp_cell (ac 9) (n1, .inr (.inr (.inr (.inr (va_cpy f g sp.toNatClampNeg dp.toNatClampNeg n.toNatClampNeg))))))).heap = H.setIfInBounds b1 (vp_cell (ac 9) (n1, .inr (.inr (.inr (.inr (va_cpy f g sp.toNatClampNeg dp.toNatClampNeg n.toNatClampNeg)))))) := by rw [← hT]; rfl
  obtain ⟨t, a1, b2⟩ := kk _ _ (rr_set hw ha0 (Array.getElem?_eq_some_iff.mp hc1).1 (fun H1 h => h) (fun q hq => by
    obtain ⟨z, -, hz⟩ := List.mem_map.mp hq
    rw [← hz])) _ hheap Y'
  exact ⟨t, step t a1, b2⟩
theorem rr_cpi {r0 r1 : Option Nat} {sp dp n : Int32} (X : cx_ p s m args c cc nL own tb D cl_ (ty_ ac)) (_hKs : kn_ D ac a0 gl s) (hw : ww_ D cl_ ac a0 st s.heap H locs)
    (hv : so_ci r0 sp r1 dp n 0 st = some st') (hls : ls.size = nL) (hlink : Cond.methodLink own index arraycopyName ∈ tb) (hnat : Cond.native arraycopyName ∈ tb) (hstat : Cond.static arraycopyName ∈ tb) (hini : Cond.initialized "java/lang/System" ∈ tb)
    (hfr : 1 ≤ R.frames) (hlo : (rest.map fun v => v.category).sum + (nativeFrameWords "java/lang/System" "arraycopy" 5 + 11) ≤ R.locals) (hdg : decode cc pc = .ok (.invokestatic index, 3))
    (kk : ∀ (H1 : Heap) (locs1 : List Loc), ww_ D cl_ ac a0 st' s.heap H1 locs1 → W p l e R s m args below meth c H1 locs1 cells slots Q (F0 m (pc + 3) ls rest)) : W p l e R s m args below meth c H locs cells slots Q (F0 m pc ls (.int n :: .int dp :: va_rf r1 :: .int sp :: va_rf r0 :: rest)) := by
  obtain ⟨b0, b1, n0, n1, f, g, rfl, rfl, hb0, hb1, h1, h2, h3, h4, h5, rfl⟩ := so_ci_some hv
  obtain ⟨x1, x2, x3, x4, x5, x6⟩ := X
  have hat := hw.1.2.2 b1 _ hb1
  have ha0 : a0 ≤ b1 := hat.1.elim id (fun ⟨_, _, z⟩ => by cases z)
  have hc0 : H[b0]? = some (vp_cell (ac 0) (n0, .inl f)) := (hw.1.2.2 b0 _ hb0).2
  have hc1 : H[b1]? = some (vp_cell (ac 0) (n1, .inl g)) := hat.2
  obtain ⟨-, k0, hk0, cm0, hkk0⟩ := (x6.2 0 (ac 0, .int) rfl).1 n0 (fun j => .int (f j))
  obtain ⟨-, k1, hk1, cm1, hkk1⟩ := (x6.2 0 (ac 0, .int) rfl).1 n1 (fun j => .int (g j))
  intro T hT Y
  obtain ⟨vm', Y', step⟩ := Y.arraycopy x1 x4 (x5 _ hlink) (x5 _ hnat) (x5 _ hstat) (x5 _ hini) (src := b0) (dst := b1) (cs := vp_cell (ac 0) (n0, .inl f)) (cd := vp_cell (ac 0) (n1, .inl g)) (srcPos := sp) (destPos := dp) (n := n) (by rw [hT]; exact hc0) (by rw [hT]; exact hc1)
    (fun _ h => by cases h) (fun _ h => by cases h) (fun h => by cases h) (fun h => by cases h) hk0 hk1 hkk0 hkk1 (by rfl) h1 h2 h3
    (by rw [nn_i sp h1, nn_i n h3]; show ¬ _ > ((arrV (ac 0) n0 (fun j => .int (f j))).slots.size : Int); rw [arrV_size]; omega)
    (by rw [nn_i dp h2, nn_i n h3]; show ¬ _ > ((arrV (ac 0) n1 (fun j => .int (g j))).slots.size : Int); rw [arrV_size]; omega)
    (fun vm₁ _ i hi => by
      have e0 : (vp_cell (ac 0) (n0, .inl f)).slots.getD (sp.toNatClampNeg + i) .null = .int (f (sp.toNatClampNeg + i)) := by
        show (arrV (ac 0) n0 (fun j => .int (f j))).slots.getD _ _ = _
        rw [Array.getD_eq_getD_getElem?, arrV_read _ _ (by omega)]
        rfl
      rw [e0]
      exact ⟨rfl, trivial⟩)
    (g := F0 m pc ls (.int n :: .int dp :: .ref b1 :: .int sp :: .ref b0 :: rest)) rfl (hls.trans x3.symm) (rest := rest) rfl (by rw [x2]; exact hdg) hfr (by show 2 * 0 + _ + _ ≤ _; omega)
  have e1 : copied (vp_cell (ac 0) (n0, .inl f)) (vp_cell (ac 0) (n1, .inl g)) sp dp n = vp_cell (ac 0) (n1, .inl (va_cpy f g sp.toNatClampNeg dp.toNatClampNeg n.toNatClampNeg)) := va_copied (fun z => .int z) (ac 0) (ac 0) f g h4
  rw [e1] at Y' step
  have hheap : ((T.setVm vm').setCell b1 (vp_cell (ac 0) (n1, .inl (va_cpy f g sp.toNatClampNeg dp.toNatClampNeg n.toNatClampNeg)))).heap = H.setIfInBounds b1 (vp_cell (ac 0) (n1, .inl (va_cpy f g sp.toNatClampNeg dp.toNatClampNeg n.toNatClampNeg))) := by rw [← hT]; rfl
  obtain ⟨t, a1, b2⟩ := kk _ _ (rr_set hw ha0 (Array.getElem?_eq_some_iff.mp hc1).1 (fun H1 h => h) (fun q hq => by
    obtain ⟨z, -, hz⟩ := List.mem_map.mp hq
    rw [← hz])) _ hheap Y'
  exact ⟨t, step t a1, b2⟩
end RRG
