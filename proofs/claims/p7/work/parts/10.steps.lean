theorem rf_step_new {p : Program} {e : Env} {s : State} {f : JFrame} {rs : List Frame} {c : Code} {ty : ArrayType} {n : Int32} {rest : List Value} {cA : ClassId} {kA : Class} {comp : ClassId}
    (hf : s.frames = .java f :: rs) (hpc : (f.pc != 0) = true) (hc : s.code? f.method = some c)
    (hd : decode c.code f.pc = .ok (.newarray ty, 2)) (hst : f.stack = .int n :: rest) (hn : ¬ n < 0)
    (hlim : ¬ n.toNatClampNeg > e.platform.arrayLengthLimit)
    (hheap : ¬ n.toNatClampNeg * componentBytes (newarray.typeOf ty) > e.platform.maxHeapBytes)
    (hA : s.vm.findClass ("[" ++ (newarray.typeOf ty).toString) = some cA) (hk : s.vm.classes[cA]? = some kA)
    (hkind : kA.kind = .array comp (newarray.typeOf ty))
    (hcells : s.heap.size < e.platform.maxCells) (hslots : s.slotsUsed + n.toNatClampNeg ≤ e.platform.maxSlots) :
    (stepThread p.tables e s).1 = (s.pushCell { cls := cA, slots := Array.replicate n.toNatClampNeg (defaultValue (newarray.typeOf ty)), vm := .none }).setTop { f with pc := f.pc + 2, stack := .ref s.heap.size :: rest } := by
  have ht : s.topJava? = some f := by simp [State.topJava?, hf]
  have hs : s.topJava?.isSome := by rw [ht]; rfl
  have hself : s.setTop f = s := State.setTop_self ht
  have hw : wpRun (newarray.sem ty) (fun _ s' _ => s' = (s.pushCell { cls := cA, slots := Array.replicate n.toNatClampNeg (defaultValue (newarray.typeOf ty)), vm := .none }).setTop { f with stack := .ref s.heap.size :: rest }) (fun _ _ _ => False) e (s.setTop f) :=
    (newarray.wp_ready hs hA hk hkind hst hn hlim hheap).mpr ⟨hcells, hslots, rfl⟩
  have hr := (wpRun_iff_run _ _ _ _ _).mp hw
  rw [hself] at hr
  have hexec : p.tables.exec = Jvm.exec := by cases p <;> rfl
  have hstep : stepThread p.tables e s = afterInstr e 2 ((newarray.sem ty).run e s) := by
    unfold stepThread
    simp only [hf, overridden, hpc, if_true, hc, hd, Option.map_some, hexec]
    rfl
  rw [hstep]
  cases hrun : (newarray.sem ty).run e s with
  | ok a s₁ acts =>
    rw [hrun] at hr
    simp only at hr
    rw [hr]
    exact afterInstr_ok e 2 _ _ acts
  | ctl x s₁ acts => rw [hrun] at hr; cases x <;> exact hr.elim
def rf_new (e : Env) (s : State) : Option State :=
  match s.frames with
  | .java f :: _ =>
    match s.code? f.method with
    | some c =>
      match decode c.code f.pc with
      | .ok (.newarray ty, len) =>
        match f.stack with
        | .int n :: rest =>
          match s.vm.findClass ("[" ++ (newarray.typeOf ty).toString) with
          | some cA =>
            match s.vm.classes[cA]? with
            | some kA =>
              match kA.kind with
              | .array _ t =>
                match (Nat.beq len 2 && (f.pc != 0) && decide (t = newarray.typeOf ty) && decide (¬ n < 0) && decide (¬ n.toNatClampNeg > e.platform.arrayLengthLimit)
                  && decide (¬ n.toNatClampNeg * componentBytes (newarray.typeOf ty) > e.platform.maxHeapBytes) && decide (s.heap.size < e.platform.maxCells) && decide (s.slotsUsed + n.toNatClampNeg ≤ e.platform.maxSlots)) with
                | true => some ((s.pushCell { cls := cA, slots := Array.replicate n.toNatClampNeg (defaultValue (newarray.typeOf ty)), vm := .none }).setTop { f with pc := f.pc + 2, stack := .ref s.heap.size :: rest })
                | false => none
              | _ => none
            | none => none
          | none => none
        | _ => none
      | _ => none
    | none => none
  | _ => none
theorem rf_new_ok {p : Program} {e : Env} {s t : State} (h : rf_new e s = some t) : (stepThread p.tables e s).1 = t := by
  unfold rf_new at h
  split at h
  · rename_i f r hf
    split at h
    · rename_i c hc
      split at h
      · rename_i ty len hd
        split at h
        · rename_i n rest hst
          split at h
          · rename_i cA hA
            split at h
            · rename_i kA hk
              split at h
              · rename_i comp t' hkind
                split at h
                · rename_i hg
                  simp only [Bool.and_eq_true, decide_eq_true_eq] at hg
                  obtain ⟨⟨⟨⟨⟨⟨⟨h1, h2⟩, h3⟩, h4⟩, h5⟩, h6⟩, h7⟩, h8⟩ := hg
                  have h1' : len = 2 := Nat.eq_of_beq_eq_true h1
                  subst h1'
                  subst h3
                  rw [← Option.some.inj h]
                  exact rf_step_new hf h2 hc hd hst h4 h5 h6 hA hk hkind h7 h8
                · cases h
              · cases h
            · cases h
          · cases h
        · cases h
      · cases h
    · cases h
  · cases h
def rf_next (tb : Tables) (e : Env) (s : State) : State := match rf_new e s with
  | some t => t
  | none => (stepThread tb e s).1
theorem rf_next_eq (p : Program) (e : Env) (s : State) : rf_next p.tables e s = (stepThread p.tables e s).1 := by
  unfold rf_next
  split
  · rename_i t h
    exact (rf_new_ok h).symm
  · rfl
def rf_bad : List Frame → Bool
  | [.native g] => match g.answer with
    | some (.returned (some (.int v))) => v == 0
    | _ => false
  | _ => false
def rf_two : List Frame → Bool
  | _ :: _ :: _ => true
  | _ => false
def rf_goes (s : State) : Bool := match s.status, s.curStatus?, s.alone with
  | .running, some .runnable, true => true
  | _, _, _ => false
def rf_chk (tb : Tables) (e : Env) : Nat → State → Bool
  | 0, _ => false
  | n + 1, s => match rf_two s.frames with
    | true => match rf_goes s with
      | true => rf_chk tb e n (rf_next tb e s)
      | false => false
    | false => rf_bad s.frames
theorem rf_goes_ok {s : State} (h : rf_goes s = true) : s.goesOn := by
  unfold rf_goes at h
  split at h
  · rename_i h1 h2 h3
    exact ⟨h1, h2, h3⟩
  · cases h
theorem rf_sound (p : Program) (e : Env) : ∀ (n : Nat) (s : State), rf_chk p.tables e n s = true →
    ∃ N, (∀ k, k < N → rf_two (stepsAlone p.tables e k s).frames = true) ∧ rf_bad (stepsAlone p.tables e N s).frames = true := by
  intro n
  induction n with
  | zero => intro s h; cases h
  | succ n ih =>
    intro s h
    unfold rf_chk at h
    split at h
    · rename_i h2
      split at h
      · rename_i hg
        rw [rf_next_eq] at h
        obtain ⟨N, hN, hb⟩ := ih _ h
        have hgo : s.goesOn := rf_goes_ok hg
        refine ⟨N + 1, ?_, ?_⟩
        · intro k hk
          cases k with
          | zero => exact h2
          | succ k => rw [stepsAlone_succ _ hgo]; exact hN k (by omega)
        · rw [stepsAlone_succ _ hgo]; exact hb
      · cases h
    · exact ⟨0, fun k hk => absurd hk (Nat.not_lt_zero _), h⟩
theorem rf_out {a : Array Value} {s t : State} {o : Outcome} (h : limb_1_2.after a s o t = true) : o = .returned (some (.int 1)) := by
  have h' : (Cond.eq .result (.int 1)).value a s (some o) t [] = some true := Cond.after_iff.mp h
  cases o with
  | threw b => simp [Cond.value, Term.eval] at h'
  | returned v =>
    cases v with
    | none => simp [Cond.value, Term.eval] at h'
    | some v => cases v <;> simp_all [Cond.value, Term.eval]
theorem rf_two_len {l : List Frame} (h : rf_two l = true) : 2 ≤ l.length := by
  unfold rf_two at h
  split at h
  · simp
  · cases h
theorem rf_bad_len {l : List Frame} (h : rf_bad l = true) : l.length = 1 := by
  unfold rf_bad at h
  split at h
  · rfl
  · cases h
/-- A run that ends with 0 is no run that ends with 1: what a claim's second half says of a start is then false. -/
theorem rf_clash {p : Program} {e : Env} {s : State} {n fuel : Nat} {o : Outcome} (hc : rf_chk p.tables e fuel s = true)
    (hw : ∀ k, k < n → Within (stepsAlone p.tables e k s) Lib.HandBits.below0) (he : Ended (stepsAlone p.tables e n s) Lib.HandBits.below0 o)
    (ho : o = .returned (some (.int 1))) : False := by
  obtain ⟨N, hN, hb⟩ := rf_sound p e fuel s hc
  subst ho
  rcases Nat.lt_trichotomy n N with hlt | heq | hgt
  · have h1 := he.length_returned
    have h2 := rf_two_len (hN n hlt)
    have h3 : Lib.HandBits.below0.length = 1 := rfl
    omega
  · subst heq
    have hf : (stepsAlone p.tables e n s).frames = .native { ({ method := ⟨0, 0⟩, args := #[] } : NFrame) with awaiting := false, answer := some (.returned (some (.int 1))) } :: [] := he
    rw [hf] at hb
    exact absurd hb (by decide)
  · obtain ⟨above, hf, hne, -⟩ := hw N hgt
    have h1 := rf_bad_len hb
    rw [hf, List.length_append] at h1
    have h3 : Lib.HandBits.below0.length = 1 := rfl
    have h4 : above.length = 0 := by omega
    exact hne (List.eq_nil_of_length_eq_zero h4)
