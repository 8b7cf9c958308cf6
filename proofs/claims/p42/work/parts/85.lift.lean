/-! PART 85: a contract over one memory, told of a memory that holds more -/
def rnm (ρ : Nat → Nat) (v : Value) : Value := match v with
  | .ref a => .ref (ρ a)
  | w => w
/-- S, its names moved by ρ, is what G holds at the names of I -/
def zSub (ρ : Nat → Nat) (I : Nat → Bool) (S G : zMem) : Prop :=
  (∀ p, I p = true → ∃ o, p = ρ o) ∧ (∀ o, zc S o ≠ 0 → I (ρ o) = true) ∧
  (∀ o, I (ρ o) = true → zc G (ρ o) = zc S o ∧ zn G (ρ o) = zn S o ∧ ∀ k, zr G (ρ o) k = (zr S o k).map ρ ∧ zi G (ρ o) k = zi S o k ∧ zl G (ρ o) k = zl S o k ∧ zd G (ρ o) k = zd S o k) ∧
  (∀ o k o', zc S o ≠ 0 → zr S o k = some o' → I (ρ o') = true) ∧ (∀ p k p', I p = false → zc G p ≠ 0 → zr G p k = some p' → I p' = false)
/-- outside I nothing changed -/
def zOut (I : Nat → Bool) (G G' : zMem) : Prop := ∀ p, I p = false → zc G' p = zc G p ∧ zn G' p = zn G p ∧ ∀ k, zr G' p k = zr G p k ∧ zi G' p k = zi G p k ∧ zl G' p k = zl G p k ∧ zd G' p k = zd G p k
theorem zat_to {D : zG} {ad ad' : Nat → Nat} {M M' : zMem} {H H' : Heap} {o o' : Nat} (h : zat D ad M o H) (hc : zc M' o' = zc M o) (hn : zn M' o' = zn M o) (ha : ad' o' = ad o) (hH : H'[ad o]? = H[ad o]?) (hv : ∀ ty k, zmv ad' M' ty o' k = zmv ad M ty o k) : zat D ad' M' o' H' := by
  obtain ⟨h1, h2⟩ := h
  refine ⟨fun ci q hci hq => ?_, fun t ht h6 => ?_⟩
  · rw [hc] at hci
    rw [ha]
    exact ((h1 ci q hci hq).kept hH).to (fun x _ => (hv _ _).symm)
  · rw [hc] at ht
    rw [ha, hH, h2 t ht h6, hn]
    congr 2
    funext x
    exact (hv _ _).symm
theorem zmv_to {ad ad' : Nat → Nat} {M M' : zMem} {o o' k : Nat} (hr : (zr M' o' k).map ad' = (zr M o k).map ad) (hi : zi M' o' k = zi M o k) (hl : zl M' o' k = zl M o k) (hd : zd M' o' k = zd M o k) (ty : FieldType) : zmv ad' M' ty o' k = zmv ad M ty o k := by
  unfold zmv
  rw [hi, hl, hd, hr]
section LIFT
variable {D : zG} {ad : Nat → Nat} {ρ σ : Nat → Nat} {I : Nat → Bool} {S G : zMem} {H : Heap}
theorem zSub.rel (hσ : ∀ o, σ (ρ o) = o) (hs : zSub ρ I S G) (hr : zrel D ad G H) : zrel D (fun o => ad (ρ o)) S H := by
  obtain ⟨s1, s2, s3, s4, s5⟩ := hs
  have hc : ∀ o, zc S o ≠ 0 → zc G (ρ o) = zc S o := fun o h => (s3 o (s2 o h)).1
  have hc0 : ∀ o, zc S o ≠ 0 → zc G (ρ o) ≠ 0 := fun o h => by rw [hc o h]; exact h
  refine ⟨fun o o' h h' k k' e => ?_, fun o h k => hr.2.1 _ (hc0 o h) (by rw [hc o h]; exact k), fun o h => ?_, fun o k o' h e => ?_⟩
  · have := hr.1 (ρ o) (ρ o') (hc0 o h) (hc0 o' h') (by rw [hc o h]; exact k) (by rw [hc o' h']; exact k') e
    rw [← hσ o, ← hσ o', this]
  · obtain ⟨q1, q2, q3⟩ := s3 o (s2 o h)
    refine zat_to (hr.2.2.1 (ρ o) (hc0 o h)) q1.symm q2.symm rfl rfl (fun ty k => ?_)
    obtain ⟨r1, r2, r3, r4⟩ := q3 k
    exact zmv_to (by rw [r1, Option.map_map]; rfl) r2.symm r3.symm r4.symm ty
  · have h2 := s4 o k o' h e
    have h3 := (s3 o (s2 o h)).2.2 k
    have h4 := hr.2.2.2 (ρ o) k (ρ o') (hc0 o h) (by rw [h3.1, e]; rfl)
    rw [(s3 o' h2).1] at h4
    exact h4
theorem zSub.A {sz : Nat} (hs : zSub ρ I S G) : ∀ q, zA (fun o => ad (ρ o)) S sz q → zA ad G sz q := by
  rintro q (⟨o, h1, h2, h3, e⟩ | h)
  · have hc := (hs.2.2.1 o (hs.2.1 o h1)).1
    exact Or.inl ⟨ρ o, by rw [hc]; exact h1, by rw [hc]; exact h2, by rw [hc]; exact h3, e⟩
  · exact Or.inr h
/-- the names' places behind the call -/
def zjn (I : Nat → Bool) (σ : Nat → Nat) (ad ad' : Nat → Nat) : Nat → Nat := fun p => if I p = true then ad' (σ p) else ad p
theorem zSub.join {S' G' : zMem} {ad' : Nat → Nat} {H' : Heap} (hσ : ∀ o, σ (ρ o) = o) (hs : zSub ρ I S G) (hs' : zSub ρ I S' G') (ho : zOut I G G') (hr : zrel D ad G H) (hr' : zrel D ad' S' H') (hz : zx (fun o => ad (ρ o)) S H.size ad' S')
    (hF : H.size ≤ H'.size ∧ ∀ q : Nat, q < H.size → ¬ zA (fun o => ad (ρ o)) S H.size q → H'[q]? = H[q]?) (h31 : I zE0 = true → ρ zE0 = zE0) (h63 : I zMi = true → ρ zMi = zMi) :
    zrel D (zjn I σ ad ad') G' H' ∧ zx ad G H.size (zjn I σ ad ad') G' ∧ ∀ o, I (ρ o) = true → zjn I σ ad ad' (ρ o) = ad' o := by
  obtain ⟨s1, s2, s3, s4, s5⟩ := hs
  obtain ⟨t1, t2, t3, t4, t5⟩ := hs'
  have jI : ∀ o, I (ρ o) = true → zjn I σ ad ad' (ρ o) = ad' o := fun o h => by unfold zjn; rw [if_pos h, hσ]
  have jO : ∀ p, I p = false → zjn I σ ad ad' p = ad p := fun p h => by unfold zjn; rw [if_neg (by rw [h]; decide)]
  have cI : ∀ o, I (ρ o) = true → zc G' (ρ o) = zc S' o := fun o h => (t3 o h).1
  have cO : ∀ p, I p = false → zc G' p = zc G p := fun p h => (ho p h).1
  -- a name outside and one inside are never at one place
  have hno : ∀ p o, I p = false → zc G p ≠ 0 → zc G p ≠ 19 → zc S' o ≠ 0 → zc S' o ≠ 19 → I (ρ o) = true → ad p ≠ ad' o := fun p o hp h1 h2 h3 h4 hI e => by
    rcases hz.2.1 o h3 with h5 | h5
    · obtain ⟨z1, z2⟩ := hz.1 o h5
      have hcs := (s3 o hI).1
      have := hr.1 p (ρ o) h1 (by rw [hcs]; exact h5) h2 (by rw [hcs, ← z2]; exact h4) (e.trans z1)
      rw [this, hI] at hp
      cases hp
    · have := hr.2.1 p h1 h2
      rw [e] at this
      omega
  have hkeep : ∀ p, I p = false → zc G p ≠ 0 → zc G p ≠ 19 → H'[ad p]? = H[ad p]? := fun p hp h1 h2 => by
    refine hF.2 _ (hr.2.1 p h1 h2) ?_
    rintro (⟨o, k1, -, k3, e⟩ | e)
    · have hI := s2 o k1
      have hcs := (s3 o hI).1
      have := hr.1 p (ρ o) h1 (by rw [hcs]; exact k1) h2 (by rw [hcs]; exact k3) e
      rw [this, hI] at hp
      cases hp
    · have := hr.2.1 p h1 h2
      omega
  refine ⟨⟨fun p p' h h' k k' e => ?_, fun p h k => ?_, fun p h => ?_, fun p k p' h e => ?_⟩, ⟨fun p h => ?_, fun p h => ?_, fun e => ?_, fun e => ?_⟩, jI⟩
  · cases hp : I p with
    | true =>
      obtain ⟨o, rfl⟩ := t1 p hp
      rw [cI o hp] at h k
      rw [jI o hp] at e
      cases hp' : I p' with
      | true =>
        obtain ⟨o', rfl⟩ := t1 p' hp'
        rw [cI o' hp'] at h' k'
        rw [jI o' hp'] at e
        exact congrArg ρ (hr'.1 o o' h h' k k' e)
      | false =>
        rw [cO p' hp'] at h' k'
        rw [jO p' hp'] at e
        exact absurd e.symm (hno p' o hp' h' k' h k hp)
    | false =>
      rw [cO p hp] at h k
      rw [jO p hp] at e
      cases hp' : I p' with
      | true =>
        obtain ⟨o', rfl⟩ := t1 p' hp'
        rw [cI o' hp'] at h' k'
        rw [jI o' hp'] at e
        exact absurd e (hno p o' hp h k h' k' hp')
      | false =>
        rw [cO p' hp'] at h' k'
        rw [jO p' hp'] at e
        exact hr.1 p p' h h' k k' e
  · cases hp : I p with
    | true =>
      obtain ⟨o, rfl⟩ := t1 p hp
      rw [cI o hp] at h k
      rw [jI o hp]
      exact hr'.2.1 o h k
    | false =>
      rw [cO p hp] at h k
      rw [jO p hp]
      exact Nat.lt_of_lt_of_le (hr.2.1 p h k) hF.1
  · cases hp : I p with
    | true =>
      obtain ⟨o, rfl⟩ := t1 p hp
      obtain ⟨q1, q2, q3⟩ := t3 o hp
      rw [q1] at h
      refine zat_to (hr'.2.2.1 o h) q1 q2 (jI o hp) rfl (fun ty k => ?_)
      obtain ⟨r1, r2, r3, r4⟩ := q3 k
      refine zmv_to ?_ r2 r3 r4 ty
      rw [r1]
      cases hz9 : zr S' o k with
      | none => rfl
      | some o' => exact congrArg some (jI o' (t4 o k o' h hz9))
    | false =>
      obtain ⟨q1, q2, q3⟩ := ho p hp
      rw [q1] at h
      by_cases h19 : zc G p = 19
      · exact zat_19 (by rw [q1]; exact h19)
      · refine zat_to (hr.2.2.1 p h) q1 q2 (jO p hp) (hkeep p hp h h19) (fun ty k => ?_)
        obtain ⟨r1, r2, r3, r4⟩ := q3 k
        refine zmv_to ?_ r2 r3 r4 ty
        rw [r1]
        cases hz9 : zr G p k with
        | none => rfl
        | some p' => exact congrArg some (jO p' (s5 p k p' hp h hz9))
  · cases hp : I p with
    | true =>
      obtain ⟨o, rfl⟩ := t1 p hp
      obtain ⟨q1, -, q3⟩ := t3 o hp
      rw [q1] at h
      rw [(q3 k).1] at e
      cases hz9 : zr S' o k with
      | none => rw [hz9] at e; cases e
      | some o' =>
        rw [hz9] at e
        cases e
        rw [cI o' (t4 o k o' h hz9)]
        exact hr'.2.2.2 o k o' h hz9
    | false =>
      obtain ⟨q1, -, q3⟩ := ho p hp
      rw [q1] at h
      rw [(q3 k).1] at e
      have h9 := s5 p k p' hp h e
      rw [cO p' h9]
      exact hr.2.2.2 p k p' h e
  · cases hp : I p with
    | true =>
      obtain ⟨o, rfl⟩ := t1 p hp
      have q1 := (s3 o hp).1
      rw [q1] at h
      rw [jI o hp, cI o hp, q1]
      exact hz.1 o h
    | false => exact ⟨jO p hp, cO p hp⟩
  · cases hp : I p with
    | true =>
      obtain ⟨o, rfl⟩ := t1 p hp
      rw [cI o hp] at h
      rw [jI o hp, (s3 o hp).1]
      exact hz.2.1 o h
    | false =>
      rw [cO p hp] at h
      exact Or.inl h
  · cases hp : I zE0 with
    | true =>
      have e1 := h31 hp
      have hI : I (ρ zE0) = true := by rw [e1]; exact hp
      have e2 := cI zE0 hI
      have e3 := (s3 zE0 hI).1
      rw [e1] at e2 e3
      rw [e2] at e
      rw [e3]
      exact hz.2.2.1 e
    | false => rw [← cO zE0 hp, e]; decide
  · cases hp : I zMi with
    | true =>
      have e1 := h63 hp
      have hI : I (ρ zMi) = true := by rw [e1]; exact hp
      have e2 := cI zMi hI
      have e3 := (s3 zMi hI).1
      rw [e1] at e2 e3
      rw [e2] at e
      rw [e3]
      exact hz.2.2.2 e
    | false => rw [← cO zMi hp, e]; decide
theorem zSub.st {U : State} {sz : Nat} (hs : zSub ρ I S G) (h31 : I zE0 = true → ρ zE0 = zE0) (h63 : I zMi = true → ρ zMi = zMi) (k31 : zc S zE0 = 26 → I zE0 = true) (k63 : zc S zMi = 19 → I zMi = true) (h : zSt ad G (zA ad G sz) U H) : zSt (fun o => ad (ρ o)) S (zA (fun o => ad (ρ o)) S sz) U H := by
  have hA := hs.A (ad := ad) (sz := sz)
  refine ⟨h.1.narrow hA, h.2.1.narrow hA, fun e => ?_, fun e => ?_⟩
  · have hp := k31 e
    have e1 := h31 hp
    have e3 := (hs.2.2.1 zE0 (by rw [e1]; exact hp)).1
    rw [e1] at e3
    show zEz (ad (ρ zE0)) _ U H
    rw [e1]
    exact (h.2.2.1 (by rw [e3]; exact e)).narrow hA
  · have hp := k63 e
    have e1 := h63 hp
    have e3 := (hs.2.2.1 zMi (by rw [e1]; exact hp)).1
    rw [e1] at e3
    show va_Mi _ (ad (ρ zMi)) U
    rw [e1]
    exact h.2.2.2 (by rw [e3]; exact e)
end LIFT
theorem zS_lift {l : Launch} {y : MethodName} {ws : List Cond} {fr lo mc ms : Nat} {av : List Value} {S : zMem} {post : Option Value → zMem → Prop} {xp : String → Prop} (h : zS l y ws fr lo mc ms av S post xp) (mg : zMem → zMem) (ρ σ : Nat → Nat) (I : Nat → Bool) (hσ : ∀ o, σ (ρ o) = o)
    (hs : zSub ρ I S (mg S)) (hp : ∀ v S', post v S' → zSub ρ I S' (mg S') ∧ zOut I (mg S) (mg S')) (hav : ∀ v ∈ av, ∀ o, v = .ref o → I (ρ o) = true)
    (h31 : I zE0 = true → ρ zE0 = zE0) (h63 : I zMi = true → ρ zMi = zMi) (k31 : zc S zE0 = 26 → I zE0 = true) (k63 : zc S zMi = 19 → I zMi = true) :
    zS l y ws fr lo mc ms (av.map (rnm ρ)) (mg S) (fun v G => ∃ v0 S', post v0 S' ∧ v = v0.map (rnm ρ) ∧ G = mg S') xp := by
  intro D ad sz p e hA hc hk s m args below hf happ hP hK
  obtain ⟨P1, P2, P3, P4, P5, P6, P7⟩ := hP
  subst P2
  have hAA := hs.A (ad := ad) (sz := s.heap.size)
  have hph : ∀ v : Value, zph ad (rnm ρ v) = zph (fun o => ad (ρ o)) v := fun v => by cases v <;> rfl
  have hr := hs.rel hσ P3
  have hP' : zPc D (fun o => ad (ρ o)) S av s.heap.size args s := by
    refine ⟨?_, rfl, hr, fun v hv o ho => ?_, P5, hs.st h31 h63 k31 k63 P6, P7⟩
    · rw [P1, List.map_map]
      exact congrArg List.toArray (List.map_congr_left fun v _ => hph v)
    · have h1 := hav v hv o ho
      have h2 := P4 (rnm ρ v) (List.mem_map_of_mem hv) (ρ o) (by rw [ho]; rfl)
      rw [(hs.2.2.1 o h1).1] at h2
      exact h2
  obtain ⟨k, o, h1, h2, h3, hQ⟩ := h D (fun o => ad (ρ o)) s.heap.size p e hA hc hk s m args below hf happ hP' trivial
  refine ⟨k, o, h1, h2, h3, ?_⟩
  rcases hQ with ⟨⟨⟨v, ad', S', e1, e2, e3, e4, e5⟩, hF⟩, L, hE, hL⟩ | ⟨q, e1, E, ce, L, ⟨x1, x2, x3⟩, x4, x5, x6, x7, x8, x9⟩
  · obtain ⟨g1, g2⟩ := hp v S' e2
    obtain ⟨j1, j2, j3⟩ := zSub.join (σ := σ) hσ hs g1 g2 P3 e3 e4 hF h31 h63
    refine Or.inl ⟨⟨⟨v.map (rnm ρ), _, mg S', ?_, ⟨v, S', e2, rfl, rfl⟩, j1, j2, fun w hw => ?_⟩, hF.1, fun q q1 q2 => hF.2 q q1 (fun z => q2 (hAA q z))⟩, L, hE, fun q hq => hAA _ (hL q hq)⟩
    · rw [e1]
      cases v with
      | none => rfl
      | some v =>
        refine congrArg (fun z => Outcome.returned (some z)) ?_
        cases v with
        | ref o => exact congrArg Value.ref (j3 o (g1.2.1 o (e5 _ rfl o rfl))).symm
        | _ => rfl
    · cases v with
      | none => cases hw
      | some v =>
        cases hw
        intro o ho
        cases v with
        | ref a =>
          cases ho
          have h0 := e5 _ rfl a rfl
          rw [(g1.2.2.1 a (g1.2.1 a h0)).1]
          exact h0
        | _ => cases ho
  · refine Or.inr ⟨q, e1, E, ce, L, ⟨x1, ?_, x3.1, fun q q1 q2 => x3.2 q q1 (fun z => q2 (hAA q z))⟩, x4, x5, x6, x7, x8, fun z hz => hAA _ (x9 z hz)⟩
    have hO : zOut I (mg S) (mg S) := fun p _ => ⟨rfl, rfl, fun k => ⟨rfl, rfl, rfl, rfl⟩⟩
    obtain ⟨j1, -, -⟩ := zSub.join (σ := σ) hσ hs hs hO P3 x2 zx_rf x3 h31 h63
    refine zrel_congr j1 (fun p hp9 => ?_)
    unfold zjn
    by_cases c : I p = true
    · rw [if_pos c]
      obtain ⟨o, rfl⟩ := hs.1 p c
      rw [hσ]
    · rw [if_neg c]
theorem zS_imp {l : Launch} {y : MethodName} {ws : List Cond} {fr lo mc ms : Nat} {av : List Value} {M : zMem} {post post' : Option Value → zMem → Prop} {xp : String → Prop} (h : zS l y ws fr lo mc ms av M post xp) (hp : ∀ v M', post v M' → post' v M') : zS l y ws fr lo mc ms av M post' xp := by
  intro D ad sz p e hA hc hk s m args below hf happ hP hK
  obtain ⟨k, o, h1, h2, h3, hQ⟩ := h D ad sz p e hA hc hk s m args below hf happ hP trivial
  refine ⟨k, o, h1, h2, h3, ?_⟩
  rcases hQ with ⟨⟨⟨v, ad', M', e1, e2, e3, e4, e5⟩, hF⟩, hL⟩ | hX
  · exact Or.inl ⟨⟨⟨v, ad', M', e1, hp v M' e2, e3, e4, e5⟩, hF⟩, hL⟩
  · exact Or.inr hX
