/-! PART 95: class and model in one memory; the script; more rows -/
/-- the class's memory C, the model's M at the names 32 * o + 16, the script at 17 -/
def zmg (C M : zMem) : zMem :=
  (fun o => if o % 32 = 16 then zc M (o / 32) else if o = 17 then 19 else zc C o,
   fun o => if o % 32 = 16 then zn M (o / 32) else if o = 17 then 0 else zn C o,
   fun o k => if o % 32 = 16 then (zr M (o / 32) k).map (fun q => 32 * q + 16) else if o = 17 then none else zr C o k,
   fun o k => if o % 32 = 16 then zi M (o / 32) k else if o = 17 then 0 else zi C o k,
   fun o k => if o % 32 = 16 then zl M (o / 32) k else if o = 17 then 0 else zl C o k,
   fun o k => if o % 32 = 16 then zd M (o / 32) k else if o = 17 then 0 else zd C o k)
def zCok (C : zMem) : Prop := (∀ o, (o % 32 = 16 ∨ o = 17) → zc C o = 0) ∧ (∀ o k o', zr C o k = some o' → o' % 32 ≠ 16 ∧ o' ≠ 17)
def zIC (p : Nat) : Bool := decide (¬ (p % 32 = 16 ∨ p = 17))
def zIM (p : Nat) : Bool := decide (p % 32 = 16)
theorem zIC_t {p : Nat} : zIC p = true ↔ p % 32 ≠ 16 ∧ p ≠ 17 := by unfold zIC; rw [decide_eq_true_iff]; omega
theorem zIC_f {p : Nat} : zIC p = false ↔ p % 32 = 16 ∨ p = 17 := by unfold zIC; rw [decide_eq_false_iff_not]; omega
theorem zIM_t {p : Nat} : zIM p = true ↔ p % 32 = 16 := by unfold zIM; rw [decide_eq_true_iff]
theorem zIM_n (o : Nat) : zIM (32 * o + 16) = true := by unfold zIM; rw [decide_eq_true_iff]; omega
theorem zIM_f {p : Nat} : zIM p = false ↔ p % 32 ≠ 16 := by unfold zIM; rw [decide_eq_false_iff_not]
section ZMG
variable {C C' M M' : zMem}
theorem zg_C {p : Nat} (h : p % 32 ≠ 16 ∧ p ≠ 17) : zc (zmg C M) p = zc C p ∧ zn (zmg C M) p = zn C p ∧ ∀ k, zr (zmg C M) p k = zr C p k ∧ zi (zmg C M) p k = zi C p k ∧ zl (zmg C M) p k = zl C p k ∧ zd (zmg C M) p k = zd C p k := by
  obtain ⟨h1, h2⟩ := h
  have e : ∀ {α : Type} (a b c : α), (if p % 32 = 16 then a else if p = 17 then b else c) = c := fun a b c => by rw [if_neg h1, if_neg h2]
  exact ⟨e _ _ _, e _ _ _, fun k => ⟨e _ _ _, e _ _ _, e _ _ _, e _ _ _⟩⟩
theorem zg_M {o : Nat} : zc (zmg C M) (32 * o + 16) = zc M o ∧ zn (zmg C M) (32 * o + 16) = zn M o ∧ ∀ k, zr (zmg C M) (32 * o + 16) k = (zr M o k).map (fun q => 32 * q + 16) ∧ zi (zmg C M) (32 * o + 16) k = zi M o k ∧ zl (zmg C M) (32 * o + 16) k = zl M o k ∧ zd (zmg C M) (32 * o + 16) k = zd M o k := by
  have h1 : (32 * o + 16) % 32 = 16 := by omega
  have h2 : (32 * o + 16) / 32 = o := by omega
  unfold zmg zc zn zr zi zl zd
  simp only [h1, h2, if_true]
  exact ⟨trivial, trivial, fun k => ⟨trivial, trivial, trivial, trivial⟩⟩
theorem zg_17 : zc (zmg C M) 17 = 19 := rfl
theorem zsubC (h : zCok C) : zSub id zIC C (zmg C M) := by
  refine ⟨fun p _ => ⟨p, rfl⟩, fun o ho => zIC_t.mpr ?_, fun o ho => ?_, fun o k o' _ e => zIC_t.mpr (h.2 o k o' e), fun p k p' hp _ e => ?_⟩
  · refine ⟨fun e => ho (h.1 o (Or.inl e)), fun e => ho (h.1 o (Or.inr e))⟩
  · obtain ⟨q1, q2, q3⟩ := zg_C (C := C) (M := M) (zIC_t.mp ho)
    exact ⟨q1, q2, fun k => ⟨by rw [Option.map_id]; exact (q3 k).1, (q3 k).2⟩⟩
  · rcases zIC_f.mp hp with c | c
    · obtain ⟨o, rfl⟩ : ∃ o, p = 32 * o + 16 := ⟨p / 32, by omega⟩
      rw [(zg_M.2.2 k).1] at e
      cases hz : zr M o k with
      | none => rw [hz] at e; cases e
      | some q => rw [hz] at e; cases e; exact zIC_f.mpr (Or.inl (show (32 * q + 16) % 32 = 16 by omega))
    · subst c
      cases e
theorem zoutC : zOut zIC (zmg C M) (zmg C' M) := by
  intro p hp
  rcases zIC_f.mp hp with c | c
  · obtain ⟨o, rfl⟩ : ∃ o, p = 32 * o + 16 := ⟨p / 32, by omega⟩
    obtain ⟨q1, q2, q3⟩ := zg_M (C := C) (M := M) (o := o)
    obtain ⟨r1, r2, r3⟩ := zg_M (C := C') (M := M) (o := o)
    exact ⟨r1.trans q1.symm, r2.trans q2.symm, fun k => ⟨(r3 k).1.trans (q3 k).1.symm, (r3 k).2.1.trans (q3 k).2.1.symm, (r3 k).2.2.1.trans (q3 k).2.2.1.symm, (r3 k).2.2.2.trans (q3 k).2.2.2.symm⟩⟩
  · subst c
    exact ⟨rfl, rfl, fun k => ⟨rfl, rfl, rfl, rfl⟩⟩
theorem zsubM (h : zCok C) : zSub (fun o => 32 * o + 16) zIM M (zmg C M) := by
  have hm : ∀ o, zIM (32 * o + 16) = true := fun o => zIM_t.mpr (by omega)
  refine ⟨fun p hp => ⟨p / 32, show p = 32 * (p / 32) + 16 by have := zIM_t.mp hp; omega⟩, fun o _ => hm o, fun o _ => zg_M, fun o k o' _ _ => hm o', fun p k p' hp _ e => ?_⟩
  have c := zIM_f.mp hp
  by_cases d : p = 17
  · subst d
    cases e
  · rw [((zg_C (C := C) (M := M) ⟨c, d⟩).2.2 k).1] at e
    exact zIM_f.mpr (h.2 p k p' e).1
theorem zoutM : zOut zIM (zmg C M) (zmg C M') := by
  intro p hp
  have c := zIM_f.mp hp
  by_cases d : p = 17
  · subst d
    exact ⟨rfl, rfl, fun k => ⟨rfl, rfl, rfl, rfl⟩⟩
  · obtain ⟨q1, q2, q3⟩ := zg_C (C := C) (M := M) ⟨c, d⟩
    obtain ⟨r1, r2, r3⟩ := zg_C (C := C) (M := M') ⟨c, d⟩
    exact ⟨r1.trans q1.symm, r2.trans q2.symm, fun k => ⟨(r3 k).1.trans (q3 k).1.symm, (r3 k).2.1.trans (q3 k).2.1.symm, (r3 k).2.2.1.trans (q3 k).2.2.1.symm, (r3 k).2.2.2.trans (q3 k).2.2.2.symm⟩⟩
theorem zg_newC {o t n : Nat} (h : o % 32 ≠ 16 ∧ o ≠ 17) : znew (zmg C M) o t n = zmg (znew C o t n) M := by
  have e : ∀ {α : Type} (p : Nat) (a b c z : α), (if p = o then z else if p % 32 = 16 then a else if p = 17 then b else c) = (if p % 32 = 16 then a else if p = 17 then b else if p = o then z else c) := fun p a b c z => by
    by_cases d : p = o
    · subst d
      rw [if_pos rfl, if_neg h.1, if_neg h.2, if_pos rfl]
    · rw [if_neg d, if_neg d]
  unfold znew zmg
  exact Prod.ext (funext fun p => e p _ _ _ _) (Prod.ext (funext fun p => e p _ _ _ _) (Prod.ext (funext fun p => funext fun k => e p _ _ _ _) (Prod.ext (funext fun p => funext fun k => e p _ _ _ _) (Prod.ext (funext fun p => funext fun k => e p _ _ _ _) (funext fun p => funext fun k => e p _ _ _ _)))))
theorem zg_newM {o t n : Nat} : znew (zmg C M) (32 * o + 16) t n = zmg C (znew M o t n) := by
  have e : ∀ {α : Type} (p : Nat) (a c z : α), (if p = 32 * o + 16 then z else if p % 32 = 16 then a else c) = (if p % 32 = 16 then (if p / 32 = o then z else a) else c) := fun p a c z => by
    by_cases d : p = 32 * o + 16
    · rw [if_pos d, if_pos (by omega), if_pos (by omega)]
    · rw [if_neg d]
      by_cases d2 : p % 32 = 16
      · rw [if_pos d2, if_pos d2, if_neg (by omega)]
      · rw [if_neg d2, if_neg d2]
  have e2 : ∀ (p k : Nat), (if p = 32 * o + 16 then none else if p % 32 = 16 then (zr M (p / 32) k).map (fun q => 32 * q + 16) else if p = 17 then none else zr C p k) = (if p % 32 = 16 then (if p / 32 = o then none else zr M (p / 32) k).map (fun q => 32 * q + 16) else if p = 17 then none else zr C p k) := fun p k => by
    by_cases d : p = 32 * o + 16
    · rw [if_pos d, if_pos (by omega), if_pos (by omega)]; rfl
    · rw [if_neg d]
      by_cases d2 : p % 32 = 16
      · rw [if_pos d2, if_pos d2, if_neg (by omega)]
      · rw [if_neg d2, if_neg d2]
  unfold znew zmg
  exact Prod.ext (funext fun p => e p _ _ _) (Prod.ext (funext fun p => e p _ _ _) (Prod.ext (funext fun p => funext fun k => e2 p k) (Prod.ext (funext fun p => funext fun k => e p _ _ _) (Prod.ext (funext fun p => funext fun k => e p _ _ _) (funext fun p => funext fun k => e p _ _ _)))))
theorem zg_zq (h : zq C C') (hC : zCok C) : zq (zmg C M) (zmg C' M) := by
  refine ⟨funext fun p => ?_, fun p hp => ?_⟩
  · show (if p % 32 = 16 then zc M (p / 32) else if p = 17 then 19 else zc C p) = (if p % 32 = 16 then zc M (p / 32) else if p = 17 then 19 else zc C' p)
    rw [h.1]
  · by_cases c : p % 32 = 16
    · obtain ⟨o, rfl⟩ : ∃ o, p = 32 * o + 16 := ⟨p / 32, by omega⟩
      obtain ⟨q1, q2, q3⟩ := zg_M (C := C) (M := M) (o := o)
      obtain ⟨r1, r2, r3⟩ := zg_M (C := C') (M := M) (o := o)
      exact ⟨q2.trans r2.symm, fun k => ⟨(q3 k).1.trans (r3 k).1.symm, (q3 k).2.1.trans (r3 k).2.1.symm, (q3 k).2.2.1.trans (r3 k).2.2.1.symm, (q3 k).2.2.2.trans (r3 k).2.2.2.symm⟩⟩
    · by_cases d : p = 17
      · subst d
        exact ⟨rfl, fun k => ⟨rfl, rfl, rfl, rfl⟩⟩
      · obtain ⟨q1, q2, q3⟩ := zg_C (C := C) (M := M) ⟨c, d⟩
        obtain ⟨r1, r2, r3⟩ := zg_C (C := C') (M := M) ⟨c, d⟩
        rw [q1] at hp
        obtain ⟨h1, h2⟩ := h.2 p hp
        exact ⟨q2.trans (h1.trans r2.symm), fun k => ⟨(q3 k).1.trans ((h2 k).1.trans (r3 k).1.symm), (q3 k).2.1.trans ((h2 k).2.1.trans (r3 k).2.1.symm), (q3 k).2.2.1.trans ((h2 k).2.2.1.trans (r3 k).2.2.1.symm), (q3 k).2.2.2.trans ((h2 k).2.2.2.trans (r3 k).2.2.2.symm)⟩⟩
theorem zCok_cmm {n : Nat → Nat} {i x : Nat → Nat → Int32} {lm : Nat → Nat → Int64} {y : Nat → Nat → Nat} {ol : Int64} {od : UInt64} : zCok (cmm n i x lm y ol od) := by
  refine ⟨fun o h => ?_, fun o k o' e => ?_⟩
  · show cC n (o % 32) (o / 32) = 0
    rcases h with h | h
    · rw [h]; rfl
    · subst h; rfl
  · have e' : cR n i y (o % 32) (o / 32) k = some o' := e
    clear e
    unfold cR at e'
    split at e'
    · split at e'
      · cases e'; omega
      · split at e'
        · cases e'; decide
        · split at e'
          · cases e'; decide
          · cases e'
    · split at e'
      · cases e'
        unfold cRow
        split <;> omega
      · cases e'
    · split at e'
      · cases e'
        have : cEl (o / 32 % 4) = 8 ∨ cEl (o / 32 % 4) = 10 ∨ cEl (o / 32 % 4) = 11 ∨ cEl (o / 32 % 4) = 13 := by
          unfold cEl
          split <;> omega
        omega
      · cases e'
    · split at e'
      · cases e'; decide
      · split at e'
        · cases e'; decide
        · cases e'
    · split at e'
      · cases e'; omega
      · cases e'
    · split at e'
      · cases e'; omega
      · split at e'
        · cases e'; omega
        · cases e'
    · split at e'
      · cases e'; omega
      · split at e'
        · split at e'
          · cases e'
          · cases e'; omega
        · cases e'
    · split at e'
      · cases e'; omega
      · cases e'
    · cases e'
theorem zCok_mk {A R I} (h1 : ∀ q ∈ A, q.1 % 32 ≠ 16 ∧ q.1 ≠ 17) (h2 : ∀ q ∈ R, q.2.2 % 32 ≠ 16 ∧ q.2.2 ≠ 17) : zCok (zmk A R I) := by
  refine ⟨fun o h => ?_, fun o k o' e => ?_⟩
  · show (zlk A o).1 = 0
    unfold zlk
    rw [List.find?_eq_none.mpr (fun q hq e => ?_)]
    have := h1 q hq
    rw [eq_of_beq e] at this
    omega
  · have e' : zlr R o k = some o' := e
    unfold zlr at e'
    cases hf : R.find? (fun q => q.1 == o && q.2.1 == k) with
    | none => rw [hf] at e'; cases e'
    | some q =>
      rw [hf] at e'
      cases e'
      exact h2 q (List.mem_of_find?_eq_some hf)
end ZMG
/-- a contract of the class, told of both -/
theorem zS_C {l : Launch} {y : MethodName} {ws : List Cond} {fr lo mc ms : Nat} {av : List Value} {C M : zMem} {post : Option Value → zMem → Prop} {xp : String → Prop} (h : zS l y ws fr lo mc ms av C post xp) (hC : zCok C) (hp : ∀ v C', post v C' → zCok C') (hav : ∀ v ∈ av, ∀ o, v = .ref o → o % 32 ≠ 16 ∧ o ≠ 17) :
    zS l y ws fr lo mc ms (av.map (rnm id)) (zmg C M) (fun v G => ∃ v0 C', post v0 C' ∧ v = v0.map (rnm id) ∧ G = zmg C' M) xp :=
  zS_lift h (fun S => zmg S M) id id zIC (fun _ => rfl) (zsubC hC) (fun v C' hv => ⟨zsubC (hp v C' hv), zoutC⟩) (fun v hv o ho => zIC_t.mpr (hav v hv o ho)) (fun _ => rfl) (fun _ => rfl) (fun _ => rfl) (fun _ => rfl)
/-- a contract of the model, told of both -/
theorem zS_M {l : Launch} {y : MethodName} {ws : List Cond} {fr lo mc ms : Nat} {av : List Value} {C M : zMem} {post : Option Value → zMem → Prop} {xp : String → Prop} (h : zS l y ws fr lo mc ms av M post xp) (hC : zCok C) (k31 : zc M zE0 ≠ 26) (k63 : zc M zMi ≠ 19) :
    zS l y ws fr lo mc ms (av.map (rnm (fun o => 32 * o + 16))) (zmg C M) (fun v G => ∃ v0 M', post v0 M' ∧ v = v0.map (rnm (fun o => 32 * o + 16)) ∧ G = zmg C M') xp :=
  zS_lift h (fun S => zmg C S) (fun o => 32 * o + 16) (fun p => p / 32) zIM (fun o => by show (32 * o + 16) / 32 = o; omega) (zsubM hC) (fun v M' _ => ⟨zsubM hC, zoutM⟩) (fun v _ o _ => zIM_n o) (fun e => absurd e (by decide)) (fun e => absurd e (by decide)) (fun e => absurd e k31) (fun e => absurd e k63)
