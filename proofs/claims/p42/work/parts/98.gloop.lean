/-! PART 98g: the law's loop -/
section ZLC9
variable {g : zCtx} {l0 : Launch} {nm : String} {M00 : zMem} {tab : List ExceptionTableEntry}
theorem zl_loop (hl0 : l0.stackTraces = false) (X : zLX g l0 nm M00 (zpi (fun v _ => v = 1)) tab) {L : Nat} {xs : Nat → Int32} (S : zScr g L xs) (hL : L < 2 ^ 30) (ZS : zStg g) {st9 : Nat} (hst : st9 < 58) : ∀ r k9 : Nat, k9 + r = st9 → zKL g st9 k9 (100 + 8300 * k9) (3000 + 83000 * k9)
  | 0, k9, e => by
    intro n i x lm y t pr h hpr kk nn hk hn
    show zE g 19 36 [(0, .ref 17), (1, .ref 1), (2, .int (nI (n 5))), (3, .int (nI (n 6))), (4, .int (nI (n 8))), (5, .ref 16), (6, .int (nI st9)), (7, .int (nI k9))] [] (zmg (cmm n i x lm y 0 0) (pM pr)) kk nn
    refine z_iload X 7 dL_law_36 rfl ?_
    refine z_iload X 6 dL_law_38 rfl ?_
    refine z_icmp_ge X 868 dL_law_40 (by decide) (fun _ => ?_) (fun c => ?_)
    · exact zf_868 hl0 X h hpr ⟨by omega, by omega⟩
    · exact absurd (by rw [show k9 = st9 by omega]; exact Int32.le_refl _) c
  | r + 1, k9, e => by
    intro n i x lm y t pr h hpr kk nn hk hn
    exact zl_step hl0 X h hpr S hL ZS hst (by omega) (zl_loop hl0 X S hL ZS hst r (k9 + 1) (by omega)) ⟨by omega, by omega⟩ ⟨by omega, by omega⟩
end ZLC9
