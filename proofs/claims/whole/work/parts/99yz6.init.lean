/-! the references behind both constructors -/
def rh0 : PP := GP_BandPark (fun _ _ => none)
set_option maxRecDepth 100000 in
theorem rh_ok1 : ∀ a, a < 254 → ∀ k, k < 60 → ((sh a).1 = 1 → (fkX (sh a).2.1)[k]? = some 2 → GP_Model rh0 a k = some (rf a k)) ∧ ((sh a).1 = 6 → k < (sh a).2.2 → GP_Model rh0 a k = some (rf a k)) := by decide +kernel
theorem rh_ok : RfK (GP_Model rh0) := rh_ok1
def sg0 : SS := GS_Model (GS_BandPark (fun _ _ => 0))
