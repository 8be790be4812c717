/-! the abstract state: what both sides stand for -/
/-! the abstract state: what both sides stand for -/
def qW : Type := (Nat → Nat → Nat) × (Nat → List Nat) × (Nat → Option Nat) × List (Nat × Nat × Nat × Nat) × List (Nat × Nat × Nat) × List (Nat × Nat × Nat)
def qW.nS (W : qW) : Nat := W.1 0 0
def qW.nP (W : qW) : Nat := W.1 0 1
def qW.nC (W : qW) : Nat := W.1 0 2
def qW.cold (W : qW) : Nat := W.1 0 3
def qW.drift (W : qW) : Nat := W.1 0 4
def qW.now (W : qW) : Nat := W.1 0 5
def qW.given (W : qW) : Nat := W.1 0 6
def qW.price (W : qW) (i : Nat) : Nat := W.1 10 i
def qW.km (W : qW) (i : Nat) : Nat := W.1 11 i
def qW.pow (W : qW) (i : Nat) : Nat := W.1 12 i
def qW.wait (W : qW) (i : Nat) : Nat := W.1 13 i
def qW.sgiv (W : qW) (i : Nat) : Nat := W.1 14 i
def qW.first (W : qW) (i : Nat) : Nat := W.1 15 i
def qW.cap (W : qW) (i : Nat) : Nat := W.1 16 i
def qW.idle (W : qW) (i : Nat) : Nat := W.1 17 i
def qW.after (W : qW) (i : Nat) : Nat := W.1 18 i
def qW.q (W : qW) (s : Nat) : List Nat := W.2.1 s
def qW.psite (W : qW) (i : Nat) : Nat := W.1 19 i
def qW.pmost (W : qW) (i : Nat) : Nat := W.1 20 i
def qW.pcab (W : qW) (i : Nat) : Nat := W.1 21 i
def qW.pcar (W : qW) (p : Nat) : Option Nat := W.2.2.1 p
def qW.pfail (W : qW) (i : Nat) : Nat := W.1 22 i
def qW.psays (W : qW) (i : Nat) : Nat := W.1 23 i
def qW.bat (W : qW) (i : Nat) : Nat := W.1 24 i
def qW.use (W : qW) (i : Nat) : Nat := W.1 25 i
def qW.rate (W : qW) (i : Nat) : Nat := W.1 26 i
def qW.cab (W : qW) (i : Nat) : Nat := W.1 27 i
def qW.chg (W : qW) (i : Nat) : Nat := W.1 28 i
def qW.wh (W : qW) (i : Nat) : Nat := W.1 29 i
def qW.want (W : qW) (i : Nat) : Nat := W.1 30 i
def qW.stay (W : qW) (i : Nat) : Nat := W.1 31 i
def qW.idl (W : qW) (i : Nat) : Nat := W.1 32 i
def qW.idlAll (W : qW) (i : Nat) : Nat := W.1 33 i
def qW.got (W : qW) (i : Nat) : Nat := W.1 34 i
def qW.waited (W : qW) (i : Nat) : Nat := W.1 35 i
def qW.pays (W : qW) (i : Nat) : Nat := W.1 36 i
def qW.tried (W : qW) (i : Nat) : Nat := W.1 37 i
def qW.plugAt (W : qW) (i : Nat) : Nat := W.1 38 i
def qW.tr (W : qW) : List (Nat × Nat × Nat × Nat) := W.2.2.2.1
def qW.bA (W : qW) : List (Nat × Nat × Nat) := W.2.2.2.2.1
def qW.bB (W : qW) : List (Nat × Nat × Nat) := W.2.2.2.2.2
/-- a number set; a queue, a plug with its car, tries, books set -/
def qW.up (W : qW) (f i x : Nat) : qW := (fun a j => if a = f ∧ j = i then x else W.1 a j, W.2)
def qW.upQ (W : qW) (s : Nat) (l : List Nat) : qW := (W.1, (fun j => if j = s then l else W.2.1 j), W.2.2)
def qW.upP (W : qW) (p : Nat) (c : Option Nat) : qW := (W.1, W.2.1, (fun j => if j = p then c else W.2.2.1 j), W.2.2.2)
def qW.upT (W : qW) (l : List (Nat × Nat × Nat × Nat)) : qW := (W.1, W.2.1, W.2.2.1, l, W.2.2.2.2)
def qW.upA (W : qW) (l : List (Nat × Nat × Nat)) : qW := (W.1, W.2.1, W.2.2.1, W.2.2.2.1, l, W.2.2.2.2.2)
def qW.upB (W : qW) (l : List (Nat × Nat × Nat)) : qW := (W.1, W.2.1, W.2.2.1, W.2.2.2.1, W.2.2.2.2.1, l)
theorem qu_nS (W : qW) (f i x : Nat) : (W.up f i x).nS = if 0 = f ∧ 0 = i then x else W.nS := rfl
theorem qu_nP (W : qW) (f i x : Nat) : (W.up f i x).nP = if 0 = f ∧ 1 = i then x else W.nP := rfl
theorem qu_nC (W : qW) (f i x : Nat) : (W.up f i x).nC = if 0 = f ∧ 2 = i then x else W.nC := rfl
theorem qu_cold (W : qW) (f i x : Nat) : (W.up f i x).cold = if 0 = f ∧ 3 = i then x else W.cold := rfl
theorem qu_drift (W : qW) (f i x : Nat) : (W.up f i x).drift = if 0 = f ∧ 4 = i then x else W.drift := rfl
theorem qu_now (W : qW) (f i x : Nat) : (W.up f i x).now = if 0 = f ∧ 5 = i then x else W.now := rfl
theorem qu_given (W : qW) (f i x : Nat) : (W.up f i x).given = if 0 = f ∧ 6 = i then x else W.given := rfl
theorem qu_price (W : qW) (f i x j : Nat) : (W.up f i x).price j = if 10 = f ∧ j = i then x else W.price j := rfl
theorem qu_km (W : qW) (f i x j : Nat) : (W.up f i x).km j = if 11 = f ∧ j = i then x else W.km j := rfl
theorem qu_pow (W : qW) (f i x j : Nat) : (W.up f i x).pow j = if 12 = f ∧ j = i then x else W.pow j := rfl
theorem qu_wait (W : qW) (f i x j : Nat) : (W.up f i x).wait j = if 13 = f ∧ j = i then x else W.wait j := rfl
theorem qu_sgiv (W : qW) (f i x j : Nat) : (W.up f i x).sgiv j = if 14 = f ∧ j = i then x else W.sgiv j := rfl
theorem qu_first (W : qW) (f i x j : Nat) : (W.up f i x).first j = if 15 = f ∧ j = i then x else W.first j := rfl
theorem qu_cap (W : qW) (f i x j : Nat) : (W.up f i x).cap j = if 16 = f ∧ j = i then x else W.cap j := rfl
theorem qu_idle (W : qW) (f i x j : Nat) : (W.up f i x).idle j = if 17 = f ∧ j = i then x else W.idle j := rfl
theorem qu_after (W : qW) (f i x j : Nat) : (W.up f i x).after j = if 18 = f ∧ j = i then x else W.after j := rfl
theorem qu_psite (W : qW) (f i x j : Nat) : (W.up f i x).psite j = if 19 = f ∧ j = i then x else W.psite j := rfl
theorem qu_pmost (W : qW) (f i x j : Nat) : (W.up f i x).pmost j = if 20 = f ∧ j = i then x else W.pmost j := rfl
theorem qu_pcab (W : qW) (f i x j : Nat) : (W.up f i x).pcab j = if 21 = f ∧ j = i then x else W.pcab j := rfl
theorem qu_pfail (W : qW) (f i x j : Nat) : (W.up f i x).pfail j = if 22 = f ∧ j = i then x else W.pfail j := rfl
theorem qu_psays (W : qW) (f i x j : Nat) : (W.up f i x).psays j = if 23 = f ∧ j = i then x else W.psays j := rfl
theorem qu_bat (W : qW) (f i x j : Nat) : (W.up f i x).bat j = if 24 = f ∧ j = i then x else W.bat j := rfl
theorem qu_use (W : qW) (f i x j : Nat) : (W.up f i x).use j = if 25 = f ∧ j = i then x else W.use j := rfl
theorem qu_rate (W : qW) (f i x j : Nat) : (W.up f i x).rate j = if 26 = f ∧ j = i then x else W.rate j := rfl
theorem qu_cab (W : qW) (f i x j : Nat) : (W.up f i x).cab j = if 27 = f ∧ j = i then x else W.cab j := rfl
theorem qu_chg (W : qW) (f i x j : Nat) : (W.up f i x).chg j = if 28 = f ∧ j = i then x else W.chg j := rfl
theorem qu_wh (W : qW) (f i x j : Nat) : (W.up f i x).wh j = if 29 = f ∧ j = i then x else W.wh j := rfl
theorem qu_want (W : qW) (f i x j : Nat) : (W.up f i x).want j = if 30 = f ∧ j = i then x else W.want j := rfl
theorem qu_stay (W : qW) (f i x j : Nat) : (W.up f i x).stay j = if 31 = f ∧ j = i then x else W.stay j := rfl
theorem qu_idl (W : qW) (f i x j : Nat) : (W.up f i x).idl j = if 32 = f ∧ j = i then x else W.idl j := rfl
theorem qu_idlAll (W : qW) (f i x j : Nat) : (W.up f i x).idlAll j = if 33 = f ∧ j = i then x else W.idlAll j := rfl
theorem qu_got (W : qW) (f i x j : Nat) : (W.up f i x).got j = if 34 = f ∧ j = i then x else W.got j := rfl
theorem qu_waited (W : qW) (f i x j : Nat) : (W.up f i x).waited j = if 35 = f ∧ j = i then x else W.waited j := rfl
theorem qu_pays (W : qW) (f i x j : Nat) : (W.up f i x).pays j = if 36 = f ∧ j = i then x else W.pays j := rfl
theorem qu_tried (W : qW) (f i x j : Nat) : (W.up f i x).tried j = if 37 = f ∧ j = i then x else W.tried j := rfl
theorem qu_plugAt (W : qW) (f i x j : Nat) : (W.up f i x).plugAt j = if 38 = f ∧ j = i then x else W.plugAt j := rfl
theorem qu_q (W : qW) (f i x s : Nat) : (W.up f i x).q s = W.q s := rfl
theorem qu_pcar (W : qW) (f i x s : Nat) : (W.up f i x).pcar s = W.pcar s := rfl
theorem qu_tr (W : qW) (f i x : Nat) : (W.up f i x).tr = W.tr := rfl
theorem qu_bA (W : qW) (f i x : Nat) : (W.up f i x).bA = W.bA := rfl
theorem qu_bB (W : qW) (f i x : Nat) : (W.up f i x).bB = W.bB := rfl
theorem quQ_nS (W : qW) (i : Nat) (l : List Nat) : (W.upQ i l).nS = W.nS := rfl
theorem quQ_nP (W : qW) (i : Nat) (l : List Nat) : (W.upQ i l).nP = W.nP := rfl
theorem quQ_nC (W : qW) (i : Nat) (l : List Nat) : (W.upQ i l).nC = W.nC := rfl
theorem quQ_cold (W : qW) (i : Nat) (l : List Nat) : (W.upQ i l).cold = W.cold := rfl
theorem quQ_drift (W : qW) (i : Nat) (l : List Nat) : (W.upQ i l).drift = W.drift := rfl
theorem quQ_now (W : qW) (i : Nat) (l : List Nat) : (W.upQ i l).now = W.now := rfl
theorem quQ_given (W : qW) (i : Nat) (l : List Nat) : (W.upQ i l).given = W.given := rfl
theorem quQ_price (W : qW) (i : Nat) (l : List Nat) (j : Nat) : (W.upQ i l).price j = W.price j := rfl
theorem quQ_km (W : qW) (i : Nat) (l : List Nat) (j : Nat) : (W.upQ i l).km j = W.km j := rfl
theorem quQ_pow (W : qW) (i : Nat) (l : List Nat) (j : Nat) : (W.upQ i l).pow j = W.pow j := rfl
theorem quQ_wait (W : qW) (i : Nat) (l : List Nat) (j : Nat) : (W.upQ i l).wait j = W.wait j := rfl
theorem quQ_sgiv (W : qW) (i : Nat) (l : List Nat) (j : Nat) : (W.upQ i l).sgiv j = W.sgiv j := rfl
theorem quQ_first (W : qW) (i : Nat) (l : List Nat) (j : Nat) : (W.upQ i l).first j = W.first j := rfl
theorem quQ_cap (W : qW) (i : Nat) (l : List Nat) (j : Nat) : (W.upQ i l).cap j = W.cap j := rfl
theorem quQ_idle (W : qW) (i : Nat) (l : List Nat) (j : Nat) : (W.upQ i l).idle j = W.idle j := rfl
theorem quQ_after (W : qW) (i : Nat) (l : List Nat) (j : Nat) : (W.upQ i l).after j = W.after j := rfl
theorem quQ_psite (W : qW) (i : Nat) (l : List Nat) (j : Nat) : (W.upQ i l).psite j = W.psite j := rfl
theorem quQ_pmost (W : qW) (i : Nat) (l : List Nat) (j : Nat) : (W.upQ i l).pmost j = W.pmost j := rfl
theorem quQ_pcab (W : qW) (i : Nat) (l : List Nat) (j : Nat) : (W.upQ i l).pcab j = W.pcab j := rfl
theorem quQ_pfail (W : qW) (i : Nat) (l : List Nat) (j : Nat) : (W.upQ i l).pfail j = W.pfail j := rfl
theorem quQ_psays (W : qW) (i : Nat) (l : List Nat) (j : Nat) : (W.upQ i l).psays j = W.psays j := rfl
theorem quQ_bat (W : qW) (i : Nat) (l : List Nat) (j : Nat) : (W.upQ i l).bat j = W.bat j := rfl
theorem quQ_use (W : qW) (i : Nat) (l : List Nat) (j : Nat) : (W.upQ i l).use j = W.use j := rfl
theorem quQ_rate (W : qW) (i : Nat) (l : List Nat) (j : Nat) : (W.upQ i l).rate j = W.rate j := rfl
theorem quQ_cab (W : qW) (i : Nat) (l : List Nat) (j : Nat) : (W.upQ i l).cab j = W.cab j := rfl
theorem quQ_chg (W : qW) (i : Nat) (l : List Nat) (j : Nat) : (W.upQ i l).chg j = W.chg j := rfl
theorem quQ_wh (W : qW) (i : Nat) (l : List Nat) (j : Nat) : (W.upQ i l).wh j = W.wh j := rfl
theorem quQ_want (W : qW) (i : Nat) (l : List Nat) (j : Nat) : (W.upQ i l).want j = W.want j := rfl
theorem quQ_stay (W : qW) (i : Nat) (l : List Nat) (j : Nat) : (W.upQ i l).stay j = W.stay j := rfl
theorem quQ_idl (W : qW) (i : Nat) (l : List Nat) (j : Nat) : (W.upQ i l).idl j = W.idl j := rfl
theorem quQ_idlAll (W : qW) (i : Nat) (l : List Nat) (j : Nat) : (W.upQ i l).idlAll j = W.idlAll j := rfl
theorem quQ_got (W : qW) (i : Nat) (l : List Nat) (j : Nat) : (W.upQ i l).got j = W.got j := rfl
theorem quQ_waited (W : qW) (i : Nat) (l : List Nat) (j : Nat) : (W.upQ i l).waited j = W.waited j := rfl
theorem quQ_pays (W : qW) (i : Nat) (l : List Nat) (j : Nat) : (W.upQ i l).pays j = W.pays j := rfl
theorem quQ_tried (W : qW) (i : Nat) (l : List Nat) (j : Nat) : (W.upQ i l).tried j = W.tried j := rfl
theorem quQ_plugAt (W : qW) (i : Nat) (l : List Nat) (j : Nat) : (W.upQ i l).plugAt j = W.plugAt j := rfl
theorem quQ_q (W : qW) (i : Nat) (l : List Nat) (j : Nat) : (W.upQ i l).q j = if j = i then l else W.q j := rfl
theorem quQ_pcar (W : qW) (i : Nat) (l : List Nat) (j : Nat) : (W.upQ i l).pcar j = W.pcar j := rfl
theorem quQ_tr (W : qW) (i : Nat) (l : List Nat) : (W.upQ i l).tr = W.tr := rfl
theorem quQ_bA (W : qW) (i : Nat) (l : List Nat) : (W.upQ i l).bA = W.bA := rfl
theorem quQ_bB (W : qW) (i : Nat) (l : List Nat) : (W.upQ i l).bB = W.bB := rfl
theorem quP_nS (W : qW) (i : Nat) (l : Option Nat) : (W.upP i l).nS = W.nS := rfl
theorem quP_nP (W : qW) (i : Nat) (l : Option Nat) : (W.upP i l).nP = W.nP := rfl
theorem quP_nC (W : qW) (i : Nat) (l : Option Nat) : (W.upP i l).nC = W.nC := rfl
theorem quP_cold (W : qW) (i : Nat) (l : Option Nat) : (W.upP i l).cold = W.cold := rfl
theorem quP_drift (W : qW) (i : Nat) (l : Option Nat) : (W.upP i l).drift = W.drift := rfl
theorem quP_now (W : qW) (i : Nat) (l : Option Nat) : (W.upP i l).now = W.now := rfl
theorem quP_given (W : qW) (i : Nat) (l : Option Nat) : (W.upP i l).given = W.given := rfl
theorem quP_price (W : qW) (i : Nat) (l : Option Nat) (j : Nat) : (W.upP i l).price j = W.price j := rfl
theorem quP_km (W : qW) (i : Nat) (l : Option Nat) (j : Nat) : (W.upP i l).km j = W.km j := rfl
theorem quP_pow (W : qW) (i : Nat) (l : Option Nat) (j : Nat) : (W.upP i l).pow j = W.pow j := rfl
theorem quP_wait (W : qW) (i : Nat) (l : Option Nat) (j : Nat) : (W.upP i l).wait j = W.wait j := rfl
theorem quP_sgiv (W : qW) (i : Nat) (l : Option Nat) (j : Nat) : (W.upP i l).sgiv j = W.sgiv j := rfl
theorem quP_first (W : qW) (i : Nat) (l : Option Nat) (j : Nat) : (W.upP i l).first j = W.first j := rfl
theorem quP_cap (W : qW) (i : Nat) (l : Option Nat) (j : Nat) : (W.upP i l).cap j = W.cap j := rfl
theorem quP_idle (W : qW) (i : Nat) (l : Option Nat) (j : Nat) : (W.upP i l).idle j = W.idle j := rfl
theorem quP_after (W : qW) (i : Nat) (l : Option Nat) (j : Nat) : (W.upP i l).after j = W.after j := rfl
theorem quP_psite (W : qW) (i : Nat) (l : Option Nat) (j : Nat) : (W.upP i l).psite j = W.psite j := rfl
theorem quP_pmost (W : qW) (i : Nat) (l : Option Nat) (j : Nat) : (W.upP i l).pmost j = W.pmost j := rfl
theorem quP_pcab (W : qW) (i : Nat) (l : Option Nat) (j : Nat) : (W.upP i l).pcab j = W.pcab j := rfl
theorem quP_pfail (W : qW) (i : Nat) (l : Option Nat) (j : Nat) : (W.upP i l).pfail j = W.pfail j := rfl
theorem quP_psays (W : qW) (i : Nat) (l : Option Nat) (j : Nat) : (W.upP i l).psays j = W.psays j := rfl
theorem quP_bat (W : qW) (i : Nat) (l : Option Nat) (j : Nat) : (W.upP i l).bat j = W.bat j := rfl
theorem quP_use (W : qW) (i : Nat) (l : Option Nat) (j : Nat) : (W.upP i l).use j = W.use j := rfl
theorem quP_rate (W : qW) (i : Nat) (l : Option Nat) (j : Nat) : (W.upP i l).rate j = W.rate j := rfl
theorem quP_cab (W : qW) (i : Nat) (l : Option Nat) (j : Nat) : (W.upP i l).cab j = W.cab j := rfl
theorem quP_chg (W : qW) (i : Nat) (l : Option Nat) (j : Nat) : (W.upP i l).chg j = W.chg j := rfl
theorem quP_wh (W : qW) (i : Nat) (l : Option Nat) (j : Nat) : (W.upP i l).wh j = W.wh j := rfl
theorem quP_want (W : qW) (i : Nat) (l : Option Nat) (j : Nat) : (W.upP i l).want j = W.want j := rfl
theorem quP_stay (W : qW) (i : Nat) (l : Option Nat) (j : Nat) : (W.upP i l).stay j = W.stay j := rfl
theorem quP_idl (W : qW) (i : Nat) (l : Option Nat) (j : Nat) : (W.upP i l).idl j = W.idl j := rfl
theorem quP_idlAll (W : qW) (i : Nat) (l : Option Nat) (j : Nat) : (W.upP i l).idlAll j = W.idlAll j := rfl
theorem quP_got (W : qW) (i : Nat) (l : Option Nat) (j : Nat) : (W.upP i l).got j = W.got j := rfl
theorem quP_waited (W : qW) (i : Nat) (l : Option Nat) (j : Nat) : (W.upP i l).waited j = W.waited j := rfl
theorem quP_pays (W : qW) (i : Nat) (l : Option Nat) (j : Nat) : (W.upP i l).pays j = W.pays j := rfl
theorem quP_tried (W : qW) (i : Nat) (l : Option Nat) (j : Nat) : (W.upP i l).tried j = W.tried j := rfl
theorem quP_plugAt (W : qW) (i : Nat) (l : Option Nat) (j : Nat) : (W.upP i l).plugAt j = W.plugAt j := rfl
theorem quP_q (W : qW) (i : Nat) (l : Option Nat) (j : Nat) : (W.upP i l).q j = W.q j := rfl
theorem quP_pcar (W : qW) (i : Nat) (l : Option Nat) (j : Nat) : (W.upP i l).pcar j = if j = i then l else W.pcar j := rfl
theorem quP_tr (W : qW) (i : Nat) (l : Option Nat) : (W.upP i l).tr = W.tr := rfl
theorem quP_bA (W : qW) (i : Nat) (l : Option Nat) : (W.upP i l).bA = W.bA := rfl
theorem quP_bB (W : qW) (i : Nat) (l : Option Nat) : (W.upP i l).bB = W.bB := rfl
theorem quT_nS (W : qW) (l : List (Nat × Nat × Nat × Nat)) : (W.upT l).nS = W.nS := rfl
theorem quT_nP (W : qW) (l : List (Nat × Nat × Nat × Nat)) : (W.upT l).nP = W.nP := rfl
theorem quT_nC (W : qW) (l : List (Nat × Nat × Nat × Nat)) : (W.upT l).nC = W.nC := rfl
theorem quT_cold (W : qW) (l : List (Nat × Nat × Nat × Nat)) : (W.upT l).cold = W.cold := rfl
theorem quT_drift (W : qW) (l : List (Nat × Nat × Nat × Nat)) : (W.upT l).drift = W.drift := rfl
theorem quT_now (W : qW) (l : List (Nat × Nat × Nat × Nat)) : (W.upT l).now = W.now := rfl
theorem quT_given (W : qW) (l : List (Nat × Nat × Nat × Nat)) : (W.upT l).given = W.given := rfl
theorem quT_price (W : qW) (l : List (Nat × Nat × Nat × Nat)) (j : Nat) : (W.upT l).price j = W.price j := rfl
theorem quT_km (W : qW) (l : List (Nat × Nat × Nat × Nat)) (j : Nat) : (W.upT l).km j = W.km j := rfl
theorem quT_pow (W : qW) (l : List (Nat × Nat × Nat × Nat)) (j : Nat) : (W.upT l).pow j = W.pow j := rfl
theorem quT_wait (W : qW) (l : List (Nat × Nat × Nat × Nat)) (j : Nat) : (W.upT l).wait j = W.wait j := rfl
theorem quT_sgiv (W : qW) (l : List (Nat × Nat × Nat × Nat)) (j : Nat) : (W.upT l).sgiv j = W.sgiv j := rfl
theorem quT_first (W : qW) (l : List (Nat × Nat × Nat × Nat)) (j : Nat) : (W.upT l).first j = W.first j := rfl
theorem quT_cap (W : qW) (l : List (Nat × Nat × Nat × Nat)) (j : Nat) : (W.upT l).cap j = W.cap j := rfl
theorem quT_idle (W : qW) (l : List (Nat × Nat × Nat × Nat)) (j : Nat) : (W.upT l).idle j = W.idle j := rfl
theorem quT_after (W : qW) (l : List (Nat × Nat × Nat × Nat)) (j : Nat) : (W.upT l).after j = W.after j := rfl
theorem quT_psite (W : qW) (l : List (Nat × Nat × Nat × Nat)) (j : Nat) : (W.upT l).psite j = W.psite j := rfl
theorem quT_pmost (W : qW) (l : List (Nat × Nat × Nat × Nat)) (j : Nat) : (W.upT l).pmost j = W.pmost j := rfl
theorem quT_pcab (W : qW) (l : List (Nat × Nat × Nat × Nat)) (j : Nat) : (W.upT l).pcab j = W.pcab j := rfl
theorem quT_pfail (W : qW) (l : List (Nat × Nat × Nat × Nat)) (j : Nat) : (W.upT l).pfail j = W.pfail j := rfl
theorem quT_psays (W : qW) (l : List (Nat × Nat × Nat × Nat)) (j : Nat) : (W.upT l).psays j = W.psays j := rfl
theorem quT_bat (W : qW) (l : List (Nat × Nat × Nat × Nat)) (j : Nat) : (W.upT l).bat j = W.bat j := rfl
theorem quT_use (W : qW) (l : List (Nat × Nat × Nat × Nat)) (j : Nat) : (W.upT l).use j = W.use j := rfl
theorem quT_rate (W : qW) (l : List (Nat × Nat × Nat × Nat)) (j : Nat) : (W.upT l).rate j = W.rate j := rfl
theorem quT_cab (W : qW) (l : List (Nat × Nat × Nat × Nat)) (j : Nat) : (W.upT l).cab j = W.cab j := rfl
theorem quT_chg (W : qW) (l : List (Nat × Nat × Nat × Nat)) (j : Nat) : (W.upT l).chg j = W.chg j := rfl
theorem quT_wh (W : qW) (l : List (Nat × Nat × Nat × Nat)) (j : Nat) : (W.upT l).wh j = W.wh j := rfl
theorem quT_want (W : qW) (l : List (Nat × Nat × Nat × Nat)) (j : Nat) : (W.upT l).want j = W.want j := rfl
theorem quT_stay (W : qW) (l : List (Nat × Nat × Nat × Nat)) (j : Nat) : (W.upT l).stay j = W.stay j := rfl
theorem quT_idl (W : qW) (l : List (Nat × Nat × Nat × Nat)) (j : Nat) : (W.upT l).idl j = W.idl j := rfl
theorem quT_idlAll (W : qW) (l : List (Nat × Nat × Nat × Nat)) (j : Nat) : (W.upT l).idlAll j = W.idlAll j := rfl
theorem quT_got (W : qW) (l : List (Nat × Nat × Nat × Nat)) (j : Nat) : (W.upT l).got j = W.got j := rfl
theorem quT_waited (W : qW) (l : List (Nat × Nat × Nat × Nat)) (j : Nat) : (W.upT l).waited j = W.waited j := rfl
theorem quT_pays (W : qW) (l : List (Nat × Nat × Nat × Nat)) (j : Nat) : (W.upT l).pays j = W.pays j := rfl
theorem quT_tried (W : qW) (l : List (Nat × Nat × Nat × Nat)) (j : Nat) : (W.upT l).tried j = W.tried j := rfl
theorem quT_plugAt (W : qW) (l : List (Nat × Nat × Nat × Nat)) (j : Nat) : (W.upT l).plugAt j = W.plugAt j := rfl
theorem quT_q (W : qW) (l : List (Nat × Nat × Nat × Nat)) (j : Nat) : (W.upT l).q j = W.q j := rfl
theorem quT_pcar (W : qW) (l : List (Nat × Nat × Nat × Nat)) (j : Nat) : (W.upT l).pcar j = W.pcar j := rfl
theorem quT_tr (W : qW) (l : List (Nat × Nat × Nat × Nat)) : (W.upT l).tr = l := rfl
theorem quT_bA (W : qW) (l : List (Nat × Nat × Nat × Nat)) : (W.upT l).bA = W.bA := rfl
theorem quT_bB (W : qW) (l : List (Nat × Nat × Nat × Nat)) : (W.upT l).bB = W.bB := rfl
theorem quA_nS (W : qW) (l : List (Nat × Nat × Nat)) : (W.upA l).nS = W.nS := rfl
theorem quA_nP (W : qW) (l : List (Nat × Nat × Nat)) : (W.upA l).nP = W.nP := rfl
theorem quA_nC (W : qW) (l : List (Nat × Nat × Nat)) : (W.upA l).nC = W.nC := rfl
theorem quA_cold (W : qW) (l : List (Nat × Nat × Nat)) : (W.upA l).cold = W.cold := rfl
theorem quA_drift (W : qW) (l : List (Nat × Nat × Nat)) : (W.upA l).drift = W.drift := rfl
theorem quA_now (W : qW) (l : List (Nat × Nat × Nat)) : (W.upA l).now = W.now := rfl
theorem quA_given (W : qW) (l : List (Nat × Nat × Nat)) : (W.upA l).given = W.given := rfl
theorem quA_price (W : qW) (l : List (Nat × Nat × Nat)) (j : Nat) : (W.upA l).price j = W.price j := rfl
theorem quA_km (W : qW) (l : List (Nat × Nat × Nat)) (j : Nat) : (W.upA l).km j = W.km j := rfl
theorem quA_pow (W : qW) (l : List (Nat × Nat × Nat)) (j : Nat) : (W.upA l).pow j = W.pow j := rfl
theorem quA_wait (W : qW) (l : List (Nat × Nat × Nat)) (j : Nat) : (W.upA l).wait j = W.wait j := rfl
theorem quA_sgiv (W : qW) (l : List (Nat × Nat × Nat)) (j : Nat) : (W.upA l).sgiv j = W.sgiv j := rfl
theorem quA_first (W : qW) (l : List (Nat × Nat × Nat)) (j : Nat) : (W.upA l).first j = W.first j := rfl
theorem quA_cap (W : qW) (l : List (Nat × Nat × Nat)) (j : Nat) : (W.upA l).cap j = W.cap j := rfl
theorem quA_idle (W : qW) (l : List (Nat × Nat × Nat)) (j : Nat) : (W.upA l).idle j = W.idle j := rfl
theorem quA_after (W : qW) (l : List (Nat × Nat × Nat)) (j : Nat) : (W.upA l).after j = W.after j := rfl
theorem quA_psite (W : qW) (l : List (Nat × Nat × Nat)) (j : Nat) : (W.upA l).psite j = W.psite j := rfl
theorem quA_pmost (W : qW) (l : List (Nat × Nat × Nat)) (j : Nat) : (W.upA l).pmost j = W.pmost j := rfl
theorem quA_pcab (W : qW) (l : List (Nat × Nat × Nat)) (j : Nat) : (W.upA l).pcab j = W.pcab j := rfl
theorem quA_pfail (W : qW) (l : List (Nat × Nat × Nat)) (j : Nat) : (W.upA l).pfail j = W.pfail j := rfl
theorem quA_psays (W : qW) (l : List (Nat × Nat × Nat)) (j : Nat) : (W.upA l).psays j = W.psays j := rfl
theorem quA_bat (W : qW) (l : List (Nat × Nat × Nat)) (j : Nat) : (W.upA l).bat j = W.bat j := rfl
theorem quA_use (W : qW) (l : List (Nat × Nat × Nat)) (j : Nat) : (W.upA l).use j = W.use j := rfl
theorem quA_rate (W : qW) (l : List (Nat × Nat × Nat)) (j : Nat) : (W.upA l).rate j = W.rate j := rfl
theorem quA_cab (W : qW) (l : List (Nat × Nat × Nat)) (j : Nat) : (W.upA l).cab j = W.cab j := rfl
theorem quA_chg (W : qW) (l : List (Nat × Nat × Nat)) (j : Nat) : (W.upA l).chg j = W.chg j := rfl
theorem quA_wh (W : qW) (l : List (Nat × Nat × Nat)) (j : Nat) : (W.upA l).wh j = W.wh j := rfl
theorem quA_want (W : qW) (l : List (Nat × Nat × Nat)) (j : Nat) : (W.upA l).want j = W.want j := rfl
theorem quA_stay (W : qW) (l : List (Nat × Nat × Nat)) (j : Nat) : (W.upA l).stay j = W.stay j := rfl
theorem quA_idl (W : qW) (l : List (Nat × Nat × Nat)) (j : Nat) : (W.upA l).idl j = W.idl j := rfl
theorem quA_idlAll (W : qW) (l : List (Nat × Nat × Nat)) (j : Nat) : (W.upA l).idlAll j = W.idlAll j := rfl
theorem quA_got (W : qW) (l : List (Nat × Nat × Nat)) (j : Nat) : (W.upA l).got j = W.got j := rfl
theorem quA_waited (W : qW) (l : List (Nat × Nat × Nat)) (j : Nat) : (W.upA l).waited j = W.waited j := rfl
theorem quA_pays (W : qW) (l : List (Nat × Nat × Nat)) (j : Nat) : (W.upA l).pays j = W.pays j := rfl
theorem quA_tried (W : qW) (l : List (Nat × Nat × Nat)) (j : Nat) : (W.upA l).tried j = W.tried j := rfl
theorem quA_plugAt (W : qW) (l : List (Nat × Nat × Nat)) (j : Nat) : (W.upA l).plugAt j = W.plugAt j := rfl
theorem quA_q (W : qW) (l : List (Nat × Nat × Nat)) (j : Nat) : (W.upA l).q j = W.q j := rfl
theorem quA_pcar (W : qW) (l : List (Nat × Nat × Nat)) (j : Nat) : (W.upA l).pcar j = W.pcar j := rfl
theorem quA_tr (W : qW) (l : List (Nat × Nat × Nat)) : (W.upA l).tr = W.tr := rfl
theorem quA_bA (W : qW) (l : List (Nat × Nat × Nat)) : (W.upA l).bA = l := rfl
theorem quA_bB (W : qW) (l : List (Nat × Nat × Nat)) : (W.upA l).bB = W.bB := rfl
theorem quB_nS (W : qW) (l : List (Nat × Nat × Nat)) : (W.upB l).nS = W.nS := rfl
theorem quB_nP (W : qW) (l : List (Nat × Nat × Nat)) : (W.upB l).nP = W.nP := rfl
theorem quB_nC (W : qW) (l : List (Nat × Nat × Nat)) : (W.upB l).nC = W.nC := rfl
theorem quB_cold (W : qW) (l : List (Nat × Nat × Nat)) : (W.upB l).cold = W.cold := rfl
theorem quB_drift (W : qW) (l : List (Nat × Nat × Nat)) : (W.upB l).drift = W.drift := rfl
theorem quB_now (W : qW) (l : List (Nat × Nat × Nat)) : (W.upB l).now = W.now := rfl
theorem quB_given (W : qW) (l : List (Nat × Nat × Nat)) : (W.upB l).given = W.given := rfl
theorem quB_price (W : qW) (l : List (Nat × Nat × Nat)) (j : Nat) : (W.upB l).price j = W.price j := rfl
theorem quB_km (W : qW) (l : List (Nat × Nat × Nat)) (j : Nat) : (W.upB l).km j = W.km j := rfl
theorem quB_pow (W : qW) (l : List (Nat × Nat × Nat)) (j : Nat) : (W.upB l).pow j = W.pow j := rfl
theorem quB_wait (W : qW) (l : List (Nat × Nat × Nat)) (j : Nat) : (W.upB l).wait j = W.wait j := rfl
theorem quB_sgiv (W : qW) (l : List (Nat × Nat × Nat)) (j : Nat) : (W.upB l).sgiv j = W.sgiv j := rfl
theorem quB_first (W : qW) (l : List (Nat × Nat × Nat)) (j : Nat) : (W.upB l).first j = W.first j := rfl
theorem quB_cap (W : qW) (l : List (Nat × Nat × Nat)) (j : Nat) : (W.upB l).cap j = W.cap j := rfl
theorem quB_idle (W : qW) (l : List (Nat × Nat × Nat)) (j : Nat) : (W.upB l).idle j = W.idle j := rfl
theorem quB_after (W : qW) (l : List (Nat × Nat × Nat)) (j : Nat) : (W.upB l).after j = W.after j := rfl
theorem quB_psite (W : qW) (l : List (Nat × Nat × Nat)) (j : Nat) : (W.upB l).psite j = W.psite j := rfl
theorem quB_pmost (W : qW) (l : List (Nat × Nat × Nat)) (j : Nat) : (W.upB l).pmost j = W.pmost j := rfl
theorem quB_pcab (W : qW) (l : List (Nat × Nat × Nat)) (j : Nat) : (W.upB l).pcab j = W.pcab j := rfl
theorem quB_pfail (W : qW) (l : List (Nat × Nat × Nat)) (j : Nat) : (W.upB l).pfail j = W.pfail j := rfl
theorem quB_psays (W : qW) (l : List (Nat × Nat × Nat)) (j : Nat) : (W.upB l).psays j = W.psays j := rfl
theorem quB_bat (W : qW) (l : List (Nat × Nat × Nat)) (j : Nat) : (W.upB l).bat j = W.bat j := rfl
theorem quB_use (W : qW) (l : List (Nat × Nat × Nat)) (j : Nat) : (W.upB l).use j = W.use j := rfl
theorem quB_rate (W : qW) (l : List (Nat × Nat × Nat)) (j : Nat) : (W.upB l).rate j = W.rate j := rfl
theorem quB_cab (W : qW) (l : List (Nat × Nat × Nat)) (j : Nat) : (W.upB l).cab j = W.cab j := rfl
theorem quB_chg (W : qW) (l : List (Nat × Nat × Nat)) (j : Nat) : (W.upB l).chg j = W.chg j := rfl
theorem quB_wh (W : qW) (l : List (Nat × Nat × Nat)) (j : Nat) : (W.upB l).wh j = W.wh j := rfl
theorem quB_want (W : qW) (l : List (Nat × Nat × Nat)) (j : Nat) : (W.upB l).want j = W.want j := rfl
theorem quB_stay (W : qW) (l : List (Nat × Nat × Nat)) (j : Nat) : (W.upB l).stay j = W.stay j := rfl
theorem quB_idl (W : qW) (l : List (Nat × Nat × Nat)) (j : Nat) : (W.upB l).idl j = W.idl j := rfl
theorem quB_idlAll (W : qW) (l : List (Nat × Nat × Nat)) (j : Nat) : (W.upB l).idlAll j = W.idlAll j := rfl
theorem quB_got (W : qW) (l : List (Nat × Nat × Nat)) (j : Nat) : (W.upB l).got j = W.got j := rfl
theorem quB_waited (W : qW) (l : List (Nat × Nat × Nat)) (j : Nat) : (W.upB l).waited j = W.waited j := rfl
theorem quB_pays (W : qW) (l : List (Nat × Nat × Nat)) (j : Nat) : (W.upB l).pays j = W.pays j := rfl
theorem quB_tried (W : qW) (l : List (Nat × Nat × Nat)) (j : Nat) : (W.upB l).tried j = W.tried j := rfl
theorem quB_plugAt (W : qW) (l : List (Nat × Nat × Nat)) (j : Nat) : (W.upB l).plugAt j = W.plugAt j := rfl
theorem quB_q (W : qW) (l : List (Nat × Nat × Nat)) (j : Nat) : (W.upB l).q j = W.q j := rfl
theorem quB_pcar (W : qW) (l : List (Nat × Nat × Nat)) (j : Nat) : (W.upB l).pcar j = W.pcar j := rfl
theorem quB_tr (W : qW) (l : List (Nat × Nat × Nat)) : (W.upB l).tr = W.tr := rfl
theorem quB_bA (W : qW) (l : List (Nat × Nat × Nat)) : (W.upB l).bA = W.bA := rfl
theorem quB_bB (W : qW) (l : List (Nat × Nat × Nat)) : (W.upB l).bB = l := rfl
def qW.pl (W : qW) (s : Nat) : List Nat := (List.range W.nP).filter (fun p => W.psite p = s)
def qoc : Option Nat → Int32
  | none => -1
  | some c => nI c
def qWf (W : qW) : Prop :=
  (W.nS ≤ 6) ∧
  (W.nP ≤ 16) ∧
  (W.nC ≤ 12) ∧
  (W.cold ≤ 50) ∧
  (W.drift ≤ 20) ∧
  (W.now ≤ 2000) ∧
  (∀ i, i < 24 → W.price i ≤ 99) ∧
  (∀ s, s < W.nS → W.km s ≤ 999) ∧
  (∀ s t, s < t → t < W.nS → W.km s < W.km t) ∧
  (∀ s, s < W.nS → 1 ≤ W.pow s ∧ W.pow s ≤ 300) ∧
  (∀ s, s < W.nS → W.wait s ≤ 99) ∧
  (∀ s, W.first s ≤ 1) ∧
  (∀ s, W.cap s ≤ 100) ∧
  (∀ s, W.idle s ≤ 100) ∧
  (∀ s, W.after s ≤ 100) ∧
  (∀ s, W.nS ≤ s → W.km s = 0 ∧ W.pow s = 0 ∧ W.wait s = 0 ∧ W.sgiv s = 0 ∧ W.first s = 0 ∧ W.cap s = 100 ∧ W.idle s = 0 ∧ W.after s = 100 ∧ W.q s = []) ∧
  (∀ p, p < W.nP → W.psite p < W.nS) ∧
  (∀ p, p < W.nP → 1 ≤ W.pmost p ∧ W.pmost p ≤ 150) ∧
  (∀ p, p < W.nP → W.pcab p ≤ 2) ∧
  (∀ p, W.pfail p ≤ 1) ∧
  (∀ p, W.psays p ≤ 1) ∧
  (∀ p, W.nP ≤ p → W.pcar p = none ∧ W.pfail p = 0 ∧ W.psays p = 1) ∧
  (∀ c, c < W.nC → 10 ≤ W.bat c ∧ W.bat c ≤ 200) ∧
  (∀ c, c < W.nC → 1 ≤ W.use c ∧ W.use c ≤ 40) ∧
  (∀ c, c < W.nC → 1 ≤ W.rate c ∧ W.rate c ≤ 150) ∧
  (∀ c, c < W.nC → W.cab c ≤ 2) ∧
  (∀ c, c < W.nC → W.chg c ≤ W.bat c) ∧
  (∀ c, W.stay c ≤ 50) ∧
  (∀ c, W.tried c < 65536) ∧
  (∀ c, W.plugAt c ≤ W.now) ∧
  (∀ c, W.nC ≤ c → W.wh c = 0 ∧ W.want c = 0 ∧ W.stay c = 0 ∧ W.idl c = 0 ∧ W.idlAll c = 0 ∧ W.got c = 0 ∧ W.waited c = 0 ∧ W.pays c = 0 ∧ W.tried c = 0 ∧ W.plugAt c = 0) ∧
  (∀ c, c < W.nC → W.wh c = 0 ∨ (∃ s, s < W.nS ∧ W.wh c = 100 + s ∧ c ∈ W.q s) ∨ ∃ p, p < W.nP ∧ W.wh c = 200 + p ∧ W.pcar p = some c) ∧
  (∀ c, c < W.nC → W.wh c ≠ 0 → W.chg c ≤ W.want c ∧ W.want c ≤ W.bat c) ∧
  (∀ s c, c ∈ W.q s → c < W.nC ∧ W.wh c = 100 + s) ∧
  (∀ s, (W.q s).Nodup) ∧
  (∀ p c, W.pcar p = some c → c < W.nC ∧ W.wh c = 200 + p) ∧
  (W.tr.length ≤ 60) ∧
  (∀ x, x ∈ W.tr → x.1 < 16 ∧ x.2.1 < 12 ∧ x.2.2.1 ≤ 2000 ∧ x.2.2.2 ≤ 1) ∧
  (W.bA.length ≤ 7) ∧
  (W.bB.length ≤ 7) ∧
  (∀ x, x ∈ W.bA → x.1 < 12 ∧ x.2.1 ≤ 2000 ∧ x.2.2 ≤ 200) ∧
  (∀ x, x ∈ W.bB → x.1 < 12 ∧ x.2.1 ≤ 2000 ∧ x.2.2 ≤ 200)
theorem qWf.hS {W : qW} (hh : qWf W) : W.nS ≤ 6 := hh.1
theorem qWf.hP {W : qW} (hh : qWf W) : W.nP ≤ 16 := hh.2.1
theorem qWf.hC {W : qW} (hh : qWf W) : W.nC ≤ 12 := hh.2.2.1
theorem qWf.cold {W : qW} (hh : qWf W) : W.cold ≤ 50 := hh.2.2.2.1
theorem qWf.drift {W : qW} (hh : qWf W) : W.drift ≤ 20 := hh.2.2.2.2.1
theorem qWf.now {W : qW} (hh : qWf W) : W.now ≤ 2000 := hh.2.2.2.2.2.1
theorem qWf.price {W : qW} (hh : qWf W) : ∀ i, i < 24 → W.price i ≤ 99 := hh.2.2.2.2.2.2.1
theorem qWf.km {W : qW} (hh : qWf W) : ∀ s, s < W.nS → W.km s ≤ 999 := hh.2.2.2.2.2.2.2.1
theorem qWf.inc {W : qW} (hh : qWf W) : ∀ s t, s < t → t < W.nS → W.km s < W.km t := hh.2.2.2.2.2.2.2.2.1
theorem qWf.pow {W : qW} (hh : qWf W) : ∀ s, s < W.nS → 1 ≤ W.pow s ∧ W.pow s ≤ 300 := hh.2.2.2.2.2.2.2.2.2.1
theorem qWf.wait {W : qW} (hh : qWf W) : ∀ s, s < W.nS → W.wait s ≤ 99 := hh.2.2.2.2.2.2.2.2.2.2.1
theorem qWf.first {W : qW} (hh : qWf W) : ∀ s, W.first s ≤ 1 := hh.2.2.2.2.2.2.2.2.2.2.2.1
theorem qWf.cap {W : qW} (hh : qWf W) : ∀ s, W.cap s ≤ 100 := hh.2.2.2.2.2.2.2.2.2.2.2.2.1
theorem qWf.idle {W : qW} (hh : qWf W) : ∀ s, W.idle s ≤ 100 := hh.2.2.2.2.2.2.2.2.2.2.2.2.2.1
theorem qWf.after {W : qW} (hh : qWf W) : ∀ s, W.after s ≤ 100 := hh.2.2.2.2.2.2.2.2.2.2.2.2.2.2.1
theorem qWf.freshS {W : qW} (hh : qWf W) : ∀ s, W.nS ≤ s → W.km s = 0 ∧ W.pow s = 0 ∧ W.wait s = 0 ∧ W.sgiv s = 0 ∧ W.first s = 0 ∧ W.cap s = 100 ∧ W.idle s = 0 ∧ W.after s = 100 ∧ W.q s = [] := hh.2.2.2.2.2.2.2.2.2.2.2.2.2.2.2.1
theorem qWf.psite {W : qW} (hh : qWf W) : ∀ p, p < W.nP → W.psite p < W.nS := hh.2.2.2.2.2.2.2.2.2.2.2.2.2.2.2.2.1
theorem qWf.pmost {W : qW} (hh : qWf W) : ∀ p, p < W.nP → 1 ≤ W.pmost p ∧ W.pmost p ≤ 150 := hh.2.2.2.2.2.2.2.2.2.2.2.2.2.2.2.2.2.1
theorem qWf.pcab {W : qW} (hh : qWf W) : ∀ p, p < W.nP → W.pcab p ≤ 2 := hh.2.2.2.2.2.2.2.2.2.2.2.2.2.2.2.2.2.2.1
theorem qWf.pfail {W : qW} (hh : qWf W) : ∀ p, W.pfail p ≤ 1 := hh.2.2.2.2.2.2.2.2.2.2.2.2.2.2.2.2.2.2.2.1
theorem qWf.psays {W : qW} (hh : qWf W) : ∀ p, W.psays p ≤ 1 := hh.2.2.2.2.2.2.2.2.2.2.2.2.2.2.2.2.2.2.2.2.1
theorem qWf.freshP {W : qW} (hh : qWf W) : ∀ p, W.nP ≤ p → W.pcar p = none ∧ W.pfail p = 0 ∧ W.psays p = 1 := hh.2.2.2.2.2.2.2.2.2.2.2.2.2.2.2.2.2.2.2.2.2.1
theorem qWf.bat {W : qW} (hh : qWf W) : ∀ c, c < W.nC → 10 ≤ W.bat c ∧ W.bat c ≤ 200 := hh.2.2.2.2.2.2.2.2.2.2.2.2.2.2.2.2.2.2.2.2.2.2.1
theorem qWf.use {W : qW} (hh : qWf W) : ∀ c, c < W.nC → 1 ≤ W.use c ∧ W.use c ≤ 40 := hh.2.2.2.2.2.2.2.2.2.2.2.2.2.2.2.2.2.2.2.2.2.2.2.1
theorem qWf.rate {W : qW} (hh : qWf W) : ∀ c, c < W.nC → 1 ≤ W.rate c ∧ W.rate c ≤ 150 := hh.2.2.2.2.2.2.2.2.2.2.2.2.2.2.2.2.2.2.2.2.2.2.2.2.1
theorem qWf.cab {W : qW} (hh : qWf W) : ∀ c, c < W.nC → W.cab c ≤ 2 := hh.2.2.2.2.2.2.2.2.2.2.2.2.2.2.2.2.2.2.2.2.2.2.2.2.2.1
theorem qWf.chg {W : qW} (hh : qWf W) : ∀ c, c < W.nC → W.chg c ≤ W.bat c := hh.2.2.2.2.2.2.2.2.2.2.2.2.2.2.2.2.2.2.2.2.2.2.2.2.2.2.1
theorem qWf.stay {W : qW} (hh : qWf W) : ∀ c, W.stay c ≤ 50 := hh.2.2.2.2.2.2.2.2.2.2.2.2.2.2.2.2.2.2.2.2.2.2.2.2.2.2.2.1
theorem qWf.tried {W : qW} (hh : qWf W) : ∀ c, W.tried c < 65536 := hh.2.2.2.2.2.2.2.2.2.2.2.2.2.2.2.2.2.2.2.2.2.2.2.2.2.2.2.2.1
theorem qWf.plugAt {W : qW} (hh : qWf W) : ∀ c, W.plugAt c ≤ W.now := hh.2.2.2.2.2.2.2.2.2.2.2.2.2.2.2.2.2.2.2.2.2.2.2.2.2.2.2.2.2.1
theorem qWf.freshC {W : qW} (hh : qWf W) : ∀ c, W.nC ≤ c → W.wh c = 0 ∧ W.want c = 0 ∧ W.stay c = 0 ∧ W.idl c = 0 ∧ W.idlAll c = 0 ∧ W.got c = 0 ∧ W.waited c = 0 ∧ W.pays c = 0 ∧ W.tried c = 0 ∧ W.plugAt c = 0 := hh.2.2.2.2.2.2.2.2.2.2.2.2.2.2.2.2.2.2.2.2.2.2.2.2.2.2.2.2.2.2.1
theorem qWf.whOk {W : qW} (hh : qWf W) : ∀ c, c < W.nC → W.wh c = 0 ∨ (∃ s, s < W.nS ∧ W.wh c = 100 + s ∧ c ∈ W.q s) ∨ ∃ p, p < W.nP ∧ W.wh c = 200 + p ∧ W.pcar p = some c := hh.2.2.2.2.2.2.2.2.2.2.2.2.2.2.2.2.2.2.2.2.2.2.2.2.2.2.2.2.2.2.2.1
theorem qWf.wantOk {W : qW} (hh : qWf W) : ∀ c, c < W.nC → W.wh c ≠ 0 → W.chg c ≤ W.want c ∧ W.want c ≤ W.bat c := hh.2.2.2.2.2.2.2.2.2.2.2.2.2.2.2.2.2.2.2.2.2.2.2.2.2.2.2.2.2.2.2.2.1
theorem qWf.qOk {W : qW} (hh : qWf W) : ∀ s c, c ∈ W.q s → c < W.nC ∧ W.wh c = 100 + s := hh.2.2.2.2.2.2.2.2.2.2.2.2.2.2.2.2.2.2.2.2.2.2.2.2.2.2.2.2.2.2.2.2.2.1
theorem qWf.qNo {W : qW} (hh : qWf W) : ∀ s, (W.q s).Nodup := hh.2.2.2.2.2.2.2.2.2.2.2.2.2.2.2.2.2.2.2.2.2.2.2.2.2.2.2.2.2.2.2.2.2.2.1
theorem qWf.carOk {W : qW} (hh : qWf W) : ∀ p c, W.pcar p = some c → c < W.nC ∧ W.wh c = 200 + p := hh.2.2.2.2.2.2.2.2.2.2.2.2.2.2.2.2.2.2.2.2.2.2.2.2.2.2.2.2.2.2.2.2.2.2.2.1
theorem qWf.trN {W : qW} (hh : qWf W) : W.tr.length ≤ 60 := hh.2.2.2.2.2.2.2.2.2.2.2.2.2.2.2.2.2.2.2.2.2.2.2.2.2.2.2.2.2.2.2.2.2.2.2.2.1
theorem qWf.trOk {W : qW} (hh : qWf W) : ∀ x, x ∈ W.tr → x.1 < 16 ∧ x.2.1 < 12 ∧ x.2.2.1 ≤ 2000 ∧ x.2.2.2 ≤ 1 := hh.2.2.2.2.2.2.2.2.2.2.2.2.2.2.2.2.2.2.2.2.2.2.2.2.2.2.2.2.2.2.2.2.2.2.2.2.2.1
theorem qWf.bAN {W : qW} (hh : qWf W) : W.bA.length ≤ 7 := hh.2.2.2.2.2.2.2.2.2.2.2.2.2.2.2.2.2.2.2.2.2.2.2.2.2.2.2.2.2.2.2.2.2.2.2.2.2.2.1
theorem qWf.bBN {W : qW} (hh : qWf W) : W.bB.length ≤ 7 := hh.2.2.2.2.2.2.2.2.2.2.2.2.2.2.2.2.2.2.2.2.2.2.2.2.2.2.2.2.2.2.2.2.2.2.2.2.2.2.2.1
theorem qWf.bAOk {W : qW} (hh : qWf W) : ∀ x, x ∈ W.bA → x.1 < 12 ∧ x.2.1 ≤ 2000 ∧ x.2.2 ≤ 200 := hh.2.2.2.2.2.2.2.2.2.2.2.2.2.2.2.2.2.2.2.2.2.2.2.2.2.2.2.2.2.2.2.2.2.2.2.2.2.2.2.2.1
theorem qWf.bBOk {W : qW} (hh : qWf W) : ∀ x, x ∈ W.bB → x.1 < 12 ∧ x.2.1 ≤ 2000 ∧ x.2.2 ≤ 200 := hh.2.2.2.2.2.2.2.2.2.2.2.2.2.2.2.2.2.2.2.2.2.2.2.2.2.2.2.2.2.2.2.2.2.2.2.2.2.2.2.2.2
theorem qWf.mk {W : qW} (m0 : W.nS ≤ 6) (m1 : W.nP ≤ 16) (m2 : W.nC ≤ 12) (m3 : W.cold ≤ 50) (m4 : W.drift ≤ 20) (m5 : W.now ≤ 2000) (m6 : ∀ i, i < 24 → W.price i ≤ 99) (m7 : ∀ s, s < W.nS → W.km s ≤ 999) (m8 : ∀ s t, s < t → t < W.nS → W.km s < W.km t) (m9 : ∀ s, s < W.nS → 1 ≤ W.pow s ∧ W.pow s ≤ 300) (m10 : ∀ s, s < W.nS → W.wait s ≤ 99) (m11 : ∀ s, W.first s ≤ 1) (m12 : ∀ s, W.cap s ≤ 100) (m13 : ∀ s, W.idle s ≤ 100) (m14 : ∀ s, W.after s ≤ 100) (m15 : ∀ s, W.nS ≤ s → W.km s = 0 ∧ W.pow s = 0 ∧ W.wait s = 0 ∧ W.sgiv s = 0 ∧ W.first s = 0 ∧ W.cap s = 100 ∧ W.idle s = 0 ∧ W.after s = 100 ∧ W.q s = []) (m16 : ∀ p, p < W.nP → W.psite p < W.nS) (m17 : ∀ p, p < W.nP → 1 ≤ W.pmost p ∧ W.pmost p ≤ 150) (m18 : ∀ p, p < W.nP → W.pcab p ≤ 2) (m19 : ∀ p, W.pfail p ≤ 1) (m20 : ∀ p, W.psays p ≤ 1) (m21 : ∀ p, W.nP ≤ p → W.pcar p = none ∧ W.pfail p = 0 ∧ W.psays p = 1) (m22 : ∀ c, c < W.nC → 10 ≤ W.bat c ∧ W.bat c ≤ 200) (m23 : ∀ c, c < W.nC → 1 ≤ W.use c ∧ W.use c ≤ 40) (m24 : ∀ c, c < W.nC → 1 ≤ W.rate c ∧ W.rate c ≤ 150) (m25 : ∀ c, c < W.nC → W.cab c ≤ 2) (m26 : ∀ c, c < W.nC → W.chg c ≤ W.bat c) (m27 : ∀ c, W.stay c ≤ 50) (m28 : ∀ c, W.tried c < 65536) (m29 : ∀ c, W.plugAt c ≤ W.now) (m30 : ∀ c, W.nC ≤ c → W.wh c = 0 ∧ W.want c = 0 ∧ W.stay c = 0 ∧ W.idl c = 0 ∧ W.idlAll c = 0 ∧ W.got c = 0 ∧ W.waited c = 0 ∧ W.pays c = 0 ∧ W.tried c = 0 ∧ W.plugAt c = 0) (m31 : ∀ c, c < W.nC → W.wh c = 0 ∨ (∃ s, s < W.nS ∧ W.wh c = 100 + s ∧ c ∈ W.q s) ∨ ∃ p, p < W.nP ∧ W.wh c = 200 + p ∧ W.pcar p = some c) (m32 : ∀ c, c < W.nC → W.wh c ≠ 0 → W.chg c ≤ W.want c ∧ W.want c ≤ W.bat c) (m33 : ∀ s c, c ∈ W.q s → c < W.nC ∧ W.wh c = 100 + s) (m34 : ∀ s, (W.q s).Nodup) (m35 : ∀ p c, W.pcar p = some c → c < W.nC ∧ W.wh c = 200 + p) (m36 : W.tr.length ≤ 60) (m37 : ∀ x, x ∈ W.tr → x.1 < 16 ∧ x.2.1 < 12 ∧ x.2.2.1 ≤ 2000 ∧ x.2.2.2 ≤ 1) (m38 : W.bA.length ≤ 7) (m39 : W.bB.length ≤ 7) (m40 : ∀ x, x ∈ W.bA → x.1 < 12 ∧ x.2.1 ≤ 2000 ∧ x.2.2 ≤ 200) (m41 : ∀ x, x ∈ W.bB → x.1 < 12 ∧ x.2.1 ≤ 2000 ∧ x.2.2 ≤ 200) : qWf W := ⟨m0, m1, m2, m3, m4, m5, m6, m7, m8, m9, m10, m11, m12, m13, m14, m15, m16, m17, m18, m19, m20, m21, m22, m23, m24, m25, m26, m27, m28, m29, m30, m31, m32, m33, m34, m35, m36, m37, m38, m39, m40, m41⟩
def qC (A : zk_H) (W : qW) : Prop :=
  (A 1 7 = nI W.nS) ∧
  (A 1 8 = nI W.nP) ∧
  (A 1 9 = nI W.nC) ∧
  (A 1 10 = nI W.cold) ∧
  (A 1 11 = nI W.drift) ∧
  (A 1 12 = nI W.now) ∧
  (A 1 13 = nI W.given) ∧
  (∀ i, i < 24 → A 5 i = nI (W.price i)) ∧
  (∀ s, s < 6 → A (19 + 3 * s) 0 = nI (W.km s)) ∧
  (∀ s, s < 6 → A (19 + 3 * s) 1 = nI (W.pow s)) ∧
  (∀ s, s < 6 → A (19 + 3 * s) 2 = nI (W.wait s)) ∧
  (∀ s, s < 6 → A (19 + 3 * s) 3 = nI (W.sgiv s)) ∧
  (∀ s, s < 6 → A (19 + 3 * s) 4 = nI (W.first s)) ∧
  (∀ s, s < 6 → A (19 + 3 * s) 5 = nI (W.cap s)) ∧
  (∀ s, s < 6 → A (19 + 3 * s) 6 = nI (W.idle s)) ∧
  (∀ s, s < 6 → A (19 + 3 * s) 7 = nI (W.after s)) ∧
  (∀ s, s < 6 → A (19 + 3 * s) 8 = nI (W.q s).length) ∧
  (∀ s, s < 6 → A (19 + 3 * s) 9 = nI (W.pl s).length) ∧
  (∀ s, s < 6 → ∀ k c, (W.q s)[k]? = some c → A (20 + 3 * s) k = nI c) ∧
  (∀ s, s < 6 → ∀ k c, (W.pl s)[k]? = some c → A (21 + 3 * s) k = nI c) ∧
  (∀ p, p < 16 → A (37 + p) 0 = nI (W.psite p)) ∧
  (∀ p, p < 16 → A (37 + p) 1 = nI (W.pmost p)) ∧
  (∀ p, p < 16 → A (37 + p) 2 = nI (W.pcab p)) ∧
  (∀ p, p < 16 → A (37 + p) 3 = qoc (W.pcar p)) ∧
  (∀ p, p < 16 → A (37 + p) 4 = nI (W.pfail p)) ∧
  (∀ p, p < 16 → A (37 + p) 5 = nI (W.psays p)) ∧
  (∀ c, c < 12 → A (53 + c) 0 = nI (W.bat c)) ∧
  (∀ c, c < 12 → A (53 + c) 1 = nI (W.use c)) ∧
  (∀ c, c < 12 → A (53 + c) 2 = nI (W.rate c)) ∧
  (∀ c, c < 12 → A (53 + c) 3 = nI (W.cab c)) ∧
  (∀ c, c < 12 → A (53 + c) 4 = nI (W.chg c)) ∧
  (∀ c, c < 12 → A (53 + c) 5 = nI (W.wh c)) ∧
  (∀ c, c < 12 → A (53 + c) 6 = nI (W.want c)) ∧
  (∀ c, c < 12 → A (53 + c) 7 = nI (W.stay c)) ∧
  (∀ c, c < 12 → A (53 + c) 8 = nI (W.idl c)) ∧
  (∀ c, c < 12 → A (53 + c) 9 = nI (W.idlAll c)) ∧
  (∀ c, c < 12 → A (53 + c) 10 = nI (W.got c)) ∧
  (∀ c, c < 12 → A (53 + c) 11 = nI (W.waited c)) ∧
  (∀ c, c < 12 → A (53 + c) 12 = nI (W.pays c)) ∧
  (∀ c, c < 12 → A (53 + c) 13 = nI (W.tried c)) ∧
  (∀ c, c < 12 → A (53 + c) 14 = nI (W.plugAt c)) ∧
  (A 6 5 = nI W.tr.length) ∧
  (∃ o, o < 60 ∧ A 6 4 = nI o ∧ ∀ i x, W.tr[i]? = some x → A 7 ((o + i) % 60) = nI x.1 ∧ A 8 ((o + i) % 60) = nI x.2.1 ∧ A 9 ((o + i) % 60) = nI x.2.2.1 ∧ A 10 ((o + i) % 60) = nI x.2.2.2) ∧
  (A 11 3 = nI W.bA.length) ∧
  (∀ i x, W.bA[i]? = some x → A 12 i = nI x.1 ∧ A 13 i = nI x.2.1 ∧ A 14 i = nI x.2.2) ∧
  (A 15 3 = nI W.bB.length) ∧
  (∀ i x, W.bB[i]? = some x → A 16 i = nI x.1 ∧ A 17 i = nI x.2.1 ∧ A 18 i = nI x.2.2)
theorem qC.nS {A : zk_H} {W : qW} (hh : qC A W) : A 1 7 = nI W.nS := hh.1
theorem qC.nP {A : zk_H} {W : qW} (hh : qC A W) : A 1 8 = nI W.nP := hh.2.1
theorem qC.nC {A : zk_H} {W : qW} (hh : qC A W) : A 1 9 = nI W.nC := hh.2.2.1
theorem qC.cold {A : zk_H} {W : qW} (hh : qC A W) : A 1 10 = nI W.cold := hh.2.2.2.1
theorem qC.drift {A : zk_H} {W : qW} (hh : qC A W) : A 1 11 = nI W.drift := hh.2.2.2.2.1
theorem qC.now {A : zk_H} {W : qW} (hh : qC A W) : A 1 12 = nI W.now := hh.2.2.2.2.2.1
theorem qC.given {A : zk_H} {W : qW} (hh : qC A W) : A 1 13 = nI W.given := hh.2.2.2.2.2.2.1
theorem qC.price {A : zk_H} {W : qW} (hh : qC A W) : ∀ i, i < 24 → A 5 i = nI (W.price i) := hh.2.2.2.2.2.2.2.1
theorem qC.km {A : zk_H} {W : qW} (hh : qC A W) : ∀ s, s < 6 → A (19 + 3 * s) 0 = nI (W.km s) := hh.2.2.2.2.2.2.2.2.1
theorem qC.pow {A : zk_H} {W : qW} (hh : qC A W) : ∀ s, s < 6 → A (19 + 3 * s) 1 = nI (W.pow s) := hh.2.2.2.2.2.2.2.2.2.1
theorem qC.wait {A : zk_H} {W : qW} (hh : qC A W) : ∀ s, s < 6 → A (19 + 3 * s) 2 = nI (W.wait s) := hh.2.2.2.2.2.2.2.2.2.2.1
theorem qC.sgiv {A : zk_H} {W : qW} (hh : qC A W) : ∀ s, s < 6 → A (19 + 3 * s) 3 = nI (W.sgiv s) := hh.2.2.2.2.2.2.2.2.2.2.2.1
theorem qC.first {A : zk_H} {W : qW} (hh : qC A W) : ∀ s, s < 6 → A (19 + 3 * s) 4 = nI (W.first s) := hh.2.2.2.2.2.2.2.2.2.2.2.2.1
theorem qC.cap {A : zk_H} {W : qW} (hh : qC A W) : ∀ s, s < 6 → A (19 + 3 * s) 5 = nI (W.cap s) := hh.2.2.2.2.2.2.2.2.2.2.2.2.2.1
theorem qC.idle {A : zk_H} {W : qW} (hh : qC A W) : ∀ s, s < 6 → A (19 + 3 * s) 6 = nI (W.idle s) := hh.2.2.2.2.2.2.2.2.2.2.2.2.2.2.1
theorem qC.after {A : zk_H} {W : qW} (hh : qC A W) : ∀ s, s < 6 → A (19 + 3 * s) 7 = nI (W.after s) := hh.2.2.2.2.2.2.2.2.2.2.2.2.2.2.2.1
theorem qC.qn {A : zk_H} {W : qW} (hh : qC A W) : ∀ s, s < 6 → A (19 + 3 * s) 8 = nI (W.q s).length := hh.2.2.2.2.2.2.2.2.2.2.2.2.2.2.2.2.1
theorem qC.pn {A : zk_H} {W : qW} (hh : qC A W) : ∀ s, s < 6 → A (19 + 3 * s) 9 = nI (W.pl s).length := hh.2.2.2.2.2.2.2.2.2.2.2.2.2.2.2.2.2.1
theorem qC.q {A : zk_H} {W : qW} (hh : qC A W) : ∀ s, s < 6 → ∀ k c, (W.q s)[k]? = some c → A (20 + 3 * s) k = nI c := hh.2.2.2.2.2.2.2.2.2.2.2.2.2.2.2.2.2.2.1
theorem qC.p {A : zk_H} {W : qW} (hh : qC A W) : ∀ s, s < 6 → ∀ k c, (W.pl s)[k]? = some c → A (21 + 3 * s) k = nI c := hh.2.2.2.2.2.2.2.2.2.2.2.2.2.2.2.2.2.2.2.1
theorem qC.psite {A : zk_H} {W : qW} (hh : qC A W) : ∀ p, p < 16 → A (37 + p) 0 = nI (W.psite p) := hh.2.2.2.2.2.2.2.2.2.2.2.2.2.2.2.2.2.2.2.2.1
theorem qC.pmost {A : zk_H} {W : qW} (hh : qC A W) : ∀ p, p < 16 → A (37 + p) 1 = nI (W.pmost p) := hh.2.2.2.2.2.2.2.2.2.2.2.2.2.2.2.2.2.2.2.2.2.1
theorem qC.pcab {A : zk_H} {W : qW} (hh : qC A W) : ∀ p, p < 16 → A (37 + p) 2 = nI (W.pcab p) := hh.2.2.2.2.2.2.2.2.2.2.2.2.2.2.2.2.2.2.2.2.2.2.1
theorem qC.pcar {A : zk_H} {W : qW} (hh : qC A W) : ∀ p, p < 16 → A (37 + p) 3 = qoc (W.pcar p) := hh.2.2.2.2.2.2.2.2.2.2.2.2.2.2.2.2.2.2.2.2.2.2.2.1
theorem qC.pfail {A : zk_H} {W : qW} (hh : qC A W) : ∀ p, p < 16 → A (37 + p) 4 = nI (W.pfail p) := hh.2.2.2.2.2.2.2.2.2.2.2.2.2.2.2.2.2.2.2.2.2.2.2.2.1
theorem qC.psays {A : zk_H} {W : qW} (hh : qC A W) : ∀ p, p < 16 → A (37 + p) 5 = nI (W.psays p) := hh.2.2.2.2.2.2.2.2.2.2.2.2.2.2.2.2.2.2.2.2.2.2.2.2.2.1
theorem qC.bat {A : zk_H} {W : qW} (hh : qC A W) : ∀ c, c < 12 → A (53 + c) 0 = nI (W.bat c) := hh.2.2.2.2.2.2.2.2.2.2.2.2.2.2.2.2.2.2.2.2.2.2.2.2.2.2.1
theorem qC.use {A : zk_H} {W : qW} (hh : qC A W) : ∀ c, c < 12 → A (53 + c) 1 = nI (W.use c) := hh.2.2.2.2.2.2.2.2.2.2.2.2.2.2.2.2.2.2.2.2.2.2.2.2.2.2.2.1
theorem qC.rate {A : zk_H} {W : qW} (hh : qC A W) : ∀ c, c < 12 → A (53 + c) 2 = nI (W.rate c) := hh.2.2.2.2.2.2.2.2.2.2.2.2.2.2.2.2.2.2.2.2.2.2.2.2.2.2.2.2.1
theorem qC.cab {A : zk_H} {W : qW} (hh : qC A W) : ∀ c, c < 12 → A (53 + c) 3 = nI (W.cab c) := hh.2.2.2.2.2.2.2.2.2.2.2.2.2.2.2.2.2.2.2.2.2.2.2.2.2.2.2.2.2.1
theorem qC.chg {A : zk_H} {W : qW} (hh : qC A W) : ∀ c, c < 12 → A (53 + c) 4 = nI (W.chg c) := hh.2.2.2.2.2.2.2.2.2.2.2.2.2.2.2.2.2.2.2.2.2.2.2.2.2.2.2.2.2.2.1
theorem qC.wh {A : zk_H} {W : qW} (hh : qC A W) : ∀ c, c < 12 → A (53 + c) 5 = nI (W.wh c) := hh.2.2.2.2.2.2.2.2.2.2.2.2.2.2.2.2.2.2.2.2.2.2.2.2.2.2.2.2.2.2.2.1
theorem qC.want {A : zk_H} {W : qW} (hh : qC A W) : ∀ c, c < 12 → A (53 + c) 6 = nI (W.want c) := hh.2.2.2.2.2.2.2.2.2.2.2.2.2.2.2.2.2.2.2.2.2.2.2.2.2.2.2.2.2.2.2.2.1
theorem qC.stay {A : zk_H} {W : qW} (hh : qC A W) : ∀ c, c < 12 → A (53 + c) 7 = nI (W.stay c) := hh.2.2.2.2.2.2.2.2.2.2.2.2.2.2.2.2.2.2.2.2.2.2.2.2.2.2.2.2.2.2.2.2.2.1
theorem qC.idl {A : zk_H} {W : qW} (hh : qC A W) : ∀ c, c < 12 → A (53 + c) 8 = nI (W.idl c) := hh.2.2.2.2.2.2.2.2.2.2.2.2.2.2.2.2.2.2.2.2.2.2.2.2.2.2.2.2.2.2.2.2.2.2.1
theorem qC.idlAll {A : zk_H} {W : qW} (hh : qC A W) : ∀ c, c < 12 → A (53 + c) 9 = nI (W.idlAll c) := hh.2.2.2.2.2.2.2.2.2.2.2.2.2.2.2.2.2.2.2.2.2.2.2.2.2.2.2.2.2.2.2.2.2.2.2.1
theorem qC.got {A : zk_H} {W : qW} (hh : qC A W) : ∀ c, c < 12 → A (53 + c) 10 = nI (W.got c) := hh.2.2.2.2.2.2.2.2.2.2.2.2.2.2.2.2.2.2.2.2.2.2.2.2.2.2.2.2.2.2.2.2.2.2.2.2.1
theorem qC.waited {A : zk_H} {W : qW} (hh : qC A W) : ∀ c, c < 12 → A (53 + c) 11 = nI (W.waited c) := hh.2.2.2.2.2.2.2.2.2.2.2.2.2.2.2.2.2.2.2.2.2.2.2.2.2.2.2.2.2.2.2.2.2.2.2.2.2.1
theorem qC.pays {A : zk_H} {W : qW} (hh : qC A W) : ∀ c, c < 12 → A (53 + c) 12 = nI (W.pays c) := hh.2.2.2.2.2.2.2.2.2.2.2.2.2.2.2.2.2.2.2.2.2.2.2.2.2.2.2.2.2.2.2.2.2.2.2.2.2.2.1
theorem qC.tried {A : zk_H} {W : qW} (hh : qC A W) : ∀ c, c < 12 → A (53 + c) 13 = nI (W.tried c) := hh.2.2.2.2.2.2.2.2.2.2.2.2.2.2.2.2.2.2.2.2.2.2.2.2.2.2.2.2.2.2.2.2.2.2.2.2.2.2.2.1
theorem qC.plugAt {A : zk_H} {W : qW} (hh : qC A W) : ∀ c, c < 12 → A (53 + c) 14 = nI (W.plugAt c) := hh.2.2.2.2.2.2.2.2.2.2.2.2.2.2.2.2.2.2.2.2.2.2.2.2.2.2.2.2.2.2.2.2.2.2.2.2.2.2.2.2.1
theorem qC.trn {A : zk_H} {W : qW} (hh : qC A W) : A 6 5 = nI W.tr.length := hh.2.2.2.2.2.2.2.2.2.2.2.2.2.2.2.2.2.2.2.2.2.2.2.2.2.2.2.2.2.2.2.2.2.2.2.2.2.2.2.2.2.1
theorem qC.tr {A : zk_H} {W : qW} (hh : qC A W) : ∃ o, o < 60 ∧ A 6 4 = nI o ∧ ∀ i x, W.tr[i]? = some x → A 7 ((o + i) % 60) = nI x.1 ∧ A 8 ((o + i) % 60) = nI x.2.1 ∧ A 9 ((o + i) % 60) = nI x.2.2.1 ∧ A 10 ((o + i) % 60) = nI x.2.2.2 := hh.2.2.2.2.2.2.2.2.2.2.2.2.2.2.2.2.2.2.2.2.2.2.2.2.2.2.2.2.2.2.2.2.2.2.2.2.2.2.2.2.2.2.1
theorem qC.bAn {A : zk_H} {W : qW} (hh : qC A W) : A 11 3 = nI W.bA.length := hh.2.2.2.2.2.2.2.2.2.2.2.2.2.2.2.2.2.2.2.2.2.2.2.2.2.2.2.2.2.2.2.2.2.2.2.2.2.2.2.2.2.2.2.1
theorem qC.bA {A : zk_H} {W : qW} (hh : qC A W) : ∀ i x, W.bA[i]? = some x → A 12 i = nI x.1 ∧ A 13 i = nI x.2.1 ∧ A 14 i = nI x.2.2 := hh.2.2.2.2.2.2.2.2.2.2.2.2.2.2.2.2.2.2.2.2.2.2.2.2.2.2.2.2.2.2.2.2.2.2.2.2.2.2.2.2.2.2.2.2.1
theorem qC.bBn {A : zk_H} {W : qW} (hh : qC A W) : A 15 3 = nI W.bB.length := hh.2.2.2.2.2.2.2.2.2.2.2.2.2.2.2.2.2.2.2.2.2.2.2.2.2.2.2.2.2.2.2.2.2.2.2.2.2.2.2.2.2.2.2.2.2.1
theorem qC.bB {A : zk_H} {W : qW} (hh : qC A W) : ∀ i x, W.bB[i]? = some x → A 16 i = nI x.1 ∧ A 17 i = nI x.2.1 ∧ A 18 i = nI x.2.2 := hh.2.2.2.2.2.2.2.2.2.2.2.2.2.2.2.2.2.2.2.2.2.2.2.2.2.2.2.2.2.2.2.2.2.2.2.2.2.2.2.2.2.2.2.2.2.2
theorem qC.mk {A : zk_H} {W : qW} (m0 : A 1 7 = nI W.nS) (m1 : A 1 8 = nI W.nP) (m2 : A 1 9 = nI W.nC) (m3 : A 1 10 = nI W.cold) (m4 : A 1 11 = nI W.drift) (m5 : A 1 12 = nI W.now) (m6 : A 1 13 = nI W.given) (m7 : ∀ i, i < 24 → A 5 i = nI (W.price i)) (m8 : ∀ s, s < 6 → A (19 + 3 * s) 0 = nI (W.km s)) (m9 : ∀ s, s < 6 → A (19 + 3 * s) 1 = nI (W.pow s)) (m10 : ∀ s, s < 6 → A (19 + 3 * s) 2 = nI (W.wait s)) (m11 : ∀ s, s < 6 → A (19 + 3 * s) 3 = nI (W.sgiv s)) (m12 : ∀ s, s < 6 → A (19 + 3 * s) 4 = nI (W.first s)) (m13 : ∀ s, s < 6 → A (19 + 3 * s) 5 = nI (W.cap s)) (m14 : ∀ s, s < 6 → A (19 + 3 * s) 6 = nI (W.idle s)) (m15 : ∀ s, s < 6 → A (19 + 3 * s) 7 = nI (W.after s)) (m16 : ∀ s, s < 6 → A (19 + 3 * s) 8 = nI (W.q s).length) (m17 : ∀ s, s < 6 → A (19 + 3 * s) 9 = nI (W.pl s).length) (m18 : ∀ s, s < 6 → ∀ k c, (W.q s)[k]? = some c → A (20 + 3 * s) k = nI c) (m19 : ∀ s, s < 6 → ∀ k c, (W.pl s)[k]? = some c → A (21 + 3 * s) k = nI c) (m20 : ∀ p, p < 16 → A (37 + p) 0 = nI (W.psite p)) (m21 : ∀ p, p < 16 → A (37 + p) 1 = nI (W.pmost p)) (m22 : ∀ p, p < 16 → A (37 + p) 2 = nI (W.pcab p)) (m23 : ∀ p, p < 16 → A (37 + p) 3 = qoc (W.pcar p)) (m24 : ∀ p, p < 16 → A (37 + p) 4 = nI (W.pfail p)) (m25 : ∀ p, p < 16 → A (37 + p) 5 = nI (W.psays p)) (m26 : ∀ c, c < 12 → A (53 + c) 0 = nI (W.bat c)) (m27 : ∀ c, c < 12 → A (53 + c) 1 = nI (W.use c)) (m28 : ∀ c, c < 12 → A (53 + c) 2 = nI (W.rate c)) (m29 : ∀ c, c < 12 → A (53 + c) 3 = nI (W.cab c)) (m30 : ∀ c, c < 12 → A (53 + c) 4 = nI (W.chg c)) (m31 : ∀ c, c < 12 → A (53 + c) 5 = nI (W.wh c)) (m32 : ∀ c, c < 12 → A (53 + c) 6 = nI (W.want c)) (m33 : ∀ c, c < 12 → A (53 + c) 7 = nI (W.stay c)) (m34 : ∀ c, c < 12 → A (53 + c) 8 = nI (W.idl c)) (m35 : ∀ c, c < 12 → A (53 + c) 9 = nI (W.idlAll c)) (m36 : ∀ c, c < 12 → A (53 + c) 10 = nI (W.got c)) (m37 : ∀ c, c < 12 → A (53 + c) 11 = nI (W.waited c)) (m38 : ∀ c, c < 12 → A (53 + c) 12 = nI (W.pays c)) (m39 : ∀ c, c < 12 → A (53 + c) 13 = nI (W.tried c)) (m40 : ∀ c, c < 12 → A (53 + c) 14 = nI (W.plugAt c)) (m41 : A 6 5 = nI W.tr.length) (m42 : ∃ o, o < 60 ∧ A 6 4 = nI o ∧ ∀ i x, W.tr[i]? = some x → A 7 ((o + i) % 60) = nI x.1 ∧ A 8 ((o + i) % 60) = nI x.2.1 ∧ A 9 ((o + i) % 60) = nI x.2.2.1 ∧ A 10 ((o + i) % 60) = nI x.2.2.2) (m43 : A 11 3 = nI W.bA.length) (m44 : ∀ i x, W.bA[i]? = some x → A 12 i = nI x.1 ∧ A 13 i = nI x.2.1 ∧ A 14 i = nI x.2.2) (m45 : A 15 3 = nI W.bB.length) (m46 : ∀ i x, W.bB[i]? = some x → A 16 i = nI x.1 ∧ A 17 i = nI x.2.1 ∧ A 18 i = nI x.2.2) : qC A W := ⟨m0, m1, m2, m3, m4, m5, m6, m7, m8, m9, m10, m11, m12, m13, m14, m15, m16, m17, m18, m19, m20, m21, m22, m23, m24, m25, m26, m27, m28, m29, m30, m31, m32, m33, m34, m35, m36, m37, m38, m39, m40, m41, m42, m43, m44, m45, m46⟩
def qR (R : Nat → Nat → Int32) (W : qW) : Prop :=
  (R 0 0 = nI W.now) ∧
  (R 0 1 = nI W.nS) ∧
  (R 0 2 = nI W.nP) ∧
  (R 0 3 = nI W.nC) ∧
  (R 0 4 = nI W.tr.length) ∧
  (R 0 5 = nI W.bA.length) ∧
  (R 0 6 = nI W.bB.length) ∧
  (R 0 7 = nI W.cold) ∧
  (R 0 8 = nI W.drift) ∧
  (R 0 9 = nI W.given) ∧
  (∀ i, i < 24 → R 5 i = nI (W.price i)) ∧
  (∀ s, s < W.nS → R 1 (9 * s) = nI (W.km s)) ∧
  (∀ s, s < W.nS → R 1 (9 * s + 1) = nI (W.pow s)) ∧
  (∀ s, s < W.nS → R 1 (9 * s + 2) = nI (W.first s)) ∧
  (∀ s, s < W.nS → R 1 (9 * s + 3) = nI (W.cap s)) ∧
  (∀ s, s < W.nS → R 1 (9 * s + 4) = nI (W.idle s)) ∧
  (∀ s, s < W.nS → R 1 (9 * s + 5) = nI (W.after s)) ∧
  (∀ s, s < W.nS → R 1 (9 * s + 6) = nI (W.q s).length) ∧
  (∀ s, s < W.nS → R 1 (9 * s + 7) = nI (W.wait s)) ∧
  (∀ s, s < W.nS → R 1 (9 * s + 8) = nI (W.sgiv s)) ∧
  (∀ s, s < W.nS → ∀ k c, (W.q s)[k]? = some c → R 2 (12 * s + k) = nI c) ∧
  (∀ p, p < W.nP → R 3 (6 * p) = nI (W.psite p)) ∧
  (∀ p, p < W.nP → R 3 (6 * p + 1) = nI (W.pmost p)) ∧
  (∀ p, p < W.nP → R 3 (6 * p + 2) = nI (W.pcab p)) ∧
  (∀ p, p < W.nP → R 3 (6 * p + 3) = qoc (W.pcar p)) ∧
  (∀ p, p < W.nP → R 3 (6 * p + 4) = nI (W.pfail p)) ∧
  (∀ p, p < W.nP → R 3 (6 * p + 5) = nI (W.psays p)) ∧
  (∀ c, c < W.nC → R 4 (16 * c) = nI (W.bat c)) ∧
  (∀ c, c < W.nC → R 4 (16 * c + 1) = nI (W.use c)) ∧
  (∀ c, c < W.nC → R 4 (16 * c + 2) = nI (W.rate c)) ∧
  (∀ c, c < W.nC → R 4 (16 * c + 3) = nI (W.cab c)) ∧
  (∀ c, c < W.nC → R 4 (16 * c + 4) = nI (W.chg c)) ∧
  (∀ c, c < W.nC → R 4 (16 * c + 5) = nI (W.wh c)) ∧
  (∀ c, c < W.nC → R 4 (16 * c + 6) = nI (W.want c)) ∧
  (∀ c, c < W.nC → R 4 (16 * c + 7) = nI (W.stay c)) ∧
  (∀ c, c < W.nC → R 4 (16 * c + 8) = nI (W.got c)) ∧
  (∀ c, c < W.nC → R 4 (16 * c + 9) = nI (W.waited c)) ∧
  (∀ c, c < W.nC → R 4 (16 * c + 10) = nI (W.idlAll c)) ∧
  (∀ c, c < W.nC → R 4 (16 * c + 11) = nI (W.pays c)) ∧
  (∀ c, c < W.nC → R 4 (16 * c + 12) = nI (W.tried c)) ∧
  (∀ c, c < W.nC → R 4 (16 * c + 13) = nI (W.idl c)) ∧
  (∀ c, c < W.nC → R 4 (16 * c + 14) = nI (W.plugAt c)) ∧
  (∀ i x, W.tr[i]? = some x → R 6 (4 * i) = nI x.1 ∧ R 6 (4 * i + 1) = nI x.2.1 ∧ R 6 (4 * i + 2) = nI x.2.2.1 ∧ R 6 (4 * i + 3) = nI x.2.2.2) ∧
  (∀ i x, W.bA[i]? = some x → R 7 (3 * i) = nI x.1 ∧ R 7 (3 * i + 1) = nI x.2.1 ∧ R 7 (3 * i + 2) = nI x.2.2) ∧
  (∀ i x, W.bB[i]? = some x → R 7 (21 + 3 * i) = nI x.1 ∧ R 7 (21 + 3 * i + 1) = nI x.2.1 ∧ R 7 (21 + 3 * i + 2) = nI x.2.2)
theorem qR.now {R : Nat → Nat → Int32} {W : qW} (hh : qR R W) : R 0 0 = nI W.now := hh.1
theorem qR.nS {R : Nat → Nat → Int32} {W : qW} (hh : qR R W) : R 0 1 = nI W.nS := hh.2.1
theorem qR.nP {R : Nat → Nat → Int32} {W : qW} (hh : qR R W) : R 0 2 = nI W.nP := hh.2.2.1
theorem qR.nC {R : Nat → Nat → Int32} {W : qW} (hh : qR R W) : R 0 3 = nI W.nC := hh.2.2.2.1
theorem qR.trn {R : Nat → Nat → Int32} {W : qW} (hh : qR R W) : R 0 4 = nI W.tr.length := hh.2.2.2.2.1
theorem qR.bAn {R : Nat → Nat → Int32} {W : qW} (hh : qR R W) : R 0 5 = nI W.bA.length := hh.2.2.2.2.2.1
theorem qR.bBn {R : Nat → Nat → Int32} {W : qW} (hh : qR R W) : R 0 6 = nI W.bB.length := hh.2.2.2.2.2.2.1
theorem qR.cold {R : Nat → Nat → Int32} {W : qW} (hh : qR R W) : R 0 7 = nI W.cold := hh.2.2.2.2.2.2.2.1
theorem qR.drift {R : Nat → Nat → Int32} {W : qW} (hh : qR R W) : R 0 8 = nI W.drift := hh.2.2.2.2.2.2.2.2.1
theorem qR.given {R : Nat → Nat → Int32} {W : qW} (hh : qR R W) : R 0 9 = nI W.given := hh.2.2.2.2.2.2.2.2.2.1
theorem qR.price {R : Nat → Nat → Int32} {W : qW} (hh : qR R W) : ∀ i, i < 24 → R 5 i = nI (W.price i) := hh.2.2.2.2.2.2.2.2.2.2.1
theorem qR.km {R : Nat → Nat → Int32} {W : qW} (hh : qR R W) : ∀ s, s < W.nS → R 1 (9 * s) = nI (W.km s) := hh.2.2.2.2.2.2.2.2.2.2.2.1
theorem qR.pow {R : Nat → Nat → Int32} {W : qW} (hh : qR R W) : ∀ s, s < W.nS → R 1 (9 * s + 1) = nI (W.pow s) := hh.2.2.2.2.2.2.2.2.2.2.2.2.1
theorem qR.first {R : Nat → Nat → Int32} {W : qW} (hh : qR R W) : ∀ s, s < W.nS → R 1 (9 * s + 2) = nI (W.first s) := hh.2.2.2.2.2.2.2.2.2.2.2.2.2.1
theorem qR.cap {R : Nat → Nat → Int32} {W : qW} (hh : qR R W) : ∀ s, s < W.nS → R 1 (9 * s + 3) = nI (W.cap s) := hh.2.2.2.2.2.2.2.2.2.2.2.2.2.2.1
theorem qR.idle {R : Nat → Nat → Int32} {W : qW} (hh : qR R W) : ∀ s, s < W.nS → R 1 (9 * s + 4) = nI (W.idle s) := hh.2.2.2.2.2.2.2.2.2.2.2.2.2.2.2.1
theorem qR.after {R : Nat → Nat → Int32} {W : qW} (hh : qR R W) : ∀ s, s < W.nS → R 1 (9 * s + 5) = nI (W.after s) := hh.2.2.2.2.2.2.2.2.2.2.2.2.2.2.2.2.1
theorem qR.qn {R : Nat → Nat → Int32} {W : qW} (hh : qR R W) : ∀ s, s < W.nS → R 1 (9 * s + 6) = nI (W.q s).length := hh.2.2.2.2.2.2.2.2.2.2.2.2.2.2.2.2.2.1
theorem qR.wait {R : Nat → Nat → Int32} {W : qW} (hh : qR R W) : ∀ s, s < W.nS → R 1 (9 * s + 7) = nI (W.wait s) := hh.2.2.2.2.2.2.2.2.2.2.2.2.2.2.2.2.2.2.1
theorem qR.sgiv {R : Nat → Nat → Int32} {W : qW} (hh : qR R W) : ∀ s, s < W.nS → R 1 (9 * s + 8) = nI (W.sgiv s) := hh.2.2.2.2.2.2.2.2.2.2.2.2.2.2.2.2.2.2.2.1
theorem qR.q {R : Nat → Nat → Int32} {W : qW} (hh : qR R W) : ∀ s, s < W.nS → ∀ k c, (W.q s)[k]? = some c → R 2 (12 * s + k) = nI c := hh.2.2.2.2.2.2.2.2.2.2.2.2.2.2.2.2.2.2.2.2.1
theorem qR.psite {R : Nat → Nat → Int32} {W : qW} (hh : qR R W) : ∀ p, p < W.nP → R 3 (6 * p) = nI (W.psite p) := hh.2.2.2.2.2.2.2.2.2.2.2.2.2.2.2.2.2.2.2.2.2.1
theorem qR.pmost {R : Nat → Nat → Int32} {W : qW} (hh : qR R W) : ∀ p, p < W.nP → R 3 (6 * p + 1) = nI (W.pmost p) := hh.2.2.2.2.2.2.2.2.2.2.2.2.2.2.2.2.2.2.2.2.2.2.1
theorem qR.pcab {R : Nat → Nat → Int32} {W : qW} (hh : qR R W) : ∀ p, p < W.nP → R 3 (6 * p + 2) = nI (W.pcab p) := hh.2.2.2.2.2.2.2.2.2.2.2.2.2.2.2.2.2.2.2.2.2.2.2.1
theorem qR.pcar {R : Nat → Nat → Int32} {W : qW} (hh : qR R W) : ∀ p, p < W.nP → R 3 (6 * p + 3) = qoc (W.pcar p) := hh.2.2.2.2.2.2.2.2.2.2.2.2.2.2.2.2.2.2.2.2.2.2.2.2.1
theorem qR.pfail {R : Nat → Nat → Int32} {W : qW} (hh : qR R W) : ∀ p, p < W.nP → R 3 (6 * p + 4) = nI (W.pfail p) := hh.2.2.2.2.2.2.2.2.2.2.2.2.2.2.2.2.2.2.2.2.2.2.2.2.2.1
theorem qR.psays {R : Nat → Nat → Int32} {W : qW} (hh : qR R W) : ∀ p, p < W.nP → R 3 (6 * p + 5) = nI (W.psays p) := hh.2.2.2.2.2.2.2.2.2.2.2.2.2.2.2.2.2.2.2.2.2.2.2.2.2.2.1
theorem qR.bat {R : Nat → Nat → Int32} {W : qW} (hh : qR R W) : ∀ c, c < W.nC → R 4 (16 * c) = nI (W.bat c) := hh.2.2.2.2.2.2.2.2.2.2.2.2.2.2.2.2.2.2.2.2.2.2.2.2.2.2.2.1
theorem qR.use {R : Nat → Nat → Int32} {W : qW} (hh : qR R W) : ∀ c, c < W.nC → R 4 (16 * c + 1) = nI (W.use c) := hh.2.2.2.2.2.2.2.2.2.2.2.2.2.2.2.2.2.2.2.2.2.2.2.2.2.2.2.2.1
theorem qR.rate {R : Nat → Nat → Int32} {W : qW} (hh : qR R W) : ∀ c, c < W.nC → R 4 (16 * c + 2) = nI (W.rate c) := hh.2.2.2.2.2.2.2.2.2.2.2.2.2.2.2.2.2.2.2.2.2.2.2.2.2.2.2.2.2.1
theorem qR.cab {R : Nat → Nat → Int32} {W : qW} (hh : qR R W) : ∀ c, c < W.nC → R 4 (16 * c + 3) = nI (W.cab c) := hh.2.2.2.2.2.2.2.2.2.2.2.2.2.2.2.2.2.2.2.2.2.2.2.2.2.2.2.2.2.2.1
theorem qR.chg {R : Nat → Nat → Int32} {W : qW} (hh : qR R W) : ∀ c, c < W.nC → R 4 (16 * c + 4) = nI (W.chg c) := hh.2.2.2.2.2.2.2.2.2.2.2.2.2.2.2.2.2.2.2.2.2.2.2.2.2.2.2.2.2.2.2.1
theorem qR.wh {R : Nat → Nat → Int32} {W : qW} (hh : qR R W) : ∀ c, c < W.nC → R 4 (16 * c + 5) = nI (W.wh c) := hh.2.2.2.2.2.2.2.2.2.2.2.2.2.2.2.2.2.2.2.2.2.2.2.2.2.2.2.2.2.2.2.2.1
theorem qR.want {R : Nat → Nat → Int32} {W : qW} (hh : qR R W) : ∀ c, c < W.nC → R 4 (16 * c + 6) = nI (W.want c) := hh.2.2.2.2.2.2.2.2.2.2.2.2.2.2.2.2.2.2.2.2.2.2.2.2.2.2.2.2.2.2.2.2.2.1
theorem qR.stay {R : Nat → Nat → Int32} {W : qW} (hh : qR R W) : ∀ c, c < W.nC → R 4 (16 * c + 7) = nI (W.stay c) := hh.2.2.2.2.2.2.2.2.2.2.2.2.2.2.2.2.2.2.2.2.2.2.2.2.2.2.2.2.2.2.2.2.2.2.1
theorem qR.got {R : Nat → Nat → Int32} {W : qW} (hh : qR R W) : ∀ c, c < W.nC → R 4 (16 * c + 8) = nI (W.got c) := hh.2.2.2.2.2.2.2.2.2.2.2.2.2.2.2.2.2.2.2.2.2.2.2.2.2.2.2.2.2.2.2.2.2.2.2.1
theorem qR.waited {R : Nat → Nat → Int32} {W : qW} (hh : qR R W) : ∀ c, c < W.nC → R 4 (16 * c + 9) = nI (W.waited c) := hh.2.2.2.2.2.2.2.2.2.2.2.2.2.2.2.2.2.2.2.2.2.2.2.2.2.2.2.2.2.2.2.2.2.2.2.2.1
theorem qR.idlAll {R : Nat → Nat → Int32} {W : qW} (hh : qR R W) : ∀ c, c < W.nC → R 4 (16 * c + 10) = nI (W.idlAll c) := hh.2.2.2.2.2.2.2.2.2.2.2.2.2.2.2.2.2.2.2.2.2.2.2.2.2.2.2.2.2.2.2.2.2.2.2.2.2.1
theorem qR.pays {R : Nat → Nat → Int32} {W : qW} (hh : qR R W) : ∀ c, c < W.nC → R 4 (16 * c + 11) = nI (W.pays c) := hh.2.2.2.2.2.2.2.2.2.2.2.2.2.2.2.2.2.2.2.2.2.2.2.2.2.2.2.2.2.2.2.2.2.2.2.2.2.2.1
theorem qR.tried {R : Nat → Nat → Int32} {W : qW} (hh : qR R W) : ∀ c, c < W.nC → R 4 (16 * c + 12) = nI (W.tried c) := hh.2.2.2.2.2.2.2.2.2.2.2.2.2.2.2.2.2.2.2.2.2.2.2.2.2.2.2.2.2.2.2.2.2.2.2.2.2.2.2.1
theorem qR.idl {R : Nat → Nat → Int32} {W : qW} (hh : qR R W) : ∀ c, c < W.nC → R 4 (16 * c + 13) = nI (W.idl c) := hh.2.2.2.2.2.2.2.2.2.2.2.2.2.2.2.2.2.2.2.2.2.2.2.2.2.2.2.2.2.2.2.2.2.2.2.2.2.2.2.2.1
theorem qR.plugAt {R : Nat → Nat → Int32} {W : qW} (hh : qR R W) : ∀ c, c < W.nC → R 4 (16 * c + 14) = nI (W.plugAt c) := hh.2.2.2.2.2.2.2.2.2.2.2.2.2.2.2.2.2.2.2.2.2.2.2.2.2.2.2.2.2.2.2.2.2.2.2.2.2.2.2.2.2.1
theorem qR.tr {R : Nat → Nat → Int32} {W : qW} (hh : qR R W) : ∀ i x, W.tr[i]? = some x → R 6 (4 * i) = nI x.1 ∧ R 6 (4 * i + 1) = nI x.2.1 ∧ R 6 (4 * i + 2) = nI x.2.2.1 ∧ R 6 (4 * i + 3) = nI x.2.2.2 := hh.2.2.2.2.2.2.2.2.2.2.2.2.2.2.2.2.2.2.2.2.2.2.2.2.2.2.2.2.2.2.2.2.2.2.2.2.2.2.2.2.2.2.1
theorem qR.bA {R : Nat → Nat → Int32} {W : qW} (hh : qR R W) : ∀ i x, W.bA[i]? = some x → R 7 (3 * i) = nI x.1 ∧ R 7 (3 * i + 1) = nI x.2.1 ∧ R 7 (3 * i + 2) = nI x.2.2 := hh.2.2.2.2.2.2.2.2.2.2.2.2.2.2.2.2.2.2.2.2.2.2.2.2.2.2.2.2.2.2.2.2.2.2.2.2.2.2.2.2.2.2.2.1
theorem qR.bB {R : Nat → Nat → Int32} {W : qW} (hh : qR R W) : ∀ i x, W.bB[i]? = some x → R 7 (21 + 3 * i) = nI x.1 ∧ R 7 (21 + 3 * i + 1) = nI x.2.1 ∧ R 7 (21 + 3 * i + 2) = nI x.2.2 := hh.2.2.2.2.2.2.2.2.2.2.2.2.2.2.2.2.2.2.2.2.2.2.2.2.2.2.2.2.2.2.2.2.2.2.2.2.2.2.2.2.2.2.2.2
theorem qR.mk {R : Nat → Nat → Int32} {W : qW} (m0 : R 0 0 = nI W.now) (m1 : R 0 1 = nI W.nS) (m2 : R 0 2 = nI W.nP) (m3 : R 0 3 = nI W.nC) (m4 : R 0 4 = nI W.tr.length) (m5 : R 0 5 = nI W.bA.length) (m6 : R 0 6 = nI W.bB.length) (m7 : R 0 7 = nI W.cold) (m8 : R 0 8 = nI W.drift) (m9 : R 0 9 = nI W.given) (m10 : ∀ i, i < 24 → R 5 i = nI (W.price i)) (m11 : ∀ s, s < W.nS → R 1 (9 * s) = nI (W.km s)) (m12 : ∀ s, s < W.nS → R 1 (9 * s + 1) = nI (W.pow s)) (m13 : ∀ s, s < W.nS → R 1 (9 * s + 2) = nI (W.first s)) (m14 : ∀ s, s < W.nS → R 1 (9 * s + 3) = nI (W.cap s)) (m15 : ∀ s, s < W.nS → R 1 (9 * s + 4) = nI (W.idle s)) (m16 : ∀ s, s < W.nS → R 1 (9 * s + 5) = nI (W.after s)) (m17 : ∀ s, s < W.nS → R 1 (9 * s + 6) = nI (W.q s).length) (m18 : ∀ s, s < W.nS → R 1 (9 * s + 7) = nI (W.wait s)) (m19 : ∀ s, s < W.nS → R 1 (9 * s + 8) = nI (W.sgiv s)) (m20 : ∀ s, s < W.nS → ∀ k c, (W.q s)[k]? = some c → R 2 (12 * s + k) = nI c) (m21 : ∀ p, p < W.nP → R 3 (6 * p) = nI (W.psite p)) (m22 : ∀ p, p < W.nP → R 3 (6 * p + 1) = nI (W.pmost p)) (m23 : ∀ p, p < W.nP → R 3 (6 * p + 2) = nI (W.pcab p)) (m24 : ∀ p, p < W.nP → R 3 (6 * p + 3) = qoc (W.pcar p)) (m25 : ∀ p, p < W.nP → R 3 (6 * p + 4) = nI (W.pfail p)) (m26 : ∀ p, p < W.nP → R 3 (6 * p + 5) = nI (W.psays p)) (m27 : ∀ c, c < W.nC → R 4 (16 * c) = nI (W.bat c)) (m28 : ∀ c, c < W.nC → R 4 (16 * c + 1) = nI (W.use c)) (m29 : ∀ c, c < W.nC → R 4 (16 * c + 2) = nI (W.rate c)) (m30 : ∀ c, c < W.nC → R 4 (16 * c + 3) = nI (W.cab c)) (m31 : ∀ c, c < W.nC → R 4 (16 * c + 4) = nI (W.chg c)) (m32 : ∀ c, c < W.nC → R 4 (16 * c + 5) = nI (W.wh c)) (m33 : ∀ c, c < W.nC → R 4 (16 * c + 6) = nI (W.want c)) (m34 : ∀ c, c < W.nC → R 4 (16 * c + 7) = nI (W.stay c)) (m35 : ∀ c, c < W.nC → R 4 (16 * c + 8) = nI (W.got c)) (m36 : ∀ c, c < W.nC → R 4 (16 * c + 9) = nI (W.waited c)) (m37 : ∀ c, c < W.nC → R 4 (16 * c + 10) = nI (W.idlAll c)) (m38 : ∀ c, c < W.nC → R 4 (16 * c + 11) = nI (W.pays c)) (m39 : ∀ c, c < W.nC → R 4 (16 * c + 12) = nI (W.tried c)) (m40 : ∀ c, c < W.nC → R 4 (16 * c + 13) = nI (W.idl c)) (m41 : ∀ c, c < W.nC → R 4 (16 * c + 14) = nI (W.plugAt c)) (m42 : ∀ i x, W.tr[i]? = some x → R 6 (4 * i) = nI x.1 ∧ R 6 (4 * i + 1) = nI x.2.1 ∧ R 6 (4 * i + 2) = nI x.2.2.1 ∧ R 6 (4 * i + 3) = nI x.2.2.2) (m43 : ∀ i x, W.bA[i]? = some x → R 7 (3 * i) = nI x.1 ∧ R 7 (3 * i + 1) = nI x.2.1 ∧ R 7 (3 * i + 2) = nI x.2.2) (m44 : ∀ i x, W.bB[i]? = some x → R 7 (21 + 3 * i) = nI x.1 ∧ R 7 (21 + 3 * i + 1) = nI x.2.1 ∧ R 7 (21 + 3 * i + 2) = nI x.2.2) : qR R W := ⟨m0, m1, m2, m3, m4, m5, m6, m7, m8, m9, m10, m11, m12, m13, m14, m15, m16, m17, m18, m19, m20, m21, m22, m23, m24, m25, m26, m27, m28, m29, m30, m31, m32, m33, m34, m35, m36, m37, m38, m39, m40, m41, m42, m43, m44⟩
def qoff : Nat → Nat
  | 0 => 0 | 1 => 10 | 2 => 73 | 3 => 145 | 4 => 241 | 5 => 433 | 6 => 457 | _ => 697
/-- the whole state: the world, the tape, the kept world -/
def qS : Type := qW × List Nat × Option qW
def qS.w (S : qS) : qW := S.1
def qS.t (S : qS) : List Nat := S.2.1
def qS.k (S : qS) : Option qW := S.2.2
def qS.mk (w : qW) (t : List Nat) (k : Option qW) : qS := (w, t, k)
theorem qS_w (w : qW) (t : List Nat) (k : Option qW) : (qS.mk w t k).w = w := rfl
theorem qS_t (w : qW) (t : List Nat) (k : Option qW) : (qS.mk w t k).t = t := rfl
theorem qS_k (w : qW) (t : List Nat) (k : Option qW) : (qS.mk w t k).k = k := rfl
def qSf (S : qS) : Prop :=
  (qWf S.w) ∧
  (S.t.length ≤ 100) ∧
  (∀ x, x ∈ S.t → x ≤ 255) ∧
  (∀ K, S.k = some K → qWf K)
theorem qSf.w {S : qS} (hh : qSf S) : qWf S.w := hh.1
theorem qSf.tn {S : qS} (hh : qSf S) : S.t.length ≤ 100 := hh.2.1
theorem qSf.t {S : qS} (hh : qSf S) : ∀ x, x ∈ S.t → x ≤ 255 := hh.2.2.1
theorem qSf.k {S : qS} (hh : qSf S) : ∀ K, S.k = some K → qWf K := hh.2.2.2
theorem qSf.mk {S : qS} (m0 : qWf S.w) (m1 : S.t.length ≤ 100) (m2 : ∀ x, x ∈ S.t → x ≤ 255) (m3 : ∀ K, S.k = some K → qWf K) : qSf S := ⟨m0, m1, m2, m3⟩
def qCI (h : zk_H) (S : qS) : Prop :=
  (qC h S.w) ∧
  (h 129 1 = nI S.t.length) ∧
  (∀ i x, S.t[i]? = some x → h 130 i = nI x) ∧
  (h 0 7 = if S.k.isSome then 1 else 0) ∧
  (∀ K, S.k = some K → qC (fun c => h (c + 64)) K)
theorem qCI.w {h : zk_H} {S : qS} (hh : qCI h S) : qC h S.w := hh.1
theorem qCI.tn {h : zk_H} {S : qS} (hh : qCI h S) : h 129 1 = nI S.t.length := hh.2.1
theorem qCI.t {h : zk_H} {S : qS} (hh : qCI h S) : ∀ i x, S.t[i]? = some x → h 130 i = nI x := hh.2.2.1
theorem qCI.kb {h : zk_H} {S : qS} (hh : qCI h S) : h 0 7 = if S.k.isSome then 1 else 0 := hh.2.2.2.1
theorem qCI.k {h : zk_H} {S : qS} (hh : qCI h S) : ∀ K, S.k = some K → qC (fun c => h (c + 64)) K := hh.2.2.2.2
theorem qCI.mk {h : zk_H} {S : qS} (m0 : qC h S.w) (m1 : h 129 1 = nI S.t.length) (m2 : ∀ i x, S.t[i]? = some x → h 130 i = nI x) (m3 : h 0 7 = if S.k.isSome then 1 else 0) (m4 : ∀ K, S.k = some K → qC (fun c => h (c + 64)) K) : qCI h S := ⟨m0, m1, m2, m3, m4⟩
def qRI (h : zk_H) (S : qS) : Prop :=
  (qR (fun r => h (179 + r)) S.w) ∧
  (h 178 18 = nI S.t.length) ∧
  (∀ i x, S.t[i]? = some x → h 193 i = nI x) ∧
  (h 178 30 = if S.k.isSome then 1 else 0) ∧
  (∀ K, S.k = some K → qR (fun r i => h 200 (qoff r + i)) K)
theorem qRI.w {h : zk_H} {S : qS} (hh : qRI h S) : qR (fun r => h (179 + r)) S.w := hh.1
theorem qRI.tn {h : zk_H} {S : qS} (hh : qRI h S) : h 178 18 = nI S.t.length := hh.2.1
theorem qRI.t {h : zk_H} {S : qS} (hh : qRI h S) : ∀ i x, S.t[i]? = some x → h 193 i = nI x := hh.2.2.1
theorem qRI.kb {h : zk_H} {S : qS} (hh : qRI h S) : h 178 30 = if S.k.isSome then 1 else 0 := hh.2.2.2.1
theorem qRI.k {h : zk_H} {S : qS} (hh : qRI h S) : ∀ K, S.k = some K → qR (fun r i => h 200 (qoff r + i)) K := hh.2.2.2.2
theorem qRI.mk {h : zk_H} {S : qS} (m0 : qR (fun r => h (179 + r)) S.w) (m1 : h 178 18 = nI S.t.length) (m2 : ∀ i x, S.t[i]? = some x → h 193 i = nI x) (m3 : h 178 30 = if S.k.isSome then 1 else 0) (m4 : ∀ K, S.k = some K → qR (fun r i => h 200 (qoff r + i)) K) : qRI h S := ⟨m0, m1, m2, m3, m4⟩
def qInv (h : zk_H) : Prop := ∃ S, qSf S ∧ qCI h S ∧ qRI h S
def qCok (f : List Value → zk_H → Option (Value × zk_H)) (av : List Value) (S : qS) (r : Int32) (S' : qS) : Prop :=
  ∀ h, qCI h S → ∃ h1, f (.ref 0 :: av) h = some (.int r, h1) ∧ qCI h1 S' ∧ ∀ c, 178 ≤ c → h1 c = h c
def qRok (g : List Value → zk_H → Option (Value × zk_H)) (av : List Value) (S : qS) (r : Int32) (S' : qS) : Prop :=
  ∀ h, qRI h S → ∃ h1, g (.ref 178 :: av) h = some (.int r, h1) ∧ qRI h1 S' ∧ ∀ c, c < 178 → h1 c = h c
theorem qC_of {A B : zk_H} {W : qW} (hh : qC A W) (e : ∀ c, 1 ≤ c → c ≤ 64 → B c = A c) : qC B W := by
  apply qC.mk
  · rw [e 1 (by omega) (by omega)]; exact hh.nS 
  · rw [e 1 (by omega) (by omega)]; exact hh.nP 
  · rw [e 1 (by omega) (by omega)]; exact hh.nC 
  · rw [e 1 (by omega) (by omega)]; exact hh.cold 
  · rw [e 1 (by omega) (by omega)]; exact hh.drift 
  · rw [e 1 (by omega) (by omega)]; exact hh.now 
  · rw [e 1 (by omega) (by omega)]; exact hh.given 
  · intro i y1; rw [e 5 (by omega) (by omega)]; exact hh.price i y1
  · intro s y1; rw [e (19 + 3 * s) (by omega) (by omega)]; exact hh.km s y1
  · intro s y1; rw [e (19 + 3 * s) (by omega) (by omega)]; exact hh.pow s y1
  · intro s y1; rw [e (19 + 3 * s) (by omega) (by omega)]; exact hh.wait s y1
  · intro s y1; rw [e (19 + 3 * s) (by omega) (by omega)]; exact hh.sgiv s y1
  · intro s y1; rw [e (19 + 3 * s) (by omega) (by omega)]; exact hh.first s y1
  · intro s y1; rw [e (19 + 3 * s) (by omega) (by omega)]; exact hh.cap s y1
  · intro s y1; rw [e (19 + 3 * s) (by omega) (by omega)]; exact hh.idle s y1
  · intro s y1; rw [e (19 + 3 * s) (by omega) (by omega)]; exact hh.after s y1
  · intro s y1; rw [e (19 + 3 * s) (by omega) (by omega)]; exact hh.qn s y1
  · intro s y1; rw [e (19 + 3 * s) (by omega) (by omega)]; exact hh.pn s y1
  · intro s y1 k c y4; rw [e (20 + 3 * s) (by omega) (by omega)]; exact hh.q s y1 k c y4
  · intro s y1 k c y4; rw [e (21 + 3 * s) (by omega) (by omega)]; exact hh.p s y1 k c y4
  · intro p y1; rw [e (37 + p) (by omega) (by omega)]; exact hh.psite p y1
  · intro p y1; rw [e (37 + p) (by omega) (by omega)]; exact hh.pmost p y1
  · intro p y1; rw [e (37 + p) (by omega) (by omega)]; exact hh.pcab p y1
  · intro p y1; rw [e (37 + p) (by omega) (by omega)]; exact hh.pcar p y1
  · intro p y1; rw [e (37 + p) (by omega) (by omega)]; exact hh.pfail p y1
  · intro p y1; rw [e (37 + p) (by omega) (by omega)]; exact hh.psays p y1
  · intro c y1; rw [e (53 + c) (by omega) (by omega)]; exact hh.bat c y1
  · intro c y1; rw [e (53 + c) (by omega) (by omega)]; exact hh.use c y1
  · intro c y1; rw [e (53 + c) (by omega) (by omega)]; exact hh.rate c y1
  · intro c y1; rw [e (53 + c) (by omega) (by omega)]; exact hh.cab c y1
  · intro c y1; rw [e (53 + c) (by omega) (by omega)]; exact hh.chg c y1
  · intro c y1; rw [e (53 + c) (by omega) (by omega)]; exact hh.wh c y1
  · intro c y1; rw [e (53 + c) (by omega) (by omega)]; exact hh.want c y1
  · intro c y1; rw [e (53 + c) (by omega) (by omega)]; exact hh.stay c y1
  · intro c y1; rw [e (53 + c) (by omega) (by omega)]; exact hh.idl c y1
  · intro c y1; rw [e (53 + c) (by omega) (by omega)]; exact hh.idlAll c y1
  · intro c y1; rw [e (53 + c) (by omega) (by omega)]; exact hh.got c y1
  · intro c y1; rw [e (53 + c) (by omega) (by omega)]; exact hh.waited c y1
  · intro c y1; rw [e (53 + c) (by omega) (by omega)]; exact hh.pays c y1
  · intro c y1; rw [e (53 + c) (by omega) (by omega)]; exact hh.tried c y1
  · intro c y1; rw [e (53 + c) (by omega) (by omega)]; exact hh.plugAt c y1
  · rw [e 6 (by omega) (by omega)]; exact hh.trn 
  · obtain ⟨o, ho, h1, h2⟩ := hh.tr
    refine ⟨o, ho, ?_, ?_⟩
    · rw [e 6 (by omega) (by omega)]; exact h1
    · intro i x hx; rw [e 7 (by omega) (by omega), e 8 (by omega) (by omega), e 9 (by omega) (by omega), e 10 (by omega) (by omega)]; exact h2 i x hx
  · rw [e 11 (by omega) (by omega)]; exact hh.bAn 
  · intro i x y2; rw [e 12 (by omega) (by omega), e 13 (by omega) (by omega), e 14 (by omega) (by omega)]; exact hh.bA i x y2
  · rw [e 15 (by omega) (by omega)]; exact hh.bBn 
  · intro i x y2; rw [e 16 (by omega) (by omega), e 17 (by omega) (by omega), e 18 (by omega) (by omega)]; exact hh.bB i x y2
theorem qR_of {R Q : Nat → Nat → Int32} {W : qW} (hh : qR R W) (e : ∀ c, c < 8 → Q c = R c) : qR Q W := by
  apply qR.mk
  · rw [e 0 (by omega)]; exact hh.now 
  · rw [e 0 (by omega)]; exact hh.nS 
  · rw [e 0 (by omega)]; exact hh.nP 
  · rw [e 0 (by omega)]; exact hh.nC 
  · rw [e 0 (by omega)]; exact hh.trn 
  · rw [e 0 (by omega)]; exact hh.bAn 
  · rw [e 0 (by omega)]; exact hh.bBn 
  · rw [e 0 (by omega)]; exact hh.cold 
  · rw [e 0 (by omega)]; exact hh.drift 
  · rw [e 0 (by omega)]; exact hh.given 
  · intro i y1; rw [e 5 (by omega)]; exact hh.price i y1
  · intro s y1; rw [e 1 (by omega)]; exact hh.km s y1
  · intro s y1; rw [e 1 (by omega)]; exact hh.pow s y1
  · intro s y1; rw [e 1 (by omega)]; exact hh.first s y1
  · intro s y1; rw [e 1 (by omega)]; exact hh.cap s y1
  · intro s y1; rw [e 1 (by omega)]; exact hh.idle s y1
  · intro s y1; rw [e 1 (by omega)]; exact hh.after s y1
  · intro s y1; rw [e 1 (by omega)]; exact hh.qn s y1
  · intro s y1; rw [e 1 (by omega)]; exact hh.wait s y1
  · intro s y1; rw [e 1 (by omega)]; exact hh.sgiv s y1
  · intro s y1 k c y4; rw [e 2 (by omega)]; exact hh.q s y1 k c y4
  · intro p y1; rw [e 3 (by omega)]; exact hh.psite p y1
  · intro p y1; rw [e 3 (by omega)]; exact hh.pmost p y1
  · intro p y1; rw [e 3 (by omega)]; exact hh.pcab p y1
  · intro p y1; rw [e 3 (by omega)]; exact hh.pcar p y1
  · intro p y1; rw [e 3 (by omega)]; exact hh.pfail p y1
  · intro p y1; rw [e 3 (by omega)]; exact hh.psays p y1
  · intro c y1; rw [e 4 (by omega)]; exact hh.bat c y1
  · intro c y1; rw [e 4 (by omega)]; exact hh.use c y1
  · intro c y1; rw [e 4 (by omega)]; exact hh.rate c y1
  · intro c y1; rw [e 4 (by omega)]; exact hh.cab c y1
  · intro c y1; rw [e 4 (by omega)]; exact hh.chg c y1
  · intro c y1; rw [e 4 (by omega)]; exact hh.wh c y1
  · intro c y1; rw [e 4 (by omega)]; exact hh.want c y1
  · intro c y1; rw [e 4 (by omega)]; exact hh.stay c y1
  · intro c y1; rw [e 4 (by omega)]; exact hh.got c y1
  · intro c y1; rw [e 4 (by omega)]; exact hh.waited c y1
  · intro c y1; rw [e 4 (by omega)]; exact hh.idlAll c y1
  · intro c y1; rw [e 4 (by omega)]; exact hh.pays c y1
  · intro c y1; rw [e 4 (by omega)]; exact hh.tried c y1
  · intro c y1; rw [e 4 (by omega)]; exact hh.idl c y1
  · intro c y1; rw [e 4 (by omega)]; exact hh.plugAt c y1
  · intro i x y2; rw [e 6 (by omega)]; exact hh.tr i x y2
  · intro i x y2; rw [e 7 (by omega)]; exact hh.bA i x y2
  · intro i x y2; rw [e 7 (by omega)]; exact hh.bB i x y2
theorem qCI_of {h g : zk_H} {S : qS} (hh : qCI h S) (e : ∀ c, c < 131 → g c = h c) : qCI g S := by
  apply qCI.mk
  · exact qC_of hh.w (fun c _ h2 => e c (by omega))
  · rw [e 129 (by omega)]; exact hh.tn
  · intro i x hx; rw [e 130 (by omega)]; exact hh.t i x hx
  · rw [e 0 (by omega)]; exact hh.kb
  · intro K hK; exact qC_of (hh.k K hK) (fun c _ h2 => e (c + 64) (by omega))
theorem qRI_of {h g : zk_H} {S : qS} (hh : qRI h S) (e : ∀ c, 178 < c → c < 187 → g c = h c) (e1 : g 178 18 = h 178 18) (e2 : g 178 30 = h 178 30) (e3 : g 193 = h 193) (e4 : g 200 = h 200) : qRI g S := by
  apply qRI.mk
  · exact qR_of hh.w (fun c h2 => e (179 + c) (by omega) (by omega))
  · rw [e1]; exact hh.tn
  · intro i x hx; rw [e3]; exact hh.t i x hx
  · rw [e2]; exact hh.kb
  · intro K hK; rw [e4]; exact hh.k K hK
theorem q_ok2 {f g : List Value → zk_H → Option (Value × zk_H)} {av : List Value} (H : ∀ S, qSf S → ∃ r S', qSf S' ∧ qCok f av S r S' ∧ qRok g av S r S') : zl_ok2 qInv f g av := by
  intro h ⟨S, hS, hC, hR⟩
  obtain ⟨r, S', hS', cf, rg⟩ := H S hS
  obtain ⟨h1, e1, c1, fr1⟩ := cf h hC
  have hR1 : qRI h1 S := qRI_of hR (fun c hc _ => fr1 c (by omega)) (by rw [fr1 178 (by omega)]) (by rw [fr1 178 (by omega)]) (fr1 193 (by omega)) (fr1 200 (by omega))
  obtain ⟨h2, e2, c2, fr2⟩ := rg h1 hR1
  exact ⟨r, h1, h2, e1, e2, S', hS', qCI_of c1 (fun c hc => fr2 c (by omega)), c2⟩
