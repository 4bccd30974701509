theorem onm_n {β : Type} {a : Option β} {k : Nat → Option β} {out : β} (h : onm none a k = some out) : a = some out := h
theorem onm_s {β : Type} {a : Option β} {k : Nat → Option β} {x : Nat} {out : β} (h : onm (some x) a k = some out) : k x = some out := h
