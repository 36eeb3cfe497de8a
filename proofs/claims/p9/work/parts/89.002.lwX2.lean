theorem aoai_of {args : Array Value} {s : State} (h : (Cond.arrayOver (.array .int)).before args s = true) : AOAI s := h
