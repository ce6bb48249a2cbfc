/** The tests of what is refused stand on Check.allOf: each thing that an object holds must be seen by it. */
public final class StatesTest {
    public static void main(String[] args) {
        Check.same("two bare ones", Check.allOf(States.bare()), Check.allOf(States.bare()));
        Check.same("two busy ones", Check.allOf(States.busy()), Check.allOf(States.busy()));
        Check.same("two full ones", Check.allOf(States.full()), Check.allOf(States.full()));
        seen("a byte", x -> x.feed(1, 'u'));
        seen("a text that is gone", x -> x.cave());
        seen("a DAY", x -> x.spend(2));
        seen("no DAYS", x -> x.forget());
        seen("one who went IN", x -> x.enter(1));
        seen("a TICK", x -> x.pass(1));
        seen("a DRAW", x -> x.drift(1));
        seen("one more TRIED", x -> x.tryOut(1, 60));
        seen("one more line", x -> x.line(12, 31));
        seen("nothing TRIED, no lines", x -> x.tear());
        seen("THE SEED", x -> x.seed(5));
        seen("IMAGE 0 kept again", x -> x.keep(0));
        seen("IMAGE 1 kept", x -> x.keep(1));
        seen("IMAGE 0", x -> x.goBack(0));
        Check.due("busy: THE DATE", States.busy().told(6), 57);
        Check.due("busy: DOWN", States.busy().told(7), 1);
        Check.due("busy: OUT", States.busy().person(0, 2), 172);
        Check.due("full: bytes", States.full().told(5), 500);
        Check.due("full: DOWN", States.full().told(7), 63);
        Check.finish();
    }

    private static void seen(String what, Check.Call change) {
        CaveYears x = States.busy();
        change.on(x);
        Check.due(what + " is seen", Check.allOf(x).equals(Check.allOf(States.busy())) ? 0 : 1, 1);
    }
}
