/** Counts the answers that are not as due, and tells them. */
final class Due {
    private final String name;
    private int wrong = 0;

    Due(String name) {
        this.name = name;
    }

    void is(String call, long got, long want) {
        if (got != want) {
            tell(call + " answered " + got + ", due is " + want);
        }
    }

    void is(String call, String got, String want) {
        if (!got.equals(want)) {
            tell(call + " answered '" + got + "', due is '" + want + "'");
        }
    }

    void holds(String what, boolean held) {
        if (!held) {
            tell(what);
        }
    }

    void tell(String fault) {
        wrong++;
        if (wrong <= 40) {
            System.out.println(name + ": " + fault);
        }
    }

    boolean isWrong() {
        return wrong > 0;
    }

    void end() {
        System.out.println(name + ": " + (wrong == 0 ? "as due" : wrong + " not as due"));
        if (wrong != 0) {
            System.exit(1);
        }
    }
}
