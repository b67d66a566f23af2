/** Counts what is not as due, for the tests of this folder. */
final class Check {
    private final String name;
    private int wrong = 0;
    private int checks = 0;

    Check(String name) {
        this.name = name;
    }

    void due(String what, long got, long want) {
        checks++;
        if (got != want) {
            wrong++;
            System.out.println(name + ": " + what + " answered " + got + ", due is " + want);
        }
    }

    boolean isBroken() {
        return wrong > 0;
    }

    void finish() {
        System.out.println(name + ": " + checks + " checks, " + wrong + " not as due");
        if (wrong > 0 || checks == 0) {
            System.exit(1);
        }
    }
}
