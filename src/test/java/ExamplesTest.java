/** The five examples of the document's Terms. */
final class ExamplesTest {
    public static void main(String[] args) {
        Check.of("example 1").run("enter(0, 1) = 1; enter(0, 1) = 4; exit(0, 1) = 1; exit(0, 1) = 0;"
            + "exit(0, 1) = -5; enter(1, 1) = 2; lockState(1) = 3; type(1, 1) = 1; enter(2, 1) = 0;"
            + "threadState(2) = 1; exit(1, 1) = 0; owner(1) = -8; tick(1) = 1; owner(1) = 2;"
            + "counted(4) = 1; cost() = 69");
        Check.of("example 2").run("set(1, 1) = 0; enter(0, 0) = 1; await(0, 0, 2) = 1; enter(1, 0) = 3;"
            + "signal(1, 0) = 0; queued(0, 0) = 0; exit(1, 0) = 0; owner(0) = 0; waitEnd(0) = 1;"
            + "describe(0, 0) = 105; hash(0) = 919; hash(3) = 877; await(0, 0, 51) = -3;"
            + "exit(2, 0) = -5; exit(9, 9) = -1; monitors() = 1");
        Check.of("example 3").run("set(6, 1) = 4; enter(0, 0) = 1; enter(1, 0) = 0; enter(0, 1) = 1;"
            + "enter(2, 1) = -6; threadAt(1) = 0; die(0) = 2; lockState(1) = 12; tick(1) = 1;"
            + "counted(8) = 1; exit(1, 0) = 0; tick(4) = 0; lockState(0) = 4; tick(1) = 0;"
            + "lockState(0) = 0; start(0) = 3");
        Check.of("example 4").run("reset(2) = 3; enter(0, 0) = 1; enter(1, 1) = 1; enter(0, 1) = 0;"
            + "enter(1, 0) = 0; deadlocked() = 3; interrupt(0) = 0; threadState(0) = 11; die(1) = 1;"
            + "deadlocked() = 0; tick(1) = 1; owner(1) = 0; recorded() = 7; replayCost(1, 1) = 127;"
            + "bestValue(0) = 0; run() = 0");
        Check.of("example 5").run("write(116) = 1; write(105) = 2; write(99) = 3; write(107) = 4;"
            + "write(32) = 5; write(51) = 6; write(59) = 7; write(100) = 8; write(105) = 9;"
            + "write(101) = 10; fault() = 1; run() = -7; time() = 0; wipe() = 10; fault() = -8");
        Check.finish();
    }
}
