/** Promises 30, 31, 37, 38: flow, uneven, within, middle. */
public final class FlowsTest {
    private static final int NONE = QueueKeeper.NONE;

    public static void main(String[] args) {
        QueueKeeper x = Check.keeper("sets 1;ways 4;quantum 3000;target 99;limit 4;");
        Check.due("uneven() of none", x.uneven(), -2);
        Check.due("middle() of none", x.middle(), -2);
        x.come(1, 100, 0);
        Check.due("uneven() of one", x.uneven(), 0);
        x.come(2, 40, 0);
        x.pass(3);
        x.come(1, 30, 0);
        x.pass(4);
        Check.due("go at 7", x.go(), 0);
        Check.due("go at 7", x.go(), 2);
        Check.due("one sent 130, the other none", x.uneven(), 130);
        x.pass(5);
        Check.due("go at 12", x.go(), 1);
        Check.due("130 less 40", x.uneven(), 90);
        int[] of1 = {x.flow(1, 0), x.flow(1, 1), x.flow(1, 2), x.flow(1, 3)};
        Check.dueRow("flow 1", of1, 130, 2, 7, 11);
        int[] of2 = {x.flow(2, 0), x.flow(2, 1), x.flow(2, 2), x.flow(2, 3)};
        Check.dueRow("flow 2", of2, 40, 1, 12, 12);
        x.come(7, 50, 0);
        int[] of7 = {x.flow(7, 0), x.flow(7, 1), x.flow(7, 2), x.flow(7, 3)};
        Check.dueRow("flow 7", of7, 0, 1, -2, 0);
        int[] of8 = {x.flow(8, 0), x.flow(8, 1), x.flow(8, 2), x.flow(8, 3)};
        Check.dueRow("flow 8", of8, 0, 0, -2, 0);
        Check.due("a key without any sent", x.uneven(), 130);
        // Waits are 7, 4, 12.
        Check.due("middle()", x.middle(), 7);
        Check.due("within(4, 7)", x.within(4, 7), 2);
        Check.due("within(5, 6)", x.within(5, 6), 0);
        Check.due("within(12, 12)", x.within(12, 12), 1);
        Check.due("within(0, 9999999)", x.within(0, 9999999), 3);
        x.pass(100);
        Check.due("go at 112", x.go(), 3);
        Check.due("middle() of 4, 7, 12, 100", x.middle(), 12);
        for (int i = 0; i < 6; i++) {
            x.come(9, 10, 0);
        }
        Check.due("pushed out ones came too", x.flow(9, 1), 6);
        Check.due("but weren't sent", x.flow(9, 0), 0);
        refusing(x);
        Check.finish("FlowsTest");
    }

    private static void refusing(QueueKeeper x) {
        Check.due("flow(-1, 0)", x.flow(-1, 0), NONE);
        Check.due("flow(10000, 0)", x.flow(10000, 0), NONE);
        Check.due("flow(1, 4)", x.flow(1, 4), NONE);
        Check.due("flow(1, -1)", x.flow(1, -1), NONE);
        Check.due("within(-1, 5)", x.within(-1, 5), NONE);
        Check.due("within(5, 4)", x.within(5, 4), NONE);
        Check.due("within(0, 10000000)", x.within(0, 10000000), NONE);
        Check.due("within(10000000, 10000000)", x.within(10000000, 10000000), NONE);
        Check.due("within(9999999, 9999999)", x.within(9999999, 9999999), 0);
    }
}
