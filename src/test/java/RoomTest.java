import java.lang.management.ManagementFactory;

/** The room: what 512 of the dearest calls make, and what an object is made of. */
final class RoomTest {
    private static final int CALLS = 512;

    private RoomTest() {
    }

    static void run(Due due) {
        due.group("room");
        SnuffCourt x = Due.told("case bees 99 9 bees 99 9;case bees 98 9 bees 99;case wax 9 wax 9;case bees 9 bees 8;"
                + "short 9;long 9;bare 9;draught 9 9;docket 0 0 1 1 2 2 3 0 0 1 1 2;");
        x.blow(20, 9);
        x.blow(8, 1);
        x.blow(9, 2);
        x.sheet(0, 2, 40);
        every(x);
        long before = bytes();
        for (int i = 0; i < CALLS; i++) {
            every(x);
        }
        long made = bytes() - before;
        due.holds("calls make next to nothing: " + made + " bytes", made < 16L * CALLS);
        before = bytes();
        new SnuffCourt();
        made = bytes() - before;
        due.holds("an object is small: " + made + " bytes", made < 16000);
    }

    private static long bytes() {
        return ((com.sun.management.ThreadMXBean) ManagementFactory.getThreadMXBean()).getCurrentThreadAllocatedBytes();
    }

    private static void every(SnuffCourt x) {
        x.sheet(1, 0, 40);
        x.lay(0, 0, 3);
        x.keep(0);
        x.read(0, 2, 0, 20);
        x.back(0);
        x.runs(4);
        x.ahead(0);
        x.foretell(0, 0, 2);
        x.friends(0, 0);
        x.wax(0, 0, 0);
        x.least(0, 0, 0);
        x.hand(0, 0, 0);
        x.turn(0, 0, 1);
        x.sure(0, 0, 0);
        x.rest(0, 0, 1);
        x.share(0, 0);
        x.share(0, 13);
        x.swap(0, 1);
        x.luck(5, 0, 0, 0, 1);
        x.mean(5, 0, 1);
        x.see(0, 0, 1);
        x.habits(0);
        x.slows(0);
        x.ask(0, 1);
        x.forget(0);
        x.drift(7, 60, 1);
        x.feed('x');
    }
}
