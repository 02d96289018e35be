/** The example of README.md, call by call, with the answers that it tells. */
public final class ReadmeTest {
    public static void main(String[] args) {
        StoreMover mover = new StoreMover();
        Check.same("addStep", mover.addStep('m', 3), 1);
        Check.same("addStep", mover.addStep('s', 0), 2);
        Check.same("write", mover.write(7, 10, 2), false);
        Check.same("start", mover.start(), 1);
        int part = mover.readPart(40);
        Check.same("readPart", part, 0);
        Check.same("write", mover.write(8, 5, 1), false);
        Check.same("putDown", mover.putDown(part), 1);
        Check.same("follow", mover.follow(120), 1);
        Check.same("goToBoth", mover.goToBoth(), 0);
        Check.same("switchOver", mover.switchOver(), 2);
        Check.same("read", mover.read(7, false), 30);
        Check.same("write", mover.write(8, 18, 20), true);
        Check.same("goBack", mover.goBack(), 1);
        Check.same("read", mover.read(8, false), 6);
        Check.same("switchOver", mover.switchOver(), 2);
        Check.same("end", mover.end(), 0);
        Check.end();
    }
}
