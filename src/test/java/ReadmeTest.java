/** What README.md's example says that the calls answer. */
public final class ReadmeTest {
    public static void main(String[] args) {
        Check check = new Check();
        check.part("the example of README.md");
        DelayedExtents x = new DelayedExtents();
        x.write(0, 3, 7);
        check.due("read", x.read(0, 3), 7);
        check.due("reserved", x.reserved(), 1);
        check.due("flush", x.flush(0), 1);
        check.due("extent", x.extent(0, 0, 1), 0);
        check.due("preallocate", x.preallocate(0, 4, 10), 10);
        check.due("punch", x.punch(0, 6, 2), 2);
        check.due("owner of place 1", x.owner(1), 4);
        check.due("about, size", x.about(0, 0), 4);
        check.due("about, extents", x.about(0, 2), 3);
        check.due("free", x.free(), 71);
        check.end();
    }
}
