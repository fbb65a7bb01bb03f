/** Something that answers the calls of the document's face by their names; a boolean counts 1 or 0. */
interface Calls {
    long call(String name, long[] args);
}
